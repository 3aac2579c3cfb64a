/-! operations on two ints, with what is known of what comes -/
/-- a symbol as another one and a number -/
def ee_rt (iv : ee_iv) (j : Nat) : Nat × Int := match ee_at1 iv j with
  | some q => (match q.2.2.2 with
    | (0, j', d') :: _ => (j', d')
    | _ => (j, 0))
  | none => (j, 0)
theorem ee_rt.ok {ns : List Int32} {iv : ee_iv} {j : Nat} {z : Int32} (h : ee_ok ns iv) (hz : ns[j]? = some z) : ∃ y, ns[(ee_rt iv j).1]? = some y ∧ z.toInt = y.toInt + (ee_rt iv j).2 := by
  unfold ee_rt
  cases hq : ee_at1 iv j with
  | none => exact ⟨z, hz, by show z.toInt = z.toInt + 0; omega⟩
  | some q =>
    simp only
    split
    · rename_i j' d' l hl
      obtain ⟨y, g1, -, -, g4⟩ := ee_at1.ok h hq
      rw [hz] at g1
      cases g1
      exact g4 (0, j', d') (by rw [hl]; exact List.mem_cons_self)
    · exact ⟨z, hz, by show z.toInt = z.toInt + 0; omega⟩
/-- the rest that is known of a symbol -/
def ee_md (iv : ee_iv) (j : Nat) (d : Int) : List ee_fa := match ee_at1 iv j with
  | some q => (match q.2.2.2.find? (fun f => Nat.beq f.1 4) with
    | some f => [(4, f.2.1, (f.2.2 + d) % (f.2.1 : Int))]
    | none => [])
  | none => []
theorem ee_md.ok {ns : List Int32} {iv : ee_iv} {j : Nat} {z r : Int32} {d : Int} (h : ee_ok ns iv) (hz : ns[j]? = some z) (hr : r.toInt = z.toInt + d) : ∀ f ∈ ee_md iv j d, ee_fp ns r f := by
  intro f hf
  unfold ee_md at hf
  cases hq : ee_at1 iv j with
  | none => rw [hq] at hf; cases hf
  | some q =>
    rw [hq] at hf
    simp only at hf
    cases hg : q.2.2.2.find? (fun f => Nat.beq f.1 4) with
    | none => rw [hg] at hf; cases hf
    | some g =>
      rw [hg] at hf
      simp only [List.mem_cons, List.not_mem_nil, or_false] at hf
      subst hf
      obtain ⟨y, g1, -, -, g4⟩ := ee_at1.ok h hq
      rw [hz] at g1
      cases g1
      have e4 : Nat.beq g.1 4 = true := List.find?_some (p := fun f : ee_fa => Nat.beq f.1 4) hg
      have e4 := Nat.eq_of_beq_eq_true e4
      have g5 := g4 g (List.mem_of_find?_eq_some hg)
      obtain ⟨g, m, s⟩ := g
      have e4 : g = 4 := e4
      subst e4
      have g5 : z.toInt % (m : Int) = s := g5
      show r.toInt % (m : Int) = (s + d) % (m : Int)
      rw [hr, ← g5, Int.emod_add_emod]
def ee_fad (iv : ee_iv) (j : Nat) (d : Int) : List ee_fa := (0, (ee_rt iv j).1, (ee_rt iv j).2 + d) :: ee_md iv j d
theorem ee_fad.ok {ns : List Int32} {iv : ee_iv} {j : Nat} {z r : Int32} {d : Int} (h : ee_ok ns iv) (hz : ns[j]? = some z) (hr : r.toInt = z.toInt + d) : ∀ f ∈ ee_fad iv j d, ee_fp ns r f := by
  intro f hf
  rcases List.mem_cons.mp hf with rfl | hf
  · obtain ⟨y, g1, g2⟩ := ee_rt.ok h hz
    exact ⟨y, g1, by omega⟩
  · exact ee_md.ok h hz hr f hf
def ee_in (a b : Int) : Bool := decide (-2147483648 ≤ a) && decide (b ≤ 2147483647)
/-- what is known of what comes -/
def ee_fc (ins : ClassFile.Instr) (iv : ee_iv) (x y : Value) (a b d e : Int) : List ee_fa := match ins with
  | .iadd => if d = e then (match x with
      | .retAddr j => if ee_in (a + d) (b + d) = true then ee_fad iv j d else []
      | _ => []) else if a = b then (match y with
      | .retAddr j => if ee_in (d + a) (e + a) = true then ee_fad iv j a else []
      | _ => []) else (match x, y with
      | .retAddr j, .retAddr k => [(3, j, (k : Int))]
      | _, _ => [])
  | .isub => if d = e then (match x with
      | .retAddr j => if ee_in (a - d) (b - d) = true then ee_fad iv j (-d) else []
      | _ => []) else []
  | .imul => if (d = e ∧ 1 ≤ d) ∧ 0 ≤ a then (if ee_in (a * d) (b * d) = true then [(4, d.toNat, 0)] else []) else if (a = b ∧ 1 ≤ a) ∧ 0 ≤ d then (if ee_in (a * d) (a * e) = true then [(4, a.toNat, 0)] else []) else []
  | .irem => if 0 ≤ a ∧ 1 ≤ d then (match y with
      | .retAddr j => [(1, j, -1)]
      | _ => []) else []
  | _ => []
theorem ee_in.ok {a b : Int} (h : ee_in a b = true) : -2147483648 ≤ a ∧ b ≤ 2147483647 := by
  obtain ⟨h1, h2⟩ := ee_and h
  exact ⟨of_decide_eq_true h1, of_decide_eq_true h2⟩
theorem ee_v.sy {ns : List Int32} {as : List Nat} {ex : Nat → Nat} {j : Nat} {z : Int32} (h : ee_v ns as ex (.retAddr j) (.int z)) : ns[j]? = some z := by
  obtain ⟨y, h1, h2⟩ := h
  cases h2
  exact h1
theorem ee_fc.ok {ns : List Int32} {as : List Nat} {ex : Nat → Nat} {ins : ClassFile.Instr} {iv : ee_iv} {x y : Value} {p q : Int32} {a b d e : Int} (hk : ee_ok ns iv) (hx : ee_v ns as ex x (.int p)) (hy : ee_v ns as ex y (.int q)) (h1 : a ≤ p.toInt) (h2 : p.toInt ≤ b) (h3 : d ≤ q.toInt) (h4 : q.toInt ≤ e) : ∀ f ∈ ee_fc ins iv x y a b d e, ee_fp ns (ee_op ins p q) f := by
  intro f hf
  cases ins with
  | iadd =>
    simp only [ee_fc, ee_op] at hf ⊢
    by_cases e1 : d = e
    · rw [if_pos e1] at hf
      split at hf
      · by_cases e2 : ee_in (a + d) (b + d) = true
        · rw [if_pos e2] at hf
          have := ee_in.ok e2
          exact ee_fad.ok hk hx.sy (by rw [Int32.toInt_add, ee_bmod (by omega) (by omega)]; omega) f hf
        · rw [if_neg e2] at hf; cases hf
      · cases hf
    · rw [if_neg e1] at hf
      by_cases e3 : a = b
      · rw [if_pos e3] at hf
        split at hf
        · by_cases e2 : ee_in (d + a) (e + a) = true
          · rw [if_pos e2] at hf
            have := ee_in.ok e2
            exact ee_fad.ok hk hy.sy (by rw [Int32.toInt_add, ee_bmod (by omega) (by omega)]; omega) f hf
          · rw [if_neg e2] at hf; cases hf
        · cases hf
      · rw [if_neg e3] at hf
        split at hf
        · simp only [List.mem_cons, List.not_mem_nil, or_false] at hf
          subst hf
          exact ⟨p, q, hx.sy, by rw [Int.toNat_natCast]; exact hy.sy, rfl⟩
        · cases hf
  | isub =>
    simp only [ee_fc, ee_op] at hf ⊢
    by_cases e1 : d = e
    · rw [if_pos e1] at hf
      split at hf
      · by_cases e2 : ee_in (a - d) (b - d) = true
        · rw [if_pos e2] at hf
          have := ee_in.ok e2
          exact ee_fad.ok hk hx.sy (by rw [Int32.toInt_sub, ee_bmod (by omega) (by omega)]; omega) f hf
        · rw [if_neg e2] at hf; cases hf
      · cases hf
    · rw [if_neg e1] at hf; cases hf
  | imul =>
    simp only [ee_fc, ee_op] at hf ⊢
    by_cases e1 : (d = e ∧ 1 ≤ d) ∧ 0 ≤ a
    · rw [if_pos e1] at hf
      obtain ⟨⟨e1, e2⟩, e3⟩ := e1
      by_cases e4 : ee_in (a * d) (b * d) = true
      · rw [if_pos e4] at hf
        simp only [List.mem_cons, List.not_mem_nil, or_false] at hf
        subst hf
        have r := ee_in.ok e4
        have hq : q.toInt = d := by omega
        have mb := ee_mulb e3 (show 0 ≤ d by omega) h1 h2 (Int.le_refl d) (Int.le_refl d)
        show (p * q).toInt % ((d.toNat : Nat) : Int) = 0
        rw [Int32.toInt_mul, hq, ee_bmod (by omega) (by omega), show ((d.toNat : Nat) : Int) = d by omega, Int.mul_emod_left]
      · rw [if_neg e4] at hf; cases hf
    · rw [if_neg e1] at hf
      by_cases e1 : (a = b ∧ 1 ≤ a) ∧ 0 ≤ d
      · rw [if_pos e1] at hf
        obtain ⟨⟨e1, e2⟩, e3⟩ := e1
        by_cases e4 : ee_in (a * d) (a * e) = true
        · rw [if_pos e4] at hf
          simp only [List.mem_cons, List.not_mem_nil, or_false] at hf
          subst hf
          have r := ee_in.ok e4
          have hq : p.toInt = a := by omega
          have mb := ee_mulb (show 0 ≤ a by omega) e3 (Int.le_refl a) (Int.le_refl a) h3 h4
          show (p * q).toInt % ((a.toNat : Nat) : Int) = 0
          rw [Int32.toInt_mul, hq, ee_bmod (by omega) (by omega), show ((a.toNat : Nat) : Int) = a by omega, Int.mul_emod_right]
        · rw [if_neg e4] at hf; cases hf
      · rw [if_neg e1] at hf; cases hf
  | irem =>
    simp only [ee_fc, ee_op] at hf ⊢
    by_cases e1 : 0 ≤ a ∧ 1 ≤ d
    · rw [if_pos e1] at hf
      split at hf
      · simp only [List.mem_cons, List.not_mem_nil, or_false] at hf
        subst hf
        refine ⟨q, hy.sy, ?_⟩
        rw [ee_rem (by omega) (by omega)]
        have := Int.emod_lt_of_pos p.toInt (show 0 < q.toInt by omega)
        omega
      · cases hf
    · rw [if_neg e1] at hf; cases hf
  | _ => cases hf
/-- a symbol that is so already -/
def ee_old (iv : ee_iv) (fs : List ee_fa) : Option Nat := match fs with
  | f :: _ => if f.1 = 0 ∨ f.1 = 3 then (match iv.2.find? (fun q => match q.2.2.2 with
      | g :: _ => decide (g = f)
      | [] => false) with
    | some q => some q.1
    | none => none) else none
  | [] => none
theorem ee_fp.one {ns : List Int32} {z y : Int32} {f : ee_fa} (hf : f.1 = 0 ∨ f.1 = 3) (h1 : ee_fp ns z f) (h2 : ee_fp ns y f) : z = y := by
  obtain ⟨kd, j, d⟩ := f
  rcases hf with hf | hf
  · have hf : kd = 0 := hf
    subst hf
    obtain ⟨u, g1, g2⟩ := h1
    obtain ⟨v, g3, g4⟩ := h2
    rw [g1] at g3
    cases g3
    exact Int32.toInt_inj.mp (by omega)
  · have hf : kd = 3 := hf
    subst hf
    obtain ⟨u, u2, g1, g2, g3⟩ := h1
    obtain ⟨v, v2, g4, g5, g6⟩ := h2
    rw [g1] at g4
    rw [g2] at g5
    cases g4; cases g5
    rw [g3, g6]
theorem ee_old.ok {ns : List Int32} {as : List Nat} {ex : Nat → Nat} {iv : ee_iv} {fs : List ee_fa} {k : Nat} {z : Int32} (hk : ee_ok ns iv) (h : ee_old iv fs = some k) (hz : ∀ f ∈ fs, ee_fp ns z f) : ee_v ns as ex (.retAddr k) (.int z) := by
  unfold ee_old at h
  cases fs with
  | nil => cases h
  | cons f fs =>
    simp only at h
    by_cases hf : f.1 = 0 ∨ f.1 = 3
    · rw [if_pos hf] at h
      split at h
      · rename_i q hq
        cases h
        obtain ⟨y, g1, -, -, g4⟩ := hk.2 q (List.mem_of_find?_eq_some hq)
        have hp : (match q.2.2.2 with
          | g :: _ => decide (g = f)
          | [] => false) = true := List.find?_some (p := fun q : ee_ve => match q.2.2.2 with
            | g :: _ => decide (g = f)
            | [] => false) hq
        split at hp
        · rename_i g l hl
          have e := of_decide_eq_true hp
          subst e
          have := ee_fp.one hf (g4 g (by rw [hl]; exact List.mem_cons_self)) (hz g List.mem_cons_self)
          exact ⟨y, g1, by rw [this]⟩
        · cases hp
      · cases h
    · rw [if_neg hf] at h; cases h
/-- an operation on two ints -/
def ee_bin (ins : ClassFile.Instr) (iv : ee_iv) (x y : Value) : Option (Value × ee_iv) := match ee_cn iv x, ee_cn iv y with
  | some a, some b => some (.int (ee_op ins a b), iv)
  | _, _ => (match ee_it iv x, ee_it iv y with
    | some (a, b), some (d, e) => if ee_add ins = true ∧ d = 0 ∧ e = 0 then some (x, iv) else if ee_add ins = true ∧ a = 0 ∧ b = 0 then some (y, iv) else (match ee_old iv (ee_fc ins iv x y a b d e) with
      | some k => some (.retAddr k, iv)
      | none => some (.retAddr iv.1, ee_ps iv (ee_ap ins a b d e).1 (ee_ap ins a b d e).2 (ee_fc ins iv x y a b d e)))
    | _, _ => none)
theorem ee_bin.ok {ns : List Int32} {as : List Nat} {ex : Nat → Nat} {ins : ClassFile.Instr} {iv iv' : ee_iv} {x y r vx vy : Value} (hk : ee_ok ns iv) (hx : ee_v ns as ex x vx) (hy : ee_v ns as ex y vy) (h : ee_bin ins iv x y = some (r, iv')) :
    ∃ a b : Int32, vx = .int a ∧ vy = .int b ∧ ((iv' = iv ∧ ee_v ns as ex r (.int (ee_op ins a b))) ∨ ∃ (lo hi : Int) (fs : List ee_fa), r = .retAddr iv.1 ∧ iv' = ee_ps iv lo hi fs ∧ lo ≤ (ee_op ins a b).toInt ∧ (ee_op ins a b).toInt ≤ hi ∧ ∀ f ∈ fs, ee_fp ns (ee_op ins a b) f) := by
  unfold ee_bin at h
  split at h
  · rename_i a b h1 h2
    cases h
    exact ⟨a, b, ee_cn.int hk hx h1, ee_cn.int hk hy h2, Or.inl ⟨rfl, rfl⟩⟩
  · split at h
    · rename_i a b d e h1 h2
      obtain ⟨p, rfl, p1, p2⟩ := ee_it.int hk hx h1
      obtain ⟨q, rfl, q1, q2⟩ := ee_it.int hk hy h2
      refine ⟨p, q, rfl, rfl, ?_⟩
      split at h
      · rename_i hc
        cases h
        obtain ⟨h0, rfl, rfl⟩ := hc
        have hz := ee_zero q1 q2
        subst hz
        left
        refine ⟨rfl, ?_⟩
        cases ins with
        | iadd => rw [show ee_op .iadd p 0 = p from Int32.add_zero p]; exact hx
        | _ => cases h0
      · split at h
        · rename_i hc
          cases h
          obtain ⟨h0, rfl, rfl⟩ := hc
          have hz := ee_zero p1 p2
          subst hz
          left
          refine ⟨rfl, ?_⟩
          cases ins with
          | iadd => rw [show ee_op .iadd 0 q = q from Int32.zero_add q]; exact hy
          | _ => cases h0
        · have hfc := ee_fc.ok (ins := ins) hk hx hy p1 p2 q1 q2
          split at h
          · rename_i k ho
            cases h
            exact Or.inl ⟨rfl, ee_old.ok hk ho hfc⟩
          · cases h
            have := ee_ap.ok (ins := ins) p1 p2 q1 q2
            exact Or.inr ⟨_, _, _, rfl, rfl, this.1, this.2, hfc⟩
    · cases h
def ee_h6 : ee_H := fun nL _ _ e st => match st with
  | (pc, lo, stk, w, iv, kc, ks, sv) => (match e.2.1 with
      | .iinc i n => (match ee_ld iv lo i with
        | some x => (match ee_bin .iadd iv x (.int (Int32.ofInt n)) with
          | some (r, iv') => if i < nL then ee_nx e.2.2.1 3 [(pc + 3, ee_sl i r lo, stk, w, iv', kc, ks, sv)] else none
          | none => none)
        | none => none)
      | _ => none)
set_option maxHeartbeats 2000000 in
theorem ee_h6.snd : ee_Snd ee_h6 := by
  intro X Y oc own cc ini dm bc bs Q e st sts F ho hi hd he hpc h k
  obtain ⟨p, l, en, R, s, m, args, below, meth, c⟩ := X
  obtain ⟨A, D, dA, ex, x0, a0, sv0, nL⟩ := Y
  obtain ⟨pc, lo, stk, w, iv, kc, ks, sv⟩ := st
  obtain ⟨pc', ins, len, hn, ea, eb, ez, qa, qb, qc⟩ := e
  obtain ⟨hx, hb, hml, hown, hts, hK, hA, hini, hR, hE⟩ := F
  have hpc : pc = pc' := hpc
  subst hpc
  have hd : decode cc pc = .ok (ins, len) := hd
  intro ns as H lc ls vs C
  obtain ⟨c1, c2, c3, c4, c5, c6⟩ := C
  show W p l en R s m args below meth c H lc kc ks Q (F0 m pc ls vs)
  cases ins with
  | iinc i n =>
    replace h : (match ee_ld iv lo i with
        | some x => (match ee_bin .iadd iv x (.int (Int32.ofInt n)) with
          | some (r, iv') => if i < nL then ee_nx len 3 [(pc + 3, ee_sl i r lo, stk, w, iv', kc, ks, sv)] else none
          | none => none)
        | none => none) = some sts := h
    cases hq : ee_ld iv lo i with
    | none => rw [hq] at h; exact ee_no h
    | some x =>
      rw [hq] at h
      simp only at h
      cases hr : ee_bin .iadd iv x (.int (Int32.ofInt n)) with
      | none => rw [hr] at h; exact ee_no h
      | some r =>
        obtain ⟨r, iv'⟩ := r
        rw [hr] at h
        simp only at h
        by_cases hl : i < nL
        · rw [if_pos hl] at h
          obtain ⟨rfl, rfl⟩ := ee_nx_some h
          obtain ⟨lv, c3, c3l⟩ := c3
          obtain ⟨z, g0, g1, g2⟩ := ee_ld.ok c1 c3 c3l hq
          obtain ⟨j, hj⟩ := List.getElem?_of_mem g0
          obtain ⟨a, b, ea1, eb1, g3⟩ := ee_bin.ok c1 g2 (show ee_v ns as ex (.int (Int32.ofInt n)) (.int (Int32.ofInt n)) from rfl) hr
          cases ea1
          cases eb1
          rcases g3 with ⟨rfl, g3⟩ | ⟨lo1, hi1, fs1, rfl, rfl, g4, g5, g6⟩
          · exact lv_iinc hx hb hd c3 hj rfl hl rfl (fun ls' hl' => k _ List.mem_cons_self ns as H lc ls' _ ⟨c1, c2, ⟨_, hl', ee_sl.ok c3l g3⟩, c4, c5, c6⟩)
          · refine lv_iinc hx hb hd c3 hj rfl hl rfl (fun ls' hl' => ?_)
            obtain ⟨d1, d2, d3, d4, d5, d6⟩ := ee_Con.grow (s := s) (A := A) (D := D) (dA := dA) (ex := ex) (x0 := x0) (a0 := a0) (sv0 := sv0) (nL := nL) (lo := lo) (ls := ls) ⟨c1, c2, ⟨lv, c3, c3l⟩, c4, c5, c6⟩ g4 g5 (fs := fs1) g6
            refine k _ List.mem_cons_self _ as H lc ls' _ ⟨d1, d2, ⟨_, hl', ee_sl.ok (c3l.imp (fun a b q => ⟨q.1, by simpa using ee_v.mono [_] [] q.2⟩)) ⟨_, c1.last _, rfl⟩⟩, d4, d5, d6⟩
        · rw [if_neg hl] at h
          exact ee_no h
  | _ => exact ee_no h
/-- a symbol of few numbers, one by one -/
def ee_sp (iv : ee_iv) (x : Value) : List ee_iv := match ee_it iv x with
  | some q => if q.1 < q.2 ∧ q.2 - q.1 < 1100 then (List.range (q.2 - q.1 + 1).toNat).map (fun (j : Nat) => ee_put iv x (q.1 + j) (q.1 + j)) else []
  | none => []
theorem ee_sp.ok {ns : List Int32} {as : List Nat} {ex : Nat → Nat} {iv : ee_iv} {x v : Value} (hk : ee_ok ns iv) (hx : ee_v ns as ex x v) (h : ee_sp iv x ≠ []) : ∃ iv', iv' ∈ ee_sp iv x ∧ ee_ok ns iv' := by
  unfold ee_sp at h ⊢
  cases hq : ee_it iv x with
  | none => rw [hq] at h; exact absurd rfl h
  | some q =>
    rw [hq] at h
    simp only at h ⊢
    obtain ⟨z, rfl, z1, z2⟩ := ee_it.int hk hx hq
    by_cases hc : q.1 < q.2 ∧ q.2 - q.1 < 1100
    · rw [if_pos hc]
      refine ⟨_, List.mem_map.mpr ⟨(z.toInt - q.1).toNat, List.mem_range.mpr (by omega), rfl⟩, ?_⟩
      exact ee_put.ok hk hx (by omega) (by omega)
    · rw [if_neg hc] at h
      exact absurd rfl h
def ee_two (ins : ClassFile.Instr) : Bool := match ins with
  | .iadd => true
  | .isub => true
  | .imul => true
  | .iand => true
  | .ior => true
  | .ixor => true
  | .ishl => true
  | .ishr => true
  | .iushr => true
  | _ => false
def ee_h7 : ee_H := fun _ _ _ e st => match st with
  | (pc, lo, y :: x :: stk, w, iv, kc, ks, sv) => if ee_two e.2.1 = true then (match ee_bin e.2.1 iv x y with
      | some (r, iv') => ee_nx e.2.2.1 1 [(pc + 1, lo, r :: stk, w, iv', kc, ks, sv)]
      | none => none) else none
  | _ => none
set_option maxHeartbeats 2000000 in
theorem ee_h7.snd : ee_Snd ee_h7 := by
  intro X Y oc own cc ini dm bc bs Q e st sts F ho hi hd he hpc h k
  obtain ⟨p, l, en, R, s, m, args, below, meth, c⟩ := X
  obtain ⟨A, D, dA, ex, x0, a0, sv0, nL⟩ := Y
  obtain ⟨pc, lo, stk, w, iv, kc, ks, sv⟩ := st
  obtain ⟨pc', ins, len, hn, ea, eb, ez, qa, qb, qc⟩ := e
  obtain ⟨hx, hb, hml, hown, hts, hK, hA, hini, hR, hE⟩ := F
  have hpc : pc = pc' := hpc
  subst hpc
  have hd : decode cc pc = .ok (ins, len) := hd
  intro ns as H lc ls vs C
  obtain ⟨c1, c2, c3, c4, c5, c6⟩ := C
  show W p l en R s m args below meth c H lc kc ks Q (F0 m pc ls vs)
  match stk, vs, c4, h with
  | [], _, _, h => exact ee_no h
  | [_], _, _, h => exact ee_no h
  | y :: x :: stk, [], c4, h => exact c4.elim
  | y :: x :: stk, [_], c4, h => exact c4.2.elim
  | y :: x :: stk, vy :: vx :: vs, ⟨cy, cx, c4⟩, h =>
    replace h : (if ee_two ins = true then (match ee_bin ins iv x y with
      | some (r, iv') => ee_nx len 1 [(pc + 1, lo, r :: stk, w, iv', kc, ks, sv)]
      | none => none) else none) = some sts := h
    by_cases ht : ee_two ins = true
    · rw [if_pos ht] at h
      cases hr : ee_bin ins iv x y with
      | none => rw [hr] at h; exact ee_no h
      | some r =>
        obtain ⟨r, iv'⟩ := r
        rw [hr] at h
        obtain ⟨rfl, rfl⟩ := ee_nx_some h
        obtain ⟨a, b, rfl, rfl, g3⟩ := ee_bin.ok c1 cx cy hr
        have key : W p l en R s m args below meth c H lc kc ks Q (F0 m (pc + 1) ls (.int (ee_op ins a b) :: vs)) := by
          rcases g3 with ⟨rfl, g3⟩ | ⟨lo1, hi1, fs1, rfl, rfl, g4, g5, g6⟩
          · exact k _ List.mem_cons_self ns as H lc ls _ ⟨c1, c2, c3, ⟨g3, c4⟩, c5, c6⟩
          · obtain ⟨d1, d2, d3, d4, d5, d6⟩ := ee_Con.grow (s := s) (A := A) (D := D) (dA := dA) (ex := ex) (x0 := x0) (a0 := a0) (sv0 := sv0) (nL := nL) (lo := lo) (ls := ls) ⟨c1, c2, c3, c4, c5, c6⟩ g4 g5 (fs := fs1) g6
            exact k _ List.mem_cons_self _ as H lc ls _ ⟨d1, d2, d3, ⟨⟨_, c1.last _, rfl⟩, d4⟩, d5, d6⟩
        cases ins with
        | iadd => exact lv_iadd hx hb hd key
        | isub => exact lv_isub hx hb hd key
        | imul => exact lv_imul hx hb hd key
        | iand => exact lv_iand hx hb hd key
        | ior => exact lv_ior hx hb hd key
        | ixor => exact lv_ixor hx hb hd key
        | ishl => exact lv_ishl hx hb hd key
        | ishr => exact lv_ishr hx hb hd key
        | iushr => exact lv_iushr hx hb hd rfl key
        | _ => cases ht
    · rw [if_neg ht] at h
      exact ee_no h
def ee_h8 : ee_H := fun _ _ _ e st => match st with
  | (pc, lo, y :: x :: stk, w, iv, kc, ks, sv) => (match ee_it iv y with
    | some (d, u) => if 0 < d ∨ u < 0 then (match e.2.1 with
      | .idiv => (match ee_bin .idiv iv x y with
        | some (r, iv') => ee_nx e.2.2.1 1 [(pc + 1, lo, r :: stk, w, iv', kc, ks, sv)]
        | none => none)
      | .irem => (match ee_bin .irem iv x y with
        | some (r, iv') => ee_nx e.2.2.1 1 [(pc + 1, lo, r :: stk, w, iv', kc, ks, sv)]
        | none => none)
      | _ => none) else none
    | none => none)
  | _ => none
set_option maxHeartbeats 2000000 in
theorem ee_h8.snd : ee_Snd ee_h8 := by
  intro X Y oc own cc ini dm bc bs Q e st sts F ho hi hd he hpc h k
  obtain ⟨p, l, en, R, s, m, args, below, meth, c⟩ := X
  obtain ⟨A, D, dA, ex, x0, a0, sv0, nL⟩ := Y
  obtain ⟨pc, lo, stk, w, iv, kc, ks, sv⟩ := st
  obtain ⟨pc', ins, len, hn, ea, eb, ez, qa, qb, qc⟩ := e
  obtain ⟨hx, hb, hml, hown, hts, hK, hA, hini, hR, hE⟩ := F
  have hpc : pc = pc' := hpc
  subst hpc
  have hd : decode cc pc = .ok (ins, len) := hd
  intro ns as H lc ls vs C
  obtain ⟨c1, c2, c3, c4, c5, c6⟩ := C
  show W p l en R s m args below meth c H lc kc ks Q (F0 m pc ls vs)
  match stk, vs, c4, h with
  | [], _, _, h => exact ee_no h
  | [_], _, _, h => exact ee_no h
  | y :: x :: stk, [], c4, h => exact c4.elim
  | y :: x :: stk, [_], c4, h => exact c4.2.elim
  | y :: x :: stk, vy :: vx :: vs, ⟨cy, cx, c4⟩, h =>
    replace h : (match ee_it iv y with
      | some (d, u) => if 0 < d ∨ u < 0 then (match (generalizing := false) ins with
        | .idiv => (match ee_bin .idiv iv x y with
          | some (r, iv') => ee_nx len 1 [(pc + 1, lo, r :: stk, w, iv', kc, ks, sv)]
          | none => none)
        | .irem => (match ee_bin .irem iv x y with
          | some (r, iv') => ee_nx len 1 [(pc + 1, lo, r :: stk, w, iv', kc, ks, sv)]
          | none => none)
        | _ => none) else none
      | none => none) = some sts := h
    cases hq : ee_it iv y with
    | none => rw [hq] at h; exact ee_no h
    | some q =>
      obtain ⟨d, u⟩ := q
      rw [hq] at h
      simp only at h
      by_cases hc : 0 < d ∨ u < 0
      · rw [if_pos hc] at h
        obtain ⟨b0, rfl, b1, b2⟩ := ee_it.int c1 cy hq
        have hne : ¬ b0 = 0 := fun z => by
          rw [z, Int32.toInt_zero] at b1 b2
          omega
        have go : ∀ ins' : ClassFile.Instr, (match ee_bin ins' iv x y with
          | some (r, iv') => ee_nx len 1 [(pc + 1, lo, r :: stk, w, iv', kc, ks, sv)]
          | none => none) = some sts → len = 1 ∧ ∃ a : Int32, vx = .int a ∧ W p l en R s m args below meth c H lc kc ks Q (F0 m (pc + 1) ls (.int (ee_op ins' a b0) :: vs)) := by
          intro ins' h
          cases hr : ee_bin ins' iv x y with
          | none => rw [hr] at h; exact ee_no h
          | some r =>
            obtain ⟨r, iv'⟩ := r
            rw [hr] at h
            obtain ⟨rfl, rfl⟩ := ee_nx_some h
            obtain ⟨a, b, rfl, eb1, g3⟩ := ee_bin.ok c1 cx cy hr
            cases eb1
            refine ⟨rfl, a, rfl, ?_⟩
            rcases g3 with ⟨rfl, g3⟩ | ⟨lo1, hi1, fs1, rfl, rfl, g4, g5, g6⟩
            · exact k _ List.mem_cons_self ns as H lc ls _ ⟨c1, c2, c3, ⟨g3, c4⟩, c5, c6⟩
            · obtain ⟨d1, d2, d3, d4, d5, d6⟩ := ee_Con.grow (s := s) (A := A) (D := D) (dA := dA) (ex := ex) (x0 := x0) (a0 := a0) (sv0 := sv0) (nL := nL) (lo := lo) (ls := ls) ⟨c1, c2, c3, c4, c5, c6⟩ g4 g5 (fs := fs1) g6
              exact k _ List.mem_cons_self _ as H lc ls _ ⟨d1, d2, d3, ⟨⟨_, c1.last _, rfl⟩, d4⟩, d5, d6⟩
        cases ins with
        | idiv =>
          obtain ⟨rfl, a, rfl, key⟩ := go .idiv h
          exact lv_idiv hx hb hd hne key
        | irem =>
          obtain ⟨rfl, a, rfl, key⟩ := go .irem h
          exact lv_irem hx hb hd hne key
        | _ => exact ee_no h
      · rw [if_neg hc] at h
        exact ee_no h
