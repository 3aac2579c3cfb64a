/-! handlers: arithmetic, comparisons -/
theorem ee_rng (x : Int32) : -2147483648 ≤ x.toInt ∧ x.toInt ≤ 2147483647 := by
  have h1 := Int32.le_toInt x
  have h2 := Int32.toInt_lt x
  omega
theorem ee_bmod {z : Int} (h1 : -2147483648 ≤ z) (h2 : z ≤ 2147483647) : z.bmod (2 ^ 32) = z := by
  rw [Int.bmod_eq_of_le (by omega) (by omega)]
def ee_op (ins : ClassFile.Instr) (x y : Int32) : Int32 := match ins with
  | .iadd => x + y
  | .isub => x - y
  | .imul => x * y
  | .iand => x &&& y
  | .ior => x ||| y
  | .ixor => x ^^^ y
  | .ishl => x <<< (y &&& 31)
  | .ishr => x >>> (y &&& 31)
  | .iushr => (x.toUInt32 >>> (y.toUInt32 &&& Int32.toUInt32 31)).toInt32
  | .idiv => x / y
  | .irem => x - x / y * y
  | _ => 0
def ee_rg (a b : Int) : Int × Int := if -2147483648 ≤ a ∧ b ≤ 2147483647 then (a, b) else (-2147483648, 2147483647)
theorem ee_rg.ok {a b : Int} {z : Int32} {t : Int} (e : z.toInt = t.bmod (2 ^ 32)) (h1 : a ≤ t) (h2 : t ≤ b) : (ee_rg a b).1 ≤ z.toInt ∧ z.toInt ≤ (ee_rg a b).2 := by
  unfold ee_rg
  by_cases h : -2147483648 ≤ a ∧ b ≤ 2147483647
  · rw [if_pos h, e, ee_bmod (by omega) (by omega)]
    exact ⟨h1, h2⟩
  · rw [if_neg h]
    exact ee_rng z
/-- bounds of what comes -/
def ee_ap (ins : ClassFile.Instr) (a b d e : Int) : Int × Int := match ins with
  | .iadd => ee_rg (a + d) (b + e)
  | .isub => ee_rg (a - e) (b - d)
  | .iand => if 0 ≤ d then (0, e) else if 0 ≤ a then (0, b) else (-2147483648, 2147483647)
  | _ => (-2147483648, 2147483647)
theorem ee_toNat {y : Int32} (h : 0 ≤ y.toInt) : (y.toBitVec.toNat : Int) = y.toInt ∧ y.toBitVec.toNat < 2 ^ 31 := by
  have h1 : y.toInt = y.toBitVec.toInt := rfl
  have h2 := BitVec.toInt_eq_toNat_cond y.toBitVec
  have h3 := y.toBitVec.isLt
  rw [h1] at h ⊢
  rw [h2] at h ⊢
  split at h
  · rename_i q
    rw [if_pos q]
    exact ⟨rfl, by omega⟩
  · omega
theorem ee_and_le (x y : Int32) (h : 0 ≤ y.toInt) : 0 ≤ (x &&& y).toInt ∧ (x &&& y).toInt ≤ y.toInt := by
  obtain ⟨h1, h2⟩ := ee_toNat h
  have e : (x &&& y).toBitVec.toNat = x.toBitVec.toNat &&& y.toBitVec.toNat := by
    rw [show (x &&& y).toBitVec = x.toBitVec &&& y.toBitVec from rfl, BitVec.toNat_and]
  have hle : (x &&& y).toBitVec.toNat ≤ y.toBitVec.toNat := by rw [e]; exact Nat.and_le_right
  have q : (x &&& y).toInt = ((x &&& y).toBitVec.toNat : Int) := by
    show (x &&& y).toBitVec.toInt = _
    rw [BitVec.toInt_eq_toNat_cond, if_pos (by omega)]
  omega
theorem ee_and_comm (x y : Int32) : x &&& y = y &&& x := by
  apply Int32.toBitVec_inj.mp
  show x.toBitVec &&& y.toBitVec = y.toBitVec &&& x.toBitVec
  exact BitVec.and_comm _ _
theorem ee_ap.ok {ins : ClassFile.Instr} {a b d e : Int} {x y : Int32} (h1 : a ≤ x.toInt) (h2 : x.toInt ≤ b) (h3 : d ≤ y.toInt) (h4 : y.toInt ≤ e) : (ee_ap ins a b d e).1 ≤ (ee_op ins x y).toInt ∧ (ee_op ins x y).toInt ≤ (ee_ap ins a b d e).2 := by
  cases ins with
  | iadd => exact ee_rg.ok (Int32.toInt_add x y) (by omega) (by omega)
  | isub => exact ee_rg.ok (Int32.toInt_sub x y) (by omega) (by omega)
  | iand =>
    show (if 0 ≤ d then ((0 : Int), e) else if 0 ≤ a then (0, b) else (-2147483648, 2147483647)).1 ≤ (x &&& y).toInt ∧ (x &&& y).toInt ≤ (if 0 ≤ d then ((0 : Int), e) else if 0 ≤ a then (0, b) else (-2147483648, 2147483647)).2
    by_cases q : 0 ≤ d
    · rw [if_pos q]
      have := ee_and_le x y (by omega)
      exact ⟨this.1, by show (x &&& y).toInt ≤ e; omega⟩
    · rw [if_neg q]
      by_cases r : 0 ≤ a
      · rw [if_pos r]
        have := ee_and_le y x (by omega)
        rw [ee_and_comm y x] at this
        exact ⟨this.1, by show (x &&& y).toInt ≤ b; omega⟩
      · rw [if_neg r]
        exact ee_rng _
  | _ => exact ee_rng _
def ee_add (ins : ClassFile.Instr) : Bool := match ins with
  | .iadd => true
  | _ => false
/-- an operation on two ints -/
def ee_bin (ins : ClassFile.Instr) (iv : ee_iv) (x y : Value) : Option (Value × ee_iv) := match ee_cn iv x, ee_cn iv y with
  | some a, some b => some (.int (ee_op ins a b), iv)
  | _, _ => (match ee_it iv x, ee_it iv y with
    | some (a, b), some (d, e) => if ee_add ins = true ∧ d = 0 ∧ e = 0 then some (x, iv) else if ee_add ins = true ∧ a = 0 ∧ b = 0 then some (y, iv) else some (.retAddr iv.length, iv ++ [((ee_ap ins a b d e).1, (ee_ap ins a b d e).2, none)])
    | _, _ => none)
theorem ee_zero {z : Int32} (h1 : 0 ≤ z.toInt) (h2 : z.toInt ≤ 0) : z = 0 := Int32.toInt_inj.mp (by rw [Int32.toInt_zero]; omega)
theorem ee_bin.it {ins : ClassFile.Instr} {iv iv' : ee_iv} {x y r : Value} (h : ee_bin ins iv x y = some (r, iv')) : (∃ a, ee_cn iv x = some a) ∨ (∃ q, ee_it iv x = some q) := by
  unfold ee_bin at h
  split at h
  · rename_i a b h1 h2
    exact Or.inl ⟨a, h1⟩
  · split at h
    · rename_i a b d e h1 h2
      exact Or.inr ⟨_, h1⟩
    · cases h
theorem ee_bin.ok {ns : List Int32} {as : List Nat} {ex : Nat → Nat} {ins : ClassFile.Instr} {iv iv' : ee_iv} {x y r vx vy : Value} (hk : ee_ok ns iv) (hx : ee_v ns as ex x vx) (hy : ee_v ns as ex y vy) (h : ee_bin ins iv x y = some (r, iv')) :
    ∃ a b : Int32, vx = .int a ∧ vy = .int b ∧ ((iv' = iv ∧ ee_v ns as ex r (.int (ee_op ins a b))) ∨ ∃ lo hi : Int, r = .retAddr iv.length ∧ iv' = iv ++ [(lo, hi, none)] ∧ lo ≤ (ee_op ins a b).toInt ∧ (ee_op ins a b).toInt ≤ hi) := by
  unfold ee_bin at h
  split at h
  · rename_i a b h1 h2
    cases h
    exact ⟨a, b, ee_cn.int hk hx h1, ee_cn.int hk hy h2, Or.inl ⟨rfl, rfl⟩⟩
  · split at h
    · rename_i a b d e h1 h2
      obtain ⟨p, rfl, p1, p2⟩ := ee_it.int hk hx h1
      obtain ⟨q, rfl, q1, q2⟩ := ee_it.int hk hy h2
      refine ⟨p, q, rfl, rfl, ?_⟩
      split at h
      · rename_i hc
        cases h
        obtain ⟨h0, rfl, rfl⟩ := hc
        have hz := ee_zero q1 q2
        subst hz
        left
        refine ⟨rfl, ?_⟩
        cases ins with
        | iadd => rw [show ee_op .iadd p 0 = p from Int32.add_zero p]; exact hx
        | _ => cases h0
      · split at h
        · rename_i hc
          cases h
          obtain ⟨h0, rfl, rfl⟩ := hc
          have hz := ee_zero p1 p2
          subst hz
          left
          refine ⟨rfl, ?_⟩
          cases ins with
          | iadd => rw [show ee_op .iadd 0 q = q from Int32.zero_add q]; exact hy
          | _ => cases h0
        · cases h
          right
          have := ee_ap.ok (ins := ins) p1 p2 q1 q2
          exact ⟨_, _, rfl, rfl, this.1, this.2⟩
    · cases h
def ee_h6 : ee_H := fun nL _ _ e st => match st with
  | (pc, lo, stk, w, iv, kc, ks, sv) => (match e.2.1 with
      | .iinc i n => (match ee_ld iv lo i with
        | some x => (match ee_bin .iadd iv x (.int (Int32.ofInt n)) with
          | some (r, iv') => if i < nL then ee_nx e.2.2.1 3 [(pc + 3, ee_sl i r lo, stk, w, iv', kc, ks, sv)] else none
          | none => none)
        | none => none)
      | _ => none)
set_option maxHeartbeats 2000000 in
theorem ee_h6.snd : ee_Snd ee_h6 := by
  intro X Y oc own cc ini dm bc bs Q e st sts F ho hi hd he hpc h k
  obtain ⟨p, l, en, R, s, m, args, below, meth, c⟩ := X
  obtain ⟨A, D, dA, ex, x0, sv0, nL⟩ := Y
  obtain ⟨pc, lo, stk, w, iv, kc, ks, sv⟩ := st
  obtain ⟨pc', ins, len, hn, ea, eb, ez⟩ := e
  obtain ⟨hx, hb, hml, hown, hts, hK, hA, hini, hR, hE⟩ := F
  have hpc : pc = pc' := hpc
  subst hpc
  have hd : decode cc pc = .ok (ins, len) := hd
  intro ns as H lc ls vs C
  obtain ⟨c1, c2, c3, c4, c5, c6⟩ := C
  show W p l en R s m args below meth c H lc kc ks Q (F0 m pc ls vs)
  cases ins with
  | iinc i n =>
    replace h : (match ee_ld iv lo i with
        | some x => (match ee_bin .iadd iv x (.int (Int32.ofInt n)) with
          | some (r, iv') => if i < nL then ee_nx len 3 [(pc + 3, ee_sl i r lo, stk, w, iv', kc, ks, sv)] else none
          | none => none)
        | none => none) = some sts := h
    cases hq : ee_ld iv lo i with
    | none => rw [hq] at h; exact ee_no h
    | some x =>
      rw [hq] at h
      simp only at h
      cases hr : ee_bin .iadd iv x (.int (Int32.ofInt n)) with
      | none => rw [hr] at h; exact ee_no h
      | some r =>
        obtain ⟨r, iv'⟩ := r
        rw [hr] at h
        simp only at h
        by_cases hl : i < nL
        · rw [if_pos hl] at h
          obtain ⟨rfl, rfl⟩ := ee_nx_some h
          obtain ⟨lv, c3, c3l⟩ := c3
          obtain ⟨z, g0, g1, g2⟩ := ee_ld.ok c1 c3 c3l hq
          obtain ⟨j, hj⟩ := List.getElem?_of_mem g0
          obtain ⟨a, b, ea1, eb1, g3⟩ := ee_bin.ok c1 g2 (show ee_v ns as ex (.int (Int32.ofInt n)) (.int (Int32.ofInt n)) from rfl) hr
          cases ea1
          cases eb1
          rcases g3 with ⟨rfl, g3⟩ | ⟨lo1, hi1, rfl, rfl, g4, g5⟩
          · exact lv_iinc hx hb hd c3 hj rfl hl rfl (fun ls' hl' => k _ List.mem_cons_self ns as H lc ls' _ ⟨c1, c2, ⟨_, hl', ee_sl.ok c3l g3⟩, c4, c5, c6⟩)
          · refine lv_iinc hx hb hd c3 hj rfl hl rfl (fun ls' hl' => ?_)
            obtain ⟨d1, d2, d3, d4, d5, d6⟩ := ee_Con.grow (s := s) (A := A) (D := D) (dA := dA) (ex := ex) (x0 := x0) (sv0 := sv0) (nL := nL) (lo := lo) (ls := ls) ⟨c1, c2, ⟨lv, c3, c3l⟩, c4, c5, c6⟩ g4 g5 (o := none) (fun _ _ q => by cases q)
            refine k _ List.mem_cons_self _ as H lc ls' _ ⟨d1, d2, ⟨_, hl', ee_sl.ok (c3l.imp (fun a b q => ⟨q.1, by simpa using ee_v.mono [_] [] q.2⟩)) ⟨_, c1.last _, rfl⟩⟩, d4, d5, d6⟩
        · rw [if_neg hl] at h
          exact ee_no h
  | _ => exact ee_no h
/-- a symbol of few numbers, one by one -/
def ee_sp (iv : ee_iv) (x : Value) : List ee_iv := match x with
  | .retAddr k => (match iv[k]? with
    | some q => if q.1 < q.2.1 ∧ q.2.1 - q.1 < 8 then (List.range (q.2.1 - q.1 + 1).toNat).map (fun (j : Nat) => ee_put iv x (q.1 + j) (q.1 + j)) else []
    | none => [])
  | _ => []
theorem ee_sp.ok {ns : List Int32} {as : List Nat} {ex : Nat → Nat} {iv : ee_iv} {x v : Value} (hk : ee_ok ns iv) (hx : ee_v ns as ex x v) (h : ee_sp iv x ≠ []) : ∃ iv', iv' ∈ ee_sp iv x ∧ ee_ok ns iv' := by
  cases x with
  | retAddr k =>
    obtain ⟨z, h1, h2⟩ := hx
    cases hq : iv[k]? with
    | none => exact absurd (by simp only [ee_sp, hq]) h
    | some q =>
      obtain ⟨y, g1, g2, g3, -⟩ := hk.2 k q hq
      rw [h1] at g1
      cases g1
      have e : ee_sp iv (.retAddr k) = if q.1 < q.2.1 ∧ q.2.1 - q.1 < 8 then (List.range (q.2.1 - q.1 + 1).toNat).map (fun (j : Nat) => ee_put iv (.retAddr k) (q.1 + j) (q.1 + j)) else [] := by simp only [ee_sp, hq]
      by_cases hc : q.1 < q.2.1 ∧ q.2.1 - q.1 < 8
      · rw [if_pos hc] at e
        rw [e]
        refine ⟨_, List.mem_map.mpr ⟨(z.toInt - q.1).toNat, List.mem_range.mpr (by omega), rfl⟩, ?_⟩
        exact ee_put.ok (as := as) (ex := ex) hk (z := z) ⟨z, h1, rfl⟩ (by omega) (by omega)
      · rw [if_neg hc] at e
        exact absurd e h
  | _ => exact absurd rfl h
def ee_wide (ins : ClassFile.Instr) : Bool := match ins with
  | .isub => true
  | .imul => true
  | _ => false
def ee_two (ins : ClassFile.Instr) : Bool := match ins with
  | .iadd => true
  | .isub => true
  | .imul => true
  | .iand => true
  | .ior => true
  | .ixor => true
  | .ishl => true
  | .ishr => true
  | .iushr => true
  | _ => false
def ee_h7 : ee_H := fun _ _ _ e st => match st with
  | (pc, lo, y :: x :: stk, w, iv, kc, ks, sv) => if ee_wide e.2.1 = true ∧ ee_sp iv x ≠ [] then some ((ee_sp iv x).map (fun iv' => (pc, lo, y :: x :: stk, w, iv', kc, ks, sv))) else if ee_two e.2.1 = true then (match ee_bin e.2.1 iv x y with
      | some (r, iv') => ee_nx e.2.2.1 1 [(pc + 1, lo, r :: stk, w, iv', kc, ks, sv)]
      | none => none) else none
  | _ => none
set_option maxHeartbeats 2000000 in
theorem ee_h7.snd : ee_Snd ee_h7 := by
  intro X Y oc own cc ini dm bc bs Q e st sts F ho hi hd he hpc h k
  obtain ⟨p, l, en, R, s, m, args, below, meth, c⟩ := X
  obtain ⟨A, D, dA, ex, x0, sv0, nL⟩ := Y
  obtain ⟨pc, lo, stk, w, iv, kc, ks, sv⟩ := st
  obtain ⟨pc', ins, len, hn, ea, eb, ez⟩ := e
  obtain ⟨hx, hb, hml, hown, hts, hK, hA, hini, hR, hE⟩ := F
  have hpc : pc = pc' := hpc
  subst hpc
  have hd : decode cc pc = .ok (ins, len) := hd
  intro ns as H lc ls vs C
  obtain ⟨c1, c2, c3, c4, c5, c6⟩ := C
  show W p l en R s m args below meth c H lc kc ks Q (F0 m pc ls vs)
  match stk, vs, c4, h with
  | [], _, _, h => exact ee_no h
  | [_], _, _, h => exact ee_no h
  | y :: x :: stk, [], c4, h => exact c4.elim
  | y :: x :: stk, [_], c4, h => exact c4.2.elim
  | y :: x :: stk, vy :: vx :: vs, ⟨cy, cx, c4⟩, h =>
    replace h : (if ee_wide ins = true ∧ ee_sp iv x ≠ [] then some ((ee_sp iv x).map (fun iv' => (pc, lo, y :: x :: stk, w, iv', kc, ks, sv))) else if ee_two ins = true then (match ee_bin ins iv x y with
      | some (r, iv') => ee_nx len 1 [(pc + 1, lo, r :: stk, w, iv', kc, ks, sv)]
      | none => none) else none) = some sts := h
    by_cases hw : ee_wide ins = true ∧ ee_sp iv x ≠ []
    · rw [if_pos hw] at h
      cases h
      obtain ⟨iv', g1, g2⟩ := ee_sp.ok c1 cx hw.2
      exact k _ (List.mem_map.mpr ⟨iv', g1, rfl⟩) ns as H lc ls _ ⟨g2, c2, c3, ⟨cy, cx, c4⟩, c5, c6⟩
    · rw [if_neg hw] at h
      by_cases ht : ee_two ins = true
      · rw [if_pos ht] at h
        cases hr : ee_bin ins iv x y with
        | none => rw [hr] at h; exact ee_no h
        | some r =>
          obtain ⟨r, iv'⟩ := r
          rw [hr] at h
          obtain ⟨rfl, rfl⟩ := ee_nx_some h
          obtain ⟨a, b, rfl, rfl, g3⟩ := ee_bin.ok c1 cx cy hr
          have key : W p l en R s m args below meth c H lc kc ks Q (F0 m (pc + 1) ls (.int (ee_op ins a b) :: vs)) := by
            rcases g3 with ⟨rfl, g3⟩ | ⟨lo1, hi1, rfl, rfl, g4, g5⟩
            · exact k _ List.mem_cons_self ns as H lc ls _ ⟨c1, c2, c3, ⟨g3, c4⟩, c5, c6⟩
            · obtain ⟨d1, d2, d3, d4, d5, d6⟩ := ee_Con.grow (s := s) (A := A) (D := D) (dA := dA) (ex := ex) (x0 := x0) (sv0 := sv0) (nL := nL) (lo := lo) (ls := ls) ⟨c1, c2, c3, c4, c5, c6⟩ g4 g5 (o := none) (fun _ _ q => by cases q)
              exact k _ List.mem_cons_self _ as H lc ls _ ⟨d1, d2, d3, ⟨⟨_, c1.last _, rfl⟩, d4⟩, d5, d6⟩
          cases ins with
          | iadd => exact lv_iadd hx hb hd key
          | isub => exact lv_isub hx hb hd key
          | imul => exact lv_imul hx hb hd key
          | iand => exact lv_iand hx hb hd key
          | ior => exact lv_ior hx hb hd key
          | ixor => exact lv_ixor hx hb hd key
          | ishl => exact lv_ishl hx hb hd key
          | ishr => exact lv_ishr hx hb hd key
          | iushr => exact lv_iushr hx hb hd rfl key
          | _ => cases ht
      · rw [if_neg ht] at h
        exact ee_no h
def ee_h8 : ee_H := fun _ _ _ e st => match st with
  | (pc, lo, y :: x :: stk, w, iv, kc, ks, sv) => (match ee_it iv y with
    | some (d, u) => if 0 < d ∨ u < 0 then (match e.2.1 with
      | .idiv => (match ee_bin .idiv iv x y with
        | some (r, iv') => ee_nx e.2.2.1 1 [(pc + 1, lo, r :: stk, w, iv', kc, ks, sv)]
        | none => none)
      | .irem => (match ee_bin .irem iv x y with
        | some (r, iv') => ee_nx e.2.2.1 1 [(pc + 1, lo, r :: stk, w, iv', kc, ks, sv)]
        | none => none)
      | _ => none) else none
    | none => none)
  | _ => none
set_option maxHeartbeats 2000000 in
theorem ee_h8.snd : ee_Snd ee_h8 := by
  intro X Y oc own cc ini dm bc bs Q e st sts F ho hi hd he hpc h k
  obtain ⟨p, l, en, R, s, m, args, below, meth, c⟩ := X
  obtain ⟨A, D, dA, ex, x0, sv0, nL⟩ := Y
  obtain ⟨pc, lo, stk, w, iv, kc, ks, sv⟩ := st
  obtain ⟨pc', ins, len, hn, ea, eb, ez⟩ := e
  obtain ⟨hx, hb, hml, hown, hts, hK, hA, hini, hR, hE⟩ := F
  have hpc : pc = pc' := hpc
  subst hpc
  have hd : decode cc pc = .ok (ins, len) := hd
  intro ns as H lc ls vs C
  obtain ⟨c1, c2, c3, c4, c5, c6⟩ := C
  show W p l en R s m args below meth c H lc kc ks Q (F0 m pc ls vs)
  match stk, vs, c4, h with
  | [], _, _, h => exact ee_no h
  | [_], _, _, h => exact ee_no h
  | y :: x :: stk, [], c4, h => exact c4.elim
  | y :: x :: stk, [_], c4, h => exact c4.2.elim
  | y :: x :: stk, vy :: vx :: vs, ⟨cy, cx, c4⟩, h =>
    replace h : (match ee_it iv y with
      | some (d, u) => if 0 < d ∨ u < 0 then (match (generalizing := false) ins with
        | .idiv => (match ee_bin .idiv iv x y with
          | some (r, iv') => ee_nx len 1 [(pc + 1, lo, r :: stk, w, iv', kc, ks, sv)]
          | none => none)
        | .irem => (match ee_bin .irem iv x y with
          | some (r, iv') => ee_nx len 1 [(pc + 1, lo, r :: stk, w, iv', kc, ks, sv)]
          | none => none)
        | _ => none) else none
      | none => none) = some sts := h
    cases hq : ee_it iv y with
    | none => rw [hq] at h; exact ee_no h
    | some q =>
      obtain ⟨d, u⟩ := q
      rw [hq] at h
      simp only at h
      by_cases hc : 0 < d ∨ u < 0
      · rw [if_pos hc] at h
        obtain ⟨b0, rfl, b1, b2⟩ := ee_it.int c1 cy hq
        have hne : ¬ b0 = 0 := fun z => by
          rw [z, Int32.toInt_zero] at b1 b2
          omega
        have go : ∀ ins' : ClassFile.Instr, (match ee_bin ins' iv x y with
          | some (r, iv') => ee_nx len 1 [(pc + 1, lo, r :: stk, w, iv', kc, ks, sv)]
          | none => none) = some sts → len = 1 ∧ ∃ a : Int32, vx = .int a ∧ W p l en R s m args below meth c H lc kc ks Q (F0 m (pc + 1) ls (.int (ee_op ins' a b0) :: vs)) := by
          intro ins' h
          cases hr : ee_bin ins' iv x y with
          | none => rw [hr] at h; exact ee_no h
          | some r =>
            obtain ⟨r, iv'⟩ := r
            rw [hr] at h
            obtain ⟨rfl, rfl⟩ := ee_nx_some h
            obtain ⟨a, b, rfl, eb1, g3⟩ := ee_bin.ok c1 cx cy hr
            cases eb1
            refine ⟨rfl, a, rfl, ?_⟩
            rcases g3 with ⟨rfl, g3⟩ | ⟨lo1, hi1, rfl, rfl, g4, g5⟩
            · exact k _ List.mem_cons_self ns as H lc ls _ ⟨c1, c2, c3, ⟨g3, c4⟩, c5, c6⟩
            · obtain ⟨d1, d2, d3, d4, d5, d6⟩ := ee_Con.grow (s := s) (A := A) (D := D) (dA := dA) (ex := ex) (x0 := x0) (sv0 := sv0) (nL := nL) (lo := lo) (ls := ls) ⟨c1, c2, c3, c4, c5, c6⟩ g4 g5 (o := none) (fun _ _ q => by cases q)
              exact k _ List.mem_cons_self _ as H lc ls _ ⟨d1, d2, d3, ⟨⟨_, c1.last _, rfl⟩, d4⟩, d5, d6⟩
        cases ins with
        | idiv =>
          obtain ⟨rfl, a, rfl, key⟩ := go .idiv h
          exact lv_idiv hx hb hd hne key
        | irem =>
          obtain ⟨rfl, a, rfl, key⟩ := go .irem h
          exact lv_irem hx hb hd hne key
        | _ => exact ee_no h
      · rw [if_neg hc] at h
        exact ee_no h
