/-! loops: places with patterns, and a measure that falls -/
/-- place, locals, stack, cells, symbols, measure (a number, numbers of symbols with factors) -/
abbrev ee_cu : Type := Nat × List (Nat × Value) × List Value × ee_w × ee_iv × Int × List (Int × Nat)
/-- the pattern's locals, each of them found -/
def ee_mlo (np : Nat) (iv : ee_iv) (lo : List (Nat × Value)) : List (Nat × Value) → ee_mq → Option ee_mq
  | [], m => some m
  | (i, x) :: l, m => (match lo.lookup i with
    | some v => (match ee_m1 np iv x v m with
      | some m2 => ee_mlo np iv lo l m2
      | none => none)
    | none => none)
theorem ee_mlo.ok {np : Nat} {ns : List Int32} {as : List Nat} {ex : Nat → Nat} {iv : ee_iv} {lo lv : List (Nat × Value)} {ls : Array Slot} {nL : Nat} (hk : ee_ok ns iv) (hn : np ≤ ns.length) (hl : lv_has ls nL lv) (ha : ee_all (ee_lr ns as ex) lo lv) : ∀ {l : List (Nat × Value)} {m m2 : ee_mq}, ee_mlo np iv lo l m = some m2 → ee_ml m m2 ∧ ∃ lv', lv_has ls nL lv' ∧ ee_all (ee_lr (ee_nT np ns m2.1) (ee_aT as m2.2) ex) l lv'
  | [], m, m2, h => by
    cases h
    exact ⟨ee_ml.rf _, [], ⟨hl.1, hl.2.1, fun q hq => by cases hq⟩, trivial⟩
  | (i, x) :: l, m, m2, h => by
    unfold ee_mlo at h
    cases h0 : lo.lookup i with
    | none => rw [h0] at h; cases h
    | some v =>
      rw [h0] at h
      simp only at h
      cases h1 : ee_m1 np iv x v m with
      | none => rw [h1] at h; cases h
      | some m1 =>
        rw [h1] at h
        obtain ⟨g1, g2⟩ := ee_m1.ok (as := as) (ex := ex) hk hn h1
        obtain ⟨g3, lv', g4, g5⟩ := ee_mlo.ok hk hn hl ha h
        obtain ⟨u, u1, u2⟩ := ee_look ha h0
        refine ⟨g1.tr g3, (i, u) :: lv', ⟨hl.1, hl.2.1, fun q hq => ?_⟩, ⟨⟨rfl, g3.v (g2 u u2)⟩, g5⟩⟩
        rcases List.mem_cons.mp hq with rfl | hq
        · exact hl.2.2 _ u1
        · exact g4.2.2 q hq
/-- a state matched with a pattern whose cells are its own -/
def ee_mat (np n : Nat) (tlo : List (Nat × Value)) (tstk : List Value) (tw : ee_w) (tiv : ee_iv) (q : ee_st) : Option (List Value) := match ee_mlo np q.2.2.2.2.1 q.2.1 tlo ([], List.range n) with
  | none => none
  | some m0 => (match ee_ms np q.2.2.2.2.1 tstk q.2.2.1 m0 with
    | none => none
    | some m1 => (match ee_mw np q.2.2.2.2.1 q.2.2.2.1 tw 0 m1 with
      | none => none
      | some m2 => if (decide (m2.2.length = n) && (decide (n = tw.length) && (decide (n = q.2.2.2.1.length) && ee_pk np m2.1 q.2.2.2.2.1 tiv))) = true then some m2.1 else none))
theorem ee_range_aT {as : List Nat} {n : Nat} (h : as.length = n) : ee_aT as (List.range n) = as := by
  unfold ee_aT
  apply List.ext_getElem?
  intro i
  rw [List.getElem?_map]
  by_cases hi : i < n
  · rw [List.getElem?_range hi, List.getElem?_eq_getElem (by omega)]
    show some (as.getD i 0) = _
    rw [List.getD_eq_getElem?_getD, List.getElem?_eq_getElem (by omega)]
    rfl
  · rw [List.getElem?_eq_none (by rw [List.length_range]; omega), List.getElem?_eq_none (by omega)]
    rfl
theorem ee_range_wT {ws : va_W} {n : Nat} (h : ws.length = n) : ee_wT ws (List.range n) = ws := by
  unfold ee_wT
  apply List.ext_getElem?
  intro i
  rw [List.getElem?_map]
  by_cases hi : i < n
  · rw [List.getElem?_range hi, List.getElem?_eq_getElem (by omega)]
    show some (ws.getD i ee_wd0) = _
    rw [List.getD_eq_getElem?_getD, List.getElem?_eq_getElem (by omega)]
    rfl
  · rw [List.getElem?_eq_none (by rw [List.length_range]; omega), List.getElem?_eq_none (by omega)]
    rfl
theorem ee_mat.ok {s : State} {A : Nat → Prop} {D : va_G} {dA : Nat → ClassId} {ex : Nat → Nat} {x0 : List Int32} {a0 : List Nat} {sv0 : List Value} {nL np n : Nat} {q : ee_st} {ns : List Int32} {as : List Nat} {H : Heap} {lc : List Loc} {ls : Array Slot} {vs : List Value} {tlo : List (Nat × Value)} {tstk : List Value} {tw : ee_w} {tiv : ee_iv} {σ : List Value} (C : ee_Con s A D dA ex x0 a0 sv0 nL q.2.1 q.2.2.1 q.2.2.2.1 q.2.2.2.2.1 q.2.2.2.2.2.2.2 ns as H lc ls vs) (hn : np ≤ ns.length) (h : ee_mat np n tlo tstk tw tiv q = some σ) :
    as.length = n ∧ n = tw.length ∧ ee_ok (ee_nT np ns σ) tiv ∧ (∃ lv, lv_has ls nL lv ∧ ee_all (ee_lr (ee_nT np ns σ) as ex) tlo lv) ∧ ee_all (ee_v (ee_nT np ns σ) as ex) tstk vs ∧ ee_Wd s A D dA ex (ee_nT np ns σ) as tw H lc := by
  obtain ⟨c1, c2, ⟨lv, c3, c3l⟩, c4, c5, ws, c6w, hP, hD, hS⟩ := C
  unfold ee_mat at h
  cases h0 : ee_mlo np q.2.2.2.2.1 q.2.1 tlo ([], List.range n) with
  | none => rw [h0] at h; cases h
  | some m0 =>
    rw [h0] at h
    simp only at h
    cases h1 : ee_ms np q.2.2.2.2.1 tstk q.2.2.1 m0 with
    | none => rw [h1] at h; cases h
    | some m1 =>
      rw [h1] at h
      simp only at h
      cases h2 : ee_mw np q.2.2.2.2.1 q.2.2.2.1 tw 0 m1 with
      | none => rw [h2] at h; cases h
      | some m2 =>
        rw [h2] at h
        simp only at h
        by_cases hc : (decide (m2.2.length = n) && (decide (n = tw.length) && (decide (n = q.2.2.2.1.length) && ee_pk np m2.1 q.2.2.2.2.1 tiv))) = true
        · rw [if_pos hc] at h
          cases h
          obtain ⟨z1, z2⟩ := ee_and hc
          obtain ⟨z2, z3⟩ := ee_and z2
          obtain ⟨z3, z4⟩ := ee_and z3
          have z1 := of_decide_eq_true z1
          have z2 := of_decide_eq_true z2
          have z3 := of_decide_eq_true z3
          have hal : as.length = n := by rw [c6w.len]; exact z3.symm
          have hwl : ws.length = n := by rw [← hal, c6w.1, List.length_map]
          obtain ⟨g1, lv', g2, g3⟩ := ee_mlo.ok (as := as) (ex := ex) c1 hn c3 c3l h0
          obtain ⟨g4, g5⟩ := ee_ms.ok (as := as) (ex := ex) c1 hn h1
          obtain ⟨g6, -, -⟩ := ee_mw.ok (as := as) (ex := ex) c1 hn c6w h2
          have hm2 : m2.2 = List.range n := by
            obtain ⟨s1, r1, e1⟩ := (g1.tr g4).tr g6
            have e2 : m2.2 = List.range n ++ r1 := by rw [e1]
            rw [e2, List.length_append, List.length_range] at z1
            have : r1 = [] := List.length_eq_zero_iff.mp (by omega)
            rw [e2, this, List.append_nil]
          obtain ⟨g7, -⟩ := ee_mw.all c1 hn c6w h2 (ee_ml.rf m2) (by rw [z1]; exact z2)
          have ea : ee_aT as m2.2 = as := by rw [hm2]; exact ee_range_aT hal
          have ew : ee_wT ws m2.2 = ws := by rw [hm2]; exact ee_range_wT hwl
          rw [ea, ew] at g7
          refine ⟨hal, z2, ee_pk.ok c1 hn z4, ⟨lv', g2, g3.imp (fun x y z => ⟨z.1, ?_⟩)⟩, (g5 vs c4).imp (fun x y z => ?_), ws, g7, hP, hD, hS⟩
          · have := g6.v z
            rwa [ea] at this
          · have := (g4.tr g6).v z.2
            rwa [ea] at this
        · rw [if_neg hc] at h; cases h
/-! measures -/
def ee_ev (ns : List Int32) : List (Int × Value) → Int
  | [] => 0
  | (c, v) :: l => c * (ee_vl ns v).toInt + ee_ev ns l
/-- a value by another one, from below if it is counted c times -/
def ee_red (iv : ee_iv) (mo : Bool) (c : Int) : Nat → Value → Value × Int
  | 0, v => (v, 0)
  | f + 1, v => (match v with
    | .retAddr k => (match ee_at1 iv k with
      | some q => (match q.2.2.2.find? (fun g => Nat.beq g.1 0 || (mo && ((Nat.beq g.1 1 && decide (c < 0)) || (Nat.beq g.1 2 && decide (0 < c))))) with
        | some g => ((ee_red iv mo c f (.retAddr g.2.1)).1, (ee_red iv mo c f (.retAddr g.2.1)).2 + c * g.2.2)
        | none => (v, 0))
      | none => (v, 0))
    | _ => (v, 0))
theorem ee_red.ok {ns : List Int32} {as : List Nat} {ex : Nat → Nat} {iv : ee_iv} {mo : Bool} {c : Int} (hk : ee_ok ns iv) : ∀ (f : Nat) {v : Value} {z : Int32}, ee_v ns as ex v (.int z) → ∃ y : Int32, ee_v ns as ex (ee_red iv mo c f v).1 (.int y) ∧ c * y.toInt + (ee_red iv mo c f v).2 ≤ c * z.toInt
  | 0, v, z, hv => ⟨z, hv, by show c * z.toInt + 0 ≤ c * z.toInt; omega⟩
  | f + 1, v, z, hv => by
    unfold ee_red
    split
    · rename_i k
      split
      · rename_i q hq
        split
        · rename_i g hg
          obtain ⟨z', g1, -, -, g4⟩ := ee_at1.ok hk hq
          rw [hv.sy] at g1
          cases g1
          have g5 := g4 g (List.mem_of_find?_eq_some hg)
          have hp : (Nat.beq g.1 0 || (mo && ((Nat.beq g.1 1 && decide (c < 0)) || (Nat.beq g.1 2 && decide (0 < c))))) = true := List.find?_some (p := fun g : ee_fa => Nat.beq g.1 0 || (mo && ((Nat.beq g.1 1 && decide (c < 0)) || (Nat.beq g.1 2 && decide (0 < c))))) hg
          obtain ⟨kd, j, e⟩ := g
          have key : ∃ w, ns[j]? = some w ∧ c * w.toInt + c * e ≤ c * z.toInt := by
            rcases (Bool.or_eq_true _ _).mp hp with h1 | h1
            · have h1 : kd = 0 := Nat.eq_of_beq_eq_true h1
              subst h1
              obtain ⟨w, w1, w2⟩ := g5
              exact ⟨w, w1, by rw [w2, Int.mul_add]; omega⟩
            · rcases (Bool.or_eq_true _ _).mp (ee_and h1).2 with h1 | h1
              · obtain ⟨h1, h2⟩ := ee_and h1
                have h1 : kd = 1 := Nat.eq_of_beq_eq_true h1
                have h2 := of_decide_eq_true h2
                subst h1
                obtain ⟨w, w1, w2⟩ := g5
                refine ⟨w, w1, ?_⟩
                rw [← Int.mul_add]
                exact Int.mul_le_mul_of_nonpos_left (by omega) w2
              · obtain ⟨h1, h2⟩ := ee_and h1
                have h1 : kd = 2 := Nat.eq_of_beq_eq_true h1
                have h2 := of_decide_eq_true h2
                subst h1
                obtain ⟨w, w1, w2⟩ := g5
                refine ⟨w, w1, ?_⟩
                rw [← Int.mul_add]
                exact Int.mul_le_mul_of_nonneg_left w2 (by omega)
          obtain ⟨w, w1, w2⟩ := key
          obtain ⟨y, y1, y2⟩ := ee_red.ok hk f (v := .retAddr j) (z := w) ⟨w, w1, rfl⟩
          refine ⟨y, y1, ?_⟩
          show c * y.toInt + ((ee_red iv mo c f (.retAddr j)).2 + c * e) ≤ c * z.toInt
          omega
        · exact ⟨z, hv, by show c * z.toInt + 0 ≤ c * z.toInt; omega⟩
      · exact ⟨z, hv, by show c * z.toInt + 0 ≤ c * z.toInt; omega⟩
    · exact ⟨z, hv, by show c * z.toInt + 0 ≤ c * z.toInt; omega⟩
def ee_ins (c : Int) (v : Value) : List (Int × Value) → List (Int × Value)
  | [] => [(c, v)]
  | (c2, v2) :: l => if v2 = v then (c2 + c, v2) :: l else (c2, v2) :: ee_ins c v l
theorem ee_ins.ok {ns : List Int32} {c : Int} {v : Value} : ∀ {l : List (Int × Value)}, ee_ev ns (ee_ins c v l) = c * (ee_vl ns v).toInt + ee_ev ns l
  | [] => rfl
  | (c2, v2) :: l => by
    unfold ee_ins
    by_cases e : v2 = v
    · rw [if_pos e]
      subst e
      show (c2 + c) * (ee_vl ns v2).toInt + ee_ev ns l = c * (ee_vl ns v2).toInt + (c2 * (ee_vl ns v2).toInt + ee_ev ns l)
      rw [Int.add_mul]; omega
    · rw [if_neg e]
      show c2 * (ee_vl ns v2).toInt + ee_ev ns (ee_ins c v l) = c * (ee_vl ns v).toInt + (c2 * (ee_vl ns v2).toInt + ee_ev ns l)
      rw [ee_ins.ok]; omega
/-- terms, each reduced and joined -/
def ee_acc (iv : ee_iv) (mo : Bool) : List (Int × Value) → List (Int × Value) × Int
  | [] => ([], 0)
  | (c, v) :: l => (ee_ins c (ee_red iv mo c 12 v).1 (ee_acc iv mo l).1, (ee_red iv mo c 12 v).2 + (ee_acc iv mo l).2)
def ee_nums (iv : ee_iv) (l : List (Int × Value)) : Bool := l.all (fun t => (ee_it iv t.2).isSome)
theorem ee_acc.ok {ns : List Int32} {iv : ee_iv} {mo : Bool} (hk : ee_ok ns iv) : ∀ {l : List (Int × Value)}, ee_nums iv l = true → ee_ev ns (ee_acc iv mo l).1 + (ee_acc iv mo l).2 ≤ ee_ev ns l
  | [], _ => Int.le_refl _
  | (c, v) :: l, h => by
    unfold ee_nums at h
    rw [List.all_cons] at h
    obtain ⟨h1, h2⟩ := ee_and h
    obtain ⟨q, hq⟩ := Option.isSome_iff_exists.mp h1
    obtain ⟨z, hz⟩ := ee_it.ex (as := []) (ex := fun _ => 0) hk hq
    have hz : ee_v ns [] (fun _ => 0) v (.int z) := hz
    obtain ⟨y, y1, y2⟩ := ee_red.ok (mo := mo) (c := c) hk 12 hz
    have ih := ee_acc.ok (mo := mo) hk (l := l) h2
    show ee_ev ns (ee_ins c (ee_red iv mo c 12 v).1 (ee_acc iv mo l).1) + ((ee_red iv mo c 12 v).2 + (ee_acc iv mo l).2) ≤ c * (ee_vl ns v).toInt + ee_ev ns l
    rw [ee_ins.ok, ee_vl.ok y1, ee_vl.ok hz]
    omega
/-- a lower bound -/
def ee_lob (iv : ee_iv) : List (Int × Value) → Option Int
  | [] => some 0
  | (c, v) :: l => if c = 0 then ee_lob iv l else (match ee_it iv v, ee_lob iv l with
    | some a, some r => some ((if 0 ≤ c then c * a.1 else c * a.2) + r)
    | _, _ => none)
theorem ee_lob.ok {ns : List Int32} {iv : ee_iv} (hk : ee_ok ns iv) : ∀ {l : List (Int × Value)} {b : Int}, ee_lob iv l = some b → b ≤ ee_ev ns l
  | [], b, h => by cases h; exact Int.le_refl _
  | (c, v) :: l, b, h => by
    unfold ee_lob at h
    by_cases hc : c = 0
    · rw [if_pos hc] at h
      have := ee_lob.ok hk h
      show b ≤ c * (ee_vl ns v).toInt + ee_ev ns l
      rw [hc, Int.zero_mul]; omega
    · rw [if_neg hc] at h
      split at h
      · rename_i a r h1 h2
        cases h
        have ih := ee_lob.ok hk h2
        obtain ⟨z, hz⟩ := ee_it.ex (as := []) (ex := fun _ => 0) hk h1
        obtain ⟨z', e1, e2, e3⟩ := ee_it.int (a := a.1) (b := a.2) hk hz h1
        cases e1
        show (if 0 ≤ c then c * a.1 else c * a.2) + r ≤ c * (ee_vl ns v).toInt + ee_ev ns l
        rw [ee_vl.ok hz]
        by_cases h0 : 0 ≤ c
        · rw [if_pos h0]
          have := Int.mul_le_mul_of_nonneg_left e2 h0
          omega
        · rw [if_neg h0]
          have := Int.mul_le_mul_of_nonpos_left (show c ≤ 0 by omega) e3
          omega
      · cases h
/-- is a sum of these terms and a number at least 1? -/
def ee_po1 (iv : ee_iv) (mo : Bool) (l : List (Int × Value)) (c0 : Int) : Bool := ee_nums iv l && (match ee_lob iv (ee_acc iv mo l).1 with
  | some b => decide (1 ≤ b + (ee_acc iv mo l).2 + c0)
  | none => false)
theorem ee_po1.ok {ns : List Int32} {iv : ee_iv} {mo : Bool} {l : List (Int × Value)} {c0 : Int} (hk : ee_ok ns iv) (h : ee_po1 iv mo l c0 = true) : 1 ≤ ee_ev ns l + c0 := by
  obtain ⟨h1, h2⟩ := ee_and h
  have a := ee_acc.ok (mo := mo) hk h1
  split at h2
  · rename_i b hb
    have h2 := of_decide_eq_true h2
    have := ee_lob.ok hk hb
    omega
  · cases h2
theorem ee_ev.nz {ns : List Int32} : ∀ {l : List (Int × Value)}, ee_ev ns (l.filter (fun t => decide (t.1 ≠ 0))) = ee_ev ns l
  | [] => rfl
  | (c, v) :: l => by
    by_cases hc : c = 0
    · rw [List.filter_cons_of_neg (by simp [hc]), ee_ev.nz]
      show ee_ev ns l = c * (ee_vl ns v).toInt + ee_ev ns l
      rw [hc, Int.zero_mul]; omega
    · rw [List.filter_cons_of_pos (by simp [hc])]
      show c * (ee_vl ns v).toInt + ee_ev ns (l.filter (fun t => decide (t.1 ≠ 0))) = c * (ee_vl ns v).toInt + ee_ev ns l
      rw [ee_ev.nz]
def ee_pos (iv : ee_iv) (l : List (Int × Value)) (c0 : Int) : Bool := ee_nums iv l && (ee_po1 iv false l c0 || ee_po1 iv true ((ee_acc iv false l).1.filter (fun t => decide (t.1 ≠ 0))) (c0 + (ee_acc iv false l).2))
theorem ee_pos.ok {ns : List Int32} {iv : ee_iv} {l : List (Int × Value)} {c0 : Int} (hk : ee_ok ns iv) (h : ee_pos iv l c0 = true) : 1 ≤ ee_ev ns l + c0 := by
  obtain ⟨h1, h2⟩ := ee_and h
  rcases (Bool.or_eq_true _ _).mp h2 with h2 | h2
  · exact ee_po1.ok hk h2
  · have a := ee_acc.ok (mo := false) hk h1
    have b := ee_po1.ok hk h2
    rw [ee_ev.nz] at b
    omega
theorem ee_ev.app {ns : List Int32} : ∀ {l k : List (Int × Value)}, ee_ev ns (l ++ k) = ee_ev ns l + ee_ev ns k
  | [], k => by show ee_ev ns k = 0 + ee_ev ns k; omega
  | (c, v) :: l, k => by
    show c * (ee_vl ns v).toInt + ee_ev ns (l ++ k) = c * (ee_vl ns v).toInt + ee_ev ns l + ee_ev ns k
    rw [ee_ev.app]; omega
/-- a measure's number -/
def ee_mu (ns : List Int32) (c0 : Int) (l : List (Int × Nat)) : Int := c0 + ee_ev ns (l.map (fun t => (t.1, .retAddr t.2)))
/-- the measure falls from the start's symbols to the pattern's, and was above 0 -/
def ee_fal (np : Nat) (σ : List Value) (iv : ee_iv) (c0 : Int) (l : List (Int × Nat)) (c1 : Int) (k : List (Int × Nat)) : Bool := ee_pos iv (l.map (fun t => (t.1, .retAddr t.2))) c0 && ee_pos iv (l.map (fun t => (t.1, .retAddr t.2)) ++ k.map (fun t => (-t.1, ee_sv np σ t.2))) (c0 - c1)
theorem ee_fal.ok {np : Nat} {σ : List Value} {iv : ee_iv} {c0 c1 : Int} {l k : List (Int × Nat)} {ns nb : List Int32} {r : List Int32} (hk : ee_ok ns iv) (hn : np ≤ ns.length) (hns : ns = nb ++ r) (hl : ∀ t ∈ l, t.2 < nb.length) (h : ee_fal np σ iv c0 l c1 k = true) : (ee_mu (ee_nT np ns σ) c1 k).toNat < (ee_mu nb c0 l).toNat := by
  obtain ⟨h1, h2⟩ := ee_and h
  have e1 := ee_pos.ok hk h1
  have e2 := ee_pos.ok hk h2
  rw [ee_ev.app] at e2
  have a : ∀ {l : List (Int × Nat)}, (∀ t ∈ l, t.2 < nb.length) → ee_ev ns (l.map (fun t => (t.1, .retAddr t.2))) = ee_ev nb (l.map (fun t => (t.1, .retAddr t.2))) := by
    intro l
    induction l with
    | nil => intro _; rfl
    | cons t l ih =>
      intro hl
      have ht := hl t List.mem_cons_self
      show t.1 * (ns.getD t.2 0).toInt + _ = t.1 * (nb.getD t.2 0).toInt + _
      rw [ih (fun t h => hl t (List.mem_cons_of_mem _ h)), hns, List.getD_eq_getElem?_getD, List.getD_eq_getElem?_getD, List.getElem?_append_left ht]
  have b : ∀ {k : List (Int × Nat)}, ee_nums iv (k.map (fun t => (-t.1, ee_sv np σ t.2))) = true → ee_ev ns (k.map (fun t => (-t.1, ee_sv np σ t.2))) = - ee_ev (ee_nT np ns σ) (k.map (fun t => (t.1, .retAddr t.2))) := by
    intro k
    induction k with
    | nil => intro _; rfl
    | cons t k ih =>
      intro hk2
      unfold ee_nums at hk2
      rw [List.map_cons, List.all_cons] at hk2
      obtain ⟨k1, k2⟩ := ee_and hk2
      obtain ⟨q, hq⟩ := Option.isSome_iff_exists.mp k1
      obtain ⟨z, z1, z2⟩ := ee_sv.ok (as := []) (ex := fun _ => 0) hk hn hq
      show -t.1 * (ee_vl ns (ee_sv np σ t.2)).toInt + _ = -(t.1 * ((ee_nT np ns σ).getD t.2 0).toInt + _)
      rw [ih k2, ee_vl.ok z2, List.getD_eq_getElem?_getD, z1]
      show -t.1 * z.toInt + _ = -(t.1 * z.toInt + _)
      rw [Int.neg_mul]; omega
  have hnk : ee_nums iv (k.map (fun t => (-t.1, ee_sv np σ t.2))) = true := by
    have := (ee_and h2).1
    unfold ee_nums at this ⊢
    rw [List.all_append] at this
    exact (ee_and this).2
  rw [a hl] at e1 e2
  rw [b hnk] at e2
  unfold ee_mu
  omega
