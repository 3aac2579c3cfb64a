/-! handlers: arrays read -/
def ee_sg1 (sg : List (Nat × Int × Int)) (j : Nat) : Option (Int × Int) := match sg.find? (fun s => Nat.blt j s.1) with
  | some s => some s.2
  | none => none
def ee_rj (P j : Nat) : Nat := if P = 0 then j else j % P
theorem ee_seg_eq (P : Nat) (sg : List (Nat × Int × Int)) (j : Nat) : ee_seg P sg j = ee_sg1 sg (ee_rj P j) := rfl
def ee_bd (q : Option (Int × Int)) (z : Int) : Prop := match q with
  | some q => q.1 ≤ z ∧ z ≤ q.2
  | none => True
theorem ee_sgp_eq (P : Nat) (sg : List (Nat × Int × Int)) (j : Nat) (z : Int32) : ee_sgp P sg j z ↔ ee_bd (ee_sg1 sg (ee_rj P j)) z.toInt := Iff.rfl
/-- bounds of the elements from a to b -/
def ee_jn : List (Nat × Int × Int) → Nat → Int → Int → Option (Int × Int)
  | [], st, _, b => if (st : Int) ≤ b then some (-2147483648, 2147483647) else none
  | (u, lo, hi) :: r, st, a, b => match ee_jn r u a b with
    | none => if (st : Int) ≤ b ∧ a < u then some (lo, hi) else none
    | some q => if (st : Int) ≤ b ∧ a < u then some (ee_mn lo q.1, ee_mx hi q.2) else some q
theorem ee_mn_le {a b : Int} : ee_mn a b ≤ a ∧ ee_mn a b ≤ b := by unfold ee_mn; split <;> omega
theorem ee_le_mx {a b : Int} : a ≤ ee_mx a b ∧ b ≤ ee_mx a b := by unfold ee_mx; split <;> omega
theorem ee_sg1_cons (u : Nat) (q : Int × Int) (r : List (Nat × Int × Int)) (j : Nat) : ee_sg1 ((u, q) :: r) j = if j < u then some q else ee_sg1 r j := by
  unfold ee_sg1
  rw [List.find?_cons]
  by_cases h : j < u
  · have : Nat.blt j u = true := by rw [Nat.blt_eq]; exact h
    simp only [this, h, if_true]
  · have : Nat.blt j u = false := by
      cases hb : Nat.blt j u with
      | false => rfl
      | true => exact absurd (Nat.blt_eq.mp hb) h
    simp only [this, h, if_false]
theorem ee_jn.ok {a b : Int} {j : Nat} {z : Int} (h1 : a ≤ j) (h2 : (j : Int) ≤ b) (hz : -2147483648 ≤ z ∧ z ≤ 2147483647) : ∀ {sg : List (Nat × Int × Int)} {st : Nat}, st ≤ j → ee_bd (ee_sg1 sg j) z → ∃ q, ee_jn sg st a b = some q ∧ q.1 ≤ z ∧ z ≤ q.2
  | [], st, hs, _ => ⟨(-2147483648, 2147483647), by unfold ee_jn; rw [if_pos (by omega)], hz⟩
  | (u, lo, hi) :: r, st, hs, hb => by
    rw [ee_sg1_cons] at hb
    unfold ee_jn
    by_cases hj : j < u
    · rw [if_pos hj] at hb
      have hb : lo ≤ z ∧ z ≤ hi := hb
      have hc : (st : Int) ≤ b ∧ a < u := ⟨by omega, by omega⟩
      cases ee_jn r u a b with
      | none => exact ⟨(lo, hi), by simp only [hc, and_self, if_true], hb⟩
      | some q =>
        refine ⟨(ee_mn lo q.1, ee_mx hi q.2), by simp only [hc, and_self, if_true], ?_⟩
        have m1 := ee_mn_le (a := lo) (b := q.1)
        have m2 := ee_le_mx (a := hi) (b := q.2)
        exact ⟨by show ee_mn lo q.1 ≤ z; omega, by show z ≤ ee_mx hi q.2; omega⟩
    · rw [if_neg hj] at hb
      obtain ⟨q, g1, g2, g3⟩ := ee_jn.ok h1 h2 hz (sg := r) (st := u) (by omega) hb
      rw [g1]
      simp only
      by_cases hc : (st : Int) ≤ b ∧ a < u
      · rw [if_pos hc]
        have m1 := ee_mn_le (a := lo) (b := q.1)
        have m2 := ee_le_mx (a := hi) (b := q.2)
        exact ⟨_, rfl, by show ee_mn lo q.1 ≤ z; omega, by show z ≤ ee_mx hi q.2; omega⟩
      · rw [if_neg hc]
        exact ⟨q, rfl, g2, g3⟩
/-- may a number between u and v be put there? -/
def ee_wk : List (Nat × Int × Int) → Nat → Int → Int → Int → Int → Bool
  | [], _, _, _, _, _ => true
  | (t, lo, hi) :: r, st, a, b, u, v => (!decide ((st : Int) ≤ b ∧ a < t) || (decide (lo ≤ u) && decide (v ≤ hi))) && ee_wk r t a b u v
theorem ee_wk.ok {a b u v : Int} {j : Nat} {z : Int} (h1 : a ≤ j) (h2 : (j : Int) ≤ b) (h3 : u ≤ z) (h4 : z ≤ v) : ∀ {sg : List (Nat × Int × Int)} {st : Nat}, st ≤ j → ee_wk sg st a b u v = true → ee_bd (ee_sg1 sg j) z
  | [], _, _, _ => trivial
  | (t, lo, hi) :: r, st, hs, h => by
    unfold ee_wk at h
    obtain ⟨g1, g2⟩ := ee_and h
    rw [ee_sg1_cons]
    by_cases hj : j < t
    · rw [if_pos hj]
      have hc : (st : Int) ≤ b ∧ a < t := ⟨by omega, by omega⟩
      rw [decide_eq_true hc] at g1
      obtain ⟨e1, e2⟩ := ee_and (show (decide (lo ≤ u) && decide (v ≤ hi)) = true by simpa using g1)
      have e1 := of_decide_eq_true e1
      have e2 := of_decide_eq_true e2
      exact ⟨by show lo ≤ z; omega, by show z ≤ hi; omega⟩
    · rw [if_neg hj]
      exact ee_wk.ok h1 h2 h3 h4 (by omega) g2
/-- the rest by a period, if it is known -/
def ee_rs1 (iv : ee_iv) (i : Value) (P : Nat) : Option Nat := match i with
  | .int c => if 0 ≤ c.toInt then some (c.toInt.toNat % P) else none
  | .retAddr k => (match ee_at1 iv k with
    | some q => (match q.2.2.2.find? (fun f => Nat.beq f.1 4 && Nat.beq f.2.1 P) with
      | some f => if 0 ≤ f.2.2 then some f.2.2.toNat else none
      | none => none)
    | none => none)
  | _ => none
theorem ee_rs1.ok {ns : List Int32} {as : List Nat} {ex : Nat → Nat} {iv : ee_iv} {i : Value} {P r : Nat} {z : Int32} (hk : ee_ok ns iv) (hv : ee_v ns as ex i (.int z)) (hz : 0 ≤ z.toInt) (h : ee_rs1 iv i P = some r) : z.toInt.toNat % P = r := by
  cases i with
  | int c =>
    cases (show Value.int z = Value.int c from hv)
    unfold ee_rs1 at h
    simp only at h
    rw [if_pos hz] at h
    exact Option.some.inj h
  | retAddr k =>
    unfold ee_rs1 at h
    simp only at h
    cases hq : ee_at1 iv k with
    | none => rw [hq] at h; cases h
    | some q =>
      rw [hq] at h
      simp only at h
      cases hf : q.2.2.2.find? (fun f => Nat.beq f.1 4 && Nat.beq f.2.1 P) with
      | none => rw [hf] at h; cases h
      | some f =>
        rw [hf] at h
        simp only at h
        obtain ⟨y, g1, -, -, g4⟩ := ee_at1.ok hk hq
        rw [hv.sy] at g1
        cases g1
        have e4 : (Nat.beq f.1 4 && Nat.beq f.2.1 P) = true := List.find?_some (p := fun f : ee_fa => Nat.beq f.1 4 && Nat.beq f.2.1 P) hf
        obtain ⟨e4, e5⟩ := ee_and e4
        have e4 := Nat.eq_of_beq_eq_true e4
        have e5 := Nat.eq_of_beq_eq_true e5
        have g5 := g4 f (List.mem_of_find?_eq_some hf)
        obtain ⟨kd, m, s⟩ := f
        have e4 : kd = 4 := e4
        have e5 : m = P := e5
        subst e4
        subst e5
        have g5 : z.toInt % (m : Int) = s := g5
        by_cases hs : 0 ≤ s
        · rw [if_pos hs] at h
          have h : s.toNat = r := Option.some.inj h
          show z.toInt.toNat % m = r
          have : ((z.toInt.toNat % m : Nat) : Int) = s := by rw [Int.natCast_emod, show ((z.toInt.toNat : Nat) : Int) = z.toInt by omega]; exact g5
          omega
        · rw [if_neg hs] at h; cases h
  | _ => cases h
/-- which elements of the period an index may mean -/
def ee_wh (iv : ee_iv) (i : Value) (P : Nat) (a b : Int) : Int × Int := if P = 0 then (a, b) else (match ee_rs1 iv i P with
  | some r => ((r : Int), (r : Int))
  | none => (0, (P : Int) - 1))
theorem ee_wh.ok {ns : List Int32} {as : List Nat} {ex : Nat → Nat} {iv : ee_iv} {i : Value} {P : Nat} {a b : Int} {z : Int32} (hk : ee_ok ns iv) (hv : ee_v ns as ex i (.int z)) (hz : 0 ≤ z.toInt) (h1 : a ≤ z.toInt) (h2 : z.toInt ≤ b) : (ee_wh iv i P a b).1 ≤ (ee_rj P z.toInt.toNat : Nat) ∧ ((ee_rj P z.toInt.toNat : Nat) : Int) ≤ (ee_wh iv i P a b).2 := by
  unfold ee_wh ee_rj
  by_cases hP : P = 0
  · rw [if_pos hP, if_pos hP]
    exact ⟨by show a ≤ _; omega, by show _ ≤ b; omega⟩
  · rw [if_neg hP, if_neg hP]
    cases hr : ee_rs1 iv i P with
    | none =>
      have := Nat.mod_lt z.toInt.toNat (show 0 < P by omega)
      exact ⟨by show (0 : Int) ≤ _; omega, by show _ ≤ (P : Int) - 1; omega⟩
    | some r =>
      rw [ee_rs1.ok hk hv hz hr]
      exact ⟨Int.le_refl _, Int.le_refl _⟩
/-- the named elements from a to b, joined to q -/
def ee_jo (iv : ee_iv) (a b : Int) : List (Nat × Value) → Option (Int × Int) → Option (Option (Int × Int))
  | [], q => some q
  | (j, x) :: l, q => match ee_jo iv a b l q with
    | none => none
    | some q => if a ≤ (j : Int) ∧ (j : Int) ≤ b then (match ee_it iv x with
        | none => none
        | some r => (match q with
          | none => some (some r)
          | some s => some (some (ee_mn r.1 s.1, ee_mx r.2 s.2)))) else some q
theorem ee_jo.ok {iv : ee_iv} {a b z : Int} : ∀ {ov : List (Nat × Value)} {q q' : Option (Int × Int)}, ee_jo iv a b ov q = some q' → (∃ r, q = some r ∧ r.1 ≤ z ∧ z ≤ r.2) ∨ (∃ (j : Nat) (x : Value) (r : Int × Int), (j, x) ∈ ov ∧ (a ≤ (j : Int) ∧ (j : Int) ≤ b) ∧ ee_it iv x = some r ∧ r.1 ≤ z ∧ z ≤ r.2) → ∃ r, q' = some r ∧ r.1 ≤ z ∧ z ≤ r.2
  | [], q, q', h, hz => by
    cases h
    rcases hz with h | ⟨j, x, r, h, -⟩
    · exact h
    · cases h
  | (j, x) :: l, q, q', h, hz => by
    unfold ee_jo at h
    cases h1 : ee_jo iv a b l q with
    | none => rw [h1] at h; cases h
    | some q1 =>
      rw [h1] at h
      simp only at h
      have old : ((∃ r, q = some r ∧ r.1 ≤ z ∧ z ≤ r.2) ∨ (∃ (j : Nat) (x : Value) (r : Int × Int), (j, x) ∈ l ∧ (a ≤ (j : Int) ∧ (j : Int) ≤ b) ∧ ee_it iv x = some r ∧ r.1 ≤ z ∧ z ≤ r.2)) → ∃ r, q1 = some r ∧ r.1 ≤ z ∧ z ≤ r.2 := fun g => ee_jo.ok h1 g
      by_cases hc : a ≤ (j : Int) ∧ (j : Int) ≤ b
      · rw [if_pos hc] at h
        cases hx : ee_it iv x with
        | none => rw [hx] at h; cases h
        | some r =>
          rw [hx] at h
          simp only at h
          have new : (∃ r, q1 = some r ∧ r.1 ≤ z ∧ z ≤ r.2) ∨ (r.1 ≤ z ∧ z ≤ r.2) := by
            rcases hz with g | ⟨j2, x2, r2, g1, g2, g3, g4⟩
            · exact Or.inl (old (Or.inl g))
            · rcases List.mem_cons.mp g1 with g1 | g1
              · cases g1
                rw [hx] at g3
                cases g3
                exact Or.inr g4
              · exact Or.inl (old (Or.inr ⟨j2, x2, r2, g1, g2, g3, g4⟩))
          cases q1 with
          | none =>
            cases h
            rcases new with ⟨r, g, -⟩ | g
            · cases g
            · exact ⟨r, rfl, g⟩
          | some s =>
            cases h
            have m1 := ee_mn_le (a := r.1) (b := s.1)
            have m2 := ee_le_mx (a := r.2) (b := s.2)
            refine ⟨_, rfl, ?_⟩
            rcases new with ⟨r', g, g2⟩ | g
            · cases g
              exact ⟨by show ee_mn r.1 s.1 ≤ z; omega, by show z ≤ ee_mx r.2 s.2; omega⟩
            · exact ⟨by show ee_mn r.1 s.1 ≤ z; omega, by show z ≤ ee_mx r.2 s.2; omega⟩
      · rw [if_neg hc] at h
        cases h
        refine old ?_
        rcases hz with g | ⟨j2, x2, r2, g1, g2, g3, g4⟩
        · exact Or.inl g
        · rcases List.mem_cons.mp g1 with g1 | g1
          · cases g1
            exact absurd g2 hc
          · exact Or.inr ⟨j2, x2, r2, g1, g2, g3, g4⟩
/-- an element read: its value, the symbols then, the named elements if there is one more -/
def ee_rd (iv : ee_iv) (n P : Nat) (sg : List (Nat × Int × Int)) (ov : List (Nat × Value)) (i : Value) : Option (Value × ee_iv × Option (List (Nat × Value))) := match ee_ix iv i n with
  | some j => (match ov.lookup j with
    | some x => some (x, iv, none)
    | none => (match ee_sg1 sg (ee_rj P j) with
      | some q => if q.1 = q.2 then some (.int (Int32.ofInt q.1), iv, none) else some (.retAddr iv.1, ee_ps iv q.1 q.2 [], some ((j, .retAddr iv.1) :: ov))
      | none => some (.retAddr iv.1, ee_ps iv (-2147483648) 2147483647 [], some ((j, .retAddr iv.1) :: ov))))
  | none => (match ee_it iv i with
    | some (a, b) => if 0 ≤ a ∧ b < (n : Int) then (match ee_jo iv a b ov (ee_jn sg 0 (ee_wh iv i P a b).1 (ee_wh iv i P a b).2) with
        | some (some q) => some (.retAddr iv.1, ee_ps iv q.1 q.2 [], none)
        | _ => none) else none
    | none => none)
theorem ee_mem_lookup {ov : List (Nat × Value)} {j : Nat} {x : Value} (h : ov.lookup j = some x) : (j, x) ∈ ov := by
  induction ov with
  | nil => cases h
  | cons p l ih =>
    obtain ⟨a, y⟩ := p
    rw [List.lookup_cons] at h
    cases hb : j == a with
    | true =>
      rw [hb] at h
      cases h
      rw [show j = a by simpa using hb]
      exact List.mem_cons_self
    | false =>
      rw [hb] at h
      exact List.mem_cons_of_mem _ (ih h)
theorem ee_rd.ok {ns : List Int32} {as : List Nat} {ex : Nat → Nat} {iv iv' : ee_iv} {n P : Nat} {sg : List (Nat × Int × Int)} {ov : List (Nat × Value)} {i vi x : Value} {o : Option (List (Nat × Value))} {f : Nat → Int32} (hk : ee_ok ns iv) (hi : ee_v ns as ex i vi) (hf : ∀ j, j < n → ee_el ns as ex P sg ov j (f j)) (h : ee_rd iv n P sg ov i = some (x, iv', o)) :
    ∃ q : Int32, vi = .int q ∧ vp_in q n ∧ ((iv' = iv ∧ o = none ∧ ee_v ns as ex x (.int (f q.toNatClampNeg))) ∨ ∃ lo hi : Int, x = .retAddr iv.1 ∧ iv' = ee_ps iv lo hi [] ∧ lo ≤ (f q.toNatClampNeg).toInt ∧ (f q.toNatClampNeg).toInt ≤ hi ∧ (o = none ∨ o = some ((q.toNatClampNeg, x) :: ov))) := by
  unfold ee_rd at h
  cases hx : ee_ix iv i n with
  | some j =>
    rw [hx] at h
    simp only at h
    obtain ⟨q, rfl, f1, f2, f3⟩ := ee_ix.ok hk hi hx
    refine ⟨q, rfl, f3, ?_⟩
    have hel := hf j f2
    rw [f1]
    unfold ee_el at hel
    cases hl : ov.lookup j with
    | some y =>
      rw [hl] at h hel
      cases h
      exact Or.inl ⟨rfl, rfl, hel⟩
    | none =>
      rw [hl] at h hel
      simp only at h hel
      rw [ee_sgp_eq] at hel
      cases hs : ee_sg1 sg (ee_rj P j) with
      | none =>
        rw [hs] at h
        cases h
        exact Or.inr ⟨_, _, rfl, rfl, (ee_rng _).1, (ee_rng _).2, Or.inr rfl⟩
      | some r =>
        rw [hs] at h hel
        have hel : r.1 ≤ (f j).toInt ∧ (f j).toInt ≤ r.2 := hel
        simp only at h
        by_cases hr : r.1 = r.2
        · rw [if_pos hr] at h
          cases h
          refine Or.inl ⟨rfl, rfl, ?_⟩
          show Value.int (f j) = Value.int (Int32.ofInt r.1)
          rw [← show (f j).toInt = r.1 by omega, Int32.ofInt_toInt]
        · rw [if_neg hr] at h
          cases h
          exact Or.inr ⟨_, _, rfl, rfl, hel.1, hel.2, Or.inr rfl⟩
  | none =>
    rw [hx] at h
    simp only at h
    cases ht : ee_it iv i with
    | none => rw [ht] at h; cases h
    | some q =>
      obtain ⟨a, b⟩ := q
      rw [ht] at h
      simp only at h
      by_cases hc : 0 ≤ a ∧ b < (n : Int)
      · rw [if_pos hc] at h
        obtain ⟨z, rfl, z1, z2⟩ := ee_it.int hk hi ht
        refine ⟨z, rfl, vp_in_iff.mpr ⟨by omega, by omega⟩, ?_⟩
        have hz : z.toNatClampNeg = z.toInt.toNat := rfl
        rw [hz]
        split at h
        · rename_i r hr
          cases h
          have hel := hf z.toInt.toNat (by omega)
          have w := ee_wh.ok (P := P) hk hi (by omega) z1 z2
          have key : ∃ r', some r = some r' ∧ r'.1 ≤ (f z.toInt.toNat).toInt ∧ (f z.toInt.toNat).toInt ≤ r'.2 := by
            refine ee_jo.ok hr ?_
            unfold ee_el at hel
            cases hl : ov.lookup z.toInt.toNat with
            | some y =>
              rw [hl] at hel
              have hm := ee_mem_lookup hl
              by_cases hyi : ∃ s, ee_it iv y = some s
              · obtain ⟨s, hs⟩ := hyi
                obtain ⟨u, e1, e2, e3⟩ := ee_it.int (a := s.1) (b := s.2) hk hel hs
                cases e1
                exact Or.inr ⟨_, y, s, hm, ⟨by omega, by omega⟩, hs, e2, e3⟩
              · exfalso
                have bad : ∀ {l : List (Nat × Value)} {q0 q1 : Option (Int × Int)}, ee_jo iv a b l q0 = some q1 → (z.toInt.toNat, y) ∈ l → False := by
                  intro l
                  induction l with
                  | nil => intro q0 q1 _ hm; cases hm
                  | cons c l ih =>
                    intro q0 q1 hj hm
                    obtain ⟨j, x⟩ := c
                    unfold ee_jo at hj
                    cases h1 : ee_jo iv a b l q0 with
                    | none => rw [h1] at hj; cases hj
                    | some q2 =>
                      rcases List.mem_cons.mp hm with e | hm
                      · cases e
                        rw [h1] at hj
                        simp only at hj
                        rw [if_pos ⟨by omega, by omega⟩] at hj
                        cases hy2 : ee_it iv y with
                        | none => rw [hy2] at hj; cases hj
                        | some s => exact hyi ⟨s, hy2⟩
                      · exact ih h1 hm
                exact bad hr hm
            | none =>
              rw [hl] at hel
              simp only at hel
              rw [ee_sgp_eq] at hel
              exact Or.inl (ee_jn.ok w.1 w.2 (ee_rng _) (Nat.zero_le _) hel)
          obtain ⟨r', e, e1, e2⟩ := key
          cases e
          exact Or.inr ⟨_, _, rfl, rfl, e1, e2, Or.inl rfl⟩
        · cases h
      · rw [if_neg hc] at h; cases h
theorem ee_el.more {ns : List Int32} {as : List Nat} {ex : Nat → Nat} {P : Nat} {sg : List (Nat × Int × Int)} {ov : List (Nat × Value)} {f : Nat → Int32} {n j : Nat} {x : Value} (h : ∀ i, i < n → ee_el ns as ex P sg ov i (f i)) (hx : ee_v ns as ex x (.int (f j))) : ∀ i, i < n → ee_el ns as ex P sg ((j, x) :: ov) i (f i) := by
  intro i hi
  unfold ee_el
  rw [List.lookup_cons]
  by_cases e : i = j
  · subst e
    simp only [beq_self_eq_true]
    exact hx
  · have e' : (i == j) = false := by simpa using e
    rw [e']
    exact h i hi
def ee_ow1 (k t n P : Nat) (sg : List (Nat × Int × Int)) (w : ee_w) (o : Option (List (Nat × Value))) : ee_w := match o with
  | some ov => w.set k (.inr (t, n, P, sg, ov))
  | none => w
def ee_h22 : ee_H := fun _ _ _ e st => match st with
  | (pc, lo, i :: .ref k :: stk, w, iv, kc, ks, sv) => (match e.2.1 with
      | .iaload => (match w[k]? with
          | some (.inr (t, n, P, sg, ov)) => if t = 0 ∧ k < 1000000 then (match ee_rd iv n P sg ov i with
            | some (x, iv', o) => ee_nx e.2.2.1 1 [(pc + 1, lo, x :: stk, ee_ow1 k t n P sg w o, iv', kc, ks, sv)]
            | none => none) else none
          | _ => none)
      | .baload => if 1000100 ≤ k ∧ k < 1000102 then (match ee_ix iv i (ee_len.getD (k - 1000100) 0) with
          | some j => ee_nx e.2.2.1 1 [(pc + 1, lo, .int ((ee_byt.getD (k - 1000100) []).getD j 0) :: stk, w, iv, kc, ks, sv)]
          | none => none) else (match w[k]? with
          | some (.inr (t, n, P, sg, ov)) => if (t = 1 ∨ t = 2) ∧ k < 1000000 then (match ee_rd iv n P sg ov i with
            | some (x, iv', o) => ee_nx e.2.2.1 1 [(pc + 1, lo, x :: stk, ee_ow1 k t n P sg w o, iv', kc, ks, sv)]
            | none => none) else none
          | _ => none)
      | .laload => (match w[k]? with
          | some (.inr (t, n, _, _, _)) => if t = 3 ∧ k < 1000000 ∧ ee_ib iv i n = true then ee_nx e.2.2.1 1 [(pc + 1, lo, .double 0 :: stk, w, iv, kc, ks, sv)] else none
          | _ => none)
      | _ => none)
  | _ => none
theorem ee_set_self {α : Type} {l : List α} {k : Nat} {a : α} (h : l[k]? = some a) : l.set k a = l := by
  apply List.ext_getElem?
  intro i
  by_cases hi : i = k
  · subst hi
    rw [List.getElem?_set_self (List.getElem?_eq_some_iff.mp h).1, h]
  · rw [List.getElem?_set_ne (Ne.symm hi)]
theorem ee_wr.same {ns : List Int32} {as : List Nat} {ex : Nat → Nat} {dA : Nat → ClassId} {w : ee_w} {ws : va_W} {k a : Nat} {x : ee_cell} {e : va_E} (h : ee_wr ns as ex dA w ws) (ha : ws[k]? = some (a, e)) (hc : ee_c ns as ex dA x e) : ee_wr ns as ex dA (w.set k x) ws := by
  have := h.set ha hc
  rwa [ee_set_self ha] at this
set_option maxHeartbeats 2000000 in
theorem ee_h22.snd : ee_Snd ee_h22 := by
  intro X Y oc own cc ini dm bc bs Q e st sts F ho hi hd he hpc h k
  obtain ⟨p, l, en, R, s, m, args, below, meth, c⟩ := X
  obtain ⟨A, D, dA, ex, x0, a0, sv0, nL⟩ := Y
  obtain ⟨pc, lo, stk, w, iv, kc, ks, sv⟩ := st
  obtain ⟨pc', ins, len, hn, ea, eb, ez, qa, qb, qc⟩ := e
  obtain ⟨hx, hb, hml, hown, hts, hK, hA, hini, hR, hE⟩ := F
  have hpc : pc = pc' := hpc
  subst hpc
  have hd : decode cc pc = .ok (ins, len) := hd
  intro ns as H lc ls vs C
  obtain ⟨c1, c2, c3, c4, c5, c6⟩ := C
  show W p l en R s m args below meth c H lc kc ks Q (F0 m pc ls vs)
  match stk, vs, c4, h with
  | [], _, _, h => exact ee_no h
  | [_], _, _, h => exact ee_no h
  | y :: x :: stk, [], c4, h => exact c4.elim
  | y :: x :: stk, [_], c4, h => exact c4.2.elim
  | i :: y :: stk, vi :: vy :: vs, ⟨ci, cy, c4⟩, h =>
    cases y with
    | ref j =>
      obtain ⟨a, rfl⟩ := ee_v.ref cy
      obtain ⟨ws, c6w, hP, hD, hS⟩ := c6
      have go : ∀ (t n P1 : Nat) (sg : List (Nat × Int × Int)) (ov : List (Nat × Value)), w[j]? = some (.inr (t, n, P1, sg, ov)) → t < 3 → j < 1000000 → (match ee_rd iv n P1 sg ov i with
            | some (x, iv', o) => ee_nx len 1 [(pc + 1, lo, x :: stk, ee_ow1 j t n P1 sg w o, iv', kc, ks, sv)]
            | none => none) = some sts → len = 1 ∧ ∃ (f : Nat → Int32) (q : Int32), vi = .int q ∧ vp_in q n ∧ ws[j]? = some (a, .inl (dA t, n, .inl f)) ∧ W p l en R s m args below meth c H lc kc ks Q (F0 m (pc + 1) ls (.int (f q.toNatClampNeg) :: vs)) := by
        intro t n P1 sg ov hw ht hj h
        obtain ⟨ec, g1, g2⟩ := c6w.at hw (cy.at hj)
        obtain ⟨f, rfl, g3⟩ := g2.ints ht
        cases hr : ee_rd iv n P1 sg ov i with
        | none => rw [hr] at h; exact ee_no h
        | some r =>
          obtain ⟨x, iv', o⟩ := r
          rw [hr] at h
          obtain ⟨rfl, rfl⟩ := ee_nx_some h
          obtain ⟨q, rfl, f3, hcase⟩ := ee_rd.ok c1 ci g3 hr
          refine ⟨rfl, f, q, rfl, f3, g1, ?_⟩
          rcases hcase with ⟨rfl, rfl, hv⟩ | ⟨lo1, hi1, rfl, rfl, b1, b2, ho⟩
          · exact k _ List.mem_cons_self ns as H lc ls _ ⟨c1, c2, c3, ⟨hv, c4⟩, c5, ws, c6w, hP, hD, hS⟩
          · obtain ⟨d1, d2, d3, d4, d5, ws', d6w, dP, dD, dS⟩ := ee_Con.grow (s := s) (A := A) (D := D) (dA := dA) (ex := ex) (x0 := x0) (a0 := a0) (sv0 := sv0) (nL := nL) (lo := lo) (ls := ls) ⟨c1, c2, c3, c4, c5, ws, c6w, hP, hD, hS⟩ b1 b2 (fs := []) (fun _ q => by cases q)
            have hxv : ee_v (ns ++ [f q.toNatClampNeg]) as ex (.retAddr iv.1) (.int (f q.toNatClampNeg)) := ⟨_, c1.last _, rfl⟩
            rcases ho with rfl | rfl
            · exact k _ List.mem_cons_self _ as H lc ls _ ⟨d1, d2, d3, ⟨hxv, d4⟩, d5, ws', d6w, dP, dD, dS⟩
            · have c6g : ee_wr (ns ++ [f q.toNatClampNeg]) as ex dA w ws := ⟨c6w.1, c6w.2.imp (fun x q g => by simpa using ee_c.mono [_] [] g)⟩
              refine k _ List.mem_cons_self _ as H lc ls _ ⟨d1, d2, d3, ⟨hxv, d4⟩, d5, ws, c6g.same g1 (ee_c.mk ht (ee_el.more (fun i hi => by simpa using ee_el.mono [_] [] (g3 i hi)) hxv)), hP, hD, hS⟩
      cases ins with
      | iaload =>
        replace h : (match w[j]? with
          | some (.inr (t, n, P, sg, ov)) => if t = 0 ∧ j < 1000000 then (match ee_rd iv n P sg ov i with
            | some (x, iv', o) => ee_nx len 1 [(pc + 1, lo, x :: stk, ee_ow1 j t n P sg w o, iv', kc, ks, sv)]
            | none => none) else none
          | _ => none) = some sts := h
        split at h
        · rename_i t n P1 sg ov hw
          by_cases h2 : t = 0 ∧ j < 1000000
          · rw [if_pos h2] at h
            obtain ⟨rfl, f, q, rfl, f3, g1, kk⟩ := go t n P1 sg ov hw (by omega) h2.2 h
            rw [h2.1] at g1
            exact va_iald hx hb hK hP j 0 g1 rfl f3 hd kk
          · rw [if_neg h2] at h
            exact ee_no h
        · exact ee_no h
      | baload =>
        replace h : (if 1000100 ≤ j ∧ j < 1000102 then (match ee_ix iv i (ee_len.getD (j - 1000100) 0) with
          | some z => ee_nx len 1 [(pc + 1, lo, .int ((ee_byt.getD (j - 1000100) []).getD z 0) :: stk, w, iv, kc, ks, sv)]
          | none => none) else (match w[j]? with
          | some (.inr (t, n, P, sg, ov)) => if (t = 1 ∨ t = 2) ∧ j < 1000000 then (match ee_rd iv n P sg ov i with
            | some (x, iv', o) => ee_nx len 1 [(pc + 1, lo, x :: stk, ee_ow1 j t n P sg w o, iv', kc, ks, sv)]
            | none => none) else none
          | _ => none)) = some sts := h
        by_cases h1 : 1000100 ≤ j ∧ j < 1000102
        · rw [if_pos h1] at h
          obtain ⟨h21, h22⟩ := h1
          have ha := cy.out (Nat.not_lt.mpr (Nat.le_trans (by decide) h21))
          subst ha
          obtain ⟨i0, hi0, rfl⟩ : ∃ i0, i0 < 2 ∧ j = 1000100 + i0 := ⟨j - 1000100, Nat.sub_lt_left_of_lt_add h21 h22, (Nat.add_sub_of_le h21).symm⟩
          obtain ⟨-, -, -, g4⟩ := hE.1.1 i0 hi0
          rw [Nat.add_sub_cancel_left] at h
          cases hr : ee_ix iv i (ee_len.getD i0 0) with
          | none => rw [hr] at h; exact ee_no h
          | some z =>
            rw [hr] at h
            obtain ⟨rfl, rfl⟩ := ee_nx_some h
            obtain ⟨q, rfl, f1, f2, f3⟩ := ee_ix.ok c1 ci hr
            exact va_tb hx hb g4 hS f3 rfl hd (k _ List.mem_cons_self ns as H lc ls _ ⟨c1, c2, c3, ⟨by rw [f1]; rfl, c4⟩, c5, ws, c6w, hP, hD, hS⟩)
        · rw [if_neg h1] at h
          split at h
          · rename_i t n P1 sg ov hw
            by_cases h2 : (t = 1 ∨ t = 2) ∧ j < 1000000
            · rw [if_pos h2] at h
              obtain ⟨ht, h3⟩ := h2
              obtain ⟨rfl, f, q, rfl, f3, g1, kk⟩ := go t n P1 sg ov hw (by omega) h3 h
              rcases ht with rfl | rfl
              · exact va_bald hx hb hK hP j 1 g1 rfl f3 hd kk
              · exact va_zald hx hb hK hP j 2 g1 rfl f3 hd kk
            · rw [if_neg h2] at h
              exact ee_no h
          · exact ee_no h
      | laload =>
        replace h : (match w[j]? with
          | some (.inr (t, n, _, _, _)) => if t = 3 ∧ j < 1000000 ∧ ee_ib iv i n = true then ee_nx len 1 [(pc + 1, lo, .double 0 :: stk, w, iv, kc, ks, sv)] else none
          | _ => none) = some sts := h
        split at h
        · rename_i t n P1 sg ov hw
          by_cases h2 : t = 3 ∧ j < 1000000 ∧ ee_ib iv i n = true
          · rw [if_pos h2] at h
            obtain ⟨rfl, rfl⟩ := ee_nx_some h
            obtain ⟨rfl, h3, h4⟩ := h2
            obtain ⟨ec, g1, g2⟩ := c6w.at hw (cy.at h3)
            obtain ⟨f, rfl⟩ := g2.lngs
            obtain ⟨q, rfl, f3⟩ := ee_ib.ok c1 ci h4
            exact va_lald hx hb hK hP j 3 g1 rfl f3 hd (k _ List.mem_cons_self ns as H lc ls _ ⟨c1, c2, c3, ⟨⟨_, rfl⟩, c4⟩, c5, ws, c6w, hP, hD, hS⟩)
          · rw [if_neg h2] at h
            exact ee_no h
        · exact ee_no h
      | _ => exact ee_no h
    | _ => exact ee_no h
