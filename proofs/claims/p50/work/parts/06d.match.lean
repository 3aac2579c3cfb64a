/-! a state matched with a pattern of states -/
/-- the number that a value is -/
def ee_vl (ns : List Int32) (v : Value) : Int32 := match v with
  | .int c => c
  | .retAddr j => ns.getD j 0
  | _ => 0
theorem ee_vl.ok {ns : List Int32} {as : List Nat} {ex : Nat → Nat} {v : Value} {z : Int32} (h : ee_v ns as ex v (.int z)) : ee_vl ns v = z := by
  cases v with
  | int c => cases (show Value.int z = Value.int c from h); rfl
  | retAddr k =>
    obtain ⟨y, h1, h2⟩ := h
    cases h2
    show ns.getD k 0 = z
    rw [List.getD_eq_getElem?_getD, h1]; rfl
  | ref k => obtain ⟨a, h⟩ := h.ref; cases h
  | null => cases (show Value.int z = Value.null from h)
  | long q => cases (show Value.int z = Value.long q from h)
  | float q => rcases h with h | ⟨a, h⟩ <;> cases h
  | double q => obtain ⟨a, h⟩ := h.dbl; cases h
/-- the pattern's numbers and cells -/
def ee_nT (np : Nat) (ns : List Int32) (σ : List Value) : List Int32 := ns.take np ++ σ.map (ee_vl ns)
def ee_aT (as : List Nat) (ρ : List Nat) : List Nat := ρ.map (fun j => as.getD j 0)
theorem ee_nT.app {np : Nat} {ns : List Int32} {σ s : List Value} : ee_nT np ns (σ ++ s) = ee_nT np ns σ ++ s.map (ee_vl ns) := by
  unfold ee_nT
  rw [List.map_append, List.append_assoc]
theorem ee_aT.app {as ρ r : List Nat} : ee_aT as (ρ ++ r) = ee_aT as ρ ++ ee_aT as r := List.map_append
abbrev ee_mq : Type := List Value × List Nat
/-- one value: the pattern's x, the state's v -/
def ee_m1 (np : Nat) (iv : ee_iv) (x v : Value) (m : ee_mq) : Option ee_mq := match x with
  | .int c => (match ee_cn iv v with
    | some d => if c = d then some m else none
    | none => none)
  | .retAddr k => if k < np then (match v with
      | .retAddr j => if j = k then some m else none
      | _ => none) else if k = np + m.1.length then (match ee_it iv v with
      | some _ => some (m.1 ++ [v], m.2)
      | none => none) else if m.1[k - np]? = some v ∧ (ee_it iv v).isSome = true then some m else none
  | .ref k => (match v with
    | .ref j => if k < 1000000 then (if j < 1000000 then (if k = m.2.length then some (m.1, m.2 ++ [j]) else if m.2[k]? = some j then some m else none) else none) else if k = j then some m else none
    | _ => none)
  | .null => (match v with
    | .null => some m
    | _ => none)
  | .long c => if v = .long c then some m else none
  | .double k => if k = 0 then (if ee_isl v = true then some m else none) else if v = .double k then some m else none
  | .float _ => (match v with
    | .ref _ => some m
    | .null => some m
    | .float _ => some m
    | _ => none)
/-- m2 goes on from m1 -/
def ee_ml (m m2 : ee_mq) : Prop := ∃ s r, m2 = (m.1 ++ s, m.2 ++ r)
theorem ee_ml.rf (m : ee_mq) : ee_ml m m := ⟨[], [], by simp⟩
theorem ee_ml.tr {a b c : ee_mq} (h1 : ee_ml a b) (h2 : ee_ml b c) : ee_ml a c := by
  obtain ⟨s, r, rfl⟩ := h1
  obtain ⟨s2, r2, rfl⟩ := h2
  exact ⟨s ++ s2, r ++ r2, by simp⟩
theorem ee_ml.v {m m2 : ee_mq} {np : Nat} {ns : List Int32} {as : List Nat} {ex : Nat → Nat} {x v : Value} (h : ee_ml m m2) (hv : ee_v (ee_nT np ns m.1) (ee_aT as m.2) ex x v) : ee_v (ee_nT np ns m2.1) (ee_aT as m2.2) ex x v := by
  obtain ⟨s, r, rfl⟩ := h
  rw [ee_nT.app, ee_aT.app]
  exact hv.mono _ _
theorem ee_ml.c {m m2 : ee_mq} {np : Nat} {ns : List Int32} {as : List Nat} {ex : Nat → Nat} {dA : Nat → ClassId} {x : ee_cell} {e : va_E} (h : ee_ml m m2) (hv : ee_c (ee_nT np ns m.1) (ee_aT as m.2) ex dA x e) : ee_c (ee_nT np ns m2.1) (ee_aT as m2.2) ex dA x e := by
  obtain ⟨s, r, rfl⟩ := h
  rw [ee_nT.app, ee_aT.app]
  exact hv.mono _ _
theorem ee_nT.lo {np k : Nat} {ns : List Int32} {σ : List Value} (hk : k < np) (hn : np ≤ ns.length) : (ee_nT np ns σ)[k]? = ns[k]? := by
  unfold ee_nT
  rw [List.getElem?_append_left (by rw [List.length_take]; omega), List.getElem?_take_of_lt hk]
theorem ee_nT.hi {np k : Nat} {ns : List Int32} {σ : List Value} (hn : np ≤ ns.length) : (ee_nT np ns σ)[np + k]? = (σ[k]?).map (ee_vl ns) := by
  unfold ee_nT
  rw [List.getElem?_append_right (by rw [List.length_take]; omega), List.length_take, Nat.min_eq_left hn, Nat.add_sub_cancel_left, List.getElem?_map]
theorem ee_m1.ok {np : Nat} {ns : List Int32} {as : List Nat} {ex : Nat → Nat} {iv : ee_iv} {x v : Value} {m m2 : ee_mq} (hk : ee_ok ns iv) (hn : np ≤ ns.length) (h : ee_m1 np iv x v m = some m2) : ee_ml m m2 ∧ ∀ vv, ee_v ns as ex v vv → ee_v (ee_nT np ns m2.1) (ee_aT as m2.2) ex x vv := by
  cases x with
  | int c =>
    unfold ee_m1 at h
    simp only at h
    cases hc : ee_cn iv v with
    | none => rw [hc] at h; cases h
    | some d =>
      rw [hc] at h
      simp only at h
      by_cases e : c = d
      · rw [if_pos e] at h
        cases h
        subst e
        exact ⟨ee_ml.rf _, fun vv hv => ee_cn.int hk hv hc⟩
      · rw [if_neg e] at h; cases h
  | retAddr k =>
    unfold ee_m1 at h
    simp only at h
    by_cases h1 : k < np
    · rw [if_pos h1] at h
      split at h
      · rename_i j
        by_cases e : j = k
        · rw [if_pos e] at h
          cases h
          subst e
          refine ⟨ee_ml.rf _, fun vv hv => ?_⟩
          obtain ⟨z, g1, g2⟩ := hv
          exact ⟨z, by rw [ee_nT.lo h1 hn]; exact g1, g2⟩
        · rw [if_neg e] at h; cases h
      · cases h
    · rw [if_neg h1] at h
      by_cases h2 : k = np + m.1.length
      · rw [if_pos h2] at h
        cases ht : ee_it iv v with
        | none => rw [ht] at h; cases h
        | some q =>
          rw [ht] at h
          cases h
          refine ⟨⟨[v], [], by simp⟩, fun vv hv => ?_⟩
          obtain ⟨z, rfl, -, -⟩ := ee_it.int (a := q.1) (b := q.2) hk hv ht
          refine ⟨z, ?_, rfl⟩
          rw [h2, ee_nT.hi hn, List.getElem?_append_right (Nat.le_refl _), Nat.sub_self]
          show some (ee_vl ns v) = some z
          rw [ee_vl.ok hv]
      · rw [if_neg h2] at h
        by_cases h3 : m.1[k - np]? = some v ∧ (ee_it iv v).isSome = true
        · rw [if_pos h3] at h
          cases h
          refine ⟨ee_ml.rf _, fun vv hv => ?_⟩
          obtain ⟨q, ht⟩ := Option.isSome_iff_exists.mp h3.2
          obtain ⟨z, rfl, -, -⟩ := ee_it.int (a := q.1) (b := q.2) hk hv ht
          refine ⟨z, ?_, rfl⟩
          rw [show k = np + (k - np) by omega, ee_nT.hi hn, h3.1]
          show some (ee_vl ns v) = some z
          rw [ee_vl.ok hv]
        · rw [if_neg h3] at h; cases h
  | ref k =>
    unfold ee_m1 at h
    simp only at h
    split at h
    · rename_i j
      by_cases h1 : k < 1000000
      · rw [if_pos h1] at h
        by_cases h2 : j < 1000000
        · rw [if_pos h2] at h
          by_cases h3 : k = m.2.length
          · rw [if_pos h3] at h
            cases h
            refine ⟨⟨[], [j], by simp⟩, fun vv hv => ?_⟩
            obtain ⟨a, rfl⟩ := hv.ref
            refine ee_v.inw h1 ?_
            unfold ee_aT
            rw [List.getElem?_map, h3, List.getElem?_append_right (Nat.le_refl _), Nat.sub_self]
            show some (as.getD j 0) = some a
            rw [List.getD_eq_getElem?_getD, hv.at h2]; rfl
          · rw [if_neg h3] at h
            by_cases h4 : m.2[k]? = some j
            · rw [if_pos h4] at h
              cases h
              refine ⟨ee_ml.rf _, fun vv hv => ?_⟩
              obtain ⟨a, rfl⟩ := hv.ref
              refine ee_v.inw h1 ?_
              unfold ee_aT
              rw [List.getElem?_map, h4]
              show some (as.getD j 0) = some a
              rw [List.getD_eq_getElem?_getD, hv.at h2]; rfl
            · rw [if_neg h4] at h; cases h
        · rw [if_neg h2] at h; cases h
      · rw [if_neg h1] at h
        by_cases h2 : k = j
        · rw [if_pos h2] at h
          cases h
          subst h2
          refine ⟨ee_ml.rf _, fun vv hv => ?_⟩
          obtain ⟨a, rfl⟩ := hv.ref
          rw [hv.out h1]
          exact ee_v.outs h1
        · rw [if_neg h2] at h; cases h
    · cases h
  | null =>
    unfold ee_m1 at h
    simp only at h
    split at h
    · cases h
      exact ⟨ee_ml.rf _, fun vv hv => hv⟩
    · cases h
  | long c =>
    unfold ee_m1 at h
    simp only at h
    by_cases e : v = .long c
    · rw [if_pos e] at h
      cases h
      subst e
      exact ⟨ee_ml.rf _, fun vv hv => hv⟩
    · rw [if_neg e] at h; cases h
  | double k =>
    unfold ee_m1 at h
    simp only at h
    by_cases e : k = 0
    · rw [if_pos e] at h
      by_cases e2 : ee_isl v = true
      · rw [if_pos e2] at h
        cases h
        refine ⟨ee_ml.rf _, fun vv hv => ?_⟩
        show if k = 0 then ∃ z, vv = .long z else vv = .long (Int64.ofNat (ex (3000000 + k.toNat)))
        rw [if_pos e]
        exact ee_isl.ok hv e2
      · rw [if_neg e2] at h; cases h
    · rw [if_neg e] at h
      by_cases e2 : v = .double k
      · rw [if_pos e2] at h
        cases h
        subst e2
        exact ⟨ee_ml.rf _, fun vv hv => hv⟩
      · rw [if_neg e2] at h; cases h
  | float q =>
    unfold ee_m1 at h
    simp only at h
    split at h
    · cases h
      refine ⟨ee_ml.rf _, fun vv hv => ?_⟩
      obtain ⟨a, rfl⟩ := hv.ref
      exact Or.inr ⟨a, rfl⟩
    · cases h
      refine ⟨ee_ml.rf _, fun vv hv => ?_⟩
      exact Or.inl hv
    · cases h
      exact ⟨ee_ml.rf _, fun vv hv => hv⟩
    · cases h
/-- values, one by one -/
def ee_ms (np : Nat) (iv : ee_iv) : List Value → List Value → ee_mq → Option ee_mq
  | [], [], m => some m
  | x :: l, v :: k, m => (match ee_m1 np iv x v m with
    | some m2 => ee_ms np iv l k m2
    | none => none)
  | _, _, _ => none
theorem ee_ms.ok {np : Nat} {ns : List Int32} {as : List Nat} {ex : Nat → Nat} {iv : ee_iv} (hk : ee_ok ns iv) (hn : np ≤ ns.length) : ∀ {l k : List Value} {m m2 : ee_mq}, ee_ms np iv l k m = some m2 → ee_ml m m2 ∧ ∀ vs, ee_all (ee_v ns as ex) k vs → ee_all (ee_v (ee_nT np ns m2.1) (ee_aT as m2.2) ex) l vs
  | [], [], m, m2, h => by
    cases h
    exact ⟨ee_ml.rf _, fun vs hv => by cases vs with
      | nil => trivial
      | cons _ _ => exact hv.elim⟩
  | x :: l, v :: k, m, m2, h => by
    unfold ee_ms at h
    cases h1 : ee_m1 np iv x v m with
    | none => rw [h1] at h; cases h
    | some m1 =>
      rw [h1] at h
      obtain ⟨g1, g2⟩ := ee_m1.ok (as := as) (ex := ex) hk hn h1
      obtain ⟨g3, g4⟩ := ee_ms.ok hk hn h
      refine ⟨g1.tr g3, fun vs hv => ?_⟩
      cases vs with
      | nil => exact hv.elim
      | cons u vs => exact ⟨g3.v (g2 u hv.1), g4 vs hv.2⟩
  | [], _ :: _, _, _, h => by cases h
  | _ :: _, [], _, _, h => by cases h
/-- named elements: each of the pattern's is named in the state -/
def ee_mo (np : Nat) (iv : ee_iv) (o2 : List (Nat × Value)) : List (Nat × Value) → ee_mq → Option ee_mq
  | [], m => some m
  | (j, x) :: l, m => (match o2.lookup j with
    | some v => (match ee_m1 np iv x v m with
      | some m2 => ee_mo np iv o2 l m2
      | none => none)
    | none => none)
theorem ee_mo.ok {np : Nat} {ns : List Int32} {as : List Nat} {ex : Nat → Nat} {iv : ee_iv} {o2 : List (Nat × Value)} (hk : ee_ok ns iv) (hn : np ≤ ns.length) : ∀ {l : List (Nat × Value)} {m m2 : ee_mq}, ee_mo np iv o2 l m = some m2 → ee_ml m m2 ∧ ∀ j x, l.lookup j = some x → ∃ v, o2.lookup j = some v ∧ ∀ vv, ee_v ns as ex v vv → ee_v (ee_nT np ns m2.1) (ee_aT as m2.2) ex x vv
  | [], m, m2, h => by
    cases h
    exact ⟨ee_ml.rf _, fun j x hx => by cases hx⟩
  | (i, y) :: l, m, m2, h => by
    unfold ee_mo at h
    cases h0 : o2.lookup i with
    | none => rw [h0] at h; cases h
    | some v =>
      rw [h0] at h
      simp only at h
      cases h1 : ee_m1 np iv y v m with
      | none => rw [h1] at h; cases h
      | some m1 =>
        rw [h1] at h
        obtain ⟨g1, g2⟩ := ee_m1.ok (as := as) (ex := ex) hk hn h1
        obtain ⟨g3, g4⟩ := ee_mo.ok (as := as) (ex := ex) hk hn h
        refine ⟨g1.tr g3, fun j x hx => ?_⟩
        rw [List.lookup_cons] at hx
        cases hb : j == i with
        | true =>
          rw [hb] at hx
          cases hx
          rw [show j = i by simpa using hb]
          exact ⟨v, h0, fun vv hv => g3.v (g2 vv hv)⟩
        | false =>
          rw [hb] at hx
          exact g4 j x hx
/-- the state's segments are within the pattern's -/
def ee_ss (n P2 : Nat) (sg2 : List (Nat × Int × Int)) : List (Nat × Int × Int) → Nat → Bool
  | [], st => decide (n ≤ st)
  | (u, lo, hi) :: r, st => (if P2 = 0 then ee_wk sg2 0 (st : Int) ((u : Int) - 1) lo hi else ee_wk sg2 0 0 ((P2 : Int) - 1) lo hi) && ee_ss n P2 sg2 r u
theorem ee_ss.ok {n P2 : Nat} {sg2 : List (Nat × Int × Int)} {z : Int32} {j : Nat} (hj : j < n) : ∀ {sg : List (Nat × Int × Int)} {st : Nat}, st ≤ j → ee_ss n P2 sg2 sg st = true → ee_bd (ee_sg1 sg j) z.toInt → ee_bd (ee_sg1 sg2 (ee_rj P2 j)) z.toInt
  | [], st, hs, h, _ => by
    have := of_decide_eq_true (show decide (n ≤ st) = true from h)
    omega
  | (u, lo, hi) :: r, st, hs, h, hb => by
    unfold ee_ss at h
    obtain ⟨h1, h2⟩ := ee_and h
    rw [ee_sg1_cons] at hb
    by_cases hu : j < u
    · rw [if_pos hu] at hb
      have hb : lo ≤ z.toInt ∧ z.toInt ≤ hi := hb
      by_cases hP : P2 = 0
      · subst hP
        rw [if_pos rfl] at h1
        exact ee_wk.ok (j := j) (by omega) (by omega) hb.1 hb.2 (Nat.zero_le _) h1
      · rw [if_neg hP] at h1
        have hm := Nat.mod_lt j (show 0 < P2 by omega)
        unfold ee_rj
        rw [if_neg hP]
        exact ee_wk.ok (j := j % P2) (by omega) (by omega) hb.1 hb.2 (Nat.zero_le _) h1
    · rw [if_neg hu] at hb
      exact ee_ss.ok hj (by omega) h2 hb
def ee_sgs (n P : Nat) (sg : List (Nat × Int × Int)) (P2 : Nat) (sg2 : List (Nat × Int × Int)) : Bool := decide (P = P2 ∧ sg = sg2) || (decide (P2 = 0) && ee_ss n P sg sg2 0)
theorem ee_sgs.ok {n P P2 : Nat} {sg sg2 : List (Nat × Int × Int)} {z : Int32} {j : Nat} (hj : j < n) (h : ee_sgs n P sg P2 sg2 = true) (hz : ee_sgp P2 sg2 j z) : ee_sgp P sg j z := by
  rcases (Bool.or_eq_true _ _).mp h with h | h
  · obtain ⟨rfl, rfl⟩ := of_decide_eq_true h
    exact hz
  · obtain ⟨h1, h2⟩ := ee_and h
    have h1 := of_decide_eq_true h1
    subst h1
    rw [ee_sgp_eq] at hz ⊢
    exact ee_ss.ok hj (Nat.zero_le _) h2 hz
theorem ee_it.ex {ns : List Int32} {as : List Nat} {ex : Nat → Nat} {iv : ee_iv} {v : Value} {q : Int × Int} (hk : ee_ok ns iv) (h : ee_it iv v = some q) : ∃ z : Int32, ee_v ns as ex v (.int z) := by
  cases v with
  | int c => exact ⟨c, rfl⟩
  | retAddr k =>
    simp only [ee_it] at h
    cases hq : ee_at1 iv k with
    | none => rw [hq] at h; cases h
    | some r =>
      obtain ⟨z, g1, -⟩ := ee_at1.ok hk hq
      exact ⟨z, z, g1, rfl⟩
  | _ => cases h
/-- the state's value of a pattern's value -/
def ee_xv (np : Nat) (σ : List Value) (x : Value) : Value := match x with
  | .int c => .int c
  | .retAddr k => if k < np then .retAddr k else σ.getD (k - np) .null
  | _ => .null
theorem ee_xv.ok {np : Nat} {ns : List Int32} {as : List Nat} {ex : Nat → Nat} {iv : ee_iv} {m : ee_mq} {x : Value} (hk : ee_ok ns iv) (hn : np ≤ ns.length) (h : (ee_it iv (ee_xv np m.1 x)).isSome = true) : ∃ z : Int32, ee_v ns as ex (ee_xv np m.1 x) (.int z) ∧ ee_v (ee_nT np ns m.1) (ee_aT as m.2) ex x (.int z) := by
  obtain ⟨q, hq⟩ := Option.isSome_iff_exists.mp h
  obtain ⟨z, hz⟩ := ee_it.ex (as := as) (ex := ex) hk hq
  refine ⟨z, hz, ?_⟩
  cases x with
  | int c => exact hz
  | retAddr k =>
    unfold ee_xv at hz
    simp only at hz
    by_cases h1 : k < np
    · rw [if_pos h1] at hz
      obtain ⟨y, g1, g2⟩ := hz
      exact ⟨y, by rw [ee_nT.lo h1 hn]; exact g1, g2⟩
    · rw [if_neg h1] at hz
      have e : k = np + (k - np) := by omega
      refine ⟨z, ?_, rfl⟩
      rw [e, ee_nT.hi hn]
      cases hs : m.1[k - np]? with
      | none =>
        rw [List.getD_eq_getElem?_getD, hs] at hz
        cases (show Value.int z = Value.null from hz)
      | some v =>
        rw [List.getD_eq_getElem?_getD, hs] at hz
        have hz : ee_v ns as ex v (.int z) := hz
        show some (ee_vl ns v) = some z
        rw [ee_vl.ok hz]
  | _ => cases hq
theorem ee_o2b {a b : Bool} (h : (a || b) = true) : a = true ∨ b = true := by
  cases a with
  | true => exact Or.inl rfl
  | false => exact Or.inr h
/-- the same number -/
def ee_q4s (iv : ee_iv) (u v : Value) : Bool := decide (u = v) || (match ee_cn iv u, ee_cn iv v with
  | some a, some b => decide (a = b)
  | _, _ => false)
theorem ee_q4s.ok {ns : List Int32} {as : List Nat} {ex : Nat → Nat} {iv : ee_iv} {u v : Value} {z y : Int32} (hk : ee_ok ns iv) (h : ee_q4s iv u v = true) (hu : ee_v ns as ex u (.int z)) (hv : ee_v ns as ex v (.int y)) : z = y := by
  unfold ee_q4s at h
  by_cases e : u = v
  · subst e
    exact (ee_vl.ok hu).symm.trans (ee_vl.ok hv)
  · rw [decide_eq_false e, Bool.false_or] at h
    cases ha : ee_cn iv u with
    | none => rw [ha] at h; cases h
    | some a =>
      cases hb : ee_cn iv v with
      | none => rw [ha, hb] at h; cases h
      | some b =>
        rw [ha, hb] at h
        have h : a = b := of_decide_eq_true h
        cases ee_cn.int hk hu ha
        cases ee_cn.int hk hv hb
        exact h
def ee_q4n (iv : ee_iv) (j : Int32) (s : Value) : Bool := match ee_cn iv s with
  | some c => decide (c ≠ j)
  | none => false
theorem ee_q4n.ok {ns : List Int32} {as : List Nat} {ex : Nat → Nat} {iv : ee_iv} {s : Value} {j y : Int32} (hk : ee_ok ns iv) (h : ee_q4n iv j s = true) (hs : ee_v ns as ex s (.int y)) : y ≠ j := by
  unfold ee_q4n at h
  cases hc : ee_cn iv s with
  | none => rw [hc] at h; cases h
  | some c =>
    rw [hc] at h
    cases ee_cn.int hk hs hc
    exact of_decide_eq_true h
def ee_q4i (iv : ee_iv) (j : Int32) (s : Value) : Bool := match ee_cn iv s with
  | some c => decide (c = j)
  | none => false
theorem ee_q4i.ok {ns : List Int32} {as : List Nat} {ex : Nat → Nat} {iv : ee_iv} {s : Value} {j y : Int32} (hk : ee_ok ns iv) (h : ee_q4i iv j s = true) (hs : ee_v ns as ex s (.int y)) : y = j := by
  unfold ee_q4i at h
  cases hc : ee_cn iv s with
  | none => rw [hc] at h; cases h
  | some c =>
    rw [hc] at h
    cases ee_cn.int hk hs hc
    exact of_decide_eq_true h
def ee_q4p (iv : ee_iv) (r : Int) (s : Value) : Bool := match ee_cn iv s with
  | some c => decide (c.toInt % 2 = r)
  | none => false
theorem ee_q4p.ok {ns : List Int32} {as : List Nat} {ex : Nat → Nat} {iv : ee_iv} {s : Value} {r : Int} {y : Int32} (hk : ee_ok ns iv) (h : ee_q4p iv r s = true) (hs : ee_v ns as ex s (.int y)) : y.toInt % 2 = r := by
  unfold ee_q4p at h
  cases hc : ee_cn iv s with
  | none => rw [hc] at h; cases h
  | some c =>
    rw [hc] at h
    cases ee_cn.int hk hs hc
    exact of_decide_eq_true h
/-- one bank's formula: what the pattern says follows from what the state says -/
def ee_t4 (iv : ee_iv) (j : Int32) (s1 s2 f e t s1' s2' f' e' t' : Value) : Bool := if ee_q4p iv 0 t = true then true else if (ee_q4n iv j s1 && ee_q4n iv j s2) = true then true else (ee_q4s iv f f' && ee_q4s iv e e') && ((ee_q4s iv t t' || ee_q4p iv 1 t') && (if (ee_q4i iv j s1' || ee_q4i iv j s2') = true then true else (ee_q4n iv j s1 || (ee_q4s iv s1 s1' || ee_q4s iv s1 s2')) && (ee_q4n iv j s2 || (ee_q4s iv s2 s1' || ee_q4s iv s2 s2'))))
theorem ee_t4.ok {ns : List Int32} {as : List Nat} {ex : Nat → Nat} {iv : ee_iv} {j : Int32} {s1 s2 f e t s1' s2' f' e' t' : Value} {z1 z2 a c d z1' z2' a' c' d' : Int32} (hk : ee_ok ns iv) (v1 : ee_v ns as ex s1 (.int z1)) (v2 : ee_v ns as ex s2 (.int z2)) (va : ee_v ns as ex f (.int a)) (vc : ee_v ns as ex e (.int c)) (vt : ee_v ns as ex t (.int d)) (v1' : ee_v ns as ex s1' (.int z1')) (v2' : ee_v ns as ex s2' (.int z2')) (va' : ee_v ns as ex f' (.int a')) (vc' : ee_v ns as ex e' (.int c')) (vt' : ee_v ns as ex t' (.int d')) (h : ee_t4 iv j s1 s2 f e t s1' s2' f' e' t' = true) {P : Int32 → Int32 → Prop} (hc : z1' = j ∨ z2' = j → d'.toInt % 2 = 1 → P a' c') : z1 = j ∨ z2 = j → d.toInt % 2 = 1 → P a c := by
  intro hz hd
  unfold ee_t4 at h
  by_cases h1 : ee_q4p iv 0 t = true
  · have := ee_q4p.ok hk h1 vt
    omega
  · rw [if_neg h1] at h
    by_cases h2 : (ee_q4n iv j s1 && ee_q4n iv j s2) = true
    · obtain ⟨g1, g2⟩ := ee_and h2
      rcases hz with hz | hz
      · exact absurd hz (ee_q4n.ok hk g1 v1)
      · exact absurd hz (ee_q4n.ok hk g2 v2)
    · rw [if_neg h2] at h
      obtain ⟨g1, g2⟩ := ee_and h
      obtain ⟨g3, g4⟩ := ee_and g1
      obtain ⟨g5, g6⟩ := ee_and g2
      rw [ee_q4s.ok hk g3 va va', ee_q4s.ok hk g4 vc vc']
      refine hc ?_ ?_
      · by_cases h3 : (ee_q4i iv j s1' || ee_q4i iv j s2') = true
        · rcases ee_o2b h3 with g | g
          · exact Or.inl (ee_q4i.ok hk g v1')
          · exact Or.inr (ee_q4i.ok hk g v2')
        · rw [if_neg h3] at g6
          obtain ⟨k1, k2⟩ := ee_and g6
          rcases hz with hz | hz
          · rcases ee_o2b k1 with k | k
            · exact absurd hz (ee_q4n.ok hk k v1)
            · rcases ee_o2b k with k | k
              · exact Or.inl ((ee_q4s.ok hk k v1 v1').symm.trans hz)
              · exact Or.inr ((ee_q4s.ok hk k v1 v2').symm.trans hz)
          · rcases ee_o2b k2 with k | k
            · exact absurd hz (ee_q4n.ok hk k v2)
            · rcases ee_o2b k with k | k
              · exact Or.inl ((ee_q4s.ok hk k v2 v1').symm.trans hz)
              · exact Or.inr ((ee_q4s.ok hk k v2 v2').symm.trans hz)
      · rcases ee_o2b g5 with g | g
        · rw [← ee_q4s.ok hk g vt vt']; exact hd
        · exact ee_q4p.ok hk g vt'
def ee_i4 (np : Nat) (iv : ee_iv) (σ : List Value) (x : Value) : Bool := (ee_it iv (ee_xv np σ x)).isSome
/-- the formulas' code: the pattern's T, the state's S -/
def ee_m4 (np : Nat) (iv : ee_iv) (m : ee_mq) (T S : List (Nat × Value)) : Bool := match T, S with
  | [(_, s1), (_, s2), (_, f0), (_, e0), (_, t0), (_, f1), (_, e1), (_, t1)], [(_, s1'), (_, s2'), (_, f0'), (_, e0'), (_, t0'), (_, f1'), (_, e1'), (_, t1')] => ee_i4 np iv m.1 s1 && (ee_i4 np iv m.1 s2 && (ee_i4 np iv m.1 f0 && (ee_i4 np iv m.1 e0 && (ee_i4 np iv m.1 t0 && (ee_i4 np iv m.1 f1 && (ee_i4 np iv m.1 e1 && (ee_i4 np iv m.1 t1 && (ee_t4 iv 0 (ee_xv np m.1 s1) (ee_xv np m.1 s2) (ee_xv np m.1 f0) (ee_xv np m.1 e0) (ee_xv np m.1 t0) s1' s2' f0' e0' t0' && ee_t4 iv 1 (ee_xv np m.1 s1) (ee_xv np m.1 s2) (ee_xv np m.1 f1) (ee_xv np m.1 e1) (ee_xv np m.1 t1) s1' s2' f1' e1' t1'))))))))
  | [(i, _), _], [(i2, _), _] => Nat.beq i i2
  | [], _ => true
  | [(i, _), _, (d, x), (_, v)], [(i2, _), _, (d2, x2), (_, v2)] => (Nat.beq i i2 && Nat.beq d d2) && ((ee_i4 np iv m.1 x && ee_i4 np iv m.1 v) && (ee_q4s iv (ee_xv np m.1 x) x2 && ee_q4s iv (ee_xv np m.1 v) v2))
  | _, _ => false
theorem ee_m4.ok {np : Nat} {ns : List Int32} {as : List Nat} {ex : Nat → Nat} {iv : ee_iv} {m : ee_mq} {T S : List (Nat × Value)} {f : Nat → Int32} (hk : ee_ok ns iv) (hn : np ≤ ns.length) (h : ee_m4 np iv m T S = true) (hq : ee_rq ns as ex S f) : ee_rq (ee_nT np ns m.1) (ee_aT as m.2) ex T f := by
  unfold ee_m4 at h
  split at h
  · obtain ⟨b1, h⟩ := ee_and h
    obtain ⟨b2, h⟩ := ee_and h
    obtain ⟨b3, h⟩ := ee_and h
    obtain ⟨b4, h⟩ := ee_and h
    obtain ⟨b5, h⟩ := ee_and h
    obtain ⟨b6, h⟩ := ee_and h
    obtain ⟨b7, h⟩ := ee_and h
    obtain ⟨b8, h⟩ := ee_and h
    obtain ⟨h0, h1⟩ := ee_and h
    obtain ⟨z1, v1, u1⟩ := ee_xv.ok (as := as) (ex := ex) hk hn b1
    obtain ⟨z2, v2, u2⟩ := ee_xv.ok (as := as) (ex := ex) hk hn b2
    obtain ⟨z3, v3, u3⟩ := ee_xv.ok (as := as) (ex := ex) hk hn b3
    obtain ⟨z4, v4, u4⟩ := ee_xv.ok (as := as) (ex := ex) hk hn b4
    obtain ⟨z5, v5, u5⟩ := ee_xv.ok (as := as) (ex := ex) hk hn b5
    obtain ⟨z6, v6, u6⟩ := ee_xv.ok (as := as) (ex := ex) hk hn b6
    obtain ⟨z7, v7, u7⟩ := ee_xv.ok (as := as) (ex := ex) hk hn b7
    obtain ⟨z8, v8, u8⟩ := ee_xv.ok (as := as) (ex := ex) hk hn b8
    obtain ⟨y1, y2, x0, c0, d0, x1, c1, d1, q1, q2, ⟨q3, q4, q5⟩, ⟨q6, q7, q8⟩, q9, q10⟩ := hq
    exact ⟨z1, z2, z3, z4, z5, z6, z7, z8, u1, u2, ⟨u3, u4, u5⟩, ⟨u6, u7, u8⟩, ee_t4.ok hk v1 v2 v3 v4 v5 q1 q2 q3 q4 q5 h0 (P := fun a c => ee_rp f a c ∧ c.toInt ≤ 560) q9, ee_t4.ok hk v1 v2 v6 v7 v8 q1 q2 q6 q7 q8 h1 (P := fun a c => ee_rp f a c ∧ 560 ≤ a.toInt) q10⟩
  · have e := Nat.eq_of_beq_eq_true h
    subst e
    exact hq
  · trivial
  · obtain ⟨h1, h2⟩ := ee_and h
    obtain ⟨h1, h3⟩ := ee_and h1
    obtain ⟨h2, h4⟩ := ee_and h2
    obtain ⟨b1, b2⟩ := ee_and h2
    obtain ⟨s1, s2⟩ := ee_and h4
    have e1 := Nat.eq_of_beq_eq_true h1
    have e2 := Nat.eq_of_beq_eq_true h3
    subst e1
    subst e2
    obtain ⟨z1, v1, u1⟩ := ee_xv.ok (as := as) (ex := ex) hk hn b1
    obtain ⟨z2, v2, u2⟩ := ee_xv.ok (as := as) (ex := ex) hk hn b2
    obtain ⟨z, y, q1, q2, q3⟩ := hq
    have k1 := ee_q4s.ok hk s1 v1 q1
    have k2 := ee_q4s.ok hk s2 v2 q2
    subst k1
    subst k2
    exact ⟨_, _, u1, u2, q3⟩
  · cases h
/-- one cell: the pattern's x, the state's y -/
def ee_mc (np : Nat) (iv : ee_iv) (x y : ee_cell) (m : ee_mq) : Option ee_mq := match x, y with
  | .inl (ci, fs), .inl (cj, gs) => if ci = cj then ee_ms np iv fs gs m else none
  | .inr (t, n, P, sg, ov), .inr (t2, n2, P2, sg2, ov2) => if t = t2 ∧ n = n2 then (if t = 3 then some m else if t = 4 then (if ee_m4 np iv m ov ov2 = true then some m else none) else if ee_sgs n P sg P2 sg2 = true ∧ ov2.all (ee_ent iv sg P) = true then ee_mo np iv ov2 ov m else none) else none
  | _, _ => none
theorem ee_mc.ok {np : Nat} {ns : List Int32} {as : List Nat} {ex : Nat → Nat} {dA : Nat → ClassId} {iv : ee_iv} {x y : ee_cell} {m m2 : ee_mq} (hk : ee_ok ns iv) (hn : np ≤ ns.length) (h : ee_mc np iv x y m = some m2) : ee_ml m m2 ∧ ∀ e, ee_c ns as ex dA y e → ee_c (ee_nT np ns m2.1) (ee_aT as m2.2) ex dA x e := by
  match x, y, h with
  | .inl (ci, fs), .inl (cj, gs), h =>
    unfold ee_mc at h
    simp only at h
    by_cases e : ci = cj
    · rw [if_pos e] at h
      subst e
      obtain ⟨g1, g2⟩ := ee_ms.ok (as := as) (ex := ex) hk hn h
      refine ⟨g1, fun e he => ?_⟩
      obtain ⟨vs, h1, h2⟩ := he
      exact ⟨vs, h1, g2 vs h2⟩
    · rw [if_neg e] at h; cases h
  | .inr (t, n, P, sg, ov), .inr (t2, n2, P2, sg2, ov2), h =>
    unfold ee_mc at h
    simp only at h
    by_cases e : t = t2 ∧ n = n2
    · rw [if_pos e] at h
      obtain ⟨rfl, rfl⟩ := e
      by_cases h3 : t = 3
      · rw [if_pos h3] at h
        cases h
        subst h3
        refine ⟨ee_ml.rf _, fun e he => ?_⟩
        obtain ⟨f, rfl⟩ := he.lngs
        exact ee_c.mkl
      · rw [if_neg h3] at h
        by_cases h4 : t = 4
        · rw [if_pos h4] at h
          subst h4
          by_cases h7 : ee_m4 np iv m ov ov2 = true
          · rw [if_pos h7] at h
            cases h
            refine ⟨ee_ml.rf _, fun e he => ?_⟩
            unfold ee_c at he ⊢
            simp only [show ¬ (4 : Nat) = 3 by decide, if_false, if_true] at he ⊢
            obtain ⟨f, rfl, he⟩ := he
            exact ⟨f, rfl, ee_m4.ok hk hn h7 he⟩
          · rw [if_neg h7] at h; cases h
        · rw [if_neg h4] at h
          by_cases h5 : ee_sgs n P sg P2 sg2 = true ∧ ov2.all (ee_ent iv sg P) = true
          · rw [if_pos h5] at h
            obtain ⟨g1, g2⟩ := ee_mo.ok (as := as) (ex := ex) hk hn h
            refine ⟨g1, fun e he => ?_⟩
            have ht : t < 3 := by
              unfold ee_c at he
              simp only [h3, h4, if_false] at he
              exact he.1
            obtain ⟨f, rfl, hf⟩ := he.ints ht
            refine ee_c.mk ht (fun j hj => ?_)
            have hel := hf j hj
            unfold ee_el at hel ⊢
            cases hl : ov.lookup j with
            | some x =>
              obtain ⟨v, e1, e2⟩ := g2 j x hl
              rw [e1] at hel
              exact e2 _ hel
            | none =>
              simp only
              cases hl2 : ov2.lookup j with
              | some v =>
                rw [hl2] at hel
                exact ee_ent.ok hk (List.all_eq_true.mp h5.2 (j, v) (ee_mem_lookup hl2)) hel
              | none =>
                rw [hl2] at hel
                exact ee_sgs.ok hj h5.1 hel
          · rw [if_neg h5] at h; cases h
    · rw [if_neg e] at h; cases h
  | .inl _, .inr _, h => unfold ee_mc at h; cases h
  | .inr _, .inl _, h => unfold ee_mc at h; cases h
/-- the cells of the pattern, each found by its place -/
def ee_mw (np : Nat) (iv : ee_iv) (w : ee_w) : ee_w → Nat → ee_mq → Option ee_mq
  | [], _, m => some m
  | x :: l, i, m => (match m.2[i]? with
    | some j => (match w[j]? with
      | some y => (match ee_mc np iv x y m with
        | some m2 => ee_mw np iv w l (i + 1) m2
        | none => none)
      | none => none)
    | none => none)
def ee_wd0 : Nat × va_E := (0, .inr (0, []))
def ee_wT (ws : va_W) (ρ : List Nat) : va_W := ρ.map (fun j => ws.getD j ee_wd0)
theorem ee_mw.ok {np : Nat} {ns : List Int32} {as : List Nat} {ex : Nat → Nat} {dA : Nat → ClassId} {iv : ee_iv} {w : ee_w} {ws : va_W} (hk : ee_ok ns iv) (hn : np ≤ ns.length) (hw : ee_wr ns as ex dA w ws) : ∀ {l : ee_w} {i : Nat} {m m2 : ee_mq}, ee_mw np iv w l i m = some m2 → ee_ml m m2 ∧ i + l.length ≤ m2.2.length + (if l.length = 0 then i else 0) ∧ ∀ k x, l[k]? = some x → ∃ j, m2.2[i + k]? = some j ∧ j < ws.length ∧ ee_c (ee_nT np ns m2.1) (ee_aT as m2.2) ex dA x (ws.getD j ee_wd0).2
  | [], i, m, m2, h => by
    cases h
    exact ⟨ee_ml.rf _, by simp, fun k x hx => by simp at hx⟩
  | x :: l, i, m, m2, h => by
    unfold ee_mw at h
    cases h0 : m.2[i]? with
    | none => rw [h0] at h; cases h
    | some j =>
      rw [h0] at h
      simp only at h
      cases h1 : w[j]? with
      | none => rw [h1] at h; cases h
      | some y =>
        rw [h1] at h
        simp only at h
        cases h2 : ee_mc np iv x y m with
        | none => rw [h2] at h; cases h
        | some m1 =>
          rw [h2] at h
          obtain ⟨g1, g2⟩ := ee_mc.ok (as := as) (ex := ex) (dA := dA) hk hn h2
          obtain ⟨g3, g4, g5⟩ := ee_mw.ok hk hn hw h
          obtain ⟨b, hb1, hb2⟩ := hw.2.get h1
          have hjl : j < ws.length := (List.getElem?_eq_some_iff.mp hb1).1
          have hat : m2.2[i]? = some j := by
            obtain ⟨s, r, e⟩ := g1.tr g3
            rw [e]
            exact ee_get_app h0
          refine ⟨g1.tr g3, ?_, fun k x' hx => ?_⟩
          · have : i < m2.2.length := (List.getElem?_eq_some_iff.mp hat).1
            rw [List.length_cons, if_neg (by omega)]
            by_cases hl : l.length = 0
            · rw [hl]; omega
            · rw [if_neg hl] at g4; omega
          · cases k with
            | zero =>
              rw [List.getElem?_cons_zero] at hx
              cases hx
              refine ⟨j, hat, hjl, g3.c (g2 _ ?_)⟩
              rw [List.getD_eq_getElem?_getD, hb1]
              exact hb2
            | succ k =>
              rw [List.getElem?_cons_succ] at hx
              obtain ⟨j', f1, f2, f3⟩ := g5 k x' hx
              exact ⟨j', by rw [show i + (k + 1) = i + 1 + k by omega]; exact f1, f2, f3⟩
/-- all cells at once -/
theorem ee_mw.all {np : Nat} {ns : List Int32} {as : List Nat} {ex : Nat → Nat} {dA : Nat → ClassId} {iv : ee_iv} {w wT : ee_w} {ws : va_W} {m m2 : ee_mq} (hk : ee_ok ns iv) (hn : np ≤ ns.length) (hw : ee_wr ns as ex dA w ws) (h : ee_mw np iv w wT 0 m = some m2) {m3 : ee_mq} (h3 : ee_ml m2 m3) (hl : m3.2.length = wT.length) : ee_wr (ee_nT np ns m3.1) (ee_aT as m3.2) ex dA wT (ee_wT ws m3.2) ∧ ∀ j ∈ m3.2, j < ws.length := by
  obtain ⟨g1, g2, g3⟩ := ee_mw.ok (as := as) (ex := ex) hk hn hw h
  have hlt : ∀ j ∈ m3.2, j < ws.length := by
    intro j hj
    obtain ⟨i, hi⟩ := List.getElem?_of_mem hj
    have hil : i < wT.length := by rw [← hl]; exact (List.getElem?_eq_some_iff.mp hi).1
    obtain ⟨j', f1, f2, -⟩ := g3 i wT[i] (List.getElem?_eq_getElem hil)
    rw [Nat.zero_add] at f1
    obtain ⟨s, r, e⟩ := h3
    rw [e] at hi
    have := ee_get_app (r := r) f1
    rw [show (m2.2 ++ r)[i]? = some j from hi] at this
    cases this
    exact f2
  refine ⟨⟨?_, ?_⟩, hlt⟩
  · unfold ee_aT ee_wT
    rw [List.map_map]
    apply List.map_congr_left
    intro j hj
    have := hlt j hj
    show as.getD j 0 = (ws.getD j ee_wd0).1
    rw [hw.1, List.getD_eq_getElem?_getD, List.getD_eq_getElem?_getD, List.getElem?_map, List.getElem?_eq_getElem this]
    rfl
  · have key : ∀ (l : ee_w) (q : va_W), l.length = q.length → (∀ (k : Nat) (x : ee_cell) (b : Nat × va_E), l[k]? = some x → q[k]? = some b → ee_c (ee_nT np ns m3.1) (ee_aT as m3.2) ex dA x b.2) → ee_all (fun (x : ee_cell) (b : Nat × va_E) => ee_c (ee_nT np ns m3.1) (ee_aT as m3.2) ex dA x b.2) l q := by
      intro l
      induction l with
      | nil => intro q hq _; cases q with
        | nil => trivial
        | cons _ _ => cases hq
      | cons x l ih => intro q hq hc; cases q with
        | nil => cases hq
        | cons b q => exact ⟨hc 0 x b rfl rfl, ih q (by simpa using hq) (fun k x' b' h1 h2 => hc (k + 1) x' b' (by rw [List.getElem?_cons_succ]; exact h1) (by rw [List.getElem?_cons_succ]; exact h2))⟩
    refine key _ _ (by unfold ee_wT; rw [List.length_map]; exact hl.symm) (fun k x b h1 h2 => ?_)
    obtain ⟨j, f1, f2, f3⟩ := g3 k x h1
    rw [Nat.zero_add] at f1
    obtain ⟨s, r, e⟩ := id h3
    have f4 : m3.2[k]? = some j := by rw [e]; exact ee_get_app f1
    unfold ee_wT at h2
    rw [List.getElem?_map, f4] at h2
    cases h2
    exact h3.c f3
