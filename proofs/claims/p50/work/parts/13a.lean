/-! a formula's pile and its code: the numbers -/
def ee_c37 (w : Nat → Int32) : Nat → Nat
  | 0 => 0
  | n + 1 => ee_c37 w n + (if w n = 3 ∨ w n = 7 then 1 else 0)
def ee_bn (g : Nat → Int32) : Nat → Nat
  | 0 => 0
  | n + 1 => ee_bn g n + (if n = 0 ∨ g n = 126 then 0 else 1)
theorem ee_c37.cong {w w' : Nat → Int32} : ∀ {n : Nat}, (∀ j, j < n → w' j = w j) → ee_c37 w' n = ee_c37 w n
  | 0, _ => rfl
  | n + 1, h => by
    show ee_c37 w' n + (if w' n = 3 ∨ w' n = 7 then 1 else 0) = ee_c37 w n + (if w n = 3 ∨ w n = 7 then 1 else 0)
    rw [ee_c37.cong (n := n) (fun j hj => h j (by omega)), h n (by omega)]
theorem ee_bn.cong {w w' : Nat → Int32} : ∀ {n : Nat}, (∀ j, j < n → w' j = w j) → ee_bn w' n = ee_bn w n
  | 0, _ => rfl
  | n + 1, h => by
    show ee_bn w' n + (if n = 0 ∨ w' n = 126 then 0 else 1) = ee_bn w n + (if n = 0 ∨ w n = 126 then 0 else 1)
    rw [ee_bn.cong (n := n) (fun j hj => h j (by omega)), h n (by omega)]
theorem ee_rw.cong {f f' : Nat → Int32} : ∀ {n a h : Nat}, (∀ j, a ≤ j → j < a + n → f' j = f j) → ee_rw f' a n h = ee_rw f a n h
  | 0, a, h, _ => rfl
  | n + 1, a, h, H => by
    show (match ee_rs (f' a) h with
      | some h' => ee_rw f' (a + 1) n h'
      | none => none) = (match ee_rs (f a) h with
      | some h' => ee_rw f (a + 1) n h'
      | none => none)
    rw [H a (by omega) (by omega)]
    cases ee_rs (f a) h with
    | none => rfl
    | some x => exact ee_rw.cong (fun j h1 h2 => H j (by omega) (by omega))
theorem ee_rw.snoc {f : Nat → Int32} : ∀ {n a h h1 h2 : Nat}, ee_rw f a n h = some h1 → ee_rs (f (a + n)) h1 = some h2 → ee_rw f a (n + 1) h = some h2
  | 0, a, h, h1, h2, e1, e2 => by
    have e1 : h = h1 := Option.some.inj e1
    subst e1
    show (match ee_rs (f a) h with
      | some h' => ee_rw f (a + 1) 0 h'
      | none => none) = some h2
    rw [show ee_rs (f a) h = some h2 from e2]
    rfl
  | n + 1, a, h, h1, h2, e1, e2 => by
    have e1 : (match ee_rs (f a) h with
      | some h' => ee_rw f (a + 1) n h'
      | none => none) = some h1 := e1
    show (match ee_rs (f a) h with
      | some h' => ee_rw f (a + 1) (n + 1) h'
      | none => none) = some h2
    cases hs : ee_rs (f a) h with
    | none => rw [hs] at e1; cases e1
    | some x =>
      rw [hs] at e1
      exact ee_rw.snoc e1 (by rw [show a + 1 + n = a + (n + 1) by omega]; exact e2)
/-- b: the bank; wn: a unit is wanted; c0: the code at the start; P: piled; C: codes; U: units; wi: within; the arrays eWhat, eSign, code -/
def ee_EI (b : Nat) (wn : Bool) (c0 : Nat → Int32) (P C U wi : Int) (w g c : Nat → Int32) : Prop :=
  (1 ≤ P ∧ w 0 = 8 ∧ (ee_c37 w P.toNat : Int) = wi ∧ wi ≤ 7 ∧ 0 ≤ U ∧ U ≤ 30 ∧ 560 * (b : Int) ≤ C) ∧
  (P - 1 - wi ≤ U - (if wn = true then 0 else 1) ∧ C - 560 * (b : Int) + P ≤ 9 * U + (if wn = true then 1 + wi else 0)) ∧
  (∃ h : Nat, ((ee_bn g P.toNat : Int) + (if wn = true then 0 else 1) ≤ (h : Int) ∧ (h : Int) + (ee_bn g P.toNat : Int) ≤ 2 * U - (if wn = true then 0 else 1)) ∧ ee_rw c (560 * b) (C - 560 * (b : Int)).toNat 0 = some h) ∧
  ∀ j, j < 2000 → (j < 560 * b ∨ 560 * b + 280 ≤ j) → c j = c0 j
/-- the code alone -/
def ee_EU (b : Nat) (c0 : Nat → Int32) (C : Int) (c : Nat → Int32) : Prop := 560 * (b : Int) ≤ C ∧ C ≤ 560 * (b : Int) + 280 ∧ ∀ j, j < 2000 → (j < 560 * b ∨ 560 * b + 280 ≤ j) → c j = c0 j
theorem ee_EI.bnd {b : Nat} {wn : Bool} {c0 : Nat → Int32} {P C U wi : Int} {w g c : Nat → Int32} (h : ee_EI b wn c0 P C U wi w g c) : 1 ≤ P ∧ P ≤ 38 ∧ 0 ≤ wi ∧ wi ≤ 7 ∧ 0 ≤ U ∧ U ≤ 30 ∧ 560 * (b : Int) ≤ C ∧ C ≤ 560 * (b : Int) + 277 := by
  obtain ⟨⟨p1, p2, p3, p4, p5, p6, p7⟩, ⟨q1, q2⟩, -⟩ := h
  cases wn <;> simp only [if_true, if_false, Bool.false_eq_true] at q1 q2 <;> omega
theorem ee_EI.un {b : Nat} {wn : Bool} {c0 : Nat → Int32} {P C U wi : Int} {w g c : Nat → Int32} (h : ee_EI b wn c0 P C U wi w g c) : ee_EU b c0 C c := by
  have := h.bnd
  exact ⟨by omega, by omega, h.2.2.2⟩
theorem ee_EI.letter {b : Nat} {c0 : Nat → Int32} {P C U wi C' U' : Int} {w g c c' : Nat → Int32} (h : ee_EI b true c0 P C U wi w g c) (hb : b ≤ 1) {x : Int32} (hx : 97 ≤ x.toInt ∧ x.toInt ≤ 122) (hU : U' = U + 1) (hU2 : U' ≤ 30) (hC : C' = C + 1) (h1 : c' C.toNat = x) (h2 : ∀ j, j < 2000 → j ≠ C.toNat → c' j = c j) : ee_EI b false c0 P C' U' wi w g c' := by
  subst hU
  subst hC
  have hB := h.bnd
  obtain ⟨⟨p1, p2, p3, p4, p5, p6, p7⟩, ⟨q1, q2⟩, ⟨hh, ⟨r1, r2⟩, r3⟩, s⟩ := h
  simp only [if_true] at q1 q2 r1 r2
  refine ⟨⟨p1, p2, p3, p4, by omega, hU2, by omega⟩, ⟨?_, ?_⟩, ⟨hh + 1, ⟨?_, ?_⟩, ?_⟩, fun j hj hr => ?_⟩
  · simp only [Bool.false_eq_true, if_false]; omega
  · simp only [Bool.false_eq_true, if_false]; omega
  · simp only [Bool.false_eq_true, if_false]; omega
  · simp only [Bool.false_eq_true, if_false]; omega
  · rw [show (C + 1 - 560 * (b : Int)).toNat = (C - 560 * (b : Int)).toNat + 1 by omega]
    refine ee_rw.snoc (h1 := hh) ?_ ?_
    · rw [ee_rw.cong (f := c) (fun j j1 j2 => h2 j (by omega) (by omega))]
      exact r3
    · rw [show 560 * b + (C - 560 * (b : Int)).toNat = C.toNat by omega, h1]
      unfold ee_rs
      rw [if_neg (fun e => by rw [e] at hx; exact absurd hx.2 (by decide)), if_pos hx, if_pos (by omega)]
  · rw [h2 j hj (by omega)]
    exact s j hj hr
theorem ee_EI.up {b : Nat} {c0 : Nat → Int32} {P C U wi P' U' wi' : Int} {w g c w' g' : Nat → Int32} (h : ee_EI b true c0 P C U wi w g c) {x : Int32} (hx : x = 3 ∨ x = 7) (hP : P' = P + 1) (hU : U ≤ U') (hU2 : U' ≤ 30) (hwi : wi' = wi + 1) (hwi2 : wi' ≤ 7) (hw1 : w' P.toNat = x) (hw2 : ∀ j, j < 2000 → j ≠ P.toNat → w' j = w j) (hg1 : g' P.toNat = 126) (hg2 : ∀ j, j < 2000 → j ≠ P.toNat → g' j = g j) : ee_EI b true c0 P' C U' wi' w' g' c := by
  subst hP
  subst hwi
  have hB := h.bnd
  obtain ⟨⟨p1, p2, p3, p4, p5, p6, p7⟩, ⟨q1, q2⟩, ⟨hh, ⟨r1, r2⟩, r3⟩, s⟩ := h
  simp only [if_true] at q1 q2 r1 r2
  have e : (P + 1).toNat = P.toNat + 1 := by omega
  have k1 : ee_c37 w' (P + 1).toNat = ee_c37 w P.toNat + 1 := by
    rw [e]
    show ee_c37 w' P.toNat + (if w' P.toNat = 3 ∨ w' P.toNat = 7 then 1 else 0) = _
    rw [ee_c37.cong (fun j hj => hw2 j (by omega) (by omega)), hw1, if_pos hx]
  have k2 : ee_bn g' (P + 1).toNat = ee_bn g P.toNat := by
    rw [e]
    show ee_bn g' P.toNat + (if P.toNat = 0 ∨ g' P.toNat = 126 then 0 else 1) = _
    rw [ee_bn.cong (fun j hj => hg2 j (by omega) (by omega)), if_pos (Or.inr hg1)]
    rfl
  refine ⟨⟨by omega, by rw [hw2 0 (by omega) (by omega)]; exact p2, by rw [k1]; omega, hwi2, by omega, hU2, p7⟩, ⟨?_, ?_⟩, ⟨hh, ⟨?_, ?_⟩, r3⟩, s⟩
  · simp only [if_true]; omega
  · simp only [if_true]; omega
  · simp only [if_true]; omega
  · simp only [if_true]; omega
theorem ee_EI.pop {b : Nat} {c0 : Nat → Int32} {P C U wi P' C' wi' : Int} {w g c c' : Nat → Int32} (h : ee_EI b false c0 P C U wi w g c) (hb : b ≤ 1) {T S : Int32} (hT : w (P - 1).toNat = T) (hT6 : T.toInt ≤ 6) (hS : g (P - 1).toNat = S) (hP : P' = P - 1) (hC : C' = C + 1) (hwi : wi' = if T = 3 then wi - 1 else wi) (h1 : c' C.toNat = S) (h2 : ∀ j, j < 2000 → j ≠ C.toNat → c' j = c j) : ee_EI b false c0 P' C' U wi' w g c' := by
  have hB := h.bnd
  obtain ⟨⟨p1, p2, p3, p4, p5, p6, p7⟩, ⟨q1, q2⟩, ⟨hh, ⟨r1, r2⟩, r3⟩, s⟩ := h
  simp only [Bool.false_eq_true, if_false] at q1 q2 r1 r2
  have hP2 : 2 ≤ P := by
    by_cases hc : P = 1
    · exfalso
      rw [hc] at hT
      rw [show (1 - 1 : Int).toNat = 0 from rfl, p2] at hT
      rw [← hT] at hT6
      exact absurd hT6 (by decide)
    · omega
  have hT7 : T ≠ 7 := fun e => by rw [e] at hT6; exact absurd hT6 (by decide)
  have e : P.toNat = (P - 1).toNat + 1 := by omega
  have k1 : ee_c37 w P.toNat = ee_c37 w (P - 1).toNat + (if T = 3 then 1 else 0) := by
    rw [e]
    show ee_c37 w (P - 1).toNat + (if w (P - 1).toNat = 3 ∨ w (P - 1).toNat = 7 then 1 else 0) = _
    rw [hT]
    by_cases h3 : T = 3
    · rw [if_pos (Or.inl h3), if_pos h3]
    · rw [if_neg (fun o => o.elim h3 hT7), if_neg h3]
  have k2 : ee_bn g P.toNat = ee_bn g (P - 1).toNat + (if S = 126 then 0 else 1) := by
    rw [e]
    show ee_bn g (P - 1).toNat + (if (P - 1).toNat = 0 ∨ g (P - 1).toNat = 126 then 0 else 1) = _
    rw [hS]
    by_cases h3 : S = 126
    · rw [if_pos (Or.inr h3), if_pos h3]
    · rw [if_neg (fun o => o.elim (by omega) h3), if_neg h3]
  have hw3 : wi' = (ee_c37 w (P - 1).toNat : Int) := by
    rw [hwi]
    by_cases h3 : T = 3
    · rw [if_pos h3] at k1 ⊢; omega
    · rw [if_neg h3] at k1 ⊢; omega
  have hw4 : wi' ≤ wi ∧ wi - 1 ≤ wi' := by
    rw [hwi]
    by_cases h3 : T = 3
    · rw [if_pos h3]; omega
    · rw [if_neg h3]; omega
  have hw5 : T ≠ 3 → wi' = wi := fun h3 => by rw [hwi, if_neg h3]
  subst hP
  subst hC
  have hrw : ∀ h2', ee_rs S hh = some h2' → ee_rw c' (560 * b) (C + 1 - 560 * (b : Int)).toNat 0 = some h2' := fun h2' hs => by
    rw [show (C + 1 - 560 * (b : Int)).toNat = (C - 560 * (b : Int)).toNat + 1 by omega]
    refine ee_rw.snoc (h1 := hh) ?_ ?_
    · rw [ee_rw.cong (f := c) (fun j j1 j2 => h2 j (by omega) (by omega))]
      exact r3
    · rw [show 560 * b + (C - 560 * (b : Int)).toNat = C.toNat by omega, h1]
      exact hs
  have q3 : P - 1 - 1 - wi' ≤ U - 1 := by
    by_cases h3 : T = 3
    · omega
    · rw [hw5 h3]; omega
  refine ⟨⟨by omega, p2, hw3.symm, by omega, p5, p6, by omega⟩, ⟨?_, ?_⟩, ?_, fun j hj hr => ?_⟩
  · simp only [Bool.false_eq_true, if_false]; omega
  · simp only [Bool.false_eq_true, if_false]; omega
  · simp only [Bool.false_eq_true, if_false]
    unfold ee_rs at hrw
    by_cases hS1 : S = 126
    · rw [if_pos hS1] at k2
      refine ⟨hh, ⟨by omega, by omega⟩, hrw hh ?_⟩
      rw [if_pos hS1, if_pos (by omega)]
    · rw [if_neg hS1] at k2
      by_cases hS2 : 97 ≤ S.toInt ∧ S.toInt ≤ 122
      · refine ⟨hh + 1, ⟨by omega, by omega⟩, hrw (hh + 1) ?_⟩
        rw [if_neg hS1, if_pos hS2, if_pos (by omega)]
      · refine ⟨hh - 1, ⟨by omega, by omega⟩, hrw (hh - 1) ?_⟩
        rw [if_neg hS1, if_neg hS2, if_pos (by omega)]
  · rw [h2 j hj (by omega)]
    exact s j hj hr
theorem ee_EI.bin {b : Nat} {c0 : Nat → Int32} {P C U wi P' : Int} {w g c w' g' : Nat → Int32} (h : ee_EI b false c0 P C U wi w g c) {x : Int32} (h3 : x ≠ 3) (h7 : x ≠ 7) (hP : P' = P + 1) (hw1 : w' P.toNat = x) (hw2 : ∀ j, j < 2000 → j ≠ P.toNat → w' j = w j) (hg2 : ∀ j, j < 2000 → j ≠ P.toNat → g' j = g j) : ee_EI b true c0 P' C U wi w' g' c := by
  subst hP
  have hB := h.bnd
  obtain ⟨⟨p1, p2, p3, p4, p5, p6, p7⟩, ⟨q1, q2⟩, ⟨hh, ⟨r1, r2⟩, r3⟩, s⟩ := h
  simp only [Bool.false_eq_true, if_false] at q1 q2 r1 r2
  have e : (P + 1).toNat = P.toNat + 1 := by omega
  have k1 : ee_c37 w' (P + 1).toNat = ee_c37 w P.toNat := by
    rw [e]
    show ee_c37 w' P.toNat + (if w' P.toNat = 3 ∨ w' P.toNat = 7 then 1 else 0) = _
    rw [ee_c37.cong (fun j hj => hw2 j (by omega) (by omega)), hw1, if_neg (fun o => o.elim h3 h7)]
    rfl
  have k2 : ee_bn g' (P + 1).toNat ≤ ee_bn g P.toNat + 1 := by
    rw [e]
    show ee_bn g' P.toNat + (if P.toNat = 0 ∨ g' P.toNat = 126 then 0 else 1) ≤ _
    rw [ee_bn.cong (fun j hj => hg2 j (by omega) (by omega))]
    split <;> omega
  refine ⟨⟨by omega, by rw [hw2 0 (by omega) (by omega)]; exact p2, by rw [k1]; exact p3, p4, p5, p6, p7⟩, ⟨?_, ?_⟩, ⟨hh, ⟨?_, ?_⟩, r3⟩, s⟩
  · simp only [if_true]; omega
  · simp only [if_true]; omega
  · simp only [if_true]; omega
  · simp only [if_true]; omega
theorem ee_EI.drop {b : Nat} {c0 : Nat → Int32} {P C U wi P' wi' : Int} {w g c : Nat → Int32} (h : ee_EI b false c0 P C U wi w g c) {T : Int32} (hT : w (P - 1).toNat = T) (h3 : T ≠ 3) (hP : P' = P - 1) (hwi : wi' = if T = 7 then wi - 1 else wi) (h2 : 2 ≤ P) : ee_EI b false c0 P' C U wi' w g c := by
  have hB := h.bnd
  obtain ⟨⟨p1, p2, p3, p4, p5, p6, p7⟩, ⟨q1, q2⟩, ⟨hh, ⟨r1, r2⟩, r3⟩, s⟩ := h
  simp only [Bool.false_eq_true, if_false] at q1 q2 r1 r2
  have e : P.toNat = (P - 1).toNat + 1 := by omega
  have k1 : ee_c37 w P.toNat = ee_c37 w (P - 1).toNat + (if T = 7 then 1 else 0) := by
    rw [e]
    show ee_c37 w (P - 1).toNat + (if w (P - 1).toNat = 3 ∨ w (P - 1).toNat = 7 then 1 else 0) = _
    rw [hT]
    by_cases h7 : T = 7
    · rw [if_pos (Or.inr h7), if_pos h7]
    · rw [if_neg (fun o => o.elim h3 h7), if_neg h7]
  have k2 : ee_bn g (P - 1).toNat ≤ ee_bn g P.toNat := by
    rw [e]
    show _ ≤ ee_bn g (P - 1).toNat + (if (P - 1).toNat = 0 ∨ g (P - 1).toNat = 126 then 0 else 1)
    omega
  have hw3 : wi' = (ee_c37 w (P - 1).toNat : Int) ∧ P - 1 - 1 - wi' ≤ U - 1 ∧ wi' ≤ 7 := by
    rw [hwi]
    by_cases h7 : T = 7
    · rw [if_pos h7] at k1 ⊢; omega
    · rw [if_neg h7] at k1 ⊢; omega
  subst hP
  refine ⟨⟨by omega, p2, hw3.1.symm, hw3.2.2, p5, p6, p7⟩, ⟨?_, ?_⟩, ⟨hh, ⟨?_, ?_⟩, r3⟩, s⟩
  · simp only [Bool.false_eq_true, if_false]; exact hw3.2.1
  · simp only [Bool.false_eq_true, if_false]; omega
  · simp only [Bool.false_eq_true, if_false]; omega
  · simp only [Bool.false_eq_true, if_false]; omega
/-- the start -/
theorem ee_EI.start {b : Nat} {c : Nat → Int32} {w g : Nat → Int32} (hw : w 0 = 8) : ee_EI b true c 1 (560 * (b : Int)) 0 0 w g c := by
  have k1 : ee_c37 w (1 : Int).toNat = 0 := by
    show 0 + (if w 0 = 3 ∨ w 0 = 7 then 1 else 0) = 0
    rw [hw]; decide
  refine ⟨⟨by omega, hw, by rw [k1]; rfl, by omega, by omega, by omega, by omega⟩, ⟨by simp, by simp⟩, ⟨0, ⟨?_, ?_⟩, ?_⟩, fun _ _ _ => rfl⟩
  · show ((0 + (if (0 : Nat) = 0 ∨ g 0 = 126 then 0 else 1) : Nat) : Int) + _ ≤ _
    simp
  · show _ + ((0 + (if (0 : Nat) = 0 ∨ g 0 = 126 then 0 else 1) : Nat) : Int) ≤ _
    simp
  · rw [show (560 * (b : Int) - 560 * (b : Int)).toNat = 0 by omega]
    rfl
