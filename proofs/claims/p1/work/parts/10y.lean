/-! two states, compared -/
def ee_ceq (a b : ee_cell) : Bool := match a, b with
  | .inl x, .inl y => decide (x = y)
  | .inr x, .inr y => decide (x = y)
  | _, _ => false
theorem ee_ceq.ok : ∀ {a b : ee_cell}, ee_ceq a b = true → a = b
  | .inl x, .inl y, h => by rw [of_decide_eq_true (show decide (x = y) = true from h)]
  | .inr x, .inr y, h => by rw [of_decide_eq_true (show decide (x = y) = true from h)]
  | .inl _, .inr _, h => by cases h
  | .inr _, .inl _, h => by cases h
def ee_weq : ee_w → ee_w → Bool
  | [], [] => true
  | a :: l, b :: k => ee_ceq a b && ee_weq l k
  | _, _ => false
theorem ee_weq.ok : ∀ {a b : ee_w}, ee_weq a b = true → a = b
  | [], [], _ => rfl
  | a :: l, b :: k, h => by
    obtain ⟨h1, h2⟩ := ee_and h
    rw [ee_ceq.ok h1, ee_weq.ok h2]
  | [], _ :: _, h => by cases h
  | _ :: _, [], h => by cases h
def ee_seq (a b : ee_st) : Bool := decide (a.1 = b.1) && (decide (a.2.1 = b.2.1) && (decide (a.2.2.1 = b.2.2.1) && (ee_weq a.2.2.2.1 b.2.2.2.1 && decide (a.2.2.2.2 = b.2.2.2.2))))
theorem ee_seq.ok {a b : ee_st} (h : ee_seq a b = true) : a = b := by
  obtain ⟨h1, h2⟩ := ee_and h
  obtain ⟨h2, h3⟩ := ee_and h2
  obtain ⟨h3, h4⟩ := ee_and h3
  obtain ⟨h4, h5⟩ := ee_and h4
  have h1 := of_decide_eq_true h1
  have h2 := of_decide_eq_true h2
  have h3 := of_decide_eq_true h3
  have h4 := ee_weq.ok h4
  have h5 := of_decide_eq_true h5
  obtain ⟨a1, a2, a3, a4, a5⟩ := a
  obtain ⟨b1, b2, b3, b4, b5⟩ := b
  cases h1; cases h2; cases h3; cases h4; cases h5
  rfl
