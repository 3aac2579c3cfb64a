/-! contracts -/
theorem ee_Tbok : ee_Tb ee_mt := ⟨ee_MTok, ee_CLok⟩
theorem ee_gnil {mt : Nat → Option ee_me} : ∀ c ∈ ([] : List ee_ct), ee_Ct mt c := fun c h => by cases h
theorem ee_gcons {mt : Nat → Option ee_me} {c : ee_ct} {l : List ee_ct} (h : ee_Ct mt c) (t : ∀ x ∈ l, ee_Ct mt x) : ∀ x ∈ c :: l, ee_Ct mt x := fun x hx => by
  rcases List.mem_cons.mp hx with rfl | hx
  · exact h
  · exact t x hx
theorem ee_anil {α : Type} {p : α → Bool} : ∀ t ∈ ([] : List α), p t = true := fun t h => by cases h
theorem ee_aapp {α : Type} {p : α → Bool} {l k : List α} (h1 : l.all p = true) (h2 : ∀ t ∈ k, p t = true) : ∀ t ∈ l ++ k, p t = true := fun t ht => by
  rcases List.mem_append.mp ht with ht | ht
  · exact List.all_eq_true.mp h1 t ht
  · exact h2 t ht
def ee_xw0 : ee_w := []
/- PepperTablesModel.bitsOf@10 -/
def ee_k189 : ee_ct := (167, [.retAddr 0], ee_xw0, (1, [(0, 0, 1023, [])]), [([.retAddr 1], ee_xw0, (2, [(0, 0, 1023, []), (1, 0, 10, [])]))], 0)
theorem ee_k189.ok : ee_Ct ee_mt ee_k189 := by sorry
/- PepperTablesModel.bitsOf@m -/
def ee_k190 : ee_ct := (167, [.retAddr 0], ee_xw0, (1, [(0, (-1), 31, [])]), [([.retAddr 1], ee_xw0, (2, [(0, (-1), 31, []), (1, 0, 32, [])]))], 0)
def ee_u190 : List ee_cu := []
set_option maxRecDepth 1000000 in
theorem ee_k190.ok : ee_Ct ee_mt ee_k190 := ee_cert (Γ := []) (K := []) (S := [(167, 0, 0)]) (f := 5000) (N := ee_me167) (cuts := ee_u190) ee_Tbok ee_gnil rfl (by decide +kernel) (by decide +kernel) (List.all_eq_true.mp (by decide +kernel))
def ee_xi0 : ee_iv := (3, [(0, (-2147483648), 2147483647, []), (1, (-2147483648), 2147483647, []), (2, (-2147483648), 2147483647, [])])
def ee_xi1 : ee_iv := (4, [(0, (-2147483648), 2147483647, []), (1, (-2147483648), 2147483647, []), (2, (-2147483648), 2147483647, []), (3, (-2147483648), 2147483647, [])])
/- PepperTablesModel.two -/
def ee_k191 : ee_ct := (284, [.retAddr 0, .retAddr 1, .retAddr 2], ee_xw0, ee_xi0, [([.retAddr 3], ee_xw0, ee_xi1)], 0)
def ee_u191 : List ee_cu := []
set_option maxRecDepth 1000000 in
theorem ee_k191.ok : ee_Ct ee_mt ee_k191 := ee_cert (Γ := []) (K := []) (S := [(284, 0, 202)]) (f := 5000) (N := ee_me284) (cuts := ee_u191) ee_Tbok ee_gnil rfl (by decide +kernel) (by decide +kernel) (List.all_eq_true.mp (by decide +kernel))
