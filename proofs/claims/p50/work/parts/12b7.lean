/- PepperTablesModel.bitsOf@m -/
def ee_k190 : ee_ct := (167, [.retAddr 0], ee_z0, (1, [(0, (-1), 31, [])]), [([.retAddr 1], ee_z0, (2, [(0, (-1), 31, []), (1, 0, 32, [])]))], 0)
def ee_u190 : List ee_cu := []
set_option maxRecDepth 1000000 in
theorem ee_k190.ok : ee_Ct ee_mt ee_k190 := ee_cert (Γ := []) (K := []) (S := [(167, 0, 0)]) (f := 5000) (N := ee_me167) (cuts := ee_u190) ee_Tbok ee_gnil rfl (by decide +kernel) (by decide +kernel) (List.all_eq_true.mp (by decide +kernel))
def ee_i0 : ee_iv := (3, [(0, (-2147483648), 2147483647, []), (1, (-2147483648), 2147483647, []), (2, (-2147483648), 2147483647, [])])
def ee_i1 : ee_iv := (4, [(0, (-2147483648), 2147483647, []), (1, (-2147483648), 2147483647, []), (2, (-2147483648), 2147483647, []), (3, (-2147483648), 2147483647, [])])
/- PepperTablesModel.two -/
def ee_k191 : ee_ct := (284, [.retAddr 0, .retAddr 1, .retAddr 2], ee_z0, ee_i0, [([.retAddr 3], ee_z0, ee_i1)], 0)
def ee_u191 : List ee_cu := []
set_option maxRecDepth 1000000 in
theorem ee_k191.ok : ee_Ct ee_mt ee_k191 := ee_cert (Γ := []) (K := []) (S := [(284, 0, 202)]) (f := 5000) (N := ee_me284) (cuts := ee_u191) ee_Tbok ee_gnil rfl (by decide +kernel) (by decide +kernel) (List.all_eq_true.mp (by decide +kernel))
