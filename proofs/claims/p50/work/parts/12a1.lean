def ee_xw26 : ee_w := []
/- PepperTablesModel.bitsOf@6 -/
def ee_k189 : ee_ct := (167, [.retAddr 0], ee_xw26, (1, [(0, 0, 63, [])]), [([.retAddr 1], ee_xw26, (2, [(0, 0, 63, []), (1, 0, 6, [])]))], 0)
def ee_u189 : List ee_cu := []
set_option maxRecDepth 1000000 in
theorem ee_k189.ok : ee_Ct ee_mt ee_k189 := ee_cert (Γ := []) (K := []) (S := [(167, 0, 0)]) (f := 5000) (N := ee_me167) (cuts := ee_u189) ee_Tbok ee_gnil rfl (by decide +kernel) (by decide +kernel) (List.all_eq_true.mp (by decide +kernel))
def ee_xi13 : ee_iv := (3, [(0, (-2147483648), 2147483647, []), (1, (-2147483648), 2147483647, []), (2, (-2147483648), 2147483647, [])])
def ee_xi14 : ee_iv := (4, [(0, (-2147483648), 2147483647, []), (1, (-2147483648), 2147483647, []), (2, (-2147483648), 2147483647, []), (3, (-2147483648), 2147483647, [])])
/- PepperTablesModel.two -/
def ee_k192 : ee_ct := (284, [.retAddr 0, .retAddr 1, .retAddr 2], ee_xw26, ee_xi13, [([.retAddr 3], ee_xw26, ee_xi14)], 0)
def ee_u192 : List ee_cu := []
set_option maxRecDepth 1000000 in
theorem ee_k192.ok : ee_Ct ee_mt ee_k192 := ee_cert (Γ := []) (K := []) (S := [(284, 0, 202)]) (f := 5000) (N := ee_me284) (cuts := ee_u192) ee_Tbok ee_gnil rfl (by decide +kernel) (by decide +kernel) (List.all_eq_true.mp (by decide +kernel))
