/- PepperTablesModel.bitsOf@m -/
def ee_k191 : ee_ct := (167, [.retAddr 0], ee_xw26, (1, [(0, (-1), 31, [])]), [([.retAddr 1], ee_xw26, (2, [(0, (-1), 31, []), (1, 0, 32, [])]))], 0)
def ee_u191 : List ee_cu := []
set_option maxRecDepth 1000000 in
theorem ee_k191.ok : ee_Ct ee_mt ee_k191 := ee_cert (Γ := []) (K := []) (S := [(167, 0, 0)]) (f := 5000) (N := ee_me167) (cuts := ee_u191) ee_Tbok ee_gnil rfl (by decide +kernel) (by decide +kernel) (List.all_eq_true.mp (by decide +kernel))
def ee_xi439 : ee_iv := (2, [(0, 1, 100000000, []), (1, (-2147483648), 2147483647, [])])
def ee_xi440 : ee_iv := (3, [(0, 1, 100000000, []), (1, (-2147483648), 2147483647, []), (2, 1, 2147483647, [])])
/- PepperTablesModel.divisor -/
def ee_k195 : ee_ct := (176, [.retAddr 0, .retAddr 1], ee_xw26, ee_xi439, [([.retAddr 2], ee_xw26, ee_xi440)], 0)
def ee_xi441 : ee_iv := (4, [(0, 1, 100000000, []), (1, (-2147483648), 2147483647, []), (2, 1, 2147483647, []), (3, (-2147483648), 2147483647, [])])
def ee_u195 : List ee_cu := [(4, [(0, .retAddr 0), (1, .retAddr 1), (2, .retAddr 2), (3, .retAddr 3)], [], ee_xw26, ee_xi441, 4294967300, [(2, 3)])]
set_option maxRecDepth 1000000 in
theorem ee_k195.ok : ee_Ct ee_mt ee_k195 := ee_cert (Γ := []) (K := []) (S := []) (f := 5000) (N := ee_me176) (cuts := ee_u195) ee_Tbok ee_gnil rfl (by decide +kernel) (by decide +kernel) (List.all_eq_true.mp (by decide +kernel))
/- PepperTablesModel.power@2 -/
def ee_k200 : ee_ct := (251, [.retAddr 0, .retAddr 1], ee_xw26, (2, [(0, 1, 6, []), (1, 0, 2, [])]), [([.retAddr 2], ee_xw26, (3, [(0, 1, 6, []), (1, 0, 2, []), (2, 1, 36, [])]))], 0)
def ee_u200 : List ee_cu := []
set_option maxRecDepth 1000000 in
theorem ee_k200.ok : ee_Ct ee_mt ee_k200 := ee_cert (Γ := []) (K := []) (S := [(251, 0, 1)]) (f := 5000) (N := ee_me251) (cuts := ee_u200) ee_Tbok ee_gnil rfl (by decide +kernel) (by decide +kernel) (List.all_eq_true.mp (by decide +kernel))
/- PepperTablesModel.power@6 -/
def ee_k201 : ee_ct := (251, [.retAddr 0, .retAddr 1], ee_xw26, (2, [(0, 1, 6, []), (1, (-10), 6, [])]), [([.retAddr 2], ee_xw26, (3, [(0, 1, 6, []), (1, (-10), 6, []), (2, 1, 46656, [])]))], 0)
def ee_u201 : List ee_cu := []
set_option maxRecDepth 1000000 in
theorem ee_k201.ok : ee_Ct ee_mt ee_k201 := ee_cert (Γ := []) (K := []) (S := [(251, 0, 1)]) (f := 5000) (N := ee_me251) (cuts := ee_u201) ee_Tbok ee_gnil rfl (by decide +kernel) (by decide +kernel) (List.all_eq_true.mp (by decide +kernel))
def ee_xi442 : ee_iv := (3, [(0, 0, 100, []), (1, 0, 4, []), (2, 0, 100000000, [])])
/- PepperTablesModel.power@4 -/
def ee_k202 : ee_ct := (251, [.retAddr 0, .retAddr 1], ee_xw26, (2, [(0, 0, 100, []), (1, 0, 4, [])]), [([.retAddr 2], ee_xw26, ee_xi442)], 0)
def ee_u202 : List ee_cu := []
set_option maxRecDepth 1000000 in
theorem ee_k202.ok : ee_Ct ee_mt ee_k202 := ee_cert (Γ := []) (K := []) (S := [(251, 0, 1)]) (f := 5000) (N := ee_me251) (cuts := ee_u202) ee_Tbok ee_gnil rfl (by decide +kernel) (by decide +kernel) (List.all_eq_true.mp (by decide +kernel))
def ee_xw258 : ee_w := [ee_xq69, ee_xq1, ee_xq2, ee_xq70, ee_xq71, ee_xq72, ee_xq6, ee_xq7, ee_xq8, ee_xq73, ee_xq10, ee_xq11, ee_xq12, ee_xq12, ee_xq13, ee_xq74, ee_xq75, ee_xq16, ee_xq17, ee_xq18, ee_xq401, ee_xq20, ee_xq21, ee_xq21, ee_xq22, ee_xq23, ee_xq24, ee_xq77, ee_xq26, ee_xq27, ee_xq28, ee_xq29, ee_xq30, ee_xq30, ee_xq30, ee_xq30, ee_xq10, ee_xq31, ee_xq32, ee_xq33]
/- PepperTablesModel.inOf@K -/
def ee_k203 : ee_ct := (206, [.ref 0, .retAddr 0], ee_xw258, ee_xi15, [([.retAddr 48], ee_xw258, ee_xi16)], 2)
def ee_u203 : List ee_cu := [(4, [(0, .ref 0), (1, .retAddr 0), (2, .retAddr 48), (3, .retAddr 49)], [], ee_xw258, ee_xi17, 24, [((-2), 49)])]
set_option maxRecDepth 1000000 in
theorem ee_k203.ok : ee_Ct ee_mt ee_k203 := ee_cert (Γ := []) (K := []) (S := []) (f := 5000) (N := ee_me206) (cuts := ee_u203) ee_Tbok ee_gnil rfl (by decide +kernel) (by decide +kernel) (List.all_eq_true.mp (by decide +kernel))
/- PepperTablesModel.inOf -/
def ee_k204 : ee_ct := (206, [.ref 0, .retAddr 0], ee_xw259, ee_xi20, [([.retAddr 38], ee_xw259, ee_xi21)], 2)
def ee_u204 : List ee_cu := [(4, [(0, .ref 0), (1, .retAddr 0), (2, .retAddr 38), (3, .retAddr 39)], [], ee_xw259, ee_xi22, 24, [((-2), 39)])]
set_option maxRecDepth 1000000 in
theorem ee_k204.ok : ee_Ct ee_mt ee_k204 := ee_cert (Γ := []) (K := []) (S := []) (f := 5000) (N := ee_me206) (cuts := ee_u204) ee_Tbok ee_gnil rfl (by decide +kernel) (by decide +kernel) (List.all_eq_true.mp (by decide +kernel))
/- PepperTablesModel.heatOf -/
def ee_k205 : ee_ct := (198, [.ref 0, .retAddr 0], ee_xw259, ee_xi20, [([.retAddr 38], ee_xw259, ee_xi23)], 1)
def ee_u205 : List ee_cu := [(4, [(0, .ref 0), (1, .retAddr 0), (2, .retAddr 38), (3, .retAddr 39)], [], ee_xw259, ee_xi24, 24, [((-2), 39)])]
set_option maxRecDepth 1000000 in
theorem ee_k205.ok : ee_Ct ee_mt ee_k205 := ee_cert (Γ := []) (K := []) (S := []) (f := 5000) (N := ee_me198) (cuts := ee_u205) ee_Tbok ee_gnil rfl (by decide +kernel) (by decide +kernel) (List.all_eq_true.mp (by decide +kernel))
/- PepperTablesModel.byOf -/
def ee_k206 : ee_ct := (170, [.ref 0, .retAddr 0], ee_xw259, ee_xi20, [([.retAddr 38], ee_xw259, ee_xi21)], 1)
def ee_u206 : List ee_cu := [(4, [(0, .ref 0), (1, .retAddr 0), (2, .retAddr 38), (3, .retAddr 39)], [], ee_xw259, ee_xi22, 24, [((-2), 39)])]
set_option maxRecDepth 1000000 in
theorem ee_k206.ok : ee_Ct ee_mt ee_k206 := ee_cert (Γ := []) (K := []) (S := []) (f := 5000) (N := ee_me170) (cuts := ee_u206) ee_Tbok ee_gnil rfl (by decide +kernel) (by decide +kernel) (List.all_eq_true.mp (by decide +kernel))
/- PepperTablesModel.toOf -/
def ee_k207 : ee_ct := (283, [.ref 0, .retAddr 0], ee_xw259, ee_xi20, [([.retAddr 38], ee_xw259, ee_xi21)], 1)
def ee_u207 : List ee_cu := [(4, [(0, .ref 0), (1, .retAddr 0), (2, .retAddr 38), (3, .retAddr 39)], [], ee_xw259, ee_xi22, 24, [((-2), 39)])]
set_option maxRecDepth 1000000 in
theorem ee_k207.ok : ee_Ct ee_mt ee_k207 := ee_cert (Γ := []) (K := []) (S := []) (f := 5000) (N := ee_me283) (cuts := ee_u207) ee_Tbok ee_gnil rfl (by decide +kernel) (by decide +kernel) (List.all_eq_true.mp (by decide +kernel))
/- PepperTablesModel.layTold -/
def ee_k208 : ee_ct := (235, [.ref 0], ee_xw1, ee_xi443, [([], ee_xw1, ee_xi443)], 1)
def ee_xi444 : ee_iv := (38, [(0, 0, 1600, []), (1, 0, 1600, []), (2, 0, 5, []), (3, (-2147483648), 2147483647, []), (4, 0, 1600, []), (5, 0, 1600, []), (6, 0, 5, []), (7, (-2147483648), 2147483647, []), (8, 0, 1, []), (9, 0, 1, []), (10, 0, 1120, []), (11, (-2147483648), 2147483647, []), (12, 0, 90, []), (13, (-2147483648), 2147483647, []), (14, 0, 9, []), (15, (-1), 5, []), (16, (-2147483648), 2147483647, []), (17, (-2147483648), 2147483647, []), (18, (-2147483648), 2147483647, []), (19, 0, 40, [(5, 20, 40)]), (20, 0, 40, [(5, 19, 40)]), (21, 0, 6, []), (22, 0, 30, []), (23, 0, 100000, []), (24, (-2147483648), 2147483647, []), (25, 0, 6, []), (26, 0, 6, []), (27, 0, 5, []), (28, 0, 5, []), (29, 0, 10, []), (30, 0, 10, []), (31, 0, 7, []), (32, 0, 7, []), (33, 0, 1120, []), (34, 0, 1120, []), (35, 0, 1120, []), (36, 0, 1120, []), (37, 0, 19, [])])
def ee_xi445 : ee_iv := (38, [(0, 0, 1600, []), (1, 0, 1600, []), (2, 0, 5, []), (3, (-2147483648), 2147483647, []), (4, 0, 1600, []), (5, 0, 1600, []), (6, 0, 5, []), (7, (-2147483648), 2147483647, []), (8, 0, 1, []), (9, 0, 1, []), (10, 0, 1120, []), (11, (-2147483648), 2147483647, []), (12, 0, 90, []), (13, (-2147483648), 2147483647, []), (14, 0, 9, []), (15, (-1), 5, []), (16, (-2147483648), 2147483647, []), (17, (-2147483648), 2147483647, []), (18, (-2147483648), 2147483647, []), (19, 0, 40, [(5, 20, 40)]), (20, 0, 40, [(5, 19, 40)]), (21, 0, 6, []), (22, 0, 30, []), (23, 0, 100000, []), (24, (-2147483648), 2147483647, []), (25, 0, 6, []), (26, 0, 6, []), (27, 0, 5, []), (28, 0, 5, []), (29, 0, 10, []), (30, 0, 10, []), (31, 0, 7, []), (32, 0, 7, []), (33, 0, 1120, []), (34, 0, 1120, []), (35, 0, 1120, []), (36, 0, 1120, []), (37, 0, 10, [])])
def ee_u208 : List ee_cu := [(2, [(0, .ref 0), (1, .retAddr 37)], [], ee_xw1, ee_xi444, 67, [((-2), 37)]),
  (23, [(0, .ref 0), (1, .retAddr 37)], [], ee_xw1, ee_xi445, 24, [((-2), 37)])]
set_option maxRecDepth 1000000 in
theorem ee_k208.ok : ee_Ct ee_mt ee_k208 := ee_cert (Γ := []) (K := []) (S := []) (f := 5000) (N := ee_me235) (cuts := ee_u208) ee_Tbok ee_gnil rfl (by decide +kernel) (by decide +kernel) (List.all_eq_true.mp (by decide +kernel))
/- PepperTablesModel.keepNow -/
def ee_k209 : ee_ct := (227, [.ref 0], ee_xw1, ee_xi443, [([], ee_xw1, ee_xi443)], 0)
def ee_u209 : List ee_cu := []
set_option maxRecDepth 1000000 in
theorem ee_k209.ok : ee_Ct ee_mt ee_k209 := ee_cert (Γ := []) (K := []) (S := []) (f := 5000) (N := ee_me227) (cuts := ee_u209) ee_Tbok ee_gnil rfl (by decide +kernel) (by decide +kernel) (List.all_eq_true.mp (by decide +kernel))
