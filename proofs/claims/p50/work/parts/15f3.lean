/- PepperTables.gain -/
def ee_u166 : List ee_cu := []
set_option maxRecDepth 1000000 in
theorem ee_k166.ok : ee_Ct ee_mt ee_k166 := ee_cert (Γ := [ee_k10, ee_k21, ee_k5, ee_k3]) (K := [(17, 18, [0]), (17, 52, [1]), (17, 60, [2]), (17, 64, [3])]) (S := []) (f := 5000) (N := ee_me17) (cuts := ee_u166) ee_Tbok (ee_gcons ee_k10.ok (ee_gcons ee_k21.ok (ee_gcons ee_k5.ok (ee_gcons ee_k3.ok ee_gnil)))) rfl (by decide +kernel) (by decide +kernel) (List.all_eq_true.mp (by decide +kernel))
/- PepperTables.feast -/
def ee_xq388 : ee_cell := .inl (3, [.retAddr 56, .ref 35, .ref 36, .ref 37, .retAddr 31])
def ee_xw248 : ee_w := [ee_xq305, ee_xq330, ee_xq331, ee_xq332, ee_xq350, ee_xq310, ee_xq334, ee_xq312, ee_xq388, ee_xq336, ee_xq12, ee_xq315, ee_xq315, ee_xq337, ee_xq268, ee_xq269, ee_xq26, ee_xq185, ee_xq185, ee_xq186, ee_xq186, ee_xq187, ee_xq188, ee_xq189, ee_xq17, ee_xq186, ee_xq195, ee_xq186, ee_xq195, ee_xq26, ee_xq206, ee_xq207, ee_xq201, ee_xq203, ee_xq33, ee_xq26, ee_xq230, ee_xq26, ee_xq29, ee_xq30, ee_xq239, ee_xq30, ee_xq30, ee_xq28, ee_xq240, ee_xq31, ee_xq338, ee_xq26, ee_xq185, ee_xq185, ee_xq186, ee_xq186, ee_xq187, ee_xq188, ee_xq189, ee_xq17, ee_xq186, ee_xq195]
def ee_xi417 : ee_iv := (57, [(0, 0, 5, []), (1, 0, 5, []), (2, 0, 1600, []), (3, (-2147483648), 2147483647, []), (4, (-2147483648), 2147483647, []), (5, 0, 1600, []), (6, (-2147483648), 2147483647, []), (7, (-2147483648), 2147483647, []), (8, (-2147483648), 2147483647, []), (9, 1, 6, []), (10, 0, 5, []), (11, 0, 10, []), (12, (-2147483648), 2147483647, []), (13, 0, 100, []), (14, 0, 999, []), (15, 0, 320, []), (16, 0, 1, []), (17, 0, 1, []), (18, 0, 1, []), (19, 0, 127, []), (20, 0, 1023, []), (21, 0, 999, []), (22, 0, 999, []), (23, 0, 127, []), (24, 0, 1023, []), (25, 0, 999, []), (26, 0, 999, []), (27, (-2147483648), 2147483647, []), (28, (-2147483648), 2147483647, []), (29, 0, 40, []), (30, 0, 6, []), (31, 0, 6, []), (32, 0, 30, []), (33, 0, 100000, []), (34, 0, 1, []), (35, 0, 36, []), (36, 0, 6, []), (37, 0, 5, []), (38, 0, 10, []), (39, (-2147483648), 2147483647, []), (40, 0, 100, []), (41, 0, 999, []), (42, 0, 320, []), (43, 0, 1, []), (44, 0, 1, []), (45, 0, 1, []), (46, 0, 127, []), (47, 0, 1023, []), (48, 0, 999, []), (49, 0, 999, []), (50, (-2147483648), 2147483647, []), (51, 0, 4, []), (52, 0, 127, []), (53, 0, 1023, []), (54, 0, 999, []), (55, 0, 999, []), (56, 0, 6, [])])
def ee_u167 : List ee_cu := [(42, [(0, .ref 0), (1, .retAddr 0), (2, .retAddr 1), (3, .retAddr 50), (4, .retAddr 51)], [], ee_xw248, ee_xi417, 12, [((-2), 51)])]
set_option maxRecDepth 1000000 in
theorem ee_k167.ok : ee_Ct ee_mt ee_k167 := ee_cert (Γ := [ee_k132, ee_k32]) (K := [(14, 34, [0]), (14, 126, [1]), (14, 137, [1])]) (S := []) (f := 5000) (N := ee_me14) (cuts := ee_u167) ee_Tbok (ee_gcons ee_k132.ok (ee_gcons ee_k32.ok ee_gnil)) rfl (by decide +kernel) (by decide +kernel) (List.all_eq_true.mp (by decide +kernel))
/- PepperTables.line -/
def ee_u168 : List ee_cu := []
set_option maxRecDepth 1000000 in
theorem ee_k168.ok : ee_Ct ee_mt ee_k168 := ee_cert (Γ := [ee_k40]) (K := [(39, 19, [0])]) (S := []) (f := 5000) (N := ee_me39) (cuts := ee_u168) ee_Tbok (ee_gcons ee_k40.ok ee_gnil) rfl (by decide +kernel) (by decide +kernel) (List.all_eq_true.mp (by decide +kernel))
/- PepperTables.invite -/
def ee_xw250 : ee_w := [ee_xq305, ee_xq318, ee_xq319, ee_xq320, ee_xq350, ee_xq310, ee_xq322, ee_xq312, ee_xq323, ee_xq324, ee_xq12, ee_xq315, ee_xq315, ee_xq325, ee_xq268, ee_xq269, ee_xq26, ee_xq185, ee_xq185, ee_xq186, ee_xq186, ee_xq187, ee_xq188, ee_xq189, ee_xq17, ee_xq186, ee_xq195, ee_xq186, ee_xq195, ee_xq26, ee_xq206, ee_xq207, ee_xq201, ee_xq203, ee_xq33, ee_xq26, ee_xq230, ee_xq26, ee_xq29, ee_xq30, ee_xq239, ee_xq30, ee_xq30, ee_xq28, ee_xq240, ee_xq31, ee_xq326, ee_xq26, ee_xq185, ee_xq185, ee_xq186, ee_xq186, ee_xq187, ee_xq188, ee_xq189, ee_xq17, ee_xq186, ee_xq195]
def ee_xi420 : ee_iv := (56, [(0, 0, 1, []), (1, 0, 1600, []), (2, (-2147483648), 2147483647, []), (3, (-2147483648), 2147483647, []), (4, 0, 1600, []), (5, (-2147483648), 2147483647, []), (6, (-2147483648), 2147483647, []), (7, (-2147483648), 2147483647, []), (8, 0, 6, []), (9, 0, 5, []), (10, 0, 10, []), (11, (-2147483648), 2147483647, []), (12, 0, 100, []), (13, 0, 999, []), (14, 0, 320, []), (15, 0, 1, []), (16, 0, 1, []), (17, 0, 1, []), (18, 0, 127, []), (19, 0, 1023, []), (20, 0, 999, []), (21, 0, 999, []), (22, 0, 127, []), (23, 0, 1023, []), (24, 0, 999, []), (25, 0, 999, []), (26, (-2147483648), 2147483647, []), (27, (-2147483648), 2147483647, []), (28, 0, 40, []), (29, 0, 6, []), (30, 0, 6, []), (31, 0, 30, []), (32, 0, 100000, []), (33, 0, 1, []), (34, 0, 36, []), (35, 0, 6, []), (36, 0, 5, []), (37, 0, 10, []), (38, (-2147483648), 2147483647, []), (39, 0, 100, []), (40, 0, 999, []), (41, 0, 320, []), (42, 0, 1, []), (43, 0, 1, []), (44, 0, 1, []), (45, 0, 127, []), (46, 0, 1023, []), (47, 0, 999, []), (48, 0, 999, []), (49, (-1), 5, []), (50, (-1), 10, []), (51, 0, 6, []), (52, 0, 127, []), (53, 0, 1023, []), (54, 0, 999, []), (55, 0, 999, [])])
def ee_u169 : List ee_cu := [(16, [(0, .ref 0), (1, .retAddr 0), (2, .retAddr 49), (3, .retAddr 50), (4, .retAddr 51)], [], ee_xw250, ee_xi420, 16, [((-2), 51)])]
set_option maxRecDepth 1000000 in
theorem ee_k169.ok : ee_Ct ee_mt ee_k169 := ee_cert (Γ := [ee_k10, ee_k21, ee_k0]) (K := [(26, 45, [0]), (26, 76, [1]), (26, 79, [2])]) (S := []) (f := 5000) (N := ee_me26) (cuts := ee_u169) ee_Tbok (ee_gcons ee_k10.ok (ee_gcons ee_k21.ok (ee_gcons ee_k0.ok ee_gnil))) rfl (by decide +kernel) (by decide +kernel) (List.all_eq_true.mp (by decide +kernel))
/- PepperTables.rumour -/
def ee_xi422 : ee_iv := (52, [(0, 0, 5, []), (1, 0, 5, []), (2, 0, 1600, []), (3, (-2147483648), 2147483647, []), (4, (-2147483648), 2147483647, []), (5, 0, 1600, []), (6, (-2147483648), 2147483647, []), (7, (-2147483648), 2147483647, []), (8, (-2147483648), 2147483647, []), (9, 1, 6, []), (10, 0, 5, []), (11, 0, 10, []), (12, (-2147483648), 2147483647, []), (13, 0, 100, []), (14, 0, 999, []), (15, 0, 320, []), (16, 0, 1, []), (17, 0, 1, []), (18, 0, 1, []), (19, 0, 127, []), (20, 0, 1023, []), (21, 0, 999, []), (22, 0, 999, []), (23, 0, 127, []), (24, 0, 1023, []), (25, 0, 999, []), (26, 0, 999, []), (27, (-2147483648), 2147483647, []), (28, (-2147483648), 2147483647, []), (29, 0, 40, []), (30, 0, 6, []), (31, 0, 6, []), (32, 0, 30, []), (33, 0, 100000, []), (34, 0, 1, []), (35, 0, 36, []), (36, 0, 6, []), (37, 0, 5, []), (38, 0, 10, []), (39, (-2147483648), 2147483647, []), (40, 0, 100, []), (41, 0, 999, []), (42, 0, 320, []), (43, 0, 1, []), (44, 0, 1, []), (45, 0, 1, []), (46, 0, 127, []), (47, 0, 1023, []), (48, 0, 999, []), (49, 0, 999, []), (50, 0, 63, []), (51, 0, 6, [])])
def ee_u170 : List ee_cu := [(25, [(0, .ref 0), (1, .retAddr 0), (2, .retAddr 1), (3, .retAddr 50), (4, .retAddr 51)], [], ee_xw223, ee_xi422, 16, [((-2), 51)])]
set_option maxRecDepth 1000000 in
theorem ee_k170.ok : ee_Ct ee_mt ee_k170 := ee_cert (Γ := [ee_k7]) (K := [(53, 61, [0])]) (S := []) (f := 5000) (N := ee_me53) (cuts := ee_u170) ee_Tbok (ee_gcons ee_k7.ok ee_gnil) rfl (by decide +kernel) (by decide +kernel) (List.all_eq_true.mp (by decide +kernel))
/- PepperTables.keeps -/
def ee_u171 : List ee_cu := []
set_option maxRecDepth 1000000 in
theorem ee_k171.ok : ee_Ct ee_mt ee_k171 := ee_cert (Γ := [ee_kk4, ee_k5, ee_k3]) (K := [(34, 38, [0]), (34, 47, [1]), (34, 51, [2])]) (S := []) (f := 5000) (N := ee_me34) (cuts := ee_u171) ee_Tbok (ee_gcons ee_kk4.ok (ee_gcons ee_k5.ok (ee_gcons ee_k3.ok ee_gnil))) rfl (by decide +kernel) (by decide +kernel) (List.all_eq_true.mp (by decide +kernel))
/- PepperTables.dupe -/
def ee_xi424 : ee_iv := (51, [(0, 0, 1600, []), (1, (-2147483648), 2147483647, []), (2, (-2147483648), 2147483647, []), (3, 0, 1600, []), (4, (-2147483648), 2147483647, []), (5, (-2147483648), 2147483647, []), (6, (-2147483648), 2147483647, []), (7, 0, 6, []), (8, 0, 5, []), (9, 0, 10, []), (10, (-2147483648), 2147483647, []), (11, 0, 100, []), (12, 0, 999, []), (13, 0, 320, []), (14, 0, 1, []), (15, 0, 1, []), (16, 0, 1, []), (17, 0, 127, []), (18, 0, 1023, []), (19, 0, 999, []), (20, 0, 999, []), (21, 0, 127, []), (22, 0, 1023, []), (23, 0, 999, []), (24, 0, 999, []), (25, (-2147483648), 2147483647, []), (26, (-2147483648), 2147483647, []), (27, 0, 40, []), (28, 0, 6, []), (29, 0, 6, []), (30, 0, 30, []), (31, 0, 100000, []), (32, 0, 1, []), (33, 0, 36, []), (34, 0, 6, []), (35, 0, 5, []), (36, 0, 10, []), (37, (-2147483648), 2147483647, []), (38, 0, 100, []), (39, 0, 999, []), (40, 0, 320, []), (41, 0, 1, []), (42, 0, 1, []), (43, 0, 1, []), (44, 0, 127, []), (45, 0, 1023, []), (46, 0, 999, []), (47, 0, 999, []), (48, (-1), 5, []), (49, (-1), 2147483647, []), (50, 0, 6, [])])
def ee_u172 : List ee_cu := [(6, [(0, .ref 0), (1, .retAddr 48), (2, .retAddr 49), (3, .retAddr 50)], [], ee_xw218, ee_xi424, 16, [((-2), 50)])]
set_option maxRecDepth 1000000 in
theorem ee_k172.ok : ee_Ct ee_mt ee_k172 := ee_cert (Γ := [ee_k5, ee_k3]) (K := [(10, 37, [0]), (10, 41, [1])]) (S := []) (f := 5000) (N := ee_me10) (cuts := ee_u172) ee_Tbok (ee_gcons ee_k5.ok (ee_gcons ee_k3.ok ee_gnil)) rfl (by decide +kernel) (by decide +kernel) (List.all_eq_true.mp (by decide +kernel))
/- PepperTables.closest -/
def ee_xi425 : ee_iv := (51, [(0, 0, 1600, []), (1, (-2147483648), 2147483647, []), (2, (-2147483648), 2147483647, []), (3, 0, 1600, []), (4, (-2147483648), 2147483647, []), (5, (-2147483648), 2147483647, []), (6, (-2147483648), 2147483647, []), (7, 0, 6, []), (8, 0, 5, []), (9, 0, 10, []), (10, (-2147483648), 2147483647, []), (11, 0, 100, []), (12, 0, 999, []), (13, 0, 320, []), (14, 0, 1, []), (15, 0, 1, []), (16, 0, 1, []), (17, 0, 127, []), (18, 0, 1023, []), (19, 0, 999, []), (20, 0, 999, []), (21, 0, 127, []), (22, 0, 1023, []), (23, 0, 999, []), (24, 0, 999, []), (25, (-2147483648), 2147483647, []), (26, (-2147483648), 2147483647, []), (27, 0, 40, []), (28, 0, 6, []), (29, 0, 6, []), (30, 0, 30, []), (31, 0, 100000, []), (32, 0, 1, []), (33, 0, 36, []), (34, 0, 6, []), (35, 0, 5, []), (36, 0, 10, []), (37, (-2147483648), 2147483647, []), (38, 0, 100, []), (39, 0, 999, []), (40, 0, 320, []), (41, 0, 1, []), (42, 0, 1, []), (43, 0, 1, []), (44, 0, 127, []), (45, 0, 1023, []), (46, 0, 999, []), (47, 0, 999, []), (48, (-1), 5, []), (49, (-1), 10, []), (50, 0, 6, [])])
def ee_u173 : List ee_cu := [(6, [(0, .ref 0), (1, .retAddr 48), (2, .retAddr 49), (3, .retAddr 50)], [], ee_xw218, ee_xi425, 16, [((-2), 50)])]
set_option maxRecDepth 1000000 in
theorem ee_k173.ok : ee_Ct ee_mt ee_k173 := ee_cert (Γ := [ee_kk4, ee_k0]) (K := [(6, 33, [0]), (6, 37, [1])]) (S := []) (f := 5000) (N := ee_me6) (cuts := ee_u173) ee_Tbok (ee_gcons ee_kk4.ok (ee_gcons ee_k0.ok ee_gnil)) rfl (by decide +kernel) (by decide +kernel) (List.all_eq_true.mp (by decide +kernel))
/- PepperTables.rank -/
def ee_xq391 : ee_cell := .inl (3, [.retAddr 50, .ref 35, .ref 36, .ref 37, .retAddr 29])
def ee_xw252 : ee_w := [ee_xq305, ee_xq306, ee_xq307, ee_xq308, ee_xq309, ee_xq310, ee_xq311, ee_xq312, ee_xq391, ee_xq314, ee_xq12, ee_xq315, ee_xq315, ee_xq316, ee_xq268, ee_xq269, ee_xq26, ee_xq185, ee_xq185, ee_xq186, ee_xq186, ee_xq187, ee_xq188, ee_xq189, ee_xq17, ee_xq186, ee_xq195, ee_xq186, ee_xq195, ee_xq26, ee_xq206, ee_xq207, ee_xq201, ee_xq203, ee_xq33, ee_xq26, ee_xq230, ee_xq26, ee_xq29, ee_xq30, ee_xq239, ee_xq30, ee_xq30, ee_xq28, ee_xq240, ee_xq31, ee_xq317, ee_xq26, ee_xq185, ee_xq185, ee_xq186, ee_xq186, ee_xq187, ee_xq188, ee_xq189, ee_xq17, ee_xq186, ee_xq195]
def ee_xi426 : ee_iv := (51, [(0, 0, 1600, []), (1, (-2147483648), 2147483647, []), (2, (-2147483648), 2147483647, []), (3, 0, 1600, []), (4, (-2147483648), 2147483647, []), (5, (-2147483648), 2147483647, []), (6, (-2147483648), 2147483647, []), (7, 0, 6, []), (8, 0, 5, []), (9, 0, 10, []), (10, (-2147483648), 2147483647, []), (11, 0, 100, []), (12, 0, 999, []), (13, 0, 320, []), (14, 0, 1, []), (15, 0, 1, []), (16, 0, 1, []), (17, 0, 127, []), (18, 0, 1023, []), (19, 0, 999, []), (20, 0, 999, []), (21, 0, 127, []), (22, 0, 1023, []), (23, 0, 999, []), (24, 0, 999, []), (25, (-2147483648), 2147483647, []), (26, (-2147483648), 2147483647, []), (27, 0, 40, []), (28, 0, 6, []), (29, 0, 6, []), (30, 0, 30, []), (31, 0, 100000, []), (32, 0, 1, []), (33, 0, 36, []), (34, 0, 6, []), (35, 0, 5, []), (36, 0, 10, []), (37, (-2147483648), 2147483647, []), (38, 0, 100, []), (39, 0, 999, []), (40, 0, 320, []), (41, 0, 1, []), (42, 0, 1, []), (43, 0, 1, []), (44, 0, 127, []), (45, 0, 1023, []), (46, 0, 999, []), (47, 0, 999, []), (48, 0, 63, []), (49, 0, 6, []), (50, 0, 6, [])])
def ee_u174 : List ee_cu := [(12, [(0, .ref 0), (1, .retAddr 48), (2, .retAddr 49)], [], ee_xw252, ee_xi426, 16, [((-2), 49)])]
set_option maxRecDepth 1000000 in
theorem ee_k174.ok : ee_Ct ee_mt ee_k174 := ee_cert (Γ := [ee_k134, ee_k32]) (K := [(47, 25, [0]), (47, 45, [1])]) (S := []) (f := 5000) (N := ee_me47) (cuts := ee_u174) ee_Tbok (ee_gcons ee_k134.ok (ee_gcons ee_k32.ok ee_gnil)) rfl (by decide +kernel) (by decide +kernel) (List.all_eq_true.mp (by decide +kernel))
/- PepperTables.hottest -/
def ee_xi428 : ee_iv := (51, [(0, 0, 1600, []), (1, (-2147483648), 2147483647, []), (2, (-2147483648), 2147483647, []), (3, 0, 1600, []), (4, (-2147483648), 2147483647, []), (5, (-2147483648), 2147483647, []), (6, (-2147483648), 2147483647, []), (7, 0, 6, []), (8, 0, 5, []), (9, 0, 10, []), (10, (-2147483648), 2147483647, []), (11, 0, 100, []), (12, 0, 999, []), (13, 0, 320, []), (14, 0, 1, []), (15, 0, 1, []), (16, 0, 1, []), (17, 0, 127, []), (18, 0, 1023, []), (19, 0, 999, []), (20, 0, 999, []), (21, 0, 127, []), (22, 0, 1023, []), (23, 0, 999, []), (24, 0, 999, []), (25, (-2147483648), 2147483647, []), (26, (-2147483648), 2147483647, []), (27, 0, 40, []), (28, 0, 6, []), (29, 0, 6, []), (30, 0, 30, []), (31, 0, 100000, []), (32, 0, 1, []), (33, 0, 36, []), (34, 0, 6, []), (35, 0, 5, []), (36, 0, 10, []), (37, (-2147483648), 2147483647, []), (38, 0, 100, []), (39, 0, 999, []), (40, 0, 320, []), (41, 0, 1, []), (42, 0, 1, []), (43, 0, 1, []), (44, 0, 127, []), (45, 0, 1023, []), (46, 0, 999, []), (47, 0, 999, []), (48, (-1), 4, []), (49, (-1), 2147483647, []), (50, 0, 5, [])])
def ee_u175 : List ee_cu := [(6, [(0, .ref 0), (1, .retAddr 48), (2, .retAddr 49), (3, .retAddr 50)], [], ee_xw218, ee_xi428, 14, [((-2), 50)])]
set_option maxRecDepth 1000000 in
theorem ee_k175.ok : ee_Ct ee_mt ee_k175 := ee_cert (Γ := [ee_k11, ee_k3]) (K := [(22, 30, [0]), (22, 33, [1])]) (S := []) (f := 5000) (N := ee_me22) (cuts := ee_u175) ee_Tbok (ee_gcons ee_k11.ok (ee_gcons ee_k3.ok ee_gnil)) rfl (by decide +kernel) (by decide +kernel) (List.all_eq_true.mp (by decide +kernel))
/- PepperTables.near -/
def ee_u176 : List ee_cu := []
set_option maxRecDepth 1000000 in
theorem ee_k176.ok : ee_Ct ee_mt ee_k176 := ee_cert (Γ := [ee_k6]) (K := [(41, 22, [0])]) (S := []) (f := 5000) (N := ee_me41) (cuts := ee_u176) ee_Tbok (ee_gcons ee_k6.ok ee_gnil) rfl (by decide +kernel) (by decide +kernel) (List.all_eq_true.mp (by decide +kernel))
/- PepperTables.scandal -/
def ee_u177 : List ee_cu := []
set_option maxRecDepth 1000000 in
theorem ee_k177.ok : ee_Ct ee_mt ee_k177 := ee_cert (Γ := [ee_k3]) (K := [(56, 11, [0])]) (S := []) (f := 5000) (N := ee_me56) (cuts := ee_u177) ee_Tbok (ee_gcons ee_k3.ok ee_gnil) rfl (by decide +kernel) (by decide +kernel) (List.all_eq_true.mp (by decide +kernel))
/- PepperTables.next -/
def ee_u178 : List ee_cu := []
set_option maxRecDepth 1000000 in
theorem ee_k178.ok : ee_Ct ee_mt ee_k178 := ee_cert (Γ := [ee_k127]) (K := [(42, 1, [0])]) (S := []) (f := 5000) (N := ee_me42) (cuts := ee_u178) ee_Tbok (ee_gcons ee_k127.ok ee_gnil) rfl (by decide +kernel) (by decide +kernel) (List.all_eq_true.mp (by decide +kernel))
/- PepperTables.odds -/
def ee_xi429 : ee_iv := (55, [(0, 0, 4, []), (1, 0, 1, []), (2, 0, 1600, []), (3, (-2147483648), 2147483647, []), (4, (-2147483648), 2147483647, []), (5, 0, 1600, []), (6, (-2147483648), 2147483647, []), (7, (-2147483648), 2147483647, []), (8, (-2147483648), 2147483647, []), (9, 0, 6, []), (10, 0, 5, []), (11, 0, 10, []), (12, (-2147483648), 2147483647, []), (13, 0, 100, []), (14, 0, 999, []), (15, 0, 320, []), (16, 0, 1, []), (17, 0, 1, []), (18, 0, 1, []), (19, 0, 127, []), (20, 0, 1023, []), (21, 0, 999, []), (22, 0, 999, []), (23, 0, 127, []), (24, 0, 1023, []), (25, 0, 999, []), (26, 0, 999, []), (27, (-2147483648), 2147483647, []), (28, (-2147483648), 2147483647, []), (29, 0, 40, []), (30, 0, 6, []), (31, 0, 6, []), (32, 0, 30, []), (33, 0, 100000, []), (34, 0, 1, []), (35, 0, 36, []), (36, 0, 6, []), (37, 0, 5, []), (38, 0, 10, []), (39, (-2147483648), 2147483647, []), (40, 0, 100, []), (41, 0, 999, []), (42, 0, 320, []), (43, 0, 1, []), (44, 0, 1, []), (45, 0, 1, []), (46, 0, 127, []), (47, 0, 1023, []), (48, 0, 999, []), (49, 0, 999, []), (50, 0, 100, []), (51, 1, 100, []), (52, 0, 100, []), (53, (-2147483648), 2147483647, []), (54, 0, 4, [])])
def ee_u179 : List ee_cu := [(61, [(0, .ref 0), (1, .retAddr 0), (2, .retAddr 1), (3, .retAddr 50), (4, .retAddr 51), (5, .retAddr 52), (6, .retAddr 53), (7, .retAddr 54)], [], ee_xw223, ee_xi429, 12, [((-2), 54)])]
set_option maxRecDepth 1000000 in
theorem ee_k179.ok : ee_Ct ee_mt ee_k179 := ee_cert (Γ := [ee_k126]) (K := [(43, 32, [0])]) (S := []) (f := 5000) (N := ee_me43) (cuts := ee_u179) ee_Tbok (ee_gcons ee_k126.ok ee_gnil) rfl (by decide +kernel) (by decide +kernel) (List.all_eq_true.mp (by decide +kernel))
/- PepperTables.lies -/
def ee_u180 : List ee_cu := []
set_option maxRecDepth 1000000 in
theorem ee_k180.ok : ee_Ct ee_mt ee_k180 := ee_cert (Γ := []) (K := []) (S := []) (f := 5000) (N := ee_me38) (cuts := ee_u180) ee_Tbok ee_gnil rfl (by decide +kernel) (by decide +kernel) (List.all_eq_true.mp (by decide +kernel))
/- PepperTables.heard -/
def ee_u181 : List ee_cu := []
set_option maxRecDepth 1000000 in
theorem ee_k181.ok : ee_Ct ee_mt ee_k181 := ee_cert (Γ := [ee_k41]) (K := [(20, 37, [0])]) (S := []) (f := 5000) (N := ee_me20) (cuts := ee_u181) ee_Tbok (ee_gcons ee_k41.ok ee_gnil) rfl (by decide +kernel) (by decide +kernel) (List.all_eq_true.mp (by decide +kernel))
/- PepperTables.untell -/
def ee_u182 : List ee_cu := []
set_option maxRecDepth 1000000 in
theorem ee_k182.ok : ee_Ct ee_mt ee_k182 := ee_cert (Γ := [ee_k42]) (K := [(71, 5, [0])]) (S := []) (f := 5000) (N := ee_me71) (cuts := ee_u182) ee_Tbok (ee_gcons ee_k42.ok ee_gnil) rfl (by decide +kernel) (by decide +kernel) (List.all_eq_true.mp (by decide +kernel))
/- PepperTables.rows -/
def ee_u183 : List ee_cu := []
set_option maxRecDepth 1000000 in
theorem ee_k183.ok : ee_Ct ee_mt ee_k183 := ee_cert (Γ := [ee_k45]) (K := [(52, 13, [0])]) (S := []) (f := 5000) (N := ee_me52) (cuts := ee_u183) ee_Tbok (ee_gcons ee_k45.ok ee_gnil) rfl (by decide +kernel) (by decide +kernel) (List.all_eq_true.mp (by decide +kernel))
/- PepperTables.sure -/
def ee_u184 : List ee_cu := []
set_option maxRecDepth 1000000 in
theorem ee_k184.ok : ee_Ct ee_mt ee_k184 := ee_cert (Γ := [ee_k45, ee_k46]) (K := [(67, 62, [0]), (67, 88, [1])]) (S := []) (f := 5000) (N := ee_me67) (cuts := ee_u184) ee_Tbok (ee_gcons ee_k45.ok (ee_gcons ee_k46.ok ee_gnil)) rfl (by decide +kernel) (by decide +kernel) (List.all_eq_true.mp (by decide +kernel))
/- PepperTables.ask -/
def ee_xq397 : ee_cell := .inl (2, [.retAddr 32, .retAddr 33, .retAddr 53, .retAddr 54, .ref 38, .ref 39, .ref 40, .ref 41, .ref 42, .ref 43, .ref 44, .ref 45, .ref 46])
def ee_xq398 : ee_cell := .inl (6, [.retAddr 55, .retAddr 56, .retAddr 57, .retAddr 58, .ref 56, .ref 57])
def ee_xw256 : ee_w := [ee_xq305, ee_xq330, ee_xq331, ee_xq332, ee_xq333, ee_xq310, ee_xq334, ee_xq312, ee_xq335, ee_xq397, ee_xq12, ee_xq315, ee_xq315, ee_xq337, ee_xq268, ee_xq269, ee_xq26, ee_xq185, ee_xq185, ee_xq186, ee_xq186, ee_xq187, ee_xq188, ee_xq189, ee_xq17, ee_xq186, ee_xq195, ee_xq186, ee_xq195, ee_xq26, ee_xq206, ee_xq207, ee_xq201, ee_xq203, ee_xq33, ee_xq26, ee_xq230, ee_xq26, ee_xq29, ee_xq30, ee_xq239, ee_xq30, ee_xq30, ee_xq28, ee_xq240, ee_xq31, ee_xq398, ee_xq26, ee_xq185, ee_xq185, ee_xq186, ee_xq186, ee_xq187, ee_xq188, ee_xq189, ee_xq17, ee_xq186, ee_xq195]
def ee_xi436 : ee_iv := (59, [(0, 0, 1, []), (1, (-2147483648), 2147483647, []), (2, 0, 1600, []), (3, (-2147483648), 2147483647, []), (4, (-2147483648), 2147483647, []), (5, 0, 1600, []), (6, (-2147483648), 2147483647, []), (7, (-2147483648), 2147483647, []), (8, (-2147483648), 2147483647, []), (9, 0, 6, []), (10, 0, 5, []), (11, 0, 10, []), (12, (-2147483648), 2147483647, []), (13, 0, 100, []), (14, 0, 999, []), (15, 0, 320, []), (16, 0, 1, []), (17, 0, 1, []), (18, 0, 1, []), (19, 0, 127, []), (20, 0, 1023, []), (21, 0, 999, []), (22, 0, 999, []), (23, 0, 127, []), (24, 0, 1023, []), (25, 0, 999, []), (26, 0, 999, []), (27, (-2147483648), 2147483647, []), (28, (-2147483648), 2147483647, []), (29, 0, 40, []), (30, 0, 6, []), (31, 0, 6, []), (32, 0, 30, []), (33, 0, 100000, []), (34, 0, 1, []), (35, 0, 36, []), (36, 0, 6, []), (37, 0, 5, []), (38, 0, 10, []), (39, (-2147483648), 2147483647, []), (40, 0, 100, []), (41, 0, 999, []), (42, 0, 320, []), (43, 0, 1, []), (44, 0, 1, []), (45, 0, 1, []), (46, 0, 127, []), (47, 0, 1023, []), (48, 0, 999, []), (49, 0, 999, []), (50, (-1), 4, []), (51, 0, 37, []), (52, 0, 5, []), (53, 0, 1, []), (54, 0, 36, []), (55, 0, 127, []), (56, 0, 1023, []), (57, 0, 999, []), (58, 0, 999, [])])
def ee_u185 : List ee_cu := [(37, [(0, .ref 0), (1, .retAddr 0), (2, .retAddr 1), (3, .retAddr 50), (4, .retAddr 51), (5, .retAddr 52)], [], ee_xw256, ee_xi436, 14, [((-2), 52)])]
set_option maxRecDepth 1000000 in
theorem ee_k185.ok : ee_Ct ee_mt ee_k185 := ee_cert (Γ := [ee_k45, ee_k47]) (K := [(3, 20, [0]), (3, 55, [1])]) (S := []) (f := 5000) (N := ee_me3) (cuts := ee_u185) ee_Tbok (ee_gcons ee_k45.ok (ee_gcons ee_k47.ok ee_gnil)) rfl (by decide +kernel) (by decide +kernel) (List.all_eq_true.mp (by decide +kernel))
/- PepperTables.image -/
def ee_u186 : List ee_cu := []
set_option maxRecDepth 1000000 in
theorem ee_k186.ok : ee_Ct ee_mt ee_k186 := ee_cert (Γ := [ee_k30]) (K := [(25, 9, [0])]) (S := []) (f := 5000) (N := ee_me25) (cuts := ee_u186) ee_Tbok (ee_gcons ee_k30.ok ee_gnil) rfl (by decide +kernel) (by decide +kernel) (List.all_eq_true.mp (by decide +kernel))
/- PepperTables.back -/
def ee_u187 : List ee_cu := []
set_option maxRecDepth 1000000 in
theorem ee_k187.ok : ee_Ct ee_mt ee_k187 := ee_cert (Γ := [ee_k31, ee_k25]) (K := [(4, 9, [0]), (4, 25, [1])]) (S := []) (f := 5000) (N := ee_me4) (cuts := ee_u187) ee_Tbok (ee_gcons ee_k31.ok (ee_gcons ee_k25.ok ee_gnil)) rfl (by decide +kernel) (by decide +kernel) (List.all_eq_true.mp (by decide +kernel))
/- PepperTables.about -/
def ee_u188 : List ee_cu := []
set_option maxRecDepth 1000000 in
theorem ee_k188.ok : ee_Ct ee_mt ee_k188 := ee_cert (Γ := [ee_k3]) (K := [(1, 215, [0])]) (S := []) (f := 5000) (N := ee_me1) (cuts := ee_u188) ee_Tbok (ee_gcons ee_k3.ok ee_gnil) rfl (by decide +kernel) (by decide +kernel) (List.all_eq_true.mp (by decide +kernel))
/- PepperTablesModel.bitsOf@10 -/
def ee_k190 : ee_ct := (167, [.retAddr 0], ee_xw26, (1, [(0, 0, 1023, [])]), [([.retAddr 1], ee_xw26, (2, [(0, 0, 1023, []), (1, 0, 10, [])]))], 0)
def ee_u190_0 : List ee_cu := [(1, [(0, .retAddr 0)], [.int 0], ee_xw26, (1, [(0, 0, 63, [])]), 2, [])]
def ee_u190_1 : List ee_cu := [(1, [(0, .retAddr 0)], [.int 0], ee_xw26, (1, [(0, 64, 127, [])]), 2, [])]
def ee_u190_2 : List ee_cu := [(1, [(0, .retAddr 0)], [.int 0], ee_xw26, (1, [(0, 128, 191, [])]), 2, [])]
def ee_u190_3 : List ee_cu := [(1, [(0, .retAddr 0)], [.int 0], ee_xw26, (1, [(0, 192, 255, [])]), 2, [])]
def ee_u190_4 : List ee_cu := [(1, [(0, .retAddr 0)], [.int 0], ee_xw26, (1, [(0, 256, 319, [])]), 2, [])]
def ee_u190_5 : List ee_cu := [(1, [(0, .retAddr 0)], [.int 0], ee_xw26, (1, [(0, 320, 383, [])]), 2, [])]
def ee_u190_6 : List ee_cu := [(1, [(0, .retAddr 0)], [.int 0], ee_xw26, (1, [(0, 384, 447, [])]), 2, [])]
def ee_u190_7 : List ee_cu := [(1, [(0, .retAddr 0)], [.int 0], ee_xw26, (1, [(0, 448, 511, [])]), 2, [])]
def ee_u190_8 : List ee_cu := [(1, [(0, .retAddr 0)], [.int 0], ee_xw26, (1, [(0, 512, 575, [])]), 2, [])]
def ee_u190_9 : List ee_cu := [(1, [(0, .retAddr 0)], [.int 0], ee_xw26, (1, [(0, 576, 639, [])]), 2, [])]
def ee_u190_10 : List ee_cu := [(1, [(0, .retAddr 0)], [.int 0], ee_xw26, (1, [(0, 640, 703, [])]), 2, [])]
def ee_u190_11 : List ee_cu := [(1, [(0, .retAddr 0)], [.int 0], ee_xw26, (1, [(0, 704, 767, [])]), 2, [])]
def ee_u190_12 : List ee_cu := [(1, [(0, .retAddr 0)], [.int 0], ee_xw26, (1, [(0, 768, 831, [])]), 2, [])]
def ee_u190_13 : List ee_cu := [(1, [(0, .retAddr 0)], [.int 0], ee_xw26, (1, [(0, 832, 895, [])]), 2, [])]
def ee_u190_14 : List ee_cu := [(1, [(0, .retAddr 0)], [.int 0], ee_xw26, (1, [(0, 896, 959, [])]), 2, [])]
def ee_u190_15 : List ee_cu := [(1, [(0, .retAddr 0)], [.int 0], ee_xw26, (1, [(0, 960, 1023, [])]), 2, [])]
def ee_u190 : List ee_cu := ee_u190_0 ++ (ee_u190_1 ++ (ee_u190_2 ++ (ee_u190_3 ++ (ee_u190_4 ++ (ee_u190_5 ++ (ee_u190_6 ++ (ee_u190_7 ++ (ee_u190_8 ++ (ee_u190_9 ++ (ee_u190_10 ++ (ee_u190_11 ++ (ee_u190_12 ++ (ee_u190_13 ++ (ee_u190_14 ++ (ee_u190_15 ++ [])))))))))))))))
set_option maxRecDepth 1000000 in
theorem ee_k190.s0 : ee_u190_0.all (ee_sg2 ee_mt [] [] [(167, 0, 0), (167, 1, 0)] 5000 ee_me167 ee_k190 ee_u190) = true := by decide +kernel
