def ee_xq247 : ee_cell := .inl (2, [.retAddr 0, .retAddr 1, .retAddr 2, .retAddr 3, .ref 3, .ref 4, .ref 5, .ref 6, .ref 7, .ref 8, .ref 9, .ref 10, .ref 11])
def ee_xq248 : ee_cell := .inl (7, [.retAddr 4, .retAddr 5, .retAddr 6, .retAddr 7, .retAddr 8, .retAddr 9, .retAddr 10, .retAddr 11, .retAddr 12, .retAddr 13, .ref 12, .ref 13, .ref 14, .ref 15, .ref 16, .ref 17, .ref 18, .ref 19, .ref 20])
def ee_xq249 : ee_cell := .inl (4, [.ref 21, .ref 22, .ref 23])
def ee_xq250 : ee_cell := .inl (6, [.retAddr 14, .retAddr 15, .retAddr 16, .retAddr 17, .ref 24, .ref 25])
def ee_xw175 : ee_w := [ee_xq247, ee_xq248, ee_xq249, ee_xq29, ee_xq30, ee_xq239, ee_xq30, ee_xq30, ee_xq28, ee_xq240, ee_xq31, ee_xq250, ee_xq26, ee_xq185, ee_xq185, ee_xq186, ee_xq186, ee_xq187, ee_xq188, ee_xq189, ee_xq17, ee_xq26, ee_xq206, ee_xq207, ee_xq186, ee_xq195]
def ee_xi218 : ee_iv := (18, [(0, 0, 30, []), (1, 0, 100000, []), (2, 0, 1, []), (3, 0, 36, []), (4, 0, 6, []), (5, 0, 5, []), (6, 1, 10, []), (7, (-2147483648), 2147483647, []), (8, 0, 100, []), (9, 0, 999, []), (10, 0, 320, []), (11, 0, 1, []), (12, 0, 1, []), (13, 0, 1, []), (14, 0, 127, []), (15, 0, 1023, []), (16, 0, 999, []), (17, 0, 999, [])])
def ee_xq251 : ee_cell := .inl (2, [.retAddr 0, .retAddr 1, .retAddr 18, .retAddr 19, .ref 3, .ref 4, .ref 5, .ref 6, .ref 7, .ref 8, .ref 9, .ref 10, .ref 11])
def ee_xq252 : ee_cell := .inl (6, [.retAddr 20, .retAddr 21, .retAddr 22, .retAddr 23, .ref 24, .ref 25])
def ee_xw176 : ee_w := [ee_xq251, ee_xq248, ee_xq249, ee_xq29, ee_xq30, ee_xq239, ee_xq30, ee_xq30, ee_xq28, ee_xq240, ee_xq31, ee_xq252, ee_xq26, ee_xq185, ee_xq185, ee_xq186, ee_xq186, ee_xq187, ee_xq188, ee_xq189, ee_xq17, ee_xq26, ee_xq206, ee_xq207, ee_xq186, ee_xq195]
def ee_xi219 : ee_iv := (24, [(0, 0, 30, []), (1, 0, 100000, []), (2, 0, 1, []), (3, 0, 36, []), (4, 0, 6, []), (5, 0, 5, []), (6, 1, 10, []), (7, (-2147483648), 2147483647, []), (8, 0, 100, []), (9, 0, 999, []), (10, 0, 320, []), (11, 0, 1, []), (12, 0, 1, []), (13, 0, 1, []), (14, 0, 127, []), (15, 0, 1023, []), (16, 0, 999, []), (17, 0, 999, []), (18, 1, 1, []), (19, 0, 36, []), (20, 0, 127, []), (21, 0, 1023, []), (22, 0, 999, []), (23, 0, 999, [])])
/- Hearsay.reckon -/
def ee_k44 : ee_ct := (88, [.ref 0, .ref 1, .ref 2], ee_xw175, ee_xi218, [([], ee_xw176, ee_xi219)], 3)
def ee_xq253 : ee_cell := .inl (2, [.retAddr 0, .retAddr 1, .retAddr 2, .retAddr 20, .ref 3, .ref 4, .ref 5, .ref 6, .ref 7, .ref 8, .ref 9, .ref 10, .ref 11])
def ee_xq254 : ee_cell := .inl (6, [.int 0, .int 0, .int 0, .retAddr 9, .ref 24, .ref 25])
def ee_xw177 : ee_w := [ee_xq253, ee_xq248, ee_xq249, ee_xq29, ee_xq30, ee_xq239, ee_xq30, ee_xq30, ee_xq28, ee_xq240, ee_xq31, ee_xq254, ee_xq26, ee_xq185, ee_xq185, ee_xq186, ee_xq186, ee_xq187, ee_xq188, ee_xq189, ee_xq17, ee_xq26, ee_xq206, ee_xq207, ee_xq186, ee_xq195]
def ee_xi220 : ee_iv := (21, [(0, 0, 30, []), (1, 0, 100000, []), (2, 0, 0, []), (3, 0, 36, []), (4, 0, 6, []), (5, 0, 5, []), (6, 1, 10, []), (7, (-2147483648), 2147483647, []), (8, 0, 100, []), (9, 0, 999, []), (10, 0, 320, []), (11, 0, 1, []), (12, 0, 1, []), (13, 0, 1, []), (14, 0, 127, []), (15, 0, 1023, []), (16, 0, 999, []), (17, 0, 999, []), (18, 1, 6, []), (19, 0, 36, []), (20, 1, 36, [])])
def ee_xq255 : ee_cell := .inl (2, [.retAddr 0, .retAddr 1, .retAddr 2, .retAddr 21, .ref 3, .ref 4, .ref 5, .ref 6, .ref 7, .ref 8, .ref 9, .ref 10, .ref 11])
def ee_xw178 : ee_w := [ee_xq255, ee_xq248, ee_xq249, ee_xq29, ee_xq30, ee_xq239, ee_xq30, ee_xq30, ee_xq28, ee_xq240, ee_xq31, ee_xq254, ee_xq26, ee_xq185, ee_xq185, ee_xq186, ee_xq186, ee_xq187, ee_xq188, ee_xq189, ee_xq17, ee_xq26, ee_xq206, ee_xq207, ee_xq186, ee_xq195]
def ee_xi221 : ee_iv := (22, [(0, 0, 30, []), (1, 0, 100000, []), (2, 0, 0, []), (3, 0, 36, []), (4, 0, 6, []), (5, 0, 5, []), (6, 1, 10, []), (7, (-2147483648), 2147483647, []), (8, 0, 100, []), (9, 0, 999, []), (10, 0, 320, []), (11, 0, 1, []), (12, 0, 1, []), (13, 0, 1, []), (14, 0, 127, []), (15, 0, 1023, []), (16, 0, 999, []), (17, 0, 999, []), (18, 1, 6, []), (19, 0, 35, []), (20, 0, 5, []), (21, 1, 36, [])])
def ee_u44 : List ee_cu := [(45, [(0, .ref 0), (1, .ref 1), (2, .ref 2), (3, .retAddr 18), (4, .retAddr 19)], [], ee_xw177, ee_xi220, 646, [((-17), 19)]),
  (107, [(0, .ref 0), (1, .ref 1), (2, .ref 2), (3, .retAddr 18), (4, .retAddr 19), (5, .retAddr 20)], [], ee_xw178, ee_xi221, 644, [((-17), 19), ((-2), 20)])]
set_option maxRecDepth 1000000 in
theorem ee_k44.ok : ee_Ct ee_mt ee_k44 := ee_cert (Γ := [ee_k9, ee_k19, ee_k0]) (K := [(88, 39, [0]), (88, 132, [1]), (88, 150, [2])]) (S := []) (f := 5000) (N := ee_me88) (cuts := ee_u44) ee_Tbok (ee_gcons ee_k9.ok (ee_gcons ee_k19.ok (ee_gcons ee_k0.ok ee_gnil))) rfl (by decide +kernel) (by decide +kernel) (List.all_eq_true.mp (by decide +kernel))
def ee_xq256 : ee_cell := .inl (2, [.retAddr 1, .retAddr 2, .retAddr 3, .retAddr 4, .ref 3, .ref 4, .ref 5, .ref 6, .ref 7, .ref 8, .ref 9, .ref 10, .ref 11])
def ee_xq257 : ee_cell := .inl (7, [.retAddr 5, .retAddr 6, .retAddr 7, .retAddr 8, .retAddr 9, .retAddr 10, .retAddr 11, .retAddr 12, .retAddr 13, .retAddr 14, .ref 12, .ref 13, .ref 14, .ref 15, .ref 16, .ref 17, .ref 18, .ref 19, .ref 20])
def ee_xq258 : ee_cell := .inl (6, [.retAddr 15, .retAddr 16, .retAddr 17, .retAddr 18, .ref 24, .ref 25])
def ee_xw179 : ee_w := [ee_xq256, ee_xq257, ee_xq249, ee_xq29, ee_xq30, ee_xq239, ee_xq30, ee_xq30, ee_xq28, ee_xq240, ee_xq31, ee_xq258, ee_xq26, ee_xq185, ee_xq185, ee_xq186, ee_xq186, ee_xq187, ee_xq188, ee_xq189, ee_xq17, ee_xq26, ee_xq206, ee_xq207, ee_xq186, ee_xq195]
def ee_xi222 : ee_iv := (19, [(0, (-2147483648), 2147483647, []), (1, 0, 30, []), (2, 0, 100000, []), (3, 0, 1, []), (4, 0, 36, []), (5, 0, 6, []), (6, 0, 5, []), (7, 0, 10, []), (8, (-2147483648), 2147483647, []), (9, 0, 100, []), (10, 0, 999, []), (11, 0, 320, []), (12, 0, 1, []), (13, 0, 1, []), (14, 0, 1, []), (15, 0, 127, []), (16, 0, 1023, []), (17, 0, 999, []), (18, 0, 999, [])])
def ee_xq259 : ee_cell := .inl (2, [.retAddr 1, .retAddr 2, .retAddr 20, .retAddr 21, .ref 3, .ref 4, .ref 5, .ref 6, .ref 7, .ref 8, .ref 9, .ref 10, .ref 11])
def ee_xq260 : ee_cell := .inl (6, [.retAddr 22, .retAddr 23, .retAddr 24, .retAddr 25, .ref 24, .ref 25])
def ee_xw180 : ee_w := [ee_xq259, ee_xq257, ee_xq249, ee_xq29, ee_xq30, ee_xq239, ee_xq30, ee_xq30, ee_xq28, ee_xq240, ee_xq31, ee_xq260, ee_xq26, ee_xq185, ee_xq185, ee_xq186, ee_xq186, ee_xq187, ee_xq188, ee_xq189, ee_xq17, ee_xq26, ee_xq206, ee_xq207, ee_xq186, ee_xq195]
def ee_xi223 : ee_iv := (26, [(0, (-2147483648), 2147483647, []), (1, 0, 30, []), (2, 0, 100000, []), (3, 0, 1, []), (4, 0, 36, []), (5, 0, 6, []), (6, 0, 5, []), (7, 0, 10, []), (8, (-2147483648), 2147483647, []), (9, 0, 100, []), (10, 0, 999, []), (11, 0, 320, []), (12, 0, 1, []), (13, 0, 1, []), (14, 0, 1, []), (15, 0, 127, []), (16, 0, 1023, []), (17, 0, 999, []), (18, 0, 999, []), (19, (-2147483648), 2147483647, []), (20, 0, 1, []), (21, 0, 36, []), (22, 0, 127, []), (23, 0, 1023, []), (24, 0, 999, []), (25, 0, 999, [])])
/- Hearsay.sift -/
def ee_k45 : ee_ct := (90, [.ref 0, .ref 1, .ref 2, .retAddr 0], ee_xw179, ee_xi222, [([.retAddr 19], ee_xw180, ee_xi223)], 4)
def ee_xq261 : ee_cell := .inl (2, [.retAddr 1, .retAddr 2, .retAddr 21, .retAddr 22, .ref 3, .ref 4, .ref 5, .ref 6, .ref 7, .ref 8, .ref 9, .ref 10, .ref 11])
def ee_xq262 : ee_cell := .inl (6, [.retAddr 23, .retAddr 24, .retAddr 25, .retAddr 26, .ref 24, .ref 25])
def ee_xw181 : ee_w := [ee_xq261, ee_xq257, ee_xq249, ee_xq29, ee_xq30, ee_xq239, ee_xq30, ee_xq30, ee_xq28, ee_xq240, ee_xq31, ee_xq262, ee_xq26, ee_xq185, ee_xq185, ee_xq186, ee_xq186, ee_xq187, ee_xq188, ee_xq189, ee_xq17, ee_xq26, ee_xq206, ee_xq207, ee_xq186, ee_xq195]
def ee_xi224 : ee_iv := (27, [(0, (-2147483648), 2147483647, []), (1, 0, 30, []), (2, 0, 100000, []), (3, 0, 1, []), (4, 0, 36, []), (5, 0, 6, []), (6, 0, 5, []), (7, 1, 10, []), (8, (-2147483648), 2147483647, []), (9, 0, 100, []), (10, 0, 999, []), (11, 0, 320, []), (12, 0, 1, []), (13, 0, 1, []), (14, 0, 1, []), (15, 0, 127, []), (16, 0, 1023, []), (17, 0, 999, []), (18, 0, 999, []), (19, (-2147483648), 2147483647, []), (20, 0, 36, []), (21, 1, 1, []), (22, 0, 36, []), (23, 0, 127, []), (24, 0, 1023, []), (25, 0, 999, []), (26, 0, 999, [])])
def ee_u45 : List ee_cu := [(21, [(0, .ref 0), (1, .ref 1), (2, .ref 2), (3, .retAddr 0), (4, .retAddr 19), (5, .retAddr 20)], [], ee_xw181, ee_xi224, 76, [((-2), 20)])]
set_option maxRecDepth 1000000 in
theorem ee_k45.ok : ee_Ct ee_mt ee_k45 := ee_cert (Γ := [ee_k44, ee_k43]) (K := [(90, 12, [0]), (90, 40, [1])]) (S := []) (f := 5000) (N := ee_me90) (cuts := ee_u45) ee_Tbok (ee_gcons ee_k44.ok (ee_gcons ee_k43.ok ee_gnil)) rfl (by decide +kernel) (by decide +kernel) (List.all_eq_true.mp (by decide +kernel))
def ee_xq263 : ee_cell := .inl (2, [.retAddr 1, .retAddr 2, .retAddr 3, .retAddr 4, .ref 2, .ref 3, .ref 4, .ref 5, .ref 6, .ref 7, .ref 8, .ref 9, .ref 10])
def ee_xq264 : ee_cell := .inl (7, [.retAddr 5, .retAddr 6, .retAddr 7, .retAddr 8, .retAddr 9, .retAddr 10, .retAddr 11, .retAddr 12, .retAddr 13, .retAddr 14, .ref 11, .ref 12, .ref 13, .ref 14, .ref 15, .ref 16, .ref 17, .ref 18, .ref 19])
def ee_xq265 : ee_cell := .inl (6, [.retAddr 15, .retAddr 16, .retAddr 17, .retAddr 18, .ref 20, .ref 21])
def ee_xw182 : ee_w := [ee_xq263, ee_xq264, ee_xq29, ee_xq30, ee_xq239, ee_xq30, ee_xq30, ee_xq28, ee_xq240, ee_xq31, ee_xq265, ee_xq26, ee_xq185, ee_xq185, ee_xq186, ee_xq186, ee_xq187, ee_xq188, ee_xq189, ee_xq17, ee_xq186, ee_xq195]
def ee_xi225 : ee_iv := (19, [(0, 0, 1, []), (1, 0, 30, []), (2, 0, 100000, []), (3, 0, 1, []), (4, 0, 36, []), (5, 0, 6, []), (6, 0, 5, []), (7, 0, 10, []), (8, (-2147483648), 2147483647, []), (9, 0, 100, []), (10, 0, 999, []), (11, 0, 320, []), (12, 0, 1, []), (13, 0, 1, []), (14, 0, 1, []), (15, 0, 127, []), (16, 0, 1023, []), (17, 0, 999, []), (18, 0, 999, [])])
def ee_xi226 : ee_iv := (20, [(0, 0, 1, []), (1, 0, 30, []), (2, 0, 100000, []), (3, 0, 1, []), (4, 0, 36, []), (5, 0, 6, []), (6, 0, 5, []), (7, 0, 10, []), (8, (-2147483648), 2147483647, []), (9, 0, 100, []), (10, 0, 999, []), (11, 0, 320, []), (12, 0, 1, []), (13, 0, 1, []), (14, 0, 1, []), (15, 0, 127, []), (16, 0, 1023, []), (17, 0, 999, []), (18, 0, 999, []), (19, (-2), 2147483647, [])])
/- Hearsay.sameInAll -/
def ee_k46 : ee_ct := (89, [.ref 0, .ref 1, .retAddr 0], ee_xw182, ee_xi225, [([.retAddr 19], ee_xw182, ee_xi226)], 1)
def ee_xi227 : ee_iv := (22, [(0, 0, 1, []), (1, 0, 30, []), (2, 0, 100000, []), (3, 0, 1, []), (4, 0, 36, []), (5, 0, 6, []), (6, 0, 5, []), (7, 0, 10, []), (8, (-2147483648), 2147483647, []), (9, 0, 100, []), (10, 0, 999, []), (11, 0, 320, []), (12, 0, 1, []), (13, 0, 1, []), (14, 0, 1, []), (15, 0, 127, []), (16, 0, 1023, []), (17, 0, 999, []), (18, 0, 999, []), (19, 0, 1, []), (20, (-1), 2147483647, []), (21, 0, 2147483647, [])])
def ee_u46 : List ee_cu := [(8, [(0, .ref 0), (1, .ref 1), (2, .retAddr 0), (3, .retAddr 19), (4, .retAddr 20), (5, .retAddr 21)], [], ee_xw182, ee_xi227, 4294967298, [((-2), 21)])]
set_option maxRecDepth 1000000 in
theorem ee_k46.ok : ee_Ct ee_mt ee_k46 := ee_cert (Γ := []) (K := []) (S := []) (f := 5000) (N := ee_me89) (cuts := ee_u46) ee_Tbok ee_gnil rfl (by decide +kernel) (by decide +kernel) (List.all_eq_true.mp (by decide +kernel))
def ee_xi228 : ee_iv := (9, [(0, 0, 4, []), (1, 0, 30, []), (2, 0, 100000, []), (3, 0, 1, []), (4, 0, 36, []), (5, 0, 127, []), (6, 0, 1023, []), (7, 0, 999, []), (8, 0, 999, [])])
def ee_xi229 : ee_iv := (10, [(0, 0, 4, []), (1, 0, 30, []), (2, 0, 100000, []), (3, 0, 1, []), (4, 0, 36, []), (5, 0, 127, []), (6, 0, 1023, []), (7, 0, 999, []), (8, 0, 999, []), (9, 0, 2147483647, [])])
/- Hearsay.mostLeftBy -/
def ee_k47 : ee_ct := (86, [.ref 0, .retAddr 0], ee_xw173, ee_xi228, [([.retAddr 9], ee_xw173, ee_xi229)], 0)
def ee_xi230 : ee_iv := (10, [(0, 0, 4, []), (1, 0, 30, []), (2, 0, 100000, []), (3, 0, 1, []), (4, 0, 36, []), (5, 0, 127, []), (6, 0, 1023, []), (7, 0, 999, []), (8, 0, 999, []), (9, 0, 11, [])])
def ee_xi231 : ee_iv := (11, [(0, 0, 4, []), (1, 0, 30, []), (2, 0, 100000, []), (3, 0, 1, []), (4, 0, 36, []), (5, 0, 127, []), (6, 0, 1023, []), (7, 0, 999, []), (8, 0, 999, []), (9, 0, 2147483647, []), (10, 0, 36, [])])
def ee_u47 : List ee_cu := [(2, [(0, .ref 0), (1, .retAddr 0), (2, .retAddr 9)], [], ee_xw173, ee_xi230, 103, [((-2), 9)]),
  (25, [(0, .ref 0), (1, .retAddr 0), (2, .retAddr 9), (3, .retAddr 10)], [], ee_xw173, ee_xi231, 76, [((-2), 10)])]
set_option maxRecDepth 1000000 in
theorem ee_k47.ok : ee_Ct ee_mt ee_k47 := ee_cert (Γ := []) (K := []) (S := []) (f := 5000) (N := ee_me86) (cuts := ee_u47) ee_Tbok ee_gnil rfl (by decide +kernel) (by decide +kernel) (List.all_eq_true.mp (by decide +kernel))
def ee_xq266 : ee_cell := .inl (5, [.retAddr 1, .retAddr 2, .retAddr 3, .ref 1, .ref 2, .ref 3, .retAddr 4, .retAddr 5, .retAddr 6, .retAddr 7, .double 0])
def ee_xq267 : ee_cell := .inl (7, [.retAddr 8, .retAddr 9, .retAddr 10, .retAddr 11, .retAddr 12, .retAddr 13, .retAddr 14, .retAddr 15, .retAddr 16, .retAddr 17, .ref 4, .ref 5, .ref 6, .ref 7, .ref 8, .ref 9, .ref 10, .ref 11, .ref 12])
def ee_xw183 : ee_w := [ee_xq266, ee_xq267, ee_xq268, ee_xq269, ee_xq26, ee_xq185, ee_xq185, ee_xq186, ee_xq186, ee_xq187, ee_xq188, ee_xq189, ee_xq17]
def ee_xi232 : ee_iv := (18, [(0, (-2147483648), 2147483647, []), (1, 0, 1600, []), (2, (-2147483648), 2147483647, []), (3, (-2147483648), 2147483647, []), (4, 0, 1600, []), (5, (-2147483648), 2147483647, []), (6, (-2147483648), 2147483647, []), (7, (-2147483648), 2147483647, []), (8, 0, 6, []), (9, 0, 5, []), (10, 0, 10, []), (11, (-2147483648), 2147483647, []), (12, 0, 100, []), (13, 0, 999, []), (14, 0, 320, []), (15, 0, 1, []), (16, 0, 1, []), (17, 0, 1, [])])
def ee_xq270 : ee_cell := .inl (5, [.retAddr 18, .retAddr 2, .retAddr 3, .ref 1, .ref 2, .ref 3, .retAddr 4, .retAddr 5, .retAddr 6, .retAddr 7, .double 0])
def ee_xw184 : ee_w := [ee_xq270, ee_xq267, ee_xq268, ee_xq269, ee_xq26, ee_xq185, ee_xq185, ee_xq186, ee_xq186, ee_xq187, ee_xq188, ee_xq189, ee_xq17]
def ee_xi233 : ee_iv := (19, [(0, (-2147483648), 2147483647, []), (1, 0, 1600, []), (2, (-2147483648), 2147483647, []), (3, (-2147483648), 2147483647, []), (4, 0, 1600, []), (5, (-2147483648), 2147483647, []), (6, (-2147483648), 2147483647, []), (7, (-2147483648), 2147483647, []), (8, 0, 6, []), (9, 0, 5, []), (10, 0, 10, []), (11, (-2147483648), 2147483647, []), (12, 0, 100, []), (13, 0, 999, []), (14, 0, 320, []), (15, 0, 1, []), (16, 0, 1, []), (17, 0, 1, []), (18, 0, 1600, [])])
/- Reader.addNumber -/
def ee_k48 : ee_ct := (111, [.ref 0, .retAddr 0], ee_xw183, ee_xi232, [([], ee_xw184, ee_xi233)], 0)
def ee_xq271 : ee_cell := .inl (5, [.retAddr 19, .retAddr 2, .retAddr 3, .ref 1, .ref 2, .ref 3, .retAddr 4, .retAddr 5, .retAddr 6, .retAddr 7, .double 0])
def ee_xw185 : ee_w := [ee_xq271, ee_xq267, ee_xq268, ee_xq269, ee_xq26, ee_xq185, ee_xq185, ee_xq186, ee_xq186, ee_xq187, ee_xq188, ee_xq189, ee_xq17]
def ee_xi234 : ee_iv := (20, [(0, (-2147483648), 2147483647, []), (1, 0, 1600, []), (2, (-2147483648), 2147483647, []), (3, (-2147483648), 2147483647, []), (4, 0, 1600, []), (5, (-2147483648), 2147483647, []), (6, (-2147483648), 2147483647, []), (7, (-2147483648), 2147483647, []), (8, 0, 6, []), (9, 0, 5, []), (10, 0, 10, []), (11, (-2147483648), 2147483647, []), (12, 0, 100, []), (13, 0, 999, []), (14, 0, 320, []), (15, 0, 1, []), (16, 0, 1, []), (17, 0, 1, []), (18, (-128), 24, []), (19, 0, 1600, [])])
def ee_u48 : List ee_cu := [(3, [(0, .ref 0), (1, .retAddr 0), (2, .retAddr 18)], [], ee_xw185, ee_xi234, 260, [(2, 18)])]
set_option maxRecDepth 1000000 in
theorem ee_k48.ok : ee_Ct ee_mt ee_k48 := ee_cert (Γ := []) (K := []) (S := []) (f := 5000) (N := ee_me111) (cuts := ee_u48) ee_Tbok ee_gnil rfl (by decide +kernel) (by decide +kernel) (List.all_eq_true.mp (by decide +kernel))
def ee_xq272 : ee_cell := .inl (5, [.retAddr 0, .retAddr 1, .retAddr 2, .ref 1, .ref 2, .ref 3, .retAddr 3, .retAddr 4, .retAddr 5, .retAddr 6, .double 0])
def ee_xq273 : ee_cell := .inl (7, [.retAddr 7, .retAddr 8, .retAddr 9, .retAddr 10, .retAddr 11, .retAddr 12, .retAddr 13, .retAddr 14, .retAddr 15, .retAddr 16, .ref 4, .ref 5, .ref 6, .ref 7, .ref 8, .ref 9, .ref 10, .ref 11, .ref 12])
def ee_xw186 : ee_w := [ee_xq272, ee_xq273, ee_xq268, ee_xq269, ee_xq26, ee_xq185, ee_xq185, ee_xq186, ee_xq186, ee_xq187, ee_xq188, ee_xq189, ee_xq17]
def ee_xi235 : ee_iv := (17, [(0, 0, 1600, []), (1, (-2147483648), 2147483647, []), (2, (-2147483648), 2147483647, []), (3, 0, 1600, []), (4, (-2147483648), 2147483647, []), (5, (-2147483648), 2147483647, []), (6, (-2147483648), 2147483647, []), (7, 0, 6, []), (8, 0, 5, []), (9, 0, 10, []), (10, (-2147483648), 2147483647, []), (11, 0, 100, []), (12, 0, 999, []), (13, 0, 320, []), (14, 0, 1, []), (15, 0, 1, []), (16, 0, 1, [])])
def ee_xq274 : ee_cell := .inl (5, [.retAddr 0, .retAddr 1, .retAddr 2, .ref 1, .ref 2, .ref 3, .retAddr 17, .retAddr 18, .retAddr 5, .retAddr 6, .double 0])
def ee_xw187 : ee_w := [ee_xq274, ee_xq273, ee_xq268, ee_xq269, ee_xq26, ee_xq185, ee_xq185, ee_xq186, ee_xq186, ee_xq187, ee_xq188, ee_xq189, ee_xq17]
def ee_xi236 : ee_iv := (19, [(0, 0, 1600, []), (1, (-2147483648), 2147483647, []), (2, (-2147483648), 2147483647, []), (3, 0, 1600, []), (4, (-2147483648), 2147483647, []), (5, (-2147483648), 2147483647, []), (6, (-2147483648), 2147483647, []), (7, 0, 6, []), (8, 0, 5, []), (9, 0, 10, []), (10, (-2147483648), 2147483647, []), (11, 0, 100, []), (12, 0, 999, []), (13, 0, 320, []), (14, 0, 1, []), (15, 0, 1, []), (16, 0, 1, []), (17, 0, 1600, []), (18, 1, 24, [])])
/- Reader.stepWord -/
def ee_k49 : ee_ct := (131, [.ref 0], ee_xw186, ee_xi235, [([], ee_xw187, ee_xi236)], 0)
def ee_xq275 : ee_cell := .inl (5, [.retAddr 0, .retAddr 1, .retAddr 2, .ref 1, .ref 2, .ref 3, .retAddr 17, .retAddr 4, .retAddr 5, .retAddr 6, .double 0])
def ee_xw188 : ee_w := [ee_xq275, ee_xq273, ee_xq268, ee_xq269, ee_xq26, ee_xq185, ee_xq185, ee_xq186, ee_xq186, ee_xq187, ee_xq188, ee_xq189, ee_xq17]
def ee_xi237 : ee_iv := (18, [(0, 0, 1600, []), (1, (-2147483648), 2147483647, []), (2, (-2147483648), 2147483647, []), (3, 0, 1600, []), (4, (-2147483648), 2147483647, []), (5, (-2147483648), 2147483647, []), (6, (-2147483648), 2147483647, []), (7, 0, 6, []), (8, 0, 5, []), (9, 0, 10, []), (10, (-2147483648), 2147483647, []), (11, 0, 100, []), (12, 0, 999, []), (13, 0, 320, []), (14, 0, 1, []), (15, 0, 1, []), (16, 0, 1, []), (17, 0, 1600, [])])
def ee_xq276 : ee_cell := .inl (5, [.retAddr 0, .retAddr 1, .retAddr 2, .ref 1, .ref 2, .ref 3, .retAddr 18, .retAddr 19, .retAddr 5, .retAddr 6, .double 0])
def ee_xw189 : ee_w := [ee_xq276, ee_xq273, ee_xq268, ee_xq269, ee_xq26, ee_xq185, ee_xq185, ee_xq186, ee_xq186, ee_xq187, ee_xq188, ee_xq189, ee_xq17]
def ee_xi238 : ee_iv := (20, [(0, 0, 1600, []), (1, (-2147483648), 2147483647, []), (2, (-2147483648), 2147483647, []), (3, 0, 1600, []), (4, (-2147483648), 2147483647, []), (5, (-2147483648), 2147483647, []), (6, (-2147483648), 2147483647, []), (7, 0, 6, []), (8, 0, 5, []), (9, 0, 10, []), (10, (-2147483648), 2147483647, []), (11, 0, 100, []), (12, 0, 999, []), (13, 0, 320, []), (14, 0, 1, []), (15, 0, 1, []), (16, 0, 1, []), (17, 0, 18, []), (18, 0, 1600, []), (19, 1, 24, [])])
def ee_u49 : List ee_cu := [(5, [(0, .ref 0)], [], ee_xw188, ee_xi237, 3245, [((-2), 17)]),
  (115, [(0, .ref 0), (1, .retAddr 17)], [], ee_xw189, ee_xi238, 40, [((-2), 17)])]
set_option maxRecDepth 1000000 in
theorem ee_k49.ok : ee_Ct ee_mt ee_k49 := ee_cert (Γ := []) (K := []) (S := []) (f := 5000) (N := ee_me131) (cuts := ee_u49) ee_Tbok ee_gnil rfl (by decide +kernel) (by decide +kernel) (List.all_eq_true.mp (by decide +kernel))
def ee_xq277 : ee_cell := .inl (5, [.retAddr 0, .retAddr 1, .retAddr 2, .ref 1, .ref 2, .ref 3, .retAddr 17, .retAddr 18, .retAddr 5, .retAddr 19, .double 0])
def ee_xw190 : ee_w := [ee_xq277, ee_xq273, ee_xq268, ee_xq269, ee_xq26, ee_xq185, ee_xq185, ee_xq186, ee_xq186, ee_xq187, ee_xq188, ee_xq189, ee_xq17]
def ee_xi239 : ee_iv := (20, [(0, 0, 1600, []), (1, (-2147483648), 2147483647, []), (2, (-2147483648), 2147483647, []), (3, 0, 1600, []), (4, (-2147483648), 2147483647, []), (5, (-2147483648), 2147483647, []), (6, (-2147483648), 2147483647, []), (7, 0, 6, []), (8, 0, 5, []), (9, 0, 10, []), (10, (-2147483648), 2147483647, []), (11, 0, 100, []), (12, 0, 999, []), (13, 0, 320, []), (14, 0, 1, []), (15, 0, 1, []), (16, 0, 1, []), (17, 0, 1600, []), (18, 1, 2, []), (19, (-2147483648), 2147483647, [])])
/- Reader.stepNumber -/
def ee_k50 : ee_ct := (130, [.ref 0], ee_xw186, ee_xi235, [([], ee_xw190, ee_xi239)], 0)
def ee_xq278 : ee_cell := .inl (5, [.retAddr 0, .retAddr 1, .retAddr 2, .ref 1, .ref 2, .ref 3, .retAddr 17, .retAddr 4, .retAddr 5, .retAddr 18, .double 0])
def ee_xw191 : ee_w := [ee_xq278, ee_xq273, ee_xq268, ee_xq269, ee_xq26, ee_xq185, ee_xq185, ee_xq186, ee_xq186, ee_xq187, ee_xq188, ee_xq189, ee_xq17]
def ee_xi240 : ee_iv := (19, [(0, 0, 1600, []), (1, (-2147483648), 2147483647, []), (2, (-2147483648), 2147483647, []), (3, 0, 1600, []), (4, (-2147483648), 2147483647, []), (5, (-2147483648), 2147483647, []), (6, (-2147483648), 2147483647, []), (7, 0, 6, []), (8, 0, 5, []), (9, 0, 10, []), (10, (-2147483648), 2147483647, []), (11, 0, 100, []), (12, 0, 999, []), (13, 0, 320, []), (14, 0, 1, []), (15, 0, 1, []), (16, 0, 1, []), (17, 0, 1600, []), (18, (-2147483648), 2147483647, [])])
def ee_u50 : List ee_cu := [(5, [(0, .ref 0)], [], ee_xw191, ee_xi240, 3204, [((-2), 17)])]
set_option maxRecDepth 1000000 in
theorem ee_k50.ok : ee_Ct ee_mt ee_k50 := ee_cert (Γ := []) (K := []) (S := []) (f := 5000) (N := ee_me130) (cuts := ee_u50) ee_Tbok ee_gnil rfl (by decide +kernel) (by decide +kernel) (List.all_eq_true.mp (by decide +kernel))
def ee_xq279 : ee_cell := .inl (5, [.retAddr 0, .retAddr 1, .retAddr 2, .ref 1, .ref 2, .ref 3, .retAddr 17, .retAddr 18, .retAddr 19, .retAddr 20, .double 0])
def ee_xw192 : ee_w := [ee_xq279, ee_xq273, ee_xq268, ee_xq269, ee_xq26, ee_xq185, ee_xq185, ee_xq186, ee_xq186, ee_xq187, ee_xq188, ee_xq189, ee_xq17]
def ee_xi241 : ee_iv := (21, [(0, 0, 1600, []), (1, (-2147483648), 2147483647, []), (2, (-2147483648), 2147483647, []), (3, 0, 1600, []), (4, (-2147483648), 2147483647, []), (5, (-2147483648), 2147483647, []), (6, (-2147483648), 2147483647, []), (7, 0, 6, []), (8, 0, 5, []), (9, 0, 10, []), (10, (-2147483648), 2147483647, []), (11, 0, 100, []), (12, 0, 999, []), (13, 0, 320, []), (14, 0, 1, []), (15, 0, 1, []), (16, 0, 1, []), (17, 0, 1600, []), (18, (-2147483648), 2147483647, []), (19, 0, 1600, []), (20, (-2147483648), 2147483647, [])])
/- Reader.step -/
def ee_k51 : ee_ct := (129, [.ref 0], ee_xw186, ee_xi235, [([], ee_xw192, ee_xi241)], 4)
def ee_u51 : List ee_cu := [(0, [(0, .ref 0)], [], ee_xw188, ee_xi237, 3204, [((-2), 17)])]
set_option maxRecDepth 1000000 in
theorem ee_k51.ok : ee_Ct ee_mt ee_k51 := ee_cert (Γ := [ee_k49, ee_k50, ee_kk2]) (K := [(129, 128, [0]), (129, 163, [1]), (129, 181, [2])]) (S := []) (f := 5000) (N := ee_me129) (cuts := ee_u51) ee_Tbok (ee_gcons ee_k49.ok (ee_gcons ee_k50.ok (ee_gcons ee_kk2.ok ee_gnil))) rfl (by decide +kernel) (by decide +kernel) (List.all_eq_true.mp (by decide +kernel))
def ee_xq280 : ee_cell := .inl (5, [.retAddr 1, .retAddr 18, .retAddr 19, .ref 1, .ref 2, .ref 3, .retAddr 4, .retAddr 5, .retAddr 6, .retAddr 7, .double 0])
def ee_xw193 : ee_w := [ee_xq280, ee_xq267, ee_xq268, ee_xq269, ee_xq26, ee_xq185, ee_xq185, ee_xq186, ee_xq186, ee_xq187, ee_xq188, ee_xq189, ee_xq17]
def ee_xi242 : ee_iv := (20, [(0, (-2147483648), 2147483647, []), (1, 0, 1600, []), (2, (-2147483648), 2147483647, []), (3, (-2147483648), 2147483647, []), (4, 0, 1600, []), (5, (-2147483648), 2147483647, []), (6, (-2147483648), 2147483647, []), (7, (-2147483648), 2147483647, []), (8, 0, 6, []), (9, 0, 5, []), (10, 0, 10, []), (11, (-2147483648), 2147483647, []), (12, 0, 100, []), (13, 0, 999, []), (14, 0, 320, []), (15, 0, 1, []), (16, 0, 1, []), (17, 0, 1, []), (18, (-2147483648), 2147483647, []), (19, (-2147483648), 2147483647, [])])
/- Reader.fail -/
def ee_k52 : ee_ct := (112, [.ref 0, .retAddr 0], ee_xw183, ee_xi232, [([], ee_xw193, ee_xi242)], 0)
def ee_u52 : List ee_cu := []
set_option maxRecDepth 1000000 in
theorem ee_k52.ok : ee_Ct ee_mt ee_k52 := ee_cert (Γ := []) (K := []) (S := []) (f := 5000) (N := ee_me112) (cuts := ee_u52) ee_Tbok ee_gnil rfl (by decide +kernel) (by decide +kernel) (List.all_eq_true.mp (by decide +kernel))
def ee_xq281 : ee_cell := .inl (5, [.retAddr 0, .retAddr 17, .retAddr 18, .ref 1, .ref 2, .ref 3, .retAddr 3, .retAddr 4, .retAddr 5, .retAddr 6, .double 0])
def ee_xw194 : ee_w := [ee_xq281, ee_xq273, ee_xq268, ee_xq269, ee_xq26, ee_xq185, ee_xq185, ee_xq186, ee_xq186, ee_xq187, ee_xq188, ee_xq189, ee_xq17]
def ee_xi243 : ee_iv := (19, [(0, 0, 1600, []), (1, (-2147483648), 2147483647, []), (2, (-2147483648), 2147483647, []), (3, 0, 1600, []), (4, (-2147483648), 2147483647, []), (5, (-2147483648), 2147483647, []), (6, (-2147483648), 2147483647, []), (7, 0, 6, []), (8, 0, 5, []), (9, 0, 10, []), (10, (-2147483648), 2147483647, []), (11, 0, 100, []), (12, 0, 999, []), (13, 0, 320, []), (14, 0, 1, []), (15, 0, 1, []), (16, 0, 1, []), (17, (-2147483648), 2147483647, []), (18, (-2147483648), 2147483647, [])])
/- Reader.refuse -/
def ee_k53 : ee_ct := (128, [.ref 0], ee_xw186, ee_xi235, [([], ee_xw194, ee_xi243)], 1)
def ee_u53 : List ee_cu := []
set_option maxRecDepth 1000000 in
theorem ee_k53.ok : ee_Ct ee_mt ee_k53 := ee_cert (Γ := [ee_k52]) (K := [(128, 14, [0])]) (S := []) (f := 5000) (N := ee_me128) (cuts := ee_u53) ee_Tbok (ee_gcons ee_k52.ok ee_gnil) rfl (by decide +kernel) (by decide +kernel) (List.all_eq_true.mp (by decide +kernel))
def ee_xq282 : ee_cell := .inl (5, [.retAddr 1, .retAddr 18, .retAddr 19, .ref 1, .ref 2, .ref 3, .retAddr 20, .retAddr 21, .retAddr 22, .retAddr 23, .double 0])
def ee_xw195 : ee_w := [ee_xq282, ee_xq267, ee_xq268, ee_xq269, ee_xq26, ee_xq185, ee_xq185, ee_xq186, ee_xq186, ee_xq187, ee_xq188, ee_xq189, ee_xq17]
def ee_xi244 : ee_iv := (24, [(0, (-2147483648), 2147483647, []), (1, 0, 1600, []), (2, (-2147483648), 2147483647, []), (3, (-2147483648), 2147483647, []), (4, 0, 1600, []), (5, (-2147483648), 2147483647, []), (6, (-2147483648), 2147483647, []), (7, (-2147483648), 2147483647, []), (8, 0, 6, []), (9, 0, 5, []), (10, 0, 10, []), (11, (-2147483648), 2147483647, []), (12, 0, 100, []), (13, 0, 999, []), (14, 0, 320, []), (15, 0, 1, []), (16, 0, 1, []), (17, 0, 1, []), (18, (-2147483648), 2147483647, []), (19, (-2147483648), 2147483647, []), (20, 0, 1600, []), (21, (-2147483648), 2147483647, []), (22, (-2147483648), 2147483647, []), (23, (-2147483648), 2147483647, [])])
/- Reader.take -/
def ee_k54 : ee_ct := (132, [.ref 0, .retAddr 0], ee_xw183, ee_xi232, [([], ee_xw195, ee_xi244)], 5)
def ee_u54 : List ee_cu := []
set_option maxRecDepth 1000000 in
theorem ee_k54.ok : ee_Ct ee_mt ee_k54 := ee_cert (Γ := [ee_k51, ee_k53]) (K := [(132, 17, [0]), (132, 24, [1])]) (S := []) (f := 5000) (N := ee_me132) (cuts := ee_u54) ee_Tbok (ee_gcons ee_k51.ok (ee_gcons ee_k53.ok ee_gnil)) rfl (by decide +kernel) (by decide +kernel) (List.all_eq_true.mp (by decide +kernel))
def ee_xq283 : ee_cell := .inl (5, [.retAddr 0, .retAddr 18, .retAddr 19, .ref 1, .ref 2, .ref 3, .retAddr 20, .retAddr 21, .retAddr 22, .retAddr 23, .double 0])
def ee_xw196 : ee_w := [ee_xq283, ee_xq273, ee_xq268, ee_xq269, ee_xq26, ee_xq185, ee_xq185, ee_xq186, ee_xq186, ee_xq187, ee_xq188, ee_xq189, ee_xq17]
def ee_xi245 : ee_iv := (24, [(0, 0, 1600, []), (1, (-2147483648), 2147483647, []), (2, (-2147483648), 2147483647, []), (3, 0, 1600, []), (4, (-2147483648), 2147483647, []), (5, (-2147483648), 2147483647, []), (6, (-2147483648), 2147483647, []), (7, 0, 6, []), (8, 0, 5, []), (9, 0, 10, []), (10, (-2147483648), 2147483647, []), (11, 0, 100, []), (12, 0, 999, []), (13, 0, 320, []), (14, 0, 1, []), (15, 0, 1, []), (16, 0, 1, []), (17, 0, 9, []), (18, (-2147483648), 2147483647, []), (19, (-2147483648), 2147483647, []), (20, 0, 1600, []), (21, (-2147483648), 2147483647, []), (22, (-2147483648), 2147483647, []), (23, (-2147483648), 2147483647, [])])
/- Reader.takeNumber@9 -/
def ee_k55 : ee_ct := (135, [.ref 0, .int 0, .int 9], ee_xw186, ee_xi235, [([.retAddr 17], ee_xw196, ee_xi245)], 5)
def ee_u55 : List ee_cu := []
set_option maxRecDepth 1000000 in
theorem ee_k55.ok : ee_Ct ee_mt ee_k55 := ee_cert (Γ := [ee_k53, ee_k52, ee_k51]) (K := [(135, 18, [0]), (135, 41, [1]), (135, 52, [2])]) (S := []) (f := 5000) (N := ee_me135) (cuts := ee_u55) ee_Tbok (ee_gcons ee_k53.ok (ee_gcons ee_k52.ok (ee_gcons ee_k51.ok ee_gnil))) rfl (by decide +kernel) (by decide +kernel) (List.all_eq_true.mp (by decide +kernel))
def ee_xi246 : ee_iv := (24, [(0, 0, 1600, []), (1, (-2147483648), 2147483647, []), (2, (-2147483648), 2147483647, []), (3, 0, 1600, []), (4, (-2147483648), 2147483647, []), (5, (-2147483648), 2147483647, []), (6, (-2147483648), 2147483647, []), (7, 0, 6, []), (8, 0, 5, []), (9, 0, 10, []), (10, (-2147483648), 2147483647, []), (11, 0, 100, []), (12, 0, 999, []), (13, 0, 320, []), (14, 0, 1, []), (15, 0, 1, []), (16, 0, 1, []), (17, 1, 9, []), (18, (-2147483648), 2147483647, []), (19, (-2147483648), 2147483647, []), (20, 0, 1600, []), (21, (-2147483648), 2147483647, []), (22, (-2147483648), 2147483647, []), (23, (-2147483648), 2147483647, [])])
/- Reader.takeNumber@1 -/
def ee_k56 : ee_ct := (135, [.ref 0, .int 1, .int 9], ee_xw186, ee_xi235, [([.retAddr 17], ee_xw196, ee_xi246)], 5)
def ee_u56 : List ee_cu := []
set_option maxRecDepth 1000000 in
theorem ee_k56.ok : ee_Ct ee_mt ee_k56 := ee_cert (Γ := [ee_k53, ee_k52, ee_k51]) (K := [(135, 18, [0]), (135, 41, [1]), (135, 52, [2])]) (S := []) (f := 5000) (N := ee_me135) (cuts := ee_u56) ee_Tbok (ee_gcons ee_k53.ok (ee_gcons ee_k52.ok (ee_gcons ee_k51.ok ee_gnil))) rfl (by decide +kernel) (by decide +kernel) (List.all_eq_true.mp (by decide +kernel))
def ee_xi247 : ee_iv := (24, [(0, 0, 1600, []), (1, (-2147483648), 2147483647, []), (2, (-2147483648), 2147483647, []), (3, 0, 1600, []), (4, (-2147483648), 2147483647, []), (5, (-2147483648), 2147483647, []), (6, (-2147483648), 2147483647, []), (7, 0, 6, []), (8, 0, 5, []), (9, 0, 10, []), (10, (-2147483648), 2147483647, []), (11, 0, 100, []), (12, 0, 999, []), (13, 0, 320, []), (14, 0, 1, []), (15, 0, 1, []), (16, 0, 1, []), (17, 0, 100, []), (18, (-2147483648), 2147483647, []), (19, (-2147483648), 2147483647, []), (20, 0, 1600, []), (21, (-2147483648), 2147483647, []), (22, (-2147483648), 2147483647, []), (23, (-2147483648), 2147483647, [])])
/- Reader.takeNumber@100 -/
def ee_k57 : ee_ct := (135, [.ref 0, .int 0, .int 100], ee_xw186, ee_xi235, [([.retAddr 17], ee_xw196, ee_xi247)], 5)
def ee_u57 : List ee_cu := []
set_option maxRecDepth 1000000 in
theorem ee_k57.ok : ee_Ct ee_mt ee_k57 := ee_cert (Γ := [ee_k53, ee_k52, ee_k51]) (K := [(135, 18, [0]), (135, 41, [1]), (135, 52, [2])]) (S := []) (f := 5000) (N := ee_me135) (cuts := ee_u57) ee_Tbok (ee_gcons ee_k53.ok (ee_gcons ee_k52.ok (ee_gcons ee_k51.ok ee_gnil))) rfl (by decide +kernel) (by decide +kernel) (List.all_eq_true.mp (by decide +kernel))
def ee_xi248 : ee_iv := (24, [(0, 0, 1600, []), (1, (-2147483648), 2147483647, []), (2, (-2147483648), 2147483647, []), (3, 0, 1600, []), (4, (-2147483648), 2147483647, []), (5, (-2147483648), 2147483647, []), (6, (-2147483648), 2147483647, []), (7, 0, 6, []), (8, 0, 5, []), (9, 0, 10, []), (10, (-2147483648), 2147483647, []), (11, 0, 100, []), (12, 0, 999, []), (13, 0, 320, []), (14, 0, 1, []), (15, 0, 1, []), (16, 0, 1, []), (17, 0, 999, []), (18, (-2147483648), 2147483647, []), (19, (-2147483648), 2147483647, []), (20, 0, 1600, []), (21, (-2147483648), 2147483647, []), (22, (-2147483648), 2147483647, []), (23, (-2147483648), 2147483647, [])])
/- Reader.takeNumber@999 -/
def ee_k58 : ee_ct := (135, [.ref 0, .int 0, .int 999], ee_xw186, ee_xi235, [([.retAddr 17], ee_xw196, ee_xi248)], 5)
def ee_u58 : List ee_cu := []
set_option maxRecDepth 1000000 in
theorem ee_k58.ok : ee_Ct ee_mt ee_k58 := ee_cert (Γ := [ee_k53, ee_k52, ee_k51]) (K := [(135, 18, [0]), (135, 41, [1]), (135, 52, [2])]) (S := []) (f := 5000) (N := ee_me135) (cuts := ee_u58) ee_Tbok (ee_gcons ee_k53.ok (ee_gcons ee_k52.ok (ee_gcons ee_k51.ok ee_gnil))) rfl (by decide +kernel) (by decide +kernel) (List.all_eq_true.mp (by decide +kernel))
def ee_xq284 : ee_cell := .inl (5, [.retAddr 1, .retAddr 2, .retAddr 3, .ref 2, .ref 3, .ref 4, .retAddr 4, .retAddr 5, .retAddr 6, .retAddr 7, .double 0])
def ee_xq285 : ee_cell := .inl (7, [.retAddr 8, .retAddr 9, .retAddr 10, .retAddr 11, .retAddr 12, .retAddr 13, .retAddr 14, .retAddr 15, .retAddr 16, .retAddr 17, .ref 5, .ref 6, .ref 7, .ref 8, .ref 9, .ref 10, .ref 1, .ref 11, .ref 12])
def ee_xw197 : ee_w := [ee_xq284, ee_xq188, ee_xq285, ee_xq268, ee_xq269, ee_xq26, ee_xq185, ee_xq185, ee_xq186, ee_xq186, ee_xq187, ee_xq189, ee_xq17]
def ee_xi249 : ee_iv := (18, [(0, 0, 6, []), (1, 0, 1600, []), (2, (-2147483648), 2147483647, []), (3, (-2147483648), 2147483647, []), (4, 0, 1600, []), (5, (-2147483648), 2147483647, []), (6, (-2147483648), 2147483647, []), (7, (-2147483648), 2147483647, []), (8, 0, 6, []), (9, 0, 5, []), (10, 0, 10, []), (11, (-2147483648), 2147483647, []), (12, 0, 100, []), (13, 0, 999, []), (14, 0, 320, []), (15, 0, 1, []), (16, 0, 1, []), (17, 0, 1, [])])
def ee_xi250 : ee_iv := (19, [(0, 0, 6, []), (1, 0, 1600, []), (2, (-2147483648), 2147483647, []), (3, (-2147483648), 2147483647, []), (4, 0, 1600, []), (5, (-2147483648), 2147483647, []), (6, (-2147483648), 2147483647, []), (7, (-2147483648), 2147483647, []), (8, 0, 6, []), (9, 0, 5, []), (10, 0, 10, []), (11, (-2147483648), 2147483647, []), (12, 0, 100, []), (13, 0, 999, []), (14, 0, 320, []), (15, 0, 1, []), (16, 0, 1, []), (17, 0, 1, []), (18, (-1), 5, [])])
/- Reader.indexOfName@personNames -/
def ee_k59 : ee_ct := (113, [.ref 0, .ref 1, .retAddr 0], ee_xw197, ee_xi249, [([.retAddr 18], ee_xw197, ee_xi250)], 0)
def ee_xi251 : ee_iv := (19, [(0, 0, 6, []), (1, 0, 1600, []), (2, (-2147483648), 2147483647, []), (3, (-2147483648), 2147483647, []), (4, 0, 1600, []), (5, (-2147483648), 2147483647, []), (6, (-2147483648), 2147483647, []), (7, (-2147483648), 2147483647, []), (8, 0, 6, []), (9, 0, 5, []), (10, 0, 10, []), (11, (-2147483648), 2147483647, []), (12, 0, 100, []), (13, 0, 999, []), (14, 0, 320, []), (15, 0, 1, []), (16, 0, 1, []), (17, 0, 1, []), (18, 0, 6, [])])
def ee_u59 : List ee_cu := [(2, [(0, .ref 0), (1, .ref 1), (2, .retAddr 0), (3, .retAddr 18)], [], ee_xw197, ee_xi251, 16, [((-2), 18)])]
set_option maxRecDepth 1000000 in
theorem ee_k59.ok : ee_Ct ee_mt ee_k59 := ee_cert (Γ := []) (K := []) (S := []) (f := 5000) (N := ee_me113) (cuts := ee_u59) ee_Tbok ee_gnil rfl (by decide +kernel) (by decide +kernel) (List.all_eq_true.mp (by decide +kernel))
def ee_xq286 : ee_cell := .inl (7, [.retAddr 8, .retAddr 9, .retAddr 10, .retAddr 11, .retAddr 12, .retAddr 13, .retAddr 14, .retAddr 15, .retAddr 16, .retAddr 17, .ref 5, .ref 6, .ref 7, .ref 8, .ref 9, .ref 10, .ref 11, .ref 1, .ref 12])
def ee_xw198 : ee_w := [ee_xq284, ee_xq189, ee_xq286, ee_xq268, ee_xq269, ee_xq26, ee_xq185, ee_xq185, ee_xq186, ee_xq186, ee_xq187, ee_xq188, ee_xq17]
def ee_xi252 : ee_iv := (18, [(0, 0, 5, []), (1, 0, 1600, []), (2, (-2147483648), 2147483647, []), (3, (-2147483648), 2147483647, []), (4, 0, 1600, []), (5, (-2147483648), 2147483647, []), (6, (-2147483648), 2147483647, []), (7, (-2147483648), 2147483647, []), (8, 0, 6, []), (9, 0, 5, []), (10, 0, 10, []), (11, (-2147483648), 2147483647, []), (12, 0, 100, []), (13, 0, 999, []), (14, 0, 320, []), (15, 0, 1, []), (16, 0, 1, []), (17, 0, 1, [])])
def ee_xi253 : ee_iv := (19, [(0, 0, 5, []), (1, 0, 1600, []), (2, (-2147483648), 2147483647, []), (3, (-2147483648), 2147483647, []), (4, 0, 1600, []), (5, (-2147483648), 2147483647, []), (6, (-2147483648), 2147483647, []), (7, (-2147483648), 2147483647, []), (8, 0, 6, []), (9, 0, 5, []), (10, 0, 10, []), (11, (-2147483648), 2147483647, []), (12, 0, 100, []), (13, 0, 999, []), (14, 0, 320, []), (15, 0, 1, []), (16, 0, 1, []), (17, 0, 1, []), (18, (-1), 4, [])])
/- Reader.indexOfName@sackNames -/
def ee_k60 : ee_ct := (113, [.ref 0, .ref 1, .retAddr 0], ee_xw198, ee_xi252, [([.retAddr 18], ee_xw198, ee_xi253)], 0)
def ee_xi254 : ee_iv := (19, [(0, 0, 5, []), (1, 0, 1600, []), (2, (-2147483648), 2147483647, []), (3, (-2147483648), 2147483647, []), (4, 0, 1600, []), (5, (-2147483648), 2147483647, []), (6, (-2147483648), 2147483647, []), (7, (-2147483648), 2147483647, []), (8, 0, 6, []), (9, 0, 5, []), (10, 0, 10, []), (11, (-2147483648), 2147483647, []), (12, 0, 100, []), (13, 0, 999, []), (14, 0, 320, []), (15, 0, 1, []), (16, 0, 1, []), (17, 0, 1, []), (18, 0, 5, [])])
def ee_u60 : List ee_cu := [(2, [(0, .ref 0), (1, .ref 1), (2, .retAddr 0), (3, .retAddr 18)], [], ee_xw198, ee_xi254, 14, [((-2), 18)])]
set_option maxRecDepth 1000000 in
theorem ee_k60.ok : ee_Ct ee_mt ee_k60 := ee_cert (Γ := []) (K := []) (S := []) (f := 5000) (N := ee_me113) (cuts := ee_u60) ee_Tbok ee_gnil rfl (by decide +kernel) (by decide +kernel) (List.all_eq_true.mp (by decide +kernel))
def ee_xq287 : ee_cell := .inl (7, [.retAddr 8, .retAddr 9, .retAddr 10, .retAddr 11, .retAddr 12, .retAddr 13, .retAddr 14, .retAddr 15, .retAddr 16, .retAddr 17, .ref 5, .ref 6, .ref 7, .ref 8, .ref 9, .ref 10, .ref 11, .ref 12, .ref 1])
def ee_xw199 : ee_w := [ee_xq284, ee_xq17, ee_xq287, ee_xq268, ee_xq269, ee_xq26, ee_xq185, ee_xq185, ee_xq186, ee_xq186, ee_xq187, ee_xq188, ee_xq189]
def ee_xi255 : ee_iv := (18, [(0, 0, 10, []), (1, 0, 1600, []), (2, (-2147483648), 2147483647, []), (3, (-2147483648), 2147483647, []), (4, 0, 1600, []), (5, (-2147483648), 2147483647, []), (6, (-2147483648), 2147483647, []), (7, (-2147483648), 2147483647, []), (8, 0, 6, []), (9, 0, 5, []), (10, 0, 10, []), (11, (-2147483648), 2147483647, []), (12, 0, 100, []), (13, 0, 999, []), (14, 0, 320, []), (15, 0, 1, []), (16, 0, 1, []), (17, 0, 1, [])])
def ee_xi256 : ee_iv := (19, [(0, 0, 10, []), (1, 0, 1600, []), (2, (-2147483648), 2147483647, []), (3, (-2147483648), 2147483647, []), (4, 0, 1600, []), (5, (-2147483648), 2147483647, []), (6, (-2147483648), 2147483647, []), (7, (-2147483648), 2147483647, []), (8, 0, 6, []), (9, 0, 5, []), (10, 0, 10, []), (11, (-2147483648), 2147483647, []), (12, 0, 100, []), (13, 0, 999, []), (14, 0, 320, []), (15, 0, 1, []), (16, 0, 1, []), (17, 0, 1, []), (18, (-1), 9, [])])
/- Reader.indexOfName@thingNames -/
def ee_k61 : ee_ct := (113, [.ref 0, .ref 1, .retAddr 0], ee_xw199, ee_xi255, [([.retAddr 18], ee_xw199, ee_xi256)], 0)
def ee_xi257 : ee_iv := (19, [(0, 0, 10, []), (1, 0, 1600, []), (2, (-2147483648), 2147483647, []), (3, (-2147483648), 2147483647, []), (4, 0, 1600, []), (5, (-2147483648), 2147483647, []), (6, (-2147483648), 2147483647, []), (7, (-2147483648), 2147483647, []), (8, 0, 6, []), (9, 0, 5, []), (10, 0, 10, []), (11, (-2147483648), 2147483647, []), (12, 0, 100, []), (13, 0, 999, []), (14, 0, 320, []), (15, 0, 1, []), (16, 0, 1, []), (17, 0, 1, []), (18, 0, 10, [])])
def ee_u61 : List ee_cu := [(2, [(0, .ref 0), (1, .ref 1), (2, .retAddr 0), (3, .retAddr 18)], [], ee_xw199, ee_xi257, 24, [((-2), 18)])]
set_option maxRecDepth 1000000 in
theorem ee_k61.ok : ee_Ct ee_mt ee_k61 := ee_cert (Γ := []) (K := []) (S := []) (f := 5000) (N := ee_me113) (cuts := ee_u61) ee_Tbok ee_gnil rfl (by decide +kernel) (by decide +kernel) (List.all_eq_true.mp (by decide +kernel))
def ee_xq288 : ee_cell := .inl (5, [.retAddr 1, .retAddr 18, .retAddr 19, .ref 2, .ref 3, .ref 4, .retAddr 20, .retAddr 21, .retAddr 22, .retAddr 23, .double 0])
def ee_xw200 : ee_w := [ee_xq288, ee_xq188, ee_xq285, ee_xq268, ee_xq269, ee_xq26, ee_xq185, ee_xq185, ee_xq186, ee_xq186, ee_xq187, ee_xq189, ee_xq17]
def ee_xi258 : ee_iv := (24, [(0, 0, 6, []), (1, 0, 1600, []), (2, (-2147483648), 2147483647, []), (3, (-2147483648), 2147483647, []), (4, 0, 1600, []), (5, (-2147483648), 2147483647, []), (6, (-2147483648), 2147483647, []), (7, (-2147483648), 2147483647, []), (8, 0, 6, []), (9, 0, 5, []), (10, 0, 10, []), (11, (-2147483648), 2147483647, []), (12, 0, 100, []), (13, 0, 999, []), (14, 0, 320, []), (15, 0, 1, []), (16, 0, 1, []), (17, 0, 1, []), (18, (-2147483648), 2147483647, []), (19, (-2147483648), 2147483647, []), (20, 0, 1600, []), (21, (-2147483648), 2147483647, []), (22, (-2147483648), 2147483647, []), (23, (-2147483648), 2147483647, [])])
/- Reader.takeNewName@personNames -/
def ee_k62 : ee_ct := (134, [.ref 0, .ref 1, .retAddr 0], ee_xw197, ee_xi249, [([], ee_xw200, ee_xi258)], 5)
def ee_u62 : List ee_cu := []
set_option maxRecDepth 1000000 in
theorem ee_k62.ok : ee_Ct ee_mt ee_k62 := ee_cert (Γ := [ee_k53, ee_k59, ee_k52, ee_k51]) (K := [(134, 23, [0]), (134, 32, [1]), (134, 41, [2]), (134, 55, [3])]) (S := []) (f := 5000) (N := ee_me134) (cuts := ee_u62) ee_Tbok (ee_gcons ee_k53.ok (ee_gcons ee_k59.ok (ee_gcons ee_k52.ok (ee_gcons ee_k51.ok ee_gnil)))) rfl (by decide +kernel) (by decide +kernel) (List.all_eq_true.mp (by decide +kernel))
def ee_xw201 : ee_w := [ee_xq288, ee_xq189, ee_xq286, ee_xq268, ee_xq269, ee_xq26, ee_xq185, ee_xq185, ee_xq186, ee_xq186, ee_xq187, ee_xq188, ee_xq17]
def ee_xi259 : ee_iv := (24, [(0, 0, 5, []), (1, 0, 1600, []), (2, (-2147483648), 2147483647, []), (3, (-2147483648), 2147483647, []), (4, 0, 1600, []), (5, (-2147483648), 2147483647, []), (6, (-2147483648), 2147483647, []), (7, (-2147483648), 2147483647, []), (8, 0, 6, []), (9, 0, 5, []), (10, 0, 10, []), (11, (-2147483648), 2147483647, []), (12, 0, 100, []), (13, 0, 999, []), (14, 0, 320, []), (15, 0, 1, []), (16, 0, 1, []), (17, 0, 1, []), (18, (-2147483648), 2147483647, []), (19, (-2147483648), 2147483647, []), (20, 0, 1600, []), (21, (-2147483648), 2147483647, []), (22, (-2147483648), 2147483647, []), (23, (-2147483648), 2147483647, [])])
/- Reader.takeNewName@sackNames -/
def ee_k63 : ee_ct := (134, [.ref 0, .ref 1, .retAddr 0], ee_xw198, ee_xi252, [([], ee_xw201, ee_xi259)], 5)
def ee_u63 : List ee_cu := []
set_option maxRecDepth 1000000 in
theorem ee_k63.ok : ee_Ct ee_mt ee_k63 := ee_cert (Γ := [ee_k53, ee_k60, ee_k52, ee_k51]) (K := [(134, 23, [0]), (134, 32, [1]), (134, 41, [2]), (134, 55, [3])]) (S := []) (f := 5000) (N := ee_me134) (cuts := ee_u63) ee_Tbok (ee_gcons ee_k53.ok (ee_gcons ee_k60.ok (ee_gcons ee_k52.ok (ee_gcons ee_k51.ok ee_gnil)))) rfl (by decide +kernel) (by decide +kernel) (List.all_eq_true.mp (by decide +kernel))
def ee_xw202 : ee_w := [ee_xq288, ee_xq17, ee_xq287, ee_xq268, ee_xq269, ee_xq26, ee_xq185, ee_xq185, ee_xq186, ee_xq186, ee_xq187, ee_xq188, ee_xq189]
def ee_xi260 : ee_iv := (24, [(0, 0, 10, []), (1, 0, 1600, []), (2, (-2147483648), 2147483647, []), (3, (-2147483648), 2147483647, []), (4, 0, 1600, []), (5, (-2147483648), 2147483647, []), (6, (-2147483648), 2147483647, []), (7, (-2147483648), 2147483647, []), (8, 0, 6, []), (9, 0, 5, []), (10, 0, 10, []), (11, (-2147483648), 2147483647, []), (12, 0, 100, []), (13, 0, 999, []), (14, 0, 320, []), (15, 0, 1, []), (16, 0, 1, []), (17, 0, 1, []), (18, (-2147483648), 2147483647, []), (19, (-2147483648), 2147483647, []), (20, 0, 1600, []), (21, (-2147483648), 2147483647, []), (22, (-2147483648), 2147483647, []), (23, (-2147483648), 2147483647, [])])
/- Reader.takeNewName@thingNames -/
def ee_k64 : ee_ct := (134, [.ref 0, .ref 1, .retAddr 0], ee_xw199, ee_xi255, [([], ee_xw202, ee_xi260)], 5)
def ee_u64 : List ee_cu := []
set_option maxRecDepth 1000000 in
theorem ee_k64.ok : ee_Ct ee_mt ee_k64 := ee_cert (Γ := [ee_k53, ee_k61, ee_k52, ee_k51]) (K := [(134, 23, [0]), (134, 32, [1]), (134, 41, [2]), (134, 55, [3])]) (S := []) (f := 5000) (N := ee_me134) (cuts := ee_u64) ee_Tbok (ee_gcons ee_k53.ok (ee_gcons ee_k61.ok (ee_gcons ee_k52.ok (ee_gcons ee_k51.ok ee_gnil)))) rfl (by decide +kernel) (by decide +kernel) (List.all_eq_true.mp (by decide +kernel))
def ee_xq289 : ee_cell := .inl (5, [.retAddr 2, .retAddr 3, .retAddr 4, .ref 2, .ref 3, .ref 4, .retAddr 5, .retAddr 6, .retAddr 7, .retAddr 8, .double 0])
def ee_xq290 : ee_cell := .inl (7, [.retAddr 9, .retAddr 10, .retAddr 11, .retAddr 12, .retAddr 13, .retAddr 14, .retAddr 15, .retAddr 16, .retAddr 17, .retAddr 18, .ref 5, .ref 6, .ref 7, .ref 8, .ref 9, .ref 10, .ref 1, .ref 11, .ref 12])
def ee_xw203 : ee_w := [ee_xq289, ee_xq188, ee_xq290, ee_xq268, ee_xq269, ee_xq26, ee_xq185, ee_xq185, ee_xq186, ee_xq186, ee_xq187, ee_xq189, ee_xq17]
def ee_xi261 : ee_iv := (19, [(0, 0, 6, []), (1, (-2147483648), 2147483647, []), (2, 0, 1600, []), (3, (-2147483648), 2147483647, []), (4, (-2147483648), 2147483647, []), (5, 0, 1600, []), (6, (-2147483648), 2147483647, []), (7, (-2147483648), 2147483647, []), (8, (-2147483648), 2147483647, []), (9, 0, 6, []), (10, 0, 5, []), (11, 0, 10, []), (12, (-2147483648), 2147483647, []), (13, 0, 100, []), (14, 0, 999, []), (15, 0, 320, []), (16, 0, 1, []), (17, 0, 1, []), (18, 0, 1, [])])
def ee_xq291 : ee_cell := .inl (5, [.retAddr 2, .retAddr 20, .retAddr 21, .ref 2, .ref 3, .ref 4, .retAddr 22, .retAddr 23, .retAddr 24, .retAddr 25, .double 0])
def ee_xw204 : ee_w := [ee_xq291, ee_xq188, ee_xq290, ee_xq268, ee_xq269, ee_xq26, ee_xq185, ee_xq185, ee_xq186, ee_xq186, ee_xq187, ee_xq189, ee_xq17]
def ee_xi262 : ee_iv := (26, [(0, 0, 6, []), (1, (-2147483648), 2147483647, []), (2, 0, 1600, []), (3, (-2147483648), 2147483647, []), (4, (-2147483648), 2147483647, []), (5, 0, 1600, []), (6, (-2147483648), 2147483647, []), (7, (-2147483648), 2147483647, []), (8, (-2147483648), 2147483647, []), (9, 0, 6, []), (10, 0, 5, []), (11, 0, 10, []), (12, (-2147483648), 2147483647, []), (13, 0, 100, []), (14, 0, 999, []), (15, 0, 320, []), (16, 0, 1, []), (17, 0, 1, []), (18, 0, 1, []), (19, 0, 5, []), (20, (-2147483648), 2147483647, []), (21, (-2147483648), 2147483647, []), (22, 0, 1600, []), (23, (-2147483648), 2147483647, []), (24, (-2147483648), 2147483647, []), (25, (-2147483648), 2147483647, [])])
/- Reader.takeKnownName@personNames -/
def ee_k65 : ee_ct := (133, [.ref 0, .ref 1, .retAddr 0, .retAddr 1], ee_xw203, ee_xi261, [([.retAddr 19], ee_xw204, ee_xi262)], 5)
def ee_u65 : List ee_cu := []
set_option maxRecDepth 1000000 in
theorem ee_k65.ok : ee_Ct ee_mt ee_k65 := ee_cert (Γ := [ee_k53, ee_k59, ee_k52, ee_k51]) (K := [(133, 18, [0]), (133, 26, [1]), (133, 39, [2]), (133, 52, [2]), (133, 58, [3])]) (S := []) (f := 5000) (N := ee_me133) (cuts := ee_u65) ee_Tbok (ee_gcons ee_k53.ok (ee_gcons ee_k59.ok (ee_gcons ee_k52.ok (ee_gcons ee_k51.ok ee_gnil)))) rfl (by decide +kernel) (by decide +kernel) (List.all_eq_true.mp (by decide +kernel))
def ee_xq292 : ee_cell := .inl (7, [.retAddr 9, .retAddr 10, .retAddr 11, .retAddr 12, .retAddr 13, .retAddr 14, .retAddr 15, .retAddr 16, .retAddr 17, .retAddr 18, .ref 5, .ref 6, .ref 7, .ref 8, .ref 9, .ref 10, .ref 11, .ref 1, .ref 12])
def ee_xw205 : ee_w := [ee_xq289, ee_xq189, ee_xq292, ee_xq268, ee_xq269, ee_xq26, ee_xq185, ee_xq185, ee_xq186, ee_xq186, ee_xq187, ee_xq188, ee_xq17]
def ee_xi263 : ee_iv := (19, [(0, 0, 5, []), (1, (-2147483648), 2147483647, []), (2, 0, 1600, []), (3, (-2147483648), 2147483647, []), (4, (-2147483648), 2147483647, []), (5, 0, 1600, []), (6, (-2147483648), 2147483647, []), (7, (-2147483648), 2147483647, []), (8, (-2147483648), 2147483647, []), (9, 0, 6, []), (10, 0, 5, []), (11, 0, 10, []), (12, (-2147483648), 2147483647, []), (13, 0, 100, []), (14, 0, 999, []), (15, 0, 320, []), (16, 0, 1, []), (17, 0, 1, []), (18, 0, 1, [])])
def ee_xw206 : ee_w := [ee_xq291, ee_xq189, ee_xq292, ee_xq268, ee_xq269, ee_xq26, ee_xq185, ee_xq185, ee_xq186, ee_xq186, ee_xq187, ee_xq188, ee_xq17]
def ee_xi264 : ee_iv := (26, [(0, 0, 5, []), (1, (-2147483648), 2147483647, []), (2, 0, 1600, []), (3, (-2147483648), 2147483647, []), (4, (-2147483648), 2147483647, []), (5, 0, 1600, []), (6, (-2147483648), 2147483647, []), (7, (-2147483648), 2147483647, []), (8, (-2147483648), 2147483647, []), (9, 0, 6, []), (10, 0, 5, []), (11, 0, 10, []), (12, (-2147483648), 2147483647, []), (13, 0, 100, []), (14, 0, 999, []), (15, 0, 320, []), (16, 0, 1, []), (17, 0, 1, []), (18, 0, 1, []), (19, 0, 4, []), (20, (-2147483648), 2147483647, []), (21, (-2147483648), 2147483647, []), (22, 0, 1600, []), (23, (-2147483648), 2147483647, []), (24, (-2147483648), 2147483647, []), (25, (-2147483648), 2147483647, [])])
/- Reader.takeKnownName@sackNames -/
def ee_k66 : ee_ct := (133, [.ref 0, .ref 1, .retAddr 0, .retAddr 1], ee_xw205, ee_xi263, [([.retAddr 19], ee_xw206, ee_xi264)], 5)
def ee_u66 : List ee_cu := []
set_option maxRecDepth 1000000 in
theorem ee_k66.ok : ee_Ct ee_mt ee_k66 := ee_cert (Γ := [ee_k53, ee_k60, ee_k52, ee_k51]) (K := [(133, 18, [0]), (133, 26, [1]), (133, 39, [2]), (133, 52, [2]), (133, 58, [3])]) (S := []) (f := 5000) (N := ee_me133) (cuts := ee_u66) ee_Tbok (ee_gcons ee_k53.ok (ee_gcons ee_k60.ok (ee_gcons ee_k52.ok (ee_gcons ee_k51.ok ee_gnil)))) rfl (by decide +kernel) (by decide +kernel) (List.all_eq_true.mp (by decide +kernel))
def ee_xq293 : ee_cell := .inl (7, [.retAddr 8, .retAddr 9, .retAddr 10, .retAddr 11, .retAddr 12, .retAddr 13, .retAddr 18, .retAddr 15, .retAddr 16, .retAddr 17, .ref 4, .ref 5, .ref 6, .ref 7, .ref 8, .ref 9, .ref 10, .ref 11, .ref 12])
def ee_xw207 : ee_w := [ee_xq266, ee_xq293, ee_xq268, ee_xq269, ee_xq26, ee_xq185, ee_xq185, ee_xq186, ee_xq186, ee_xq187, ee_xq188, ee_xq189, ee_xq17]
def ee_xi265 : ee_iv := (19, [(0, (-2147483648), 2147483647, []), (1, 0, 1600, []), (2, (-2147483648), 2147483647, []), (3, (-2147483648), 2147483647, []), (4, 0, 1600, []), (5, (-2147483648), 2147483647, []), (6, (-2147483648), 2147483647, []), (7, (-2147483648), 2147483647, []), (8, 0, 6, []), (9, 0, 5, []), (10, 0, 10, []), (11, (-2147483648), 2147483647, []), (12, 0, 100, []), (13, 0, 999, []), (14, 0, 320, []), (15, 0, 1, []), (16, 0, 1, []), (17, 0, 1, []), (18, 0, 320, [])])
/- Reader.write -/
def ee_k67 : ee_ct := (136, [.ref 0, .retAddr 0], ee_xw183, ee_xi232, [([], ee_xw207, ee_xi265)], 0)
def ee_u67 : List ee_cu := []
set_option maxRecDepth 1000000 in
theorem ee_k67.ok : ee_Ct ee_mt ee_k67 := ee_cert (Γ := []) (K := []) (S := []) (f := 5000) (N := ee_me136) (cuts := ee_u67) ee_Tbok ee_gnil rfl (by decide +kernel) (by decide +kernel) (List.all_eq_true.mp (by decide +kernel))
def ee_xq294 : ee_cell := .inl (5, [.retAddr 0, .retAddr 17, .retAddr 18, .ref 1, .ref 2, .ref 3, .retAddr 19, .retAddr 20, .retAddr 21, .retAddr 22, .double 0])
def ee_xq295 : ee_cell := .inl (7, [.retAddr 7, .retAddr 8, .retAddr 9, .retAddr 23, .retAddr 11, .retAddr 12, .retAddr 24, .retAddr 14, .retAddr 15, .retAddr 16, .ref 4, .ref 5, .ref 6, .ref 7, .ref 8, .ref 9, .ref 10, .ref 11, .ref 12])
def ee_xw208 : ee_w := [ee_xq294, ee_xq295, ee_xq268, ee_xq269, ee_xq26, ee_xq185, ee_xq185, ee_xq186, ee_xq186, ee_xq187, ee_xq188, ee_xq189, ee_xq17]
def ee_xi266 : ee_iv := (25, [(0, 0, 1600, []), (1, (-2147483648), 2147483647, []), (2, (-2147483648), 2147483647, []), (3, 0, 1600, []), (4, (-2147483648), 2147483647, []), (5, (-2147483648), 2147483647, []), (6, (-2147483648), 2147483647, []), (7, 0, 6, []), (8, 0, 5, []), (9, 0, 10, []), (10, (-2147483648), 2147483647, []), (11, 0, 100, []), (12, 0, 999, []), (13, 0, 320, []), (14, 0, 1, []), (15, 0, 1, []), (16, 0, 1, []), (17, (-2147483648), 2147483647, []), (18, (-2147483648), 2147483647, []), (19, 0, 1600, []), (20, (-2147483648), 2147483647, []), (21, (-2147483648), 2147483647, []), (22, (-2147483648), 2147483647, []), (23, (-2147483648), 2147483647, []), (24, 0, 320, [])])
/- Reader.readUnit@7 -/
def ee_k68 : ee_ct := (127, [.ref 0, .int 7], ee_xw186, ee_xi235, [([], ee_xw208, ee_xi266)], 5)
def ee_u68 : List ee_cu := []
set_option maxRecDepth 1000000 in
theorem ee_k68.ok : ee_Ct ee_mt ee_k68 := ee_cert (Γ := [ee_k53, ee_k67, ee_k51]) (K := [(127, 33, [0]), (127, 67, [1]), (127, 71, [2]), (127, 100, [1]), (127, 104, [2]), (127, 146, [0])]) (S := []) (f := 5000) (N := ee_me127) (cuts := ee_u68) ee_Tbok (ee_gcons ee_k53.ok (ee_gcons ee_k67.ok (ee_gcons ee_k51.ok ee_gnil))) rfl (by decide +kernel) (by decide +kernel) (List.all_eq_true.mp (by decide +kernel))
/- Reader.readTerm@7 -/
def ee_k69 : ee_ct := (125, [.ref 0, .int 7], ee_xw186, ee_xi235, [([], ee_xw208, ee_xi266)], 6)
def ee_xq296 : ee_cell := .inl (7, [.retAddr 7, .retAddr 8, .retAddr 9, .retAddr 24, .retAddr 11, .retAddr 12, .retAddr 25, .retAddr 14, .retAddr 15, .retAddr 16, .ref 4, .ref 5, .ref 6, .ref 7, .ref 8, .ref 9, .ref 10, .ref 11, .ref 12])
def ee_xw209 : ee_w := [ee_xq283, ee_xq296, ee_xq268, ee_xq269, ee_xq26, ee_xq185, ee_xq185, ee_xq186, ee_xq186, ee_xq187, ee_xq188, ee_xq189, ee_xq17]
def ee_xi267 : ee_iv := (26, [(0, 0, 1600, []), (1, (-2147483648), 2147483647, []), (2, (-2147483648), 2147483647, []), (3, 0, 1600, []), (4, (-2147483648), 2147483647, []), (5, (-2147483648), 2147483647, []), (6, (-2147483648), 2147483647, []), (7, 0, 6, []), (8, 0, 5, []), (9, 0, 10, []), (10, (-2147483648), 2147483647, []), (11, 0, 100, []), (12, 0, 999, []), (13, 0, 320, []), (14, 0, 1, []), (15, 0, 1, []), (16, 0, 1, []), (17, 0, 60, []), (18, (-2147483648), 2147483647, []), (19, (-2147483648), 2147483647, []), (20, 0, 1600, []), (21, (-2147483648), 2147483647, []), (22, (-2147483648), 2147483647, []), (23, (-2147483648), 2147483647, []), (24, (-2147483648), 2147483647, []), (25, 0, 320, [])])
def ee_u69 : List ee_cu := [(7, [(0, .ref 0), (1, .int 7), (2, .retAddr 17)], [], ee_xw209, ee_xi267, 124, [((-2), 17)])]
set_option maxRecDepth 1000000 in
theorem ee_k69.ok : ee_Ct ee_mt ee_k69 := ee_cert (Γ := [ee_k68, ee_k51, ee_k67]) (K := [(125, 2, [0]), (125, 53, [1]), (125, 58, [0]), (125, 63, [2])]) (S := []) (f := 5000) (N := ee_me125) (cuts := ee_u69) ee_Tbok (ee_gcons ee_k68.ok (ee_gcons ee_k51.ok (ee_gcons ee_k67.ok ee_gnil))) rfl (by decide +kernel) (by decide +kernel) (List.all_eq_true.mp (by decide +kernel))
/- Reader.readSum@7 -/
def ee_k70 : ee_ct := (124, [.ref 0, .int 7], ee_xw186, ee_xi235, [([], ee_xw208, ee_xi266)], 7)
def ee_u70 : List ee_cu := [(7, [(0, .ref 0), (1, .int 7), (2, .retAddr 17)], [], ee_xw209, ee_xi267, 124, [((-2), 17)])]
set_option maxRecDepth 1000000 in
theorem ee_k70.ok : ee_Ct ee_mt ee_k70 := ee_cert (Γ := [ee_k69, ee_k51, ee_k67]) (K := [(124, 2, [0]), (124, 44, [1]), (124, 49, [0]), (124, 54, [2])]) (S := []) (f := 5000) (N := ee_me124) (cuts := ee_u70) ee_Tbok (ee_gcons ee_k69.ok (ee_gcons ee_k51.ok (ee_gcons ee_k67.ok ee_gnil))) rfl (by decide +kernel) (by decide +kernel) (List.all_eq_true.mp (by decide +kernel))
/- Reader.readOne@7 -/
def ee_k71 : ee_ct := (120, [.ref 0, .int 7], ee_xw186, ee_xi235, [([], ee_xw208, ee_xi266)], 8)
def ee_u71 : List ee_cu := []
set_option maxRecDepth 1000000 in
theorem ee_k71.ok : ee_Ct ee_mt ee_k71 := ee_cert (Γ := [ee_k53, ee_k70, ee_k51, ee_k67]) (K := [(120, 23, [0]), (120, 47, [1]), (120, 90, [2]), (120, 95, [1]), (120, 100, [3])]) (S := []) (f := 5000) (N := ee_me120) (cuts := ee_u71) ee_Tbok (ee_gcons ee_k53.ok (ee_gcons ee_k70.ok (ee_gcons ee_k51.ok (ee_gcons ee_k67.ok ee_gnil)))) rfl (by decide +kernel) (by decide +kernel) (List.all_eq_true.mp (by decide +kernel))
/- Reader.readBoth@7 -/
def ee_k72 : ee_ct := (115, [.ref 0, .int 7], ee_xw186, ee_xi235, [([], ee_xw208, ee_xi266)], 9)
def ee_u72 : List ee_cu := [(7, [(0, .ref 0), (1, .int 7), (2, .retAddr 17)], [], ee_xw209, ee_xi267, 124, [((-2), 17)])]
set_option maxRecDepth 1000000 in
theorem ee_k72.ok : ee_Ct ee_mt ee_k72 := ee_cert (Γ := [ee_k71, ee_k51, ee_k67]) (K := [(115, 2, [0]), (115, 30, [1]), (115, 35, [0]), (115, 41, [2])]) (S := []) (f := 5000) (N := ee_me115) (cuts := ee_u72) ee_Tbok (ee_gcons ee_k71.ok (ee_gcons ee_k51.ok (ee_gcons ee_k67.ok ee_gnil))) rfl (by decide +kernel) (by decide +kernel) (List.all_eq_true.mp (by decide +kernel))
/- Reader.readEither@7 -/
def ee_k73 : ee_ct := (117, [.ref 0, .int 7], ee_xw186, ee_xi235, [([], ee_xw208, ee_xi266)], 10)
def ee_u73 : List ee_cu := [(7, [(0, .ref 0), (1, .int 7), (2, .retAddr 17)], [], ee_xw209, ee_xi267, 124, [((-2), 17)])]
set_option maxRecDepth 1000000 in
theorem ee_k73.ok : ee_Ct ee_mt ee_k73 := ee_cert (Γ := [ee_k72, ee_k51, ee_k67]) (K := [(117, 2, [0]), (117, 30, [1]), (117, 35, [0]), (117, 41, [2])]) (S := []) (f := 5000) (N := ee_me117) (cuts := ee_u73) ee_Tbok (ee_gcons ee_k72.ok (ee_gcons ee_k51.ok (ee_gcons ee_k67.ok ee_gnil))) rfl (by decide +kernel) (by decide +kernel) (List.all_eq_true.mp (by decide +kernel))
/- Reader.readUnit@6 -/
def ee_k74 : ee_ct := (127, [.ref 0, .int 6], ee_xw186, ee_xi235, [([], ee_xw208, ee_xi266)], 11)
def ee_u74 : List ee_cu := []
set_option maxRecDepth 1000000 in
theorem ee_k74.ok : ee_Ct ee_mt ee_k74 := ee_cert (Γ := [ee_k53, ee_k67, ee_k51, ee_k73, ee_k54]) (K := [(127, 33, [0]), (127, 67, [1]), (127, 71, [2]), (127, 100, [1]), (127, 104, [2]), (127, 126, [2]), (127, 133, [3]), (127, 139, [4]), (127, 146, [0])]) (S := []) (f := 5000) (N := ee_me127) (cuts := ee_u74) ee_Tbok (ee_gcons ee_k53.ok (ee_gcons ee_k67.ok (ee_gcons ee_k51.ok (ee_gcons ee_k73.ok (ee_gcons ee_k54.ok ee_gnil))))) rfl (by decide +kernel) (by decide +kernel) (List.all_eq_true.mp (by decide +kernel))
/- Reader.readTerm@6 -/
def ee_k75 : ee_ct := (125, [.ref 0, .int 6], ee_xw186, ee_xi235, [([], ee_xw208, ee_xi266)], 12)
def ee_u75 : List ee_cu := [(7, [(0, .ref 0), (1, .int 6), (2, .retAddr 17)], [], ee_xw209, ee_xi267, 124, [((-2), 17)])]
set_option maxRecDepth 1000000 in
theorem ee_k75.ok : ee_Ct ee_mt ee_k75 := ee_cert (Γ := [ee_k74, ee_k51, ee_k67]) (K := [(125, 2, [0]), (125, 53, [1]), (125, 58, [0]), (125, 63, [2])]) (S := []) (f := 5000) (N := ee_me125) (cuts := ee_u75) ee_Tbok (ee_gcons ee_k74.ok (ee_gcons ee_k51.ok (ee_gcons ee_k67.ok ee_gnil))) rfl (by decide +kernel) (by decide +kernel) (List.all_eq_true.mp (by decide +kernel))
/- Reader.readSum@6 -/
def ee_k76 : ee_ct := (124, [.ref 0, .int 6], ee_xw186, ee_xi235, [([], ee_xw208, ee_xi266)], 13)
def ee_u76 : List ee_cu := [(7, [(0, .ref 0), (1, .int 6), (2, .retAddr 17)], [], ee_xw209, ee_xi267, 124, [((-2), 17)])]
set_option maxRecDepth 1000000 in
theorem ee_k76.ok : ee_Ct ee_mt ee_k76 := ee_cert (Γ := [ee_k75, ee_k51, ee_k67]) (K := [(124, 2, [0]), (124, 44, [1]), (124, 49, [0]), (124, 54, [2])]) (S := []) (f := 5000) (N := ee_me124) (cuts := ee_u76) ee_Tbok (ee_gcons ee_k75.ok (ee_gcons ee_k51.ok (ee_gcons ee_k67.ok ee_gnil))) rfl (by decide +kernel) (by decide +kernel) (List.all_eq_true.mp (by decide +kernel))
/- Reader.readOne@6 -/
def ee_k77 : ee_ct := (120, [.ref 0, .int 6], ee_xw186, ee_xi235, [([], ee_xw208, ee_xi266)], 14)
def ee_u77 : List ee_cu := []
set_option maxRecDepth 1000000 in
theorem ee_k77.ok : ee_Ct ee_mt ee_k77 := ee_cert (Γ := [ee_k51, ee_k71, ee_k67, ee_k76]) (K := [(120, 28, [0]), (120, 35, [1]), (120, 41, [2]), (120, 47, [3]), (120, 90, [0]), (120, 95, [3]), (120, 100, [2])]) (S := []) (f := 5000) (N := ee_me120) (cuts := ee_u77) ee_Tbok (ee_gcons ee_k51.ok (ee_gcons ee_k71.ok (ee_gcons ee_k67.ok (ee_gcons ee_k76.ok ee_gnil)))) rfl (by decide +kernel) (by decide +kernel) (List.all_eq_true.mp (by decide +kernel))
/- Reader.readBoth@6 -/
def ee_k78 : ee_ct := (115, [.ref 0, .int 6], ee_xw186, ee_xi235, [([], ee_xw208, ee_xi266)], 15)
def ee_u78 : List ee_cu := [(7, [(0, .ref 0), (1, .int 6), (2, .retAddr 17)], [], ee_xw209, ee_xi267, 124, [((-2), 17)])]
set_option maxRecDepth 1000000 in
theorem ee_k78.ok : ee_Ct ee_mt ee_k78 := ee_cert (Γ := [ee_k77, ee_k51, ee_k67]) (K := [(115, 2, [0]), (115, 30, [1]), (115, 35, [0]), (115, 41, [2])]) (S := []) (f := 5000) (N := ee_me115) (cuts := ee_u78) ee_Tbok (ee_gcons ee_k77.ok (ee_gcons ee_k51.ok (ee_gcons ee_k67.ok ee_gnil))) rfl (by decide +kernel) (by decide +kernel) (List.all_eq_true.mp (by decide +kernel))
/- Reader.readEither@6 -/
def ee_k79 : ee_ct := (117, [.ref 0, .int 6], ee_xw186, ee_xi235, [([], ee_xw208, ee_xi266)], 16)
def ee_u79 : List ee_cu := [(7, [(0, .ref 0), (1, .int 6), (2, .retAddr 17)], [], ee_xw209, ee_xi267, 124, [((-2), 17)])]
set_option maxRecDepth 1000000 in
theorem ee_k79.ok : ee_Ct ee_mt ee_k79 := ee_cert (Γ := [ee_k78, ee_k51, ee_k67]) (K := [(117, 2, [0]), (117, 30, [1]), (117, 35, [0]), (117, 41, [2])]) (S := []) (f := 5000) (N := ee_me117) (cuts := ee_u79) ee_Tbok (ee_gcons ee_k78.ok (ee_gcons ee_k51.ok (ee_gcons ee_k67.ok ee_gnil))) rfl (by decide +kernel) (by decide +kernel) (List.all_eq_true.mp (by decide +kernel))
/- Reader.readUnit@5 -/
def ee_k80 : ee_ct := (127, [.ref 0, .int 5], ee_xw186, ee_xi235, [([], ee_xw208, ee_xi266)], 17)
def ee_u80 : List ee_cu := []
set_option maxRecDepth 1000000 in
theorem ee_k80.ok : ee_Ct ee_mt ee_k80 := ee_cert (Γ := [ee_k53, ee_k67, ee_k51, ee_k79, ee_k54]) (K := [(127, 33, [0]), (127, 67, [1]), (127, 71, [2]), (127, 100, [1]), (127, 104, [2]), (127, 126, [2]), (127, 133, [3]), (127, 139, [4]), (127, 146, [0])]) (S := []) (f := 5000) (N := ee_me127) (cuts := ee_u80) ee_Tbok (ee_gcons ee_k53.ok (ee_gcons ee_k67.ok (ee_gcons ee_k51.ok (ee_gcons ee_k79.ok (ee_gcons ee_k54.ok ee_gnil))))) rfl (by decide +kernel) (by decide +kernel) (List.all_eq_true.mp (by decide +kernel))
