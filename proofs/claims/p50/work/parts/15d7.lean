/- Integer.bitCount -/
def ee_k1 : ee_ct := (297, [.retAddr 0], ee_xw26, (1, [(0, (-2147483648), 2147483647, [])]), [([.retAddr 1], ee_xw26, (2, [(0, (-2147483648), 2147483647, []), (1, 0, 63, [])]))], 0)
def ee_u1 : List ee_cu := []
set_option maxRecDepth 1000000 in
theorem ee_k1.ok : ee_Ct ee_mt ee_k1 := ee_cert (Γ := []) (K := []) (S := []) (f := 5000) (N := ee_me297) (cuts := ee_u1) ee_Tbok ee_gnil rfl (by decide +kernel) (by decide +kernel) (List.all_eq_true.mp (by decide +kernel))
/- String.indexOf -/
def ee_kk2 : ee_ct := (304, [.ref 1000001, .retAddr 0], ee_xw26, (1, [(0, 0, 65535, [])]), [([.retAddr 1], ee_xw26, (2, [(0, 0, 65535, []), (1, (-1), 10, [])]))], 3)
def ee_u2 : List ee_cu := []
set_option maxRecDepth 1000000 in
theorem ee_kk2.ok : ee_Ct ee_mt ee_kk2 := ee_cert (Γ := []) (K := []) (S := []) (f := 5000) (N := ee_me304) (cuts := ee_u2) ee_Tbok ee_gnil rfl (by decide +kernel) (by decide +kernel) (List.all_eq_true.mp (by decide +kernel))
def ee_xq184 : ee_cell := .inl (7, [.retAddr 1, .retAddr 2, .retAddr 3, .retAddr 4, .retAddr 5, .retAddr 6, .retAddr 7, .retAddr 8, .retAddr 9, .retAddr 10, .ref 1, .ref 2, .ref 3, .ref 4, .ref 5, .ref 6, .ref 7, .ref 8, .ref 9])
def ee_xw137 : ee_w := [ee_xq184, ee_xq26, ee_xq185, ee_xq185, ee_xq186, ee_xq186, ee_xq187, ee_xq188, ee_xq189, ee_xq17]
def ee_xi156 : ee_iv := (11, [(0, (-2147483648), 2147483647, []), (1, 0, 6, []), (2, 0, 5, []), (3, 0, 10, []), (4, (-2147483648), 2147483647, []), (5, 0, 100, []), (6, 0, 999, []), (7, 0, 320, []), (8, 0, 1, []), (9, 0, 1, []), (10, 0, 1, [])])
def ee_xi157 : ee_iv := (12, [(0, (-2147483648), 2147483647, []), (1, 0, 6, []), (2, 0, 5, []), (3, 0, 10, []), (4, (-2147483648), 2147483647, []), (5, 0, 100, []), (6, 0, 999, []), (7, 0, 320, []), (8, 0, 1, []), (9, 0, 1, []), (10, 0, 1, []), (11, (-2147483648), 2147483647, [])])
/- Told.heatOf -/
def ee_k3 : ee_ct := (149, [.ref 0, .retAddr 0], ee_xw137, ee_xi156, [([.retAddr 11], ee_xw137, ee_xi157)], 0)
def ee_xi158 : ee_iv := (13, [(0, (-2147483648), 2147483647, []), (1, 0, 6, []), (2, 0, 5, []), (3, 0, 10, []), (4, (-2147483648), 2147483647, []), (5, 0, 100, []), (6, 0, 999, []), (7, 0, 320, []), (8, 0, 1, []), (9, 0, 1, []), (10, 0, 1, []), (11, (-2147483648), 2147483647, []), (12, 0, 10, [])])
def ee_u3 : List ee_cu := [(4, [(0, .ref 0), (1, .retAddr 0), (2, .retAddr 11), (3, .retAddr 12)], [], ee_xw137, ee_xi158, 24, [((-2), 12)])]
set_option maxRecDepth 1000000 in
theorem ee_k3.ok : ee_Ct ee_mt ee_k3 := ee_cert (Γ := []) (K := []) (S := []) (f := 5000) (N := ee_me149) (cuts := ee_u3) ee_Tbok ee_gnil rfl (by decide +kernel) (by decide +kernel) (List.all_eq_true.mp (by decide +kernel))
def ee_xi159 : ee_iv := (12, [(0, (-2147483648), 2147483647, []), (1, 0, 6, []), (2, 0, 5, []), (3, 0, 10, []), (4, (-2147483648), 2147483647, []), (5, 0, 100, []), (6, 0, 999, []), (7, 0, 320, []), (8, 0, 1, []), (9, 0, 1, []), (10, 0, 1, []), (11, 0, 1023, [])])
/- Told.thingsBy -/
def ee_kk4 : ee_ct := (152, [.ref 0, .retAddr 0], ee_xw137, ee_xi156, [([.retAddr 11], ee_xw137, ee_xi159)], 0)
def ee_xi160 : ee_iv := (13, [(0, (-2147483648), 2147483647, []), (1, 0, 6, []), (2, 0, 5, []), (3, 0, 10, []), (4, (-2147483648), 2147483647, []), (5, 0, 100, []), (6, 0, 999, []), (7, 0, 320, []), (8, 0, 1, []), (9, 0, 1, []), (10, 0, 1, []), (11, 0, 1023, []), (12, 0, 10, [])])
def ee_u4 : List ee_cu := [(4, [(0, .ref 0), (1, .retAddr 0), (2, .retAddr 11), (3, .retAddr 12)], [], ee_xw137, ee_xi160, 24, [((-2), 12)])]
set_option maxRecDepth 1000000 in
theorem ee_kk4.ok : ee_Ct ee_mt ee_kk4 := ee_cert (Γ := []) (K := []) (S := []) (f := 5000) (N := ee_me152) (cuts := ee_u4) ee_Tbok ee_gnil rfl (by decide +kernel) (by decide +kernel) (List.all_eq_true.mp (by decide +kernel))
/- Told.thingsTo -/
def ee_k5 : ee_ct := (153, [.ref 0, .retAddr 0], ee_xw137, ee_xi156, [([.retAddr 11], ee_xw137, ee_xi159)], 0)
def ee_u5 : List ee_cu := [(4, [(0, .ref 0), (1, .retAddr 0), (2, .retAddr 11), (3, .retAddr 12)], [], ee_xw137, ee_xi160, 24, [((-2), 12)])]
set_option maxRecDepth 1000000 in
theorem ee_k5.ok : ee_Ct ee_mt ee_k5 := ee_cert (Γ := []) (K := []) (S := []) (f := 5000) (N := ee_me153) (cuts := ee_u5) ee_Tbok ee_gnil rfl (by decide +kernel) (by decide +kernel) (List.all_eq_true.mp (by decide +kernel))
/- Told.thingsAmong -/
def ee_k6 : ee_ct := (151, [.ref 0, .retAddr 0], ee_xw137, ee_xi156, [([.retAddr 11], ee_xw137, ee_xi159)], 0)
def ee_u6 : List ee_cu := [(4, [(0, .ref 0), (1, .retAddr 0), (2, .retAddr 11), (3, .retAddr 12)], [], ee_xw137, ee_xi160, 24, [((-2), 12)])]
set_option maxRecDepth 1000000 in
theorem ee_k6.ok : ee_Ct ee_mt ee_k6 := ee_cert (Γ := []) (K := []) (S := []) (f := 5000) (N := ee_me151) (cuts := ee_u6) ee_Tbok ee_gnil rfl (by decide +kernel) (by decide +kernel) (List.all_eq_true.mp (by decide +kernel))
def ee_xq190 : ee_cell := .inl (7, [.retAddr 2, .retAddr 3, .retAddr 4, .retAddr 5, .retAddr 6, .retAddr 7, .retAddr 8, .retAddr 9, .retAddr 10, .retAddr 11, .ref 1, .ref 2, .ref 3, .ref 4, .ref 5, .ref 6, .ref 7, .ref 8, .ref 9])
def ee_xw138 : ee_w := [ee_xq190, ee_xq26, ee_xq185, ee_xq185, ee_xq186, ee_xq186, ee_xq187, ee_xq188, ee_xq189, ee_xq17]
def ee_xi161 : ee_iv := (12, [(0, (-2147483648), 2147483647, []), (1, (-2147483648), 2147483647, []), (2, 0, 6, []), (3, 0, 5, []), (4, 0, 10, []), (5, (-2147483648), 2147483647, []), (6, 0, 100, []), (7, 0, 999, []), (8, 0, 320, []), (9, 0, 1, []), (10, 0, 1, []), (11, 0, 1, [])])
def ee_xi162 : ee_iv := (13, [(0, (-2147483648), 2147483647, []), (1, (-2147483648), 2147483647, []), (2, 0, 6, []), (3, 0, 5, []), (4, 0, 10, []), (5, (-2147483648), 2147483647, []), (6, 0, 100, []), (7, 0, 999, []), (8, 0, 320, []), (9, 0, 1, []), (10, 0, 1, []), (11, 0, 1, []), (12, 0, 63, [])])
/- Told.listenersOf -/
def ee_k7 : ee_ct := (150, [.ref 0, .retAddr 0, .retAddr 1], ee_xw138, ee_xi161, [([.retAddr 12], ee_xw138, ee_xi162)], 0)
def ee_xi163 : ee_iv := (14, [(0, (-2147483648), 2147483647, []), (1, (-2147483648), 2147483647, []), (2, 0, 6, []), (3, 0, 5, []), (4, 0, 10, []), (5, (-2147483648), 2147483647, []), (6, 0, 100, []), (7, 0, 999, []), (8, 0, 320, []), (9, 0, 1, []), (10, 0, 1, []), (11, 0, 1, []), (12, 0, 63, []), (13, 0, 10, [])])
def ee_u7 : List ee_cu := [(5, [(0, .ref 0), (1, .retAddr 0), (2, .retAddr 1), (3, .retAddr 12), (4, .retAddr 13)], [], ee_xw138, ee_xi163, 24, [((-2), 13)])]
set_option maxRecDepth 1000000 in
theorem ee_k7.ok : ee_Ct ee_mt ee_k7 := ee_cert (Γ := []) (K := []) (S := []) (f := 5000) (N := ee_me150) (cuts := ee_u7) ee_Tbok ee_gnil rfl (by decide +kernel) (by decide +kernel) (List.all_eq_true.mp (by decide +kernel))
def ee_xq191 : ee_cell := .inl (7, [.retAddr 0, .retAddr 1, .retAddr 2, .retAddr 3, .retAddr 4, .retAddr 5, .retAddr 6, .retAddr 7, .retAddr 8, .retAddr 9, .ref 1, .ref 2, .ref 3, .ref 4, .ref 5, .ref 6, .ref 7, .ref 8, .ref 9])
def ee_xw139 : ee_w := [ee_xq191, ee_xq26, ee_xq185, ee_xq185, ee_xq186, ee_xq186, ee_xq187, ee_xq188, ee_xq189, ee_xq17]
def ee_xi164 : ee_iv := (10, [(0, 0, 6, []), (1, 0, 5, []), (2, 0, 10, []), (3, (-2147483648), 2147483647, []), (4, 0, 100, []), (5, 0, 999, []), (6, 0, 320, []), (7, 0, 1, []), (8, 0, 1, []), (9, 0, 1, [])])
def ee_xq192 : ee_cell := .inl (7, [.int 0, .int 0, .int 0, .int 0, .int 0, .int 0, .int 3, .int 0, .int 0, .int 0, .ref 1, .ref 2, .ref 3, .ref 4, .ref 5, .ref 6, .ref 7, .ref 8, .ref 9])
def ee_xw140 : ee_w := [ee_xq192, ee_xq26, ee_xq185, ee_xq185, ee_xq186, ee_xq186, ee_xq187, ee_xq188, ee_xq189, ee_xq17]
/- Told.clear -/
def ee_k8 : ee_ct := (148, [.ref 0], ee_xw139, ee_xi164, [([], ee_xw140, ee_xi164)], 1)
def ee_u8 : List ee_cu := []
set_option maxRecDepth 1000000 in
theorem ee_k8.ok : ee_Ct ee_mt ee_k8 := ee_cert (Γ := []) (K := []) (S := []) (f := 5000) (N := ee_me148) (cuts := ee_u8) ee_Tbok ee_gnil rfl (by decide +kernel) (by decide +kernel) (List.all_eq_true.mp (by decide +kernel))
def ee_xq193 : ee_cell := .inl (6, [.retAddr 0, .retAddr 1, .retAddr 2, .retAddr 3, .ref 2, .ref 3])
def ee_xq194 : ee_cell := .inl (7, [.retAddr 4, .retAddr 5, .retAddr 6, .retAddr 7, .retAddr 8, .retAddr 9, .retAddr 10, .retAddr 11, .retAddr 12, .retAddr 13, .ref 4, .ref 5, .ref 6, .ref 7, .ref 8, .ref 9, .ref 10, .ref 11, .ref 12])
def ee_xw141 : ee_w := [ee_xq193, ee_xq194, ee_xq186, ee_xq195, ee_xq26, ee_xq185, ee_xq185, ee_xq186, ee_xq186, ee_xq187, ee_xq188, ee_xq189, ee_xq17]
def ee_xi165 : ee_iv := (14, [(0, 0, 127, []), (1, 0, 1023, []), (2, 0, 999, []), (3, 0, 999, []), (4, 0, 6, []), (5, 0, 5, []), (6, 0, 10, []), (7, (-2147483648), 2147483647, []), (8, 0, 100, []), (9, 0, 999, []), (10, 0, 320, []), (11, 0, 1, []), (12, 0, 1, []), (13, 0, 1, [])])
def ee_xq196 : ee_cell := .inl (6, [.int 0, .int 0, .int 0, .retAddr 9, .ref 2, .ref 3])
def ee_xw142 : ee_w := [ee_xq196, ee_xq194, ee_xq186, ee_xq195, ee_xq26, ee_xq185, ee_xq185, ee_xq186, ee_xq186, ee_xq187, ee_xq188, ee_xq189, ee_xq17]
/- State.begin -/
def ee_k9 : ee_ct := (138, [.ref 0, .ref 1], ee_xw141, ee_xi165, [([], ee_xw142, ee_xi165)], 0)
def ee_xi166 : ee_iv := (15, [(0, 0, 127, []), (1, 0, 1023, []), (2, 0, 999, []), (3, 0, 999, []), (4, 0, 6, []), (5, 0, 5, []), (6, 0, 10, []), (7, (-2147483648), 2147483647, []), (8, 0, 100, []), (9, 0, 999, []), (10, 0, 320, []), (11, 0, 1, []), (12, 0, 1, []), (13, 0, 1, []), (14, 0, 10, [])])
def ee_xi167 : ee_iv := (15, [(0, 0, 127, []), (1, 0, 1023, []), (2, 0, 999, []), (3, 0, 999, []), (4, 0, 6, []), (5, 0, 5, []), (6, 0, 10, []), (7, (-2147483648), 2147483647, []), (8, 0, 100, []), (9, 0, 999, []), (10, 0, 320, []), (11, 0, 1, []), (12, 0, 1, []), (13, 0, 1, []), (14, 0, 5, [])])
def ee_u9 : List ee_cu := [(25, [(0, .ref 0), (1, .ref 1), (2, .retAddr 14)], [], ee_xw142, ee_xi166, 39, [((-2), 14)]),
  (63, [(0, .ref 0), (1, .ref 1), (2, .retAddr 14)], [], ee_xw142, ee_xi167, 14, [((-2), 14)])]
set_option maxRecDepth 1000000 in
theorem ee_k9.ok : ee_Ct ee_mt ee_k9 := ee_cert (Γ := []) (K := []) (S := []) (f := 5000) (N := ee_me138) (cuts := ee_u9) ee_Tbok ee_gnil rfl (by decide +kernel) (by decide +kernel) (List.all_eq_true.mp (by decide +kernel))
def ee_xq197 : ee_cell := .inl (6, [.retAddr 4, .retAddr 5, .retAddr 6, .retAddr 7, .ref 4, .ref 5])
def ee_xw143 : ee_w := [ee_xq193, ee_xq197, ee_xq186, ee_xq195, ee_xq186, ee_xq195]
def ee_xi168 : ee_iv := (8, [(0, 0, 127, []), (1, 0, 1023, []), (2, 0, 999, []), (3, 0, 999, []), (4, 0, 127, []), (5, 0, 1023, []), (6, 0, 999, []), (7, 0, 999, [])])
def ee_xq198 : ee_cell := .inl (6, [.retAddr 4, .retAddr 5, .retAddr 6, .retAddr 7, .ref 2, .ref 3])
def ee_xw144 : ee_w := [ee_xq198, ee_xq197, ee_xq186, ee_xq195, ee_xq186, ee_xq195]
/- State.copyFrom -/
def ee_k10 : ee_ct := (139, [.ref 0, .ref 1], ee_xw143, ee_xi168, [([], ee_xw144, ee_xi168)], 0)
def ee_u10 : List ee_cu := []
set_option maxRecDepth 1000000 in
theorem ee_k10.ok : ee_Ct ee_mt ee_k10 := ee_cert (Γ := []) (K := []) (S := []) (f := 5000) (N := ee_me139) (cuts := ee_u10) ee_Tbok ee_gnil rfl (by decide +kernel) (by decide +kernel) (List.all_eq_true.mp (by decide +kernel))
def ee_xq199 : ee_cell := .inl (6, [.retAddr 1, .retAddr 2, .retAddr 3, .retAddr 4, .ref 2, .ref 3])
def ee_xq200 : ee_cell := .inl (7, [.retAddr 5, .retAddr 6, .retAddr 7, .retAddr 8, .retAddr 9, .retAddr 10, .retAddr 11, .retAddr 12, .retAddr 13, .retAddr 14, .ref 4, .ref 5, .ref 6, .ref 7, .ref 8, .ref 9, .ref 10, .ref 11, .ref 12])
def ee_xw145 : ee_w := [ee_xq199, ee_xq200, ee_xq186, ee_xq195, ee_xq26, ee_xq185, ee_xq185, ee_xq186, ee_xq186, ee_xq187, ee_xq188, ee_xq189, ee_xq17]
def ee_xi169 : ee_iv := (15, [(0, (-2147483648), 2147483647, []), (1, 0, 127, []), (2, 0, 1023, []), (3, 0, 999, []), (4, 0, 999, []), (5, 0, 6, []), (6, 0, 5, []), (7, 0, 10, []), (8, (-2147483648), 2147483647, []), (9, 0, 100, []), (10, 0, 999, []), (11, 0, 320, []), (12, 0, 1, []), (13, 0, 1, []), (14, 0, 1, [])])
def ee_xi170 : ee_iv := (16, [(0, (-2147483648), 2147483647, []), (1, 0, 127, []), (2, 0, 1023, []), (3, 0, 999, []), (4, 0, 999, []), (5, 0, 6, []), (6, 0, 5, []), (7, 0, 10, []), (8, (-2147483648), 2147483647, []), (9, 0, 100, []), (10, 0, 999, []), (11, 0, 320, []), (12, 0, 1, []), (13, 0, 1, []), (14, 0, 1, []), (15, 0, 1023, [])])
/- State.keptIn -/
def ee_k11 : ee_ct := (141, [.ref 0, .ref 1, .retAddr 0], ee_xw145, ee_xi169, [([.retAddr 15], ee_xw145, ee_xi170)], 0)
def ee_xi171 : ee_iv := (17, [(0, (-2147483648), 2147483647, []), (1, 0, 127, []), (2, 0, 1023, []), (3, 0, 999, []), (4, 0, 999, []), (5, 0, 6, []), (6, 0, 5, []), (7, 0, 10, []), (8, (-2147483648), 2147483647, []), (9, 0, 100, []), (10, 0, 999, []), (11, 0, 320, []), (12, 0, 1, []), (13, 0, 1, []), (14, 0, 1, []), (15, 0, 1023, []), (16, 0, 10, [])])
def ee_u11 : List ee_cu := [(5, [(0, .ref 0), (1, .ref 1), (2, .retAddr 0), (3, .retAddr 15), (4, .retAddr 16)], [], ee_xw145, ee_xi171, 24, [((-2), 16)])]
set_option maxRecDepth 1000000 in
theorem ee_k11.ok : ee_Ct ee_mt ee_k11 := ee_cert (Γ := []) (K := []) (S := []) (f := 5000) (N := ee_me141) (cuts := ee_u11) ee_Tbok ee_gnil rfl (by decide +kernel) (by decide +kernel) (List.all_eq_true.mp (by decide +kernel))
def ee_xw146 : ee_w := [ee_xq199, ee_xq201, ee_xq186, ee_xq195]
def ee_xi172 : ee_iv := (5, [(0, 0, 40, []), (1, 0, 127, []), (2, 0, 1023, []), (3, 0, 999, []), (4, 0, 999, [])])
/- State.saveTo@779 -/
def ee_k12 : ee_ct := (143, [.ref 0, .ref 1, .retAddr 0], ee_xw146, ee_xi172, [([], ee_xw146, ee_xi172)], 0)
def ee_u12 : List ee_cu := []
set_option maxRecDepth 1000000 in
theorem ee_k12.ok : ee_Ct ee_mt ee_k12 := ee_cert (Γ := []) (K := []) (S := []) (f := 5000) (N := ee_me143) (cuts := ee_u12) ee_Tbok ee_gnil rfl (by decide +kernel) (by decide +kernel) (List.all_eq_true.mp (by decide +kernel))
def ee_xq202 : ee_cell := .inl (6, [.retAddr 5, .retAddr 6, .retAddr 7, .retAddr 8, .ref 2, .ref 3])
def ee_xw147 : ee_w := [ee_xq202, ee_xq201, ee_xq186, ee_xq195]
def ee_xi173 : ee_iv := (9, [(0, 0, 40, []), (1, 0, 127, []), (2, 0, 1023, []), (3, 0, 999, []), (4, 0, 999, []), (5, 0, 127, []), (6, 0, 1023, []), (7, 0, 999, []), (8, 0, 999, [])])
/- State.loadFrom@779 -/
def ee_k13 : ee_ct := (142, [.ref 0, .ref 1, .retAddr 0], ee_xw146, ee_xi172, [([], ee_xw147, ee_xi173)], 0)
def ee_u13 : List ee_cu := []
set_option maxRecDepth 1000000 in
theorem ee_k13.ok : ee_Ct ee_mt ee_k13 := ee_cert (Γ := []) (K := []) (S := []) (f := 5000) (N := ee_me142) (cuts := ee_u13) ee_Tbok ee_gnil rfl (by decide +kernel) (by decide +kernel) (List.all_eq_true.mp (by decide +kernel))
def ee_xw148 : ee_w := [ee_xq199, ee_xq203, ee_xq186, ee_xq195]
def ee_xi174 : ee_iv := (5, [(0, 0, 2, []), (1, 0, 127, []), (2, 0, 1023, []), (3, 0, 999, []), (4, 0, 999, [])])
/- State.saveTo@57 -/
def ee_k14 : ee_ct := (143, [.ref 0, .ref 1, .retAddr 0], ee_xw148, ee_xi174, [([], ee_xw148, ee_xi174)], 0)
def ee_u14 : List ee_cu := []
set_option maxRecDepth 1000000 in
theorem ee_k14.ok : ee_Ct ee_mt ee_k14 := ee_cert (Γ := []) (K := []) (S := []) (f := 5000) (N := ee_me143) (cuts := ee_u14) ee_Tbok ee_gnil rfl (by decide +kernel) (by decide +kernel) (List.all_eq_true.mp (by decide +kernel))
def ee_xw149 : ee_w := [ee_xq202, ee_xq203, ee_xq186, ee_xq195]
def ee_xi175 : ee_iv := (9, [(0, 0, 2, []), (1, 0, 127, []), (2, 0, 1023, []), (3, 0, 999, []), (4, 0, 999, []), (5, 0, 127, []), (6, 0, 1023, []), (7, 0, 999, []), (8, 0, 999, [])])
/- State.loadFrom@57 -/
def ee_k15 : ee_ct := (142, [.ref 0, .ref 1, .retAddr 0], ee_xw148, ee_xi174, [([], ee_xw149, ee_xi175)], 0)
def ee_u15 : List ee_cu := []
set_option maxRecDepth 1000000 in
theorem ee_k15.ok : ee_Ct ee_mt ee_k15 := ee_cert (Γ := []) (K := []) (S := []) (f := 5000) (N := ee_me142) (cuts := ee_u15) ee_Tbok ee_gnil rfl (by decide +kernel) (by decide +kernel) (List.all_eq_true.mp (by decide +kernel))
/- Mill.joined -/
def ee_k16 : ee_ct := (100, [.retAddr 0, .retAddr 1, .retAddr 2], ee_xw26, ee_xi13, [([.retAddr 3], ee_xw26, ee_xi14)], 0)
def ee_u16 : List ee_cu := []
set_option maxRecDepth 1000000 in
theorem ee_k16.ok : ee_Ct ee_mt ee_k16 := ee_cert (Γ := []) (K := []) (S := [(100, 0, 202)]) (f := 5000) (N := ee_me100) (cuts := ee_u16) ee_Tbok ee_gnil rfl (by decide +kernel) (by decide +kernel) (List.all_eq_true.mp (by decide +kernel))
def ee_xq204 : ee_cell := .inl (4, [.ref 2, .ref 3, .ref 4])
def ee_xq205 : ee_cell := .inl (7, [.retAddr 2, .retAddr 3, .retAddr 4, .retAddr 5, .retAddr 6, .retAddr 7, .retAddr 8, .retAddr 9, .retAddr 10, .retAddr 11, .ref 5, .ref 6, .ref 7, .ref 8, .ref 9, .ref 10, .ref 11, .ref 12, .ref 13])
def ee_xw150 : ee_w := [ee_xq204, ee_xq205, ee_xq26, ee_xq206, ee_xq207, ee_xq26, ee_xq185, ee_xq185, ee_xq186, ee_xq186, ee_xq187, ee_xq188, ee_xq189, ee_xq17]
def ee_xi176 : ee_iv := (12, [(0, 0, 9, []), (1, (-2147483648), 2147483647, []), (2, 0, 6, []), (3, 0, 5, []), (4, 0, 10, []), (5, (-2147483648), 2147483647, []), (6, 0, 100, []), (7, 0, 999, []), (8, 0, 320, []), (9, 0, 1, []), (10, 0, 1, []), (11, 0, 1, [])])
def ee_xi177 : ee_iv := (13, [(0, 0, 9, []), (1, (-2147483648), 2147483647, []), (2, 0, 6, []), (3, 0, 5, []), (4, 0, 10, []), (5, (-2147483648), 2147483647, []), (6, 0, 100, []), (7, 0, 999, []), (8, 0, 320, []), (9, 0, 1, []), (10, 0, 1, []), (11, 0, 1, []), (12, 0, 1, [])])
/- Mill.passes -/
def ee_k17 : ee_ct := (106, [.ref 0, .ref 1, .retAddr 0, .retAddr 1], ee_xw150, ee_xi176, [([.retAddr 12], ee_xw150, ee_xi177)], 1)
def ee_xi178 : ee_iv := (14, [(0, 0, 9, []), (1, (-2147483648), 2147483647, []), (2, 0, 6, []), (3, 0, 5, []), (4, 0, 10, []), (5, (-2147483648), 2147483647, []), (6, 0, 100, []), (7, 0, 999, []), (8, 0, 320, []), (9, 0, 1, []), (10, 0, 1, []), (11, 0, 1, []), (12, 0, 64, []), (13, 0, 2147483647, [])])
def ee_u17 : List ee_cu := [(25, [(0, .ref 0), (1, .ref 1), (2, .retAddr 0), (3, .retAddr 1), (4, .retAddr 12), (5, .retAddr 13)], [], ee_xw150, ee_xi178, 4294967298, [((-2), 13)])]
set_option maxRecDepth 1000000 in
theorem ee_k17.ok : ee_Ct ee_mt ee_k17 := ee_cert (Γ := [ee_k16]) (K := [(106, 161, [0])]) (S := []) (f := 5000) (N := ee_me106) (cuts := ee_u17) ee_Tbok (ee_gcons ee_k16.ok ee_gnil) rfl (by decide +kernel) (by decide +kernel) (List.all_eq_true.mp (by decide +kernel))
def ee_xq208 : ee_cell := .inl (4, [.ref 3, .ref 4, .ref 5])
def ee_xq209 : ee_cell := .inl (7, [.retAddr 2, .retAddr 3, .retAddr 4, .retAddr 5, .retAddr 6, .retAddr 7, .retAddr 8, .retAddr 9, .retAddr 10, .retAddr 11, .ref 6, .ref 7, .ref 8, .ref 9, .ref 10, .ref 11, .ref 12, .ref 13, .ref 14])
def ee_xq210 : ee_cell := .inl (6, [.retAddr 12, .retAddr 13, .retAddr 14, .retAddr 15, .ref 15, .ref 16])
def ee_xw151 : ee_w := [ee_xq208, ee_xq209, ee_xq210, ee_xq26, ee_xq206, ee_xq207, ee_xq26, ee_xq185, ee_xq185, ee_xq186, ee_xq186, ee_xq187, ee_xq188, ee_xq189, ee_xq17, ee_xq186, ee_xq195]
def ee_xi179 : ee_iv := (16, [(0, (-2147483648), 2147483647, []), (1, (-2147483648), 2147483647, []), (2, 0, 6, []), (3, 0, 5, []), (4, 0, 10, []), (5, (-2147483648), 2147483647, []), (6, 0, 100, []), (7, 0, 999, []), (8, 0, 320, []), (9, 0, 1, []), (10, 0, 1, []), (11, 0, 1, []), (12, 0, 127, []), (13, 0, 1023, []), (14, 0, 999, []), (15, 0, 999, [])])
/- Mill.setUp -/
def ee_k18 : ee_ct := (108, [.ref 0, .ref 1, .ref 2, .retAddr 0, .retAddr 1], ee_xw151, ee_xi179, [([], ee_xw151, ee_xi179)], 1)
def ee_u18 : List ee_cu := []
set_option maxRecDepth 1000000 in
theorem ee_k18.ok : ee_Ct ee_mt ee_k18 := ee_cert (Γ := [ee_k11, ee_k3]) (K := [(108, 42, [0]), (108, 45, [1])]) (S := []) (f := 5000) (N := ee_me108) (cuts := ee_u18) ee_Tbok (ee_gcons ee_k11.ok (ee_gcons ee_k3.ok ee_gnil)) rfl (by decide +kernel) (by decide +kernel) (List.all_eq_true.mp (by decide +kernel))
def ee_xq211 : ee_cell := .inl (7, [.retAddr 3, .retAddr 4, .retAddr 5, .retAddr 6, .retAddr 7, .retAddr 8, .retAddr 9, .retAddr 10, .retAddr 11, .retAddr 12, .ref 6, .ref 7, .ref 8, .ref 9, .ref 10, .ref 11, .ref 12, .ref 13, .ref 14])
def ee_xq212 : ee_cell := .inl (6, [.retAddr 13, .retAddr 14, .retAddr 15, .retAddr 16, .ref 15, .ref 16])
def ee_xw152 : ee_w := [ee_xq208, ee_xq211, ee_xq212, ee_xq26, ee_xq206, ee_xq207, ee_xq26, ee_xq185, ee_xq185, ee_xq186, ee_xq186, ee_xq187, ee_xq188, ee_xq189, ee_xq17, ee_xq186, ee_xq195]
def ee_xi180 : ee_iv := (17, [(0, (-2147483648), 2147483647, []), (1, (-2147483648), 2147483647, []), (2, (-2147483648), 2147483647, []), (3, 0, 6, []), (4, 0, 5, []), (5, 0, 10, []), (6, (-2147483648), 2147483647, []), (7, 0, 100, []), (8, 0, 999, []), (9, 0, 320, []), (10, 0, 1, []), (11, 0, 1, []), (12, 0, 1, []), (13, 0, 127, []), (14, 0, 1023, []), (15, 0, 999, []), (16, 0, 999, [])])
def ee_xi181 : ee_iv := (18, [(0, (-2147483648), 2147483647, []), (1, (-2147483648), 2147483647, []), (2, (-2147483648), 2147483647, []), (3, 0, 6, []), (4, 0, 5, []), (5, 0, 10, []), (6, (-2147483648), 2147483647, []), (7, 0, 100, []), (8, 0, 999, []), (9, 0, 320, []), (10, 0, 1, []), (11, 0, 1, []), (12, 0, 1, []), (13, 0, 127, []), (14, 0, 1023, []), (15, 0, 999, []), (16, 0, 999, []), (17, 0, 1023, [])])
/- Mill.passing -/
def ee_k19 : ee_ct := (107, [.ref 0, .ref 1, .ref 2, .retAddr 0, .retAddr 1, .retAddr 2], ee_xw152, ee_xi180, [([.retAddr 17], ee_xw152, ee_xi181)], 2)
def ee_xi182 : ee_iv := (20, [(0, (-2147483648), 2147483647, []), (1, (-2147483648), 2147483647, []), (2, (-2147483648), 2147483647, []), (3, 0, 6, []), (4, 0, 5, []), (5, 0, 10, []), (6, (-2147483648), 2147483647, []), (7, 0, 100, []), (8, 0, 999, []), (9, 0, 320, []), (10, 0, 1, []), (11, 0, 1, []), (12, 0, 1, []), (13, 0, 127, []), (14, 0, 1023, []), (15, 0, 999, []), (16, 0, 999, []), (17, 1, 1023, []), (18, 0, 1023, []), (19, 0, 10, [])])
def ee_u19 : List ee_cu := [(33, [(0, .ref 0), (1, .ref 1), (2, .ref 2), (3, .retAddr 0), (4, .retAddr 1), (5, .retAddr 2), (6, .retAddr 17), (7, .retAddr 18), (8, .retAddr 19)], [], ee_xw152, ee_xi182, 24, [((-2), 19)])]
set_option maxRecDepth 1000000 in
theorem ee_k19.ok : ee_Ct ee_mt ee_k19 := ee_cert (Γ := [ee_k11, ee_k18, ee_k17]) (K := [(107, 3, [0]), (107, 24, [1]), (107, 68, [2])]) (S := []) (f := 5000) (N := ee_me107) (cuts := ee_u19) ee_Tbok (ee_gcons ee_k11.ok (ee_gcons ee_k18.ok (ee_gcons ee_k17.ok ee_gnil))) rfl (by decide +kernel) (by decide +kernel) (List.all_eq_true.mp (by decide +kernel))
def ee_xq213 : ee_cell := .inl (7, [.retAddr 1, .retAddr 2, .retAddr 3, .retAddr 4, .retAddr 5, .retAddr 6, .retAddr 7, .retAddr 8, .retAddr 9, .retAddr 10, .ref 6, .ref 7, .ref 8, .ref 9, .ref 10, .ref 11, .ref 12, .ref 13, .ref 14])
def ee_xq214 : ee_cell := .inl (6, [.retAddr 11, .retAddr 12, .retAddr 13, .retAddr 14, .ref 15, .ref 16])
def ee_xw153 : ee_w := [ee_xq208, ee_xq213, ee_xq214, ee_xq26, ee_xq206, ee_xq207, ee_xq26, ee_xq185, ee_xq185, ee_xq186, ee_xq186, ee_xq187, ee_xq188, ee_xq189, ee_xq17, ee_xq186, ee_xq195]
def ee_xi183 : ee_iv := (15, [(0, (-2147483648), 2147483647, []), (1, 0, 6, []), (2, 0, 5, []), (3, 0, 10, []), (4, (-2147483648), 2147483647, []), (5, 0, 100, []), (6, 0, 999, []), (7, 0, 320, []), (8, 0, 1, []), (9, 0, 1, []), (10, 0, 1, []), (11, 0, 127, []), (12, 0, 1023, []), (13, 0, 999, []), (14, 0, 999, [])])
def ee_xi184 : ee_iv := (16, [(0, (-2147483648), 2147483647, []), (1, 0, 6, []), (2, 0, 5, []), (3, 0, 10, []), (4, (-2147483648), 2147483647, []), (5, 0, 100, []), (6, 0, 999, []), (7, 0, 320, []), (8, 0, 1, []), (9, 0, 1, []), (10, 0, 1, []), (11, 0, 127, []), (12, 0, 1023, []), (13, 0, 999, []), (14, 0, 999, []), (15, 0, 1023, [])])
/- Mill.letOut -/
def ee_k20 : ee_ct := (101, [.ref 0, .ref 1, .ref 2, .retAddr 0], ee_xw153, ee_xi183, [([.retAddr 15], ee_xw153, ee_xi184)], 3)
def ee_u20 : List ee_cu := []
set_option maxRecDepth 1000000 in
theorem ee_k20.ok : ee_Ct ee_mt ee_k20 := ee_cert (Γ := [ee_k0, ee_k6, ee_k19]) (K := [(101, 8, [0]), (101, 16, [1]), (101, 19, [2])]) (S := []) (f := 5000) (N := ee_me101) (cuts := ee_u20) ee_Tbok (ee_gcons ee_k0.ok (ee_gcons ee_k6.ok (ee_gcons ee_k19.ok ee_gnil))) rfl (by decide +kernel) (by decide +kernel) (List.all_eq_true.mp (by decide +kernel))
def ee_xq215 : ee_cell := .inl (7, [.retAddr 0, .retAddr 1, .retAddr 2, .retAddr 3, .retAddr 4, .retAddr 5, .retAddr 6, .retAddr 7, .retAddr 8, .retAddr 9, .ref 6, .ref 7, .ref 8, .ref 9, .ref 10, .ref 11, .ref 12, .ref 13, .ref 14])
def ee_xq216 : ee_cell := .inl (6, [.retAddr 10, .retAddr 11, .retAddr 12, .retAddr 13, .ref 15, .ref 16])
def ee_xw154 : ee_w := [ee_xq208, ee_xq215, ee_xq216, ee_xq26, ee_xq206, ee_xq207, ee_xq26, ee_xq185, ee_xq185, ee_xq186, ee_xq186, ee_xq187, ee_xq188, ee_xq189, ee_xq17, ee_xq186, ee_xq195]
def ee_xi185 : ee_iv := (14, [(0, 0, 6, []), (1, 0, 5, []), (2, 0, 10, []), (3, (-2147483648), 2147483647, []), (4, 0, 100, []), (5, 0, 999, []), (6, 0, 320, []), (7, 0, 1, []), (8, 0, 1, []), (9, 0, 1, []), (10, 0, 127, []), (11, 0, 1023, []), (12, 0, 999, []), (13, 0, 999, [])])
def ee_xi186 : ee_iv := (15, [(0, 0, 6, []), (1, 0, 5, []), (2, 0, 10, []), (3, (-2147483648), 2147483647, []), (4, 0, 100, []), (5, 0, 999, []), (6, 0, 320, []), (7, 0, 1, []), (8, 0, 1, []), (9, 0, 1, []), (10, 0, 127, []), (11, 0, 1023, []), (12, 0, 999, []), (13, 0, 999, []), (14, 0, 1023, [])])
/- Mill.letOutOfAll -/
def ee_k21 : ee_ct := (103, [.ref 0, .ref 1, .ref 2], ee_xw154, ee_xi185, [([.retAddr 14], ee_xw154, ee_xi186)], 4)
def ee_xi187 : ee_iv := (16, [(0, 0, 6, []), (1, 0, 5, []), (2, 0, 10, []), (3, (-2147483648), 2147483647, []), (4, 0, 100, []), (5, 0, 999, []), (6, 0, 320, []), (7, 0, 1, []), (8, 0, 1, []), (9, 0, 1, []), (10, 0, 127, []), (11, 0, 1023, []), (12, 0, 999, []), (13, 0, 999, []), (14, 0, 1023, []), (15, 0, 5, [])])
def ee_u21 : List ee_cu := [(5, [(0, .ref 0), (1, .ref 1), (2, .ref 2), (3, .retAddr 14), (4, .retAddr 15)], [], ee_xw154, ee_xi187, 14, [((-2), 15)])]
set_option maxRecDepth 1000000 in
theorem ee_k21.ok : ee_Ct ee_mt ee_k21 := ee_cert (Γ := [ee_k20]) (K := [(103, 20, [0])]) (S := []) (f := 5000) (N := ee_me103) (cuts := ee_u21) ee_Tbok (ee_gcons ee_k20.ok ee_gnil) rfl (by decide +kernel) (by decide +kernel) (List.all_eq_true.mp (by decide +kernel))
def ee_xq217 : ee_cell := .inl (6, [.retAddr 11, .retAddr 16, .retAddr 13, .retAddr 14, .ref 15, .ref 16])
def ee_xw155 : ee_w := [ee_xq208, ee_xq213, ee_xq217, ee_xq26, ee_xq206, ee_xq207, ee_xq26, ee_xq185, ee_xq185, ee_xq186, ee_xq186, ee_xq187, ee_xq188, ee_xq189, ee_xq17, ee_xq186, ee_xq195]
def ee_xi188 : ee_iv := (17, [(0, (-2147483648), 2147483647, []), (1, 0, 6, []), (2, 0, 5, []), (3, 0, 10, []), (4, (-2147483648), 2147483647, []), (5, 0, 100, []), (6, 0, 999, []), (7, 0, 320, []), (8, 0, 1, []), (9, 0, 1, []), (10, 0, 1, []), (11, 0, 127, []), (12, 0, 1023, []), (13, 0, 999, []), (14, 0, 999, []), (15, 0, 1023, []), (16, 0, 1023, [])])
/- Mill.turn -/
def ee_k22 : ee_ct := (109, [.ref 0, .ref 1, .ref 2, .retAddr 0], ee_xw153, ee_xi183, [([.retAddr 15], ee_xw155, ee_xi188)], 4)
def ee_u22 : List ee_cu := []
set_option maxRecDepth 1000000 in
theorem ee_k22.ok : ee_Ct ee_mt ee_k22 := ee_cert (Γ := [ee_k20]) (K := [(109, 18, [0])]) (S := []) (f := 5000) (N := ee_me109) (cuts := ee_u22) ee_Tbok (ee_gcons ee_k20.ok ee_gnil) rfl (by decide +kernel) (by decide +kernel) (List.all_eq_true.mp (by decide +kernel))
/- Mill.passAtAllSizes -/
def ee_k23 : ee_ct := (105, [.ref 0, .ref 1, .ref 2, .retAddr 0], ee_xw153, ee_xi183, [([], ee_xw153, ee_xi183)], 3)
def ee_xi189 : ee_iv := (16, [(0, (-2147483648), 2147483647, []), (1, 0, 6, []), (2, 0, 5, []), (3, 0, 10, []), (4, (-2147483648), 2147483647, []), (5, 0, 100, []), (6, 0, 999, []), (7, 0, 320, []), (8, 0, 1, []), (9, 0, 1, []), (10, 0, 1, []), (11, 0, 127, []), (12, 0, 1023, []), (13, 0, 999, []), (14, 0, 999, []), (15, 0, 7, [])])
def ee_u23 : List ee_cu := [(3, [(0, .ref 0), (1, .ref 1), (2, .ref 2), (3, .retAddr 0), (4, .retAddr 15)], [], ee_xw153, ee_xi189, 18, [((-2), 15)])]
set_option maxRecDepth 1000000 in
theorem ee_k23.ok : ee_Ct ee_mt ee_k23 := ee_cert (Γ := [ee_k19]) (K := [(105, 53, [0])]) (S := []) (f := 5000) (N := ee_me105) (cuts := ee_u23) ee_Tbok (ee_gcons ee_k19.ok ee_gnil) rfl (by decide +kernel) (by decide +kernel) (List.all_eq_true.mp (by decide +kernel))
def ee_xq218 : ee_cell := .inl (7, [.retAddr 1, .retAddr 2, .retAddr 3, .retAddr 4, .retAddr 5, .retAddr 6, .retAddr 7, .retAddr 8, .retAddr 9, .retAddr 10, .ref 5, .ref 6, .ref 7, .ref 8, .ref 9, .ref 10, .ref 11, .ref 12, .ref 13])
def ee_xw156 : ee_w := [ee_xq204, ee_xq218, ee_xq26, ee_xq206, ee_xq207, ee_xq26, ee_xq185, ee_xq185, ee_xq186, ee_xq186, ee_xq187, ee_xq188, ee_xq189, ee_xq17]
/- Mill.letOutAt -/
def ee_k24 : ee_ct := (102, [.ref 0, .ref 1, .retAddr 0], ee_xw156, ee_xi156, [([.retAddr 11], ee_xw156, ee_xi159)], 1)
def ee_u24 : List ee_cu := []
set_option maxRecDepth 1000000 in
theorem ee_k24.ok : ee_Ct ee_mt ee_k24 := ee_cert (Γ := [ee_k1, ee_k6]) (K := [(102, 5, [0]), (102, 16, [1])]) (S := []) (f := 5000) (N := ee_me102) (cuts := ee_u24) ee_Tbok (ee_gcons ee_k1.ok (ee_gcons ee_k6.ok ee_gnil)) rfl (by decide +kernel) (by decide +kernel) (List.all_eq_true.mp (by decide +kernel))
def ee_xq219 : ee_cell := .inl (0, [.retAddr 0, .retAddr 1, .retAddr 2, .ref 2])
def ee_xq220 : ee_cell := .inl (6, [.retAddr 3, .retAddr 4, .retAddr 5, .retAddr 6, .ref 3, .ref 4])
def ee_xw157 : ee_w := [ee_xq219, ee_xq220, ee_xq201, ee_xq186, ee_xq195]
def ee_xi190 : ee_iv := (7, [(0, (-2147483648), 2147483647, []), (1, (-2147483648), 2147483647, []), (2, 0, 40, []), (3, 0, 127, []), (4, 0, 1023, []), (5, 0, 999, []), (6, 0, 999, [])])
def ee_xq221 : ee_cell := .inl (0, [.int 0, .int 0, .int 0, .ref 2])
def ee_xw158 : ee_w := [ee_xq221, ee_xq220, ee_xq201, ee_xq186, ee_xq195]
/- Acts.forget -/
def ee_k25 : ee_ct := (74, [.ref 0, .ref 1], ee_xw157, ee_xi190, [([], ee_xw158, ee_xi190)], 1)
def ee_u25 : List ee_cu := []
set_option maxRecDepth 1000000 in
theorem ee_k25.ok : ee_Ct ee_mt ee_k25 := ee_cert (Γ := [ee_k12]) (K := [(74, 24, [0])]) (S := []) (f := 5000) (N := ee_me74) (cuts := ee_u25) ee_Tbok (ee_gcons ee_k12.ok ee_gnil) rfl (by decide +kernel) (by decide +kernel) (List.all_eq_true.mp (by decide +kernel))
def ee_xq222 : ee_cell := .inl (0, [.retAddr 7, .int 0, .retAddr 8, .ref 2])
def ee_xw159 : ee_w := [ee_xq222, ee_xq220, ee_xq201, ee_xq186, ee_xq195]
def ee_xi191 : ee_iv := (9, [(0, (-2147483648), 2147483647, []), (1, (-2147483648), 2147483647, []), (2, 0, 40, []), (3, 0, 127, []), (4, 0, 1023, []), (5, 0, 999, []), (6, 0, 999, []), (7, (-2147483648), 40, []), (8, 0, 40, [])])
/- Acts.keep -/
def ee_k26 : ee_ct := (75, [.ref 0, .ref 1], ee_xw157, ee_xi190, [([], ee_xw159, ee_xi191)], 1)
def ee_u26 : List ee_cu := []
set_option maxRecDepth 1000000 in
theorem ee_k26.ok : ee_Ct ee_mt ee_k26 := ee_cert (Γ := [ee_k12]) (K := [(75, 22, [0])]) (S := []) (f := 5000) (N := ee_me75) (cuts := ee_u26) ee_Tbok (ee_gcons ee_k12.ok ee_gnil) rfl (by decide +kernel) (by decide +kernel) (List.all_eq_true.mp (by decide +kernel))
def ee_xq223 : ee_cell := .inl (0, [.retAddr 8, .retAddr 9, .retAddr 10, .ref 2])
def ee_xq224 : ee_cell := .inl (6, [.retAddr 11, .retAddr 12, .retAddr 13, .retAddr 14, .ref 3, .ref 4])
def ee_xw160 : ee_w := [ee_xq223, ee_xq224, ee_xq201, ee_xq186, ee_xq195]
def ee_xi192 : ee_iv := (15, [(0, (-2147483648), 2147483647, []), (1, (-2147483648), 2147483647, []), (2, 0, 40, []), (3, 0, 127, []), (4, 0, 1023, []), (5, 0, 999, []), (6, 0, 999, []), (7, 0, 1, []), (8, (-2147483648), 2147483647, []), (9, (-2147483648), 2147483647, []), (10, 0, 40, []), (11, 0, 127, []), (12, 0, 1023, []), (13, 0, 999, []), (14, 0, 999, [])])
/- Acts.stepBack -/
def ee_k27 : ee_ct := (76, [.ref 0, .ref 1], ee_xw157, ee_xi190, [([.retAddr 7], ee_xw160, ee_xi192)], 1)
def ee_u27 : List ee_cu := []
set_option maxRecDepth 1000000 in
theorem ee_k27.ok : ee_Ct ee_mt ee_k27 := ee_cert (Γ := [ee_k13]) (K := [(76, 34, [0])]) (S := []) (f := 5000) (N := ee_me76) (cuts := ee_u27) ee_Tbok (ee_gcons ee_k13.ok ee_gnil) rfl (by decide +kernel) (by decide +kernel) (List.all_eq_true.mp (by decide +kernel))
/- Acts.stepOn -/
def ee_k28 : ee_ct := (77, [.ref 0, .ref 1], ee_xw157, ee_xi190, [([.retAddr 7], ee_xw160, ee_xi192)], 1)
def ee_u28 : List ee_cu := []
set_option maxRecDepth 1000000 in
theorem ee_k28.ok : ee_Ct ee_mt ee_k28 := ee_cert (Γ := [ee_k13]) (K := [(77, 31, [0])]) (S := []) (f := 5000) (N := ee_me77) (cuts := ee_u28) ee_Tbok (ee_gcons ee_k13.ok ee_gnil) rfl (by decide +kernel) (by decide +kernel) (List.all_eq_true.mp (by decide +kernel))
def ee_xq225 : ee_cell := .inl (1, [.ref 1, .ref 2])
def ee_xw161 : ee_w := [ee_xq225, ee_xq203, ee_xq33]
/- Boxes.forget -/
def ee_k29 : ee_ct := (80, [.ref 0], ee_xw161, (0, []), [([], ee_xw161, (0, []))], 0)
def ee_u29 : List ee_cu := [(2, [(0, .ref 0), (1, .retAddr 0)], [], ee_xw161, (1, [(0, 0, 3, [])]), 10, [((-2), 0)])]
set_option maxRecDepth 1000000 in
theorem ee_k29.ok : ee_Ct ee_mt ee_k29 := ee_cert (Γ := []) (K := []) (S := []) (f := 5000) (N := ee_me80) (cuts := ee_u29) ee_Tbok ee_gnil rfl (by decide +kernel) (by decide +kernel) (List.all_eq_true.mp (by decide +kernel))
def ee_xq226 : ee_cell := .inl (1, [.ref 2, .ref 3])
def ee_xq227 : ee_cell := .inl (6, [.retAddr 1, .retAddr 2, .retAddr 3, .retAddr 4, .ref 4, .ref 5])
def ee_xw162 : ee_w := [ee_xq226, ee_xq227, ee_xq203, ee_xq33, ee_xq186, ee_xq195]
def ee_xi193 : ee_iv := (5, [(0, (-2147483648), 2147483647, []), (1, 0, 127, []), (2, 0, 1023, []), (3, 0, 999, []), (4, 0, 999, [])])
def ee_xi194 : ee_iv := (6, [(0, (-2147483648), 2147483647, []), (1, 0, 127, []), (2, 0, 1023, []), (3, 0, 999, []), (4, 0, 999, []), (5, 0, 1, [])])
/- Boxes.fill -/
def ee_k30 : ee_ct := (79, [.ref 0, .retAddr 0, .ref 1], ee_xw162, ee_xi193, [([.retAddr 5], ee_xw162, ee_xi194)], 1)
def ee_u30 : List ee_cu := []
set_option maxRecDepth 1000000 in
theorem ee_k30.ok : ee_Ct ee_mt ee_k30 := ee_cert (Γ := [ee_k14]) (K := [(79, 17, [0])]) (S := []) (f := 5000) (N := ee_me79) (cuts := ee_u30) ee_Tbok (ee_gcons ee_k14.ok ee_gnil) rfl (by decide +kernel) (by decide +kernel) (List.all_eq_true.mp (by decide +kernel))
def ee_xq228 : ee_cell := .inl (6, [.retAddr 6, .retAddr 7, .retAddr 8, .retAddr 9, .ref 4, .ref 5])
def ee_xw163 : ee_w := [ee_xq226, ee_xq228, ee_xq203, ee_xq33, ee_xq186, ee_xq195]
def ee_xi195 : ee_iv := (10, [(0, (-2147483648), 2147483647, []), (1, 0, 127, []), (2, 0, 1023, []), (3, 0, 999, []), (4, 0, 999, []), (5, 0, 1, []), (6, 0, 127, []), (7, 0, 1023, []), (8, 0, 999, []), (9, 0, 999, [])])
/- Boxes.restore -/
def ee_k31 : ee_ct := (81, [.ref 0, .retAddr 0, .ref 1], ee_xw162, ee_xi193, [([.retAddr 5], ee_xw163, ee_xi195)], 1)
def ee_u31 : List ee_cu := []
set_option maxRecDepth 1000000 in
theorem ee_k31.ok : ee_Ct ee_mt ee_k31 := ee_cert (Γ := [ee_k15]) (K := [(81, 26, [0])]) (S := []) (f := 5000) (N := ee_me81) (cuts := ee_u31) ee_Tbok (ee_gcons ee_k15.ok ee_gnil) rfl (by decide +kernel) (by decide +kernel) (List.all_eq_true.mp (by decide +kernel))
def ee_xq229 : ee_cell := .inl (3, [.retAddr 1, .ref 1, .ref 2, .ref 3, .retAddr 2])
def ee_xw164 : ee_w := [ee_xq229, ee_xq26, ee_xq230, ee_xq26]
def ee_xi196 : ee_iv := (3, [(0, (-2147483648), 2147483647, []), (1, 0, 6, []), (2, 0, 6, [])])
def ee_xq231 : ee_cell := .inl (3, [.retAddr 3, .ref 1, .ref 2, .ref 3, .retAddr 2])
def ee_xw165 : ee_w := [ee_xq231, ee_xq26, ee_xq230, ee_xq26]
def ee_xi197 : ee_iv := (4, [(0, (-2147483648), 2147483647, []), (1, 0, 6, []), (2, 0, 6, []), (3, 1, 6, [])])
/- Lying.add -/
def ee_k32 : ee_ct := (94, [.ref 0, .retAddr 0], ee_xw164, ee_xi196, [([], ee_xw165, ee_xi197)], 0)
def ee_u32 : List ee_cu := []
set_option maxRecDepth 1000000 in
theorem ee_k32.ok : ee_Ct ee_mt ee_k32 := ee_cert (Γ := []) (K := []) (S := []) (f := 5000) (N := ee_me94) (cuts := ee_u32) ee_Tbok ee_gnil rfl (by decide +kernel) (by decide +kernel) (List.all_eq_true.mp (by decide +kernel))
def ee_xq232 : ee_cell := .inl (3, [.int 6, .ref 1, .ref 2, .ref 3, .retAddr 2])
def ee_xw166 : ee_w := [ee_xq232, ee_xq26, ee_xq230, ee_xq26]
/- Lying.goFurther@6 -/
def ee_k33 : ee_ct := (95, [.ref 0, .int 6, .retAddr 0], ee_xw164, ee_xi196, [([], ee_xw166, ee_xi196)], 0)
def ee_u33 : List ee_cu := []
set_option maxRecDepth 1000000 in
theorem ee_k33.ok : ee_Ct ee_mt ee_k33 := ee_cert (Γ := []) (K := []) (S := []) (f := 5000) (N := ee_me95) (cuts := ee_u33) ee_Tbok ee_gnil rfl (by decide +kernel) (by decide +kernel) (List.all_eq_true.mp (by decide +kernel))
def ee_xi198 : ee_iv := (4, [(0, (-2147483648), 2147483647, []), (1, 0, 6, []), (2, 0, 6, []), (3, 5, 6, [])])
/- Lying.goFurther@5 -/
def ee_k34 : ee_ct := (95, [.ref 0, .int 5, .retAddr 0], ee_xw164, ee_xi196, [([], ee_xw165, ee_xi198)], 1)
def ee_xq233 : ee_cell := .inl (3, [.retAddr 5, .ref 1, .ref 2, .ref 3, .retAddr 2])
def ee_xw167 : ee_w := [ee_xq233, ee_xq26, ee_xq230, ee_xq26]
def ee_xi199 : ee_iv := (6, [(0, (-2147483648), 2147483647, []), (1, 0, 6, []), (2, 6, 6, []), (3, (-2147483648), 2147483647, []), (4, 0, 6, []), (5, 5, 6, [])])
def ee_u34 : List ee_cu := [(71, [(0, .ref 0), (1, .int 5), (2, .retAddr 0), (3, .retAddr 3), (4, .retAddr 4)], [], ee_xw167, ee_xi199, 16, [((-2), 4)])]
set_option maxRecDepth 1000000 in
theorem ee_k34.ok : ee_Ct ee_mt ee_k34 := ee_cert (Γ := [ee_k33]) (K := [(95, 107, [0])]) (S := []) (f := 5000) (N := ee_me95) (cuts := ee_u34) ee_Tbok (ee_gcons ee_k33.ok ee_gnil) rfl (by decide +kernel) (by decide +kernel) (List.all_eq_true.mp (by decide +kernel))
def ee_xi200 : ee_iv := (4, [(0, (-2147483648), 2147483647, []), (1, 0, 6, []), (2, 0, 6, []), (3, 4, 6, [])])
/- Lying.goFurther@4 -/
def ee_k35 : ee_ct := (95, [.ref 0, .int 4, .retAddr 0], ee_xw164, ee_xi196, [([], ee_xw165, ee_xi200)], 2)
def ee_xi201 : ee_iv := (6, [(0, (-2147483648), 2147483647, []), (1, 0, 6, []), (2, 5, 6, []), (3, (-2147483648), 2147483647, []), (4, 0, 6, []), (5, 4, 6, [])])
def ee_u35 : List ee_cu := [(71, [(0, .ref 0), (1, .int 4), (2, .retAddr 0), (3, .retAddr 3), (4, .retAddr 4)], [], ee_xw167, ee_xi201, 16, [((-2), 4)])]
set_option maxRecDepth 1000000 in
theorem ee_k35.ok : ee_Ct ee_mt ee_k35 := ee_cert (Γ := [ee_k34]) (K := [(95, 107, [0])]) (S := []) (f := 5000) (N := ee_me95) (cuts := ee_u35) ee_Tbok (ee_gcons ee_k34.ok ee_gnil) rfl (by decide +kernel) (by decide +kernel) (List.all_eq_true.mp (by decide +kernel))
def ee_xi202 : ee_iv := (4, [(0, (-2147483648), 2147483647, []), (1, 0, 6, []), (2, 0, 6, []), (3, 3, 6, [])])
/- Lying.goFurther@3 -/
def ee_k36 : ee_ct := (95, [.ref 0, .int 3, .retAddr 0], ee_xw164, ee_xi196, [([], ee_xw165, ee_xi202)], 3)
def ee_xi203 : ee_iv := (6, [(0, (-2147483648), 2147483647, []), (1, 0, 6, []), (2, 4, 6, []), (3, (-2147483648), 2147483647, []), (4, 0, 6, []), (5, 3, 6, [])])
def ee_u36 : List ee_cu := [(71, [(0, .ref 0), (1, .int 3), (2, .retAddr 0), (3, .retAddr 3), (4, .retAddr 4)], [], ee_xw167, ee_xi203, 16, [((-2), 4)])]
set_option maxRecDepth 1000000 in
theorem ee_k36.ok : ee_Ct ee_mt ee_k36 := ee_cert (Γ := [ee_k35]) (K := [(95, 107, [0])]) (S := []) (f := 5000) (N := ee_me95) (cuts := ee_u36) ee_Tbok (ee_gcons ee_k35.ok ee_gnil) rfl (by decide +kernel) (by decide +kernel) (List.all_eq_true.mp (by decide +kernel))
def ee_xi204 : ee_iv := (4, [(0, (-2147483648), 2147483647, []), (1, 0, 6, []), (2, 0, 6, []), (3, 2, 6, [])])
/- Lying.goFurther@2 -/
def ee_k37 : ee_ct := (95, [.ref 0, .int 2, .retAddr 0], ee_xw164, ee_xi196, [([], ee_xw165, ee_xi204)], 4)
def ee_xi205 : ee_iv := (6, [(0, (-2147483648), 2147483647, []), (1, 0, 6, []), (2, 3, 6, []), (3, (-2147483648), 2147483647, []), (4, 0, 6, []), (5, 2, 6, [])])
def ee_u37 : List ee_cu := [(71, [(0, .ref 0), (1, .int 2), (2, .retAddr 0), (3, .retAddr 3), (4, .retAddr 4)], [], ee_xw167, ee_xi205, 16, [((-2), 4)])]
set_option maxRecDepth 1000000 in
theorem ee_k37.ok : ee_Ct ee_mt ee_k37 := ee_cert (Γ := [ee_k36]) (K := [(95, 107, [0])]) (S := []) (f := 5000) (N := ee_me95) (cuts := ee_u37) ee_Tbok (ee_gcons ee_k36.ok ee_gnil) rfl (by decide +kernel) (by decide +kernel) (List.all_eq_true.mp (by decide +kernel))
/- Lying.goFurther@1 -/
def ee_k38 : ee_ct := (95, [.ref 0, .int 1, .retAddr 0], ee_xw164, ee_xi196, [([], ee_xw165, ee_xi197)], 5)
def ee_xi206 : ee_iv := (6, [(0, (-2147483648), 2147483647, []), (1, 0, 6, []), (2, 2, 6, []), (3, (-2147483648), 2147483647, []), (4, 0, 6, []), (5, 1, 6, [])])
def ee_u38 : List ee_cu := [(71, [(0, .ref 0), (1, .int 1), (2, .retAddr 0), (3, .retAddr 3), (4, .retAddr 4)], [], ee_xw167, ee_xi206, 16, [((-2), 4)])]
set_option maxRecDepth 1000000 in
theorem ee_k38.ok : ee_Ct ee_mt ee_k38 := ee_cert (Γ := [ee_k37]) (K := [(95, 107, [0])]) (S := []) (f := 5000) (N := ee_me95) (cuts := ee_u38) ee_Tbok (ee_gcons ee_k37.ok ee_gnil) rfl (by decide +kernel) (by decide +kernel) (List.all_eq_true.mp (by decide +kernel))
def ee_xi207 : ee_iv := (4, [(0, (-2147483648), 2147483647, []), (1, 0, 6, []), (2, 0, 6, []), (3, 0, 6, [])])
/- Lying.goFurther@0 -/
def ee_k39 : ee_ct := (95, [.ref 0, .int 0, .retAddr 0], ee_xw164, ee_xi196, [([], ee_xw165, ee_xi207)], 6)
def ee_xi208 : ee_iv := (6, [(0, (-2147483648), 2147483647, []), (1, 0, 6, []), (2, 1, 6, []), (3, (-2147483648), 2147483647, []), (4, 0, 6, []), (5, 0, 6, [])])
def ee_u39 : List ee_cu := [(71, [(0, .ref 0), (1, .int 0), (2, .retAddr 0), (3, .retAddr 3), (4, .retAddr 4)], [], ee_xw167, ee_xi208, 16, [((-2), 4)])]
set_option maxRecDepth 1000000 in
theorem ee_k39.ok : ee_Ct ee_mt ee_k39 := ee_cert (Γ := [ee_k38]) (K := [(95, 107, [0])]) (S := []) (f := 5000) (N := ee_me95) (cuts := ee_u39) ee_Tbok (ee_gcons ee_k38.ok ee_gnil) rfl (by decide +kernel) (by decide +kernel) (List.all_eq_true.mp (by decide +kernel))
def ee_xq234 : ee_cell := .inl (3, [.retAddr 1, .ref 2, .ref 3, .ref 4, .retAddr 2])
def ee_xq235 : ee_cell := .inl (7, [.retAddr 3, .retAddr 4, .retAddr 5, .retAddr 6, .retAddr 7, .retAddr 8, .retAddr 9, .retAddr 10, .retAddr 11, .retAddr 12, .ref 5, .ref 6, .ref 7, .ref 8, .ref 9, .ref 10, .ref 11, .ref 12, .ref 13])
def ee_xw168 : ee_w := [ee_xq234, ee_xq235, ee_xq26, ee_xq230, ee_xq26, ee_xq26, ee_xq185, ee_xq185, ee_xq186, ee_xq186, ee_xq187, ee_xq188, ee_xq189, ee_xq17]
def ee_xi209 : ee_iv := (13, [(0, (-2147483648), 2147483647, []), (1, 0, 6, []), (2, 0, 6, []), (3, 0, 6, []), (4, 0, 5, []), (5, 0, 10, []), (6, (-2147483648), 2147483647, []), (7, 0, 100, []), (8, 0, 999, []), (9, 0, 320, []), (10, 0, 1, []), (11, 0, 1, []), (12, 0, 1, [])])
def ee_xq236 : ee_cell := .inl (3, [.retAddr 13, .ref 2, .ref 3, .ref 4, .retAddr 3])
def ee_xw169 : ee_w := [ee_xq236, ee_xq235, ee_xq26, ee_xq230, ee_xq26, ee_xq26, ee_xq185, ee_xq185, ee_xq186, ee_xq186, ee_xq187, ee_xq188, ee_xq189, ee_xq17]
def ee_xi210 : ee_iv := (14, [(0, (-2147483648), 2147483647, []), (1, 0, 6, []), (2, 0, 6, []), (3, 0, 6, []), (4, 0, 5, []), (5, 0, 10, []), (6, (-2147483648), 2147483647, []), (7, 0, 100, []), (8, 0, 999, []), (9, 0, 320, []), (10, 0, 1, []), (11, 0, 1, []), (12, 0, 1, []), (13, 0, 6, [])])
/- Lying.layLongestLine -/
def ee_k40 : ee_ct := (96, [.ref 0, .ref 1, .retAddr 0], ee_xw168, ee_xi209, [([], ee_xw169, ee_xi210)], 7)
def ee_xq237 : ee_cell := .inl (3, [.int 0, .ref 2, .ref 3, .ref 4, .retAddr 3])
def ee_xw170 : ee_w := [ee_xq237, ee_xq235, ee_xq26, ee_xq230, ee_xq26, ee_xq26, ee_xq185, ee_xq185, ee_xq186, ee_xq186, ee_xq187, ee_xq188, ee_xq189, ee_xq17]
def ee_u40 : List ee_cu := [(15, [(0, .ref 0), (1, .ref 1), (2, .retAddr 0), (3, .retAddr 13)], [], ee_xw170, ee_xi210, 16, [((-2), 13)])]
set_option maxRecDepth 1000000 in
theorem ee_k40.ok : ee_Ct ee_mt ee_k40 := ee_cert (Γ := [ee_k7, ee_k39]) (K := [(96, 33, [0]), (96, 46, [1])]) (S := []) (f := 5000) (N := ee_me96) (cuts := ee_u40) ee_Tbok (ee_gcons ee_k7.ok (ee_gcons ee_k39.ok ee_gnil)) rfl (by decide +kernel) (by decide +kernel) (List.all_eq_true.mp (by decide +kernel))
def ee_xq238 : ee_cell := .inl (2, [.retAddr 3, .retAddr 4, .retAddr 5, .retAddr 6, .ref 1, .ref 2, .ref 3, .ref 4, .ref 5, .ref 6, .ref 7, .ref 8, .ref 9])
def ee_xq241 : ee_cell := .inl (6, [.retAddr 7, .retAddr 8, .retAddr 9, .retAddr 10, .ref 10, .ref 11])
def ee_xw171 : ee_w := [ee_xq238, ee_xq29, ee_xq30, ee_xq239, ee_xq30, ee_xq30, ee_xq28, ee_xq240, ee_xq31, ee_xq241, ee_xq186, ee_xq195]
def ee_xi211 : ee_iv := (11, [(0, 0, 4, []), (1, (-2147483648), 2147483647, []), (2, 0, 1, []), (3, 0, 30, []), (4, 0, 100000, []), (5, 0, 1, []), (6, 0, 36, []), (7, 0, 127, []), (8, 0, 1023, []), (9, 0, 999, []), (10, 0, 999, [])])
def ee_xq242 : ee_cell := .inl (2, [.retAddr 12, .retAddr 4, .retAddr 5, .retAddr 6, .ref 1, .ref 2, .ref 3, .ref 4, .ref 5, .ref 6, .ref 7, .ref 8, .ref 9])
def ee_xw172 : ee_w := [ee_xq242, ee_xq29, ee_xq30, ee_xq239, ee_xq30, ee_xq30, ee_xq28, ee_xq240, ee_xq31, ee_xq241, ee_xq186, ee_xq195]
def ee_xi212 : ee_iv := (13, [(0, 0, 4, []), (1, (-2147483648), 2147483647, []), (2, 0, 1, []), (3, 0, 30, []), (4, 0, 100000, []), (5, 0, 1, []), (6, 0, 36, []), (7, 0, 127, []), (8, 0, 1023, []), (9, 0, 999, []), (10, 0, 999, []), (11, (-1), 29, []), (12, 1, 30, [])])
/- Hearsay.tell -/
def ee_k41 : ee_ct := (92, [.ref 0, .retAddr 0, .retAddr 1, .retAddr 2], ee_xw171, ee_xi211, [([.retAddr 11], ee_xw172, ee_xi212)], 0)
def ee_u41 : List ee_cu := []
set_option maxRecDepth 1000000 in
theorem ee_k41.ok : ee_Ct ee_mt ee_k41 := ee_cert (Γ := []) (K := []) (S := []) (f := 5000) (N := ee_me92) (cuts := ee_u41) ee_Tbok ee_gnil rfl (by decide +kernel) (by decide +kernel) (List.all_eq_true.mp (by decide +kernel))
def ee_xq243 : ee_cell := .inl (2, [.retAddr 1, .retAddr 2, .retAddr 3, .retAddr 4, .ref 1, .ref 2, .ref 3, .ref 4, .ref 5, .ref 6, .ref 7, .ref 8, .ref 9])
def ee_xq244 : ee_cell := .inl (6, [.retAddr 5, .retAddr 6, .retAddr 7, .retAddr 8, .ref 10, .ref 11])
def ee_xw173 : ee_w := [ee_xq243, ee_xq29, ee_xq30, ee_xq239, ee_xq30, ee_xq30, ee_xq28, ee_xq240, ee_xq31, ee_xq244, ee_xq186, ee_xq195]
def ee_xi213 : ee_iv := (9, [(0, (-2147483648), 2147483647, []), (1, 0, 30, []), (2, 0, 100000, []), (3, 0, 1, []), (4, 0, 36, []), (5, 0, 127, []), (6, 0, 1023, []), (7, 0, 999, []), (8, 0, 999, [])])
def ee_xi214 : ee_iv := (10, [(0, (-2147483648), 2147483647, []), (1, 0, 30, []), (2, 0, 100000, []), (3, 0, 1, []), (4, 0, 36, []), (5, 0, 127, []), (6, 0, 1023, []), (7, 0, 999, []), (8, 0, 999, []), (9, 0, 1, [])])
/- Hearsay.takeBack -/
def ee_k42 : ee_ct := (91, [.ref 0, .retAddr 0], ee_xw173, ee_xi213, [([.retAddr 9], ee_xw173, ee_xi214)], 0)
def ee_u42 : List ee_cu := []
set_option maxRecDepth 1000000 in
theorem ee_k42.ok : ee_Ct ee_mt ee_k42 := ee_cert (Γ := []) (K := []) (S := []) (f := 5000) (N := ee_me91) (cuts := ee_u42) ee_Tbok ee_gnil rfl (by decide +kernel) (by decide +kernel) (List.all_eq_true.mp (by decide +kernel))
def ee_xq245 : ee_cell := .inl (2, [.retAddr 2, .retAddr 3, .retAddr 4, .retAddr 5, .ref 1, .ref 2, .ref 3, .ref 4, .ref 5, .ref 6, .ref 7, .ref 8, .ref 9])
def ee_xq246 : ee_cell := .inl (6, [.retAddr 6, .retAddr 7, .retAddr 8, .retAddr 9, .ref 10, .ref 11])
def ee_xw174 : ee_w := [ee_xq245, ee_xq29, ee_xq30, ee_xq239, ee_xq30, ee_xq30, ee_xq28, ee_xq240, ee_xq31, ee_xq246, ee_xq186, ee_xq195]
def ee_xi215 : ee_iv := (10, [(0, 0, 35, []), (1, (-2147483648), 2147483647, []), (2, 0, 30, []), (3, 0, 100000, []), (4, 0, 1, []), (5, 0, 36, []), (6, 0, 127, []), (7, 0, 1023, []), (8, 0, 999, []), (9, 0, 999, [])])
def ee_xi216 : ee_iv := (11, [(0, 0, 35, []), (1, (-2147483648), 2147483647, []), (2, 0, 30, []), (3, 0, 100000, []), (4, 0, 1, []), (5, 0, 36, []), (6, 0, 127, []), (7, 0, 1023, []), (8, 0, 999, []), (9, 0, 999, []), (10, 0, 1, [])])
/- Hearsay.agrees -/
def ee_k43 : ee_ct := (83, [.ref 0, .retAddr 0, .retAddr 1], ee_xw174, ee_xi215, [([.retAddr 10], ee_xw174, ee_xi216)], 0)
def ee_xi217 : ee_iv := (11, [(0, 0, 35, []), (1, (-2147483648), 2147483647, []), (2, 0, 30, []), (3, 0, 100000, []), (4, 0, 1, []), (5, 0, 36, []), (6, 0, 127, []), (7, 0, 1023, []), (8, 0, 999, []), (9, 0, 999, []), (10, 0, 30, [])])
def ee_u43 : List ee_cu := [(2, [(0, .ref 0), (1, .retAddr 0), (2, .retAddr 1), (3, .retAddr 10)], [], ee_xw174, ee_xi217, 64, [((-2), 10)])]
set_option maxRecDepth 1000000 in
theorem ee_k43.ok : ee_Ct ee_mt ee_k43 := ee_cert (Γ := []) (K := []) (S := []) (f := 5000) (N := ee_me83) (cuts := ee_u43) ee_Tbok ee_gnil rfl (by decide +kernel) (by decide +kernel) (List.all_eq_true.mp (by decide +kernel))
