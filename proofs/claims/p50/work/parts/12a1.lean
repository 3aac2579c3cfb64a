/- Mill.passAtAllSizes -/
def ee_k23 : ee_ct := (105, [.ref 0, .ref 1, .ref 2, .retAddr 0], ee_z17, ee_i29, [([], ee_z17, ee_i29)], 3)
def ee_i35 : ee_iv := (16, [(0, (-2147483648), 2147483647, []), (1, 0, 6, []), (2, 0, 5, []), (3, 0, 10, []), (4, (-2147483648), 2147483647, []), (5, 0, 100, []), (6, 0, 999, []), (7, 0, 320, []), (8, 0, 1, []), (9, 0, 1, []), (10, 0, 1, []), (11, 0, 127, []), (12, 0, 1023, []), (13, 0, 999, []), (14, 0, 999, []), (15, 0, 7, [])])
def ee_u23 : List ee_cu := [(3, [(0, .ref 0), (1, .ref 1), (2, .ref 2), (3, .retAddr 0), (4, .retAddr 15)], [], ee_z17, ee_i35, 18, [((-2), 15)])]
set_option maxRecDepth 1000000 in
theorem ee_k23.ok : ee_Ct ee_mt ee_k23 := ee_cert (Γ := [ee_k19]) (K := [(105, 53, [0])]) (S := []) (f := 5000) (N := ee_me105) (cuts := ee_u23) ee_Tbok (ee_gcons ee_k19.ok ee_gnil) rfl (by decide +kernel) (by decide +kernel) (List.all_eq_true.mp (by decide +kernel))
def ee_q36 : ee_cell := .inl (7, [.retAddr 1, .retAddr 2, .retAddr 3, .retAddr 4, .retAddr 5, .retAddr 6, .retAddr 7, .retAddr 8, .retAddr 9, .retAddr 10, .ref 5, .ref 6, .ref 7, .ref 8, .ref 9, .ref 10, .ref 11, .ref 12, .ref 13])
def ee_z20 : ee_w := [ee_q22, ee_q36, ee_q1, ee_q24, ee_q25, ee_q1, ee_q2, ee_q2, ee_q3, ee_q3, ee_q4, ee_q5, ee_q6, ee_q7]
/- Mill.letOutAt -/
def ee_k24 : ee_ct := (102, [.ref 0, .ref 1, .retAddr 0], ee_z20, ee_i0, [([.retAddr 11], ee_z20, ee_i3)], 1)
def ee_u24 : List ee_cu := []
set_option maxRecDepth 1000000 in
theorem ee_k24.ok : ee_Ct ee_mt ee_k24 := ee_cert (Γ := [ee_k0, ee_k1, ee_k6]) (K := [(102, 5, [0, 1]), (102, 16, [2])]) (S := []) (f := 5000) (N := ee_me102) (cuts := ee_u24) ee_Tbok (ee_gcons ee_k0.ok (ee_gcons ee_k1.ok (ee_gcons ee_k6.ok ee_gnil))) rfl (by decide +kernel) (by decide +kernel) (List.all_eq_true.mp (by decide +kernel))
def ee_q37 : ee_cell := .inl (0, [.retAddr 0, .retAddr 1, .retAddr 2, .ref 2])
def ee_q38 : ee_cell := .inl (6, [.retAddr 3, .retAddr 4, .retAddr 5, .retAddr 6, .ref 3, .ref 4])
def ee_z21 : ee_w := [ee_q37, ee_q38, ee_q19, ee_q3, ee_q13]
def ee_i36 : ee_iv := (7, [(0, (-2147483648), 2147483647, []), (1, (-2147483648), 2147483647, []), (2, 0, 40, []), (3, 0, 127, []), (4, 0, 1023, []), (5, 0, 999, []), (6, 0, 999, [])])
def ee_q39 : ee_cell := .inl (0, [.int 0, .int 0, .int 0, .ref 2])
def ee_z22 : ee_w := [ee_q39, ee_q38, ee_q19, ee_q3, ee_q13]
/- Acts.forget -/
def ee_k25 : ee_ct := (74, [.ref 0, .ref 1], ee_z21, ee_i36, [([], ee_z22, ee_i36)], 1)
def ee_u25 : List ee_cu := []
set_option maxRecDepth 1000000 in
theorem ee_k25.ok : ee_Ct ee_mt ee_k25 := ee_cert (Γ := [ee_k12]) (K := [(74, 24, [0])]) (S := []) (f := 5000) (N := ee_me74) (cuts := ee_u25) ee_Tbok (ee_gcons ee_k12.ok ee_gnil) rfl (by decide +kernel) (by decide +kernel) (List.all_eq_true.mp (by decide +kernel))
def ee_q40 : ee_cell := .inl (0, [.retAddr 7, .int 0, .retAddr 8, .ref 2])
def ee_z23 : ee_w := [ee_q40, ee_q38, ee_q19, ee_q3, ee_q13]
def ee_i37 : ee_iv := (9, [(0, (-2147483648), 2147483647, []), (1, (-2147483648), 2147483647, []), (2, 0, 40, []), (3, 0, 127, []), (4, 0, 1023, []), (5, 0, 999, []), (6, 0, 999, []), (7, (-2147483648), 40, []), (8, 0, 40, [])])
/- Acts.keep -/
def ee_k26 : ee_ct := (75, [.ref 0, .ref 1], ee_z21, ee_i36, [([], ee_z23, ee_i37)], 1)
def ee_u26 : List ee_cu := []
set_option maxRecDepth 1000000 in
theorem ee_k26.ok : ee_Ct ee_mt ee_k26 := ee_cert (Γ := [ee_k12]) (K := [(75, 22, [0])]) (S := []) (f := 5000) (N := ee_me75) (cuts := ee_u26) ee_Tbok (ee_gcons ee_k12.ok ee_gnil) rfl (by decide +kernel) (by decide +kernel) (List.all_eq_true.mp (by decide +kernel))
def ee_q41 : ee_cell := .inl (0, [.retAddr 8, .retAddr 9, .retAddr 10, .ref 2])
def ee_q42 : ee_cell := .inl (6, [.retAddr 11, .retAddr 12, .retAddr 13, .retAddr 14, .ref 3, .ref 4])
def ee_z24 : ee_w := [ee_q41, ee_q42, ee_q19, ee_q3, ee_q13]
def ee_i38 : ee_iv := (15, [(0, (-2147483648), 2147483647, []), (1, (-2147483648), 2147483647, []), (2, 0, 40, []), (3, 0, 127, []), (4, 0, 1023, []), (5, 0, 999, []), (6, 0, 999, []), (7, 0, 1, []), (8, (-2147483648), 2147483647, []), (9, (-2147483648), 2147483647, []), (10, 0, 40, []), (11, 0, 127, []), (12, 0, 1023, []), (13, 0, 999, []), (14, 0, 999, [])])
/- Acts.stepBack -/
def ee_k27 : ee_ct := (76, [.ref 0, .ref 1], ee_z21, ee_i36, [([.retAddr 7], ee_z24, ee_i38)], 1)
def ee_u27 : List ee_cu := []
set_option maxRecDepth 1000000 in
theorem ee_k27.ok : ee_Ct ee_mt ee_k27 := ee_cert (Γ := [ee_k13]) (K := [(76, 34, [0])]) (S := []) (f := 5000) (N := ee_me76) (cuts := ee_u27) ee_Tbok (ee_gcons ee_k13.ok ee_gnil) rfl (by decide +kernel) (by decide +kernel) (List.all_eq_true.mp (by decide +kernel))
/- Acts.stepOn -/
def ee_k28 : ee_ct := (77, [.ref 0, .ref 1], ee_z21, ee_i36, [([.retAddr 7], ee_z24, ee_i38)], 1)
def ee_u28 : List ee_cu := []
set_option maxRecDepth 1000000 in
theorem ee_k28.ok : ee_Ct ee_mt ee_k28 := ee_cert (Γ := [ee_k13]) (K := [(77, 31, [0])]) (S := []) (f := 5000) (N := ee_me77) (cuts := ee_u28) ee_Tbok (ee_gcons ee_k13.ok ee_gnil) rfl (by decide +kernel) (by decide +kernel) (List.all_eq_true.mp (by decide +kernel))
def ee_q43 : ee_cell := .inl (1, [.ref 1, .ref 2])
def ee_q44 : ee_cell := .inr (2, 3, 0, [(3, 0, 1)], [])
def ee_z25 : ee_w := [ee_q43, ee_q21, ee_q44]
/- Boxes.forget -/
def ee_k29 : ee_ct := (80, [.ref 0], ee_z25, (0, []), [([], ee_z25, (0, []))], 0)
def ee_u29 : List ee_cu := [(2, [(0, .ref 0), (1, .retAddr 0)], [], ee_z25, (1, [(0, 0, 3, [])]), 10, [((-2), 0)])]
set_option maxRecDepth 1000000 in
theorem ee_k29.ok : ee_Ct ee_mt ee_k29 := ee_cert (Γ := []) (K := []) (S := []) (f := 5000) (N := ee_me80) (cuts := ee_u29) ee_Tbok ee_gnil rfl (by decide +kernel) (by decide +kernel) (List.all_eq_true.mp (by decide +kernel))
def ee_q45 : ee_cell := .inl (1, [.ref 2, .ref 3])
def ee_q46 : ee_cell := .inl (6, [.retAddr 1, .retAddr 2, .retAddr 3, .retAddr 4, .ref 4, .ref 5])
def ee_z26 : ee_w := [ee_q45, ee_q46, ee_q21, ee_q44, ee_q3, ee_q13]
def ee_i39 : ee_iv := (5, [(0, (-2147483648), 2147483647, []), (1, 0, 127, []), (2, 0, 1023, []), (3, 0, 999, []), (4, 0, 999, [])])
def ee_i40 : ee_iv := (6, [(0, (-2147483648), 2147483647, []), (1, 0, 127, []), (2, 0, 1023, []), (3, 0, 999, []), (4, 0, 999, []), (5, 0, 1, [])])
/- Boxes.fill -/
def ee_k30 : ee_ct := (79, [.ref 0, .retAddr 0, .ref 1], ee_z26, ee_i39, [([.retAddr 5], ee_z26, ee_i40)], 1)
def ee_u30 : List ee_cu := []
set_option maxRecDepth 1000000 in
theorem ee_k30.ok : ee_Ct ee_mt ee_k30 := ee_cert (Γ := [ee_k12, ee_k14]) (K := [(79, 17, [0, 1])]) (S := []) (f := 5000) (N := ee_me79) (cuts := ee_u30) ee_Tbok (ee_gcons ee_k12.ok (ee_gcons ee_k14.ok ee_gnil)) rfl (by decide +kernel) (by decide +kernel) (List.all_eq_true.mp (by decide +kernel))
def ee_q47 : ee_cell := .inl (6, [.retAddr 6, .retAddr 7, .retAddr 8, .retAddr 9, .ref 4, .ref 5])
def ee_z27 : ee_w := [ee_q45, ee_q47, ee_q21, ee_q44, ee_q3, ee_q13]
def ee_i41 : ee_iv := (10, [(0, (-2147483648), 2147483647, []), (1, 0, 127, []), (2, 0, 1023, []), (3, 0, 999, []), (4, 0, 999, []), (5, 0, 1, []), (6, 0, 127, []), (7, 0, 1023, []), (8, 0, 999, []), (9, 0, 999, [])])
/- Boxes.restore -/
def ee_k31 : ee_ct := (81, [.ref 0, .retAddr 0, .ref 1], ee_z26, ee_i39, [([.retAddr 5], ee_z27, ee_i41)], 1)
def ee_u31 : List ee_cu := []
set_option maxRecDepth 1000000 in
theorem ee_k31.ok : ee_Ct ee_mt ee_k31 := ee_cert (Γ := [ee_k13, ee_k15]) (K := [(81, 26, [0, 1])]) (S := []) (f := 5000) (N := ee_me81) (cuts := ee_u31) ee_Tbok (ee_gcons ee_k13.ok (ee_gcons ee_k15.ok ee_gnil)) rfl (by decide +kernel) (by decide +kernel) (List.all_eq_true.mp (by decide +kernel))
def ee_q48 : ee_cell := .inl (3, [.retAddr 1, .ref 1, .ref 2, .ref 3, .retAddr 2])
def ee_q49 : ee_cell := .inr (0, 6, 0, [(6, 0, 5)], [])
def ee_z28 : ee_w := [ee_q48, ee_q1, ee_q49, ee_q1]
def ee_i42 : ee_iv := (3, [(0, (-2147483648), 2147483647, []), (1, 0, 6, []), (2, 0, 6, [])])
def ee_q50 : ee_cell := .inl (3, [.retAddr 3, .ref 1, .ref 2, .ref 3, .retAddr 2])
def ee_z29 : ee_w := [ee_q50, ee_q1, ee_q49, ee_q1]
def ee_i43 : ee_iv := (4, [(0, (-2147483648), 2147483647, []), (1, 0, 6, []), (2, 0, 6, []), (3, 1, 6, [])])
/- Lying.add -/
def ee_k32 : ee_ct := (94, [.ref 0, .retAddr 0], ee_z28, ee_i42, [([], ee_z29, ee_i43)], 0)
def ee_u32 : List ee_cu := []
set_option maxRecDepth 1000000 in
theorem ee_k32.ok : ee_Ct ee_mt ee_k32 := ee_cert (Γ := []) (K := []) (S := []) (f := 5000) (N := ee_me94) (cuts := ee_u32) ee_Tbok ee_gnil rfl (by decide +kernel) (by decide +kernel) (List.all_eq_true.mp (by decide +kernel))
def ee_q51 : ee_cell := .inl (3, [.int 6, .ref 1, .ref 2, .ref 3, .retAddr 2])
def ee_z30 : ee_w := [ee_q51, ee_q1, ee_q49, ee_q1]
/- Lying.goFurther@6 -/
def ee_k33 : ee_ct := (95, [.ref 0, .int 6, .retAddr 0], ee_z28, ee_i42, [([], ee_z30, ee_i42)], 0)
def ee_u33 : List ee_cu := []
set_option maxRecDepth 1000000 in
theorem ee_k33.ok : ee_Ct ee_mt ee_k33 := ee_cert (Γ := []) (K := []) (S := []) (f := 5000) (N := ee_me95) (cuts := ee_u33) ee_Tbok ee_gnil rfl (by decide +kernel) (by decide +kernel) (List.all_eq_true.mp (by decide +kernel))
def ee_i44 : ee_iv := (4, [(0, (-2147483648), 2147483647, []), (1, 0, 6, []), (2, 0, 6, []), (3, 5, 6, [])])
/- Lying.goFurther@5 -/
def ee_k34 : ee_ct := (95, [.ref 0, .int 5, .retAddr 0], ee_z28, ee_i42, [([], ee_z29, ee_i44)], 1)
def ee_q52 : ee_cell := .inl (3, [.retAddr 5, .ref 1, .ref 2, .ref 3, .retAddr 2])
def ee_z31 : ee_w := [ee_q52, ee_q1, ee_q49, ee_q1]
def ee_i45 : ee_iv := (6, [(0, (-2147483648), 2147483647, []), (1, 0, 6, []), (2, 6, 6, []), (3, (-2147483648), 2147483647, []), (4, 0, 6, []), (5, 5, 6, [])])
def ee_u34 : List ee_cu := [(71, [(0, .ref 0), (1, .int 5), (2, .retAddr 0), (3, .retAddr 3), (4, .retAddr 4)], [], ee_z31, ee_i45, 16, [((-2), 4)])]
set_option maxRecDepth 1000000 in
theorem ee_k34.ok : ee_Ct ee_mt ee_k34 := ee_cert (Γ := [ee_k33]) (K := [(95, 107, [0])]) (S := []) (f := 5000) (N := ee_me95) (cuts := ee_u34) ee_Tbok (ee_gcons ee_k33.ok ee_gnil) rfl (by decide +kernel) (by decide +kernel) (List.all_eq_true.mp (by decide +kernel))
def ee_i46 : ee_iv := (4, [(0, (-2147483648), 2147483647, []), (1, 0, 6, []), (2, 0, 6, []), (3, 4, 6, [])])
/- Lying.goFurther@4 -/
def ee_k35 : ee_ct := (95, [.ref 0, .int 4, .retAddr 0], ee_z28, ee_i42, [([], ee_z29, ee_i46)], 2)
def ee_i47 : ee_iv := (6, [(0, (-2147483648), 2147483647, []), (1, 0, 6, []), (2, 5, 6, []), (3, (-2147483648), 2147483647, []), (4, 0, 6, []), (5, 4, 6, [])])
def ee_u35 : List ee_cu := [(71, [(0, .ref 0), (1, .int 4), (2, .retAddr 0), (3, .retAddr 3), (4, .retAddr 4)], [], ee_z31, ee_i47, 16, [((-2), 4)])]
set_option maxRecDepth 1000000 in
theorem ee_k35.ok : ee_Ct ee_mt ee_k35 := ee_cert (Γ := [ee_k33, ee_k34]) (K := [(95, 107, [0, 1])]) (S := []) (f := 5000) (N := ee_me95) (cuts := ee_u35) ee_Tbok (ee_gcons ee_k33.ok (ee_gcons ee_k34.ok ee_gnil)) rfl (by decide +kernel) (by decide +kernel) (List.all_eq_true.mp (by decide +kernel))
def ee_i48 : ee_iv := (4, [(0, (-2147483648), 2147483647, []), (1, 0, 6, []), (2, 0, 6, []), (3, 3, 6, [])])
/- Lying.goFurther@3 -/
def ee_k36 : ee_ct := (95, [.ref 0, .int 3, .retAddr 0], ee_z28, ee_i42, [([], ee_z29, ee_i48)], 3)
def ee_i49 : ee_iv := (6, [(0, (-2147483648), 2147483647, []), (1, 0, 6, []), (2, 4, 6, []), (3, (-2147483648), 2147483647, []), (4, 0, 6, []), (5, 3, 6, [])])
def ee_u36 : List ee_cu := [(71, [(0, .ref 0), (1, .int 3), (2, .retAddr 0), (3, .retAddr 3), (4, .retAddr 4)], [], ee_z31, ee_i49, 16, [((-2), 4)])]
set_option maxRecDepth 1000000 in
theorem ee_k36.ok : ee_Ct ee_mt ee_k36 := ee_cert (Γ := [ee_k33, ee_k34, ee_k35]) (K := [(95, 107, [0, 1, 2])]) (S := []) (f := 5000) (N := ee_me95) (cuts := ee_u36) ee_Tbok (ee_gcons ee_k33.ok (ee_gcons ee_k34.ok (ee_gcons ee_k35.ok ee_gnil))) rfl (by decide +kernel) (by decide +kernel) (List.all_eq_true.mp (by decide +kernel))
def ee_i50 : ee_iv := (4, [(0, (-2147483648), 2147483647, []), (1, 0, 6, []), (2, 0, 6, []), (3, 2, 6, [])])
/- Lying.goFurther@2 -/
def ee_k37 : ee_ct := (95, [.ref 0, .int 2, .retAddr 0], ee_z28, ee_i42, [([], ee_z29, ee_i50)], 4)
def ee_i51 : ee_iv := (6, [(0, (-2147483648), 2147483647, []), (1, 0, 6, []), (2, 3, 6, []), (3, (-2147483648), 2147483647, []), (4, 0, 6, []), (5, 2, 6, [])])
def ee_u37 : List ee_cu := [(71, [(0, .ref 0), (1, .int 2), (2, .retAddr 0), (3, .retAddr 3), (4, .retAddr 4)], [], ee_z31, ee_i51, 16, [((-2), 4)])]
set_option maxRecDepth 1000000 in
theorem ee_k37.ok : ee_Ct ee_mt ee_k37 := ee_cert (Γ := [ee_k33, ee_k34, ee_k35, ee_k36]) (K := [(95, 107, [0, 1, 2, 3])]) (S := []) (f := 5000) (N := ee_me95) (cuts := ee_u37) ee_Tbok (ee_gcons ee_k33.ok (ee_gcons ee_k34.ok (ee_gcons ee_k35.ok (ee_gcons ee_k36.ok ee_gnil)))) rfl (by decide +kernel) (by decide +kernel) (List.all_eq_true.mp (by decide +kernel))
/- Lying.goFurther@1 -/
def ee_k38 : ee_ct := (95, [.ref 0, .int 1, .retAddr 0], ee_z28, ee_i42, [([], ee_z29, ee_i43)], 5)
def ee_i52 : ee_iv := (6, [(0, (-2147483648), 2147483647, []), (1, 0, 6, []), (2, 2, 6, []), (3, (-2147483648), 2147483647, []), (4, 0, 6, []), (5, 1, 6, [])])
def ee_u38 : List ee_cu := [(71, [(0, .ref 0), (1, .int 1), (2, .retAddr 0), (3, .retAddr 3), (4, .retAddr 4)], [], ee_z31, ee_i52, 16, [((-2), 4)])]
set_option maxRecDepth 1000000 in
theorem ee_k38.ok : ee_Ct ee_mt ee_k38 := ee_cert (Γ := [ee_k33, ee_k34, ee_k35, ee_k36, ee_k37]) (K := [(95, 107, [0, 1, 2, 3, 4])]) (S := []) (f := 5000) (N := ee_me95) (cuts := ee_u38) ee_Tbok (ee_gcons ee_k33.ok (ee_gcons ee_k34.ok (ee_gcons ee_k35.ok (ee_gcons ee_k36.ok (ee_gcons ee_k37.ok ee_gnil))))) rfl (by decide +kernel) (by decide +kernel) (List.all_eq_true.mp (by decide +kernel))
def ee_i53 : ee_iv := (4, [(0, (-2147483648), 2147483647, []), (1, 0, 6, []), (2, 0, 6, []), (3, 0, 6, [])])
/- Lying.goFurther@0 -/
def ee_k39 : ee_ct := (95, [.ref 0, .int 0, .retAddr 0], ee_z28, ee_i42, [([], ee_z29, ee_i53)], 6)
def ee_i54 : ee_iv := (6, [(0, (-2147483648), 2147483647, []), (1, 0, 6, []), (2, 1, 6, []), (3, (-2147483648), 2147483647, []), (4, 0, 6, []), (5, 0, 6, [])])
def ee_u39 : List ee_cu := [(71, [(0, .ref 0), (1, .int 0), (2, .retAddr 0), (3, .retAddr 3), (4, .retAddr 4)], [], ee_z31, ee_i54, 16, [((-2), 4)])]
set_option maxRecDepth 1000000 in
theorem ee_k39.ok : ee_Ct ee_mt ee_k39 := ee_cert (Γ := [ee_k33, ee_k34, ee_k35, ee_k36, ee_k37, ee_k38]) (K := [(95, 107, [0, 1, 2, 3, 4, 5])]) (S := []) (f := 5000) (N := ee_me95) (cuts := ee_u39) ee_Tbok (ee_gcons ee_k33.ok (ee_gcons ee_k34.ok (ee_gcons ee_k35.ok (ee_gcons ee_k36.ok (ee_gcons ee_k37.ok (ee_gcons ee_k38.ok ee_gnil)))))) rfl (by decide +kernel) (by decide +kernel) (List.all_eq_true.mp (by decide +kernel))
def ee_q53 : ee_cell := .inl (3, [.retAddr 1, .ref 2, .ref 3, .ref 4, .retAddr 2])
def ee_q54 : ee_cell := .inl (7, [.retAddr 3, .retAddr 4, .retAddr 5, .retAddr 6, .retAddr 7, .retAddr 8, .retAddr 9, .retAddr 10, .retAddr 11, .retAddr 12, .ref 5, .ref 6, .ref 7, .ref 8, .ref 9, .ref 10, .ref 11, .ref 12, .ref 13])
def ee_z32 : ee_w := [ee_q53, ee_q54, ee_q1, ee_q49, ee_q1, ee_q1, ee_q2, ee_q2, ee_q3, ee_q3, ee_q4, ee_q5, ee_q6, ee_q7]
def ee_i55 : ee_iv := (13, [(0, (-2147483648), 2147483647, []), (1, 0, 6, []), (2, 0, 6, []), (3, 0, 6, []), (4, 0, 5, []), (5, 0, 10, []), (6, (-2147483648), 2147483647, []), (7, 0, 100, []), (8, 0, 999, []), (9, 0, 320, []), (10, 0, 1, []), (11, 0, 1, []), (12, 0, 1, [])])
def ee_q55 : ee_cell := .inl (3, [.retAddr 13, .ref 2, .ref 3, .ref 4, .retAddr 3])
def ee_z33 : ee_w := [ee_q55, ee_q54, ee_q1, ee_q49, ee_q1, ee_q1, ee_q2, ee_q2, ee_q3, ee_q3, ee_q4, ee_q5, ee_q6, ee_q7]
def ee_i56 : ee_iv := (14, [(0, (-2147483648), 2147483647, []), (1, 0, 6, []), (2, 0, 6, []), (3, 0, 6, []), (4, 0, 5, []), (5, 0, 10, []), (6, (-2147483648), 2147483647, []), (7, 0, 100, []), (8, 0, 999, []), (9, 0, 320, []), (10, 0, 1, []), (11, 0, 1, []), (12, 0, 1, []), (13, 0, 6, [])])
/- Lying.layLongestLine -/
def ee_k40 : ee_ct := (96, [.ref 0, .ref 1, .retAddr 0], ee_z32, ee_i55, [([], ee_z33, ee_i56)], 7)
def ee_q56 : ee_cell := .inl (3, [.int 0, .ref 2, .ref 3, .ref 4, .retAddr 3])
def ee_z34 : ee_w := [ee_q56, ee_q54, ee_q1, ee_q49, ee_q1, ee_q1, ee_q2, ee_q2, ee_q3, ee_q3, ee_q4, ee_q5, ee_q6, ee_q7]
def ee_u40 : List ee_cu := [(15, [(0, .ref 0), (1, .ref 1), (2, .retAddr 0), (3, .retAddr 13)], [], ee_z34, ee_i56, 16, [((-2), 13)])]
set_option maxRecDepth 1000000 in
theorem ee_k40.ok : ee_Ct ee_mt ee_k40 := ee_cert (Γ := [ee_k7, ee_k33, ee_k34, ee_k35, ee_k36, ee_k37, ee_k38, ee_k39]) (K := [(96, 33, [0]), (96, 46, [1, 2, 3, 4, 5, 6, 7])]) (S := []) (f := 5000) (N := ee_me96) (cuts := ee_u40) ee_Tbok (ee_gcons ee_k7.ok (ee_gcons ee_k33.ok (ee_gcons ee_k34.ok (ee_gcons ee_k35.ok (ee_gcons ee_k36.ok (ee_gcons ee_k37.ok (ee_gcons ee_k38.ok (ee_gcons ee_k39.ok ee_gnil)))))))) rfl (by decide +kernel) (by decide +kernel) (List.all_eq_true.mp (by decide +kernel))
def ee_q57 : ee_cell := .inl (2, [.retAddr 3, .retAddr 4, .retAddr 5, .retAddr 6, .ref 1, .ref 2, .ref 3, .ref 4, .ref 5, .ref 6, .ref 7, .ref 8, .ref 9])
def ee_q58 : ee_cell := .inr (0, 30, 0, [(30, 0, 4)], [])
def ee_q59 : ee_cell := .inr (0, 30, 0, [], [])
def ee_q60 : ee_cell := .inr (2, 30, 0, [(30, 0, 1)], [])
def ee_q61 : ee_cell := .inr (0, 180, 0, [(180, 0, 10)], [])
def ee_q62 : ee_cell := .inr (2, 36, 0, [(36, 0, 1)], [])
def ee_q63 : ee_cell := .inr (0, 11, 0, [], [])
def ee_q64 : ee_cell := .inl (6, [.retAddr 7, .retAddr 8, .retAddr 9, .retAddr 10, .ref 10, .ref 11])
def ee_z35 : ee_w := [ee_q57, ee_q58, ee_q59, ee_q60, ee_q59, ee_q59, ee_q61, ee_q62, ee_q63, ee_q64, ee_q3, ee_q13]
def ee_i57 : ee_iv := (11, [(0, 0, 4, []), (1, (-2147483648), 2147483647, []), (2, 0, 1, []), (3, 0, 30, []), (4, 0, 100000, []), (5, 0, 1, []), (6, 0, 36, []), (7, 0, 127, []), (8, 0, 1023, []), (9, 0, 999, []), (10, 0, 999, [])])
def ee_q65 : ee_cell := .inl (2, [.retAddr 12, .retAddr 4, .retAddr 5, .retAddr 6, .ref 1, .ref 2, .ref 3, .ref 4, .ref 5, .ref 6, .ref 7, .ref 8, .ref 9])
def ee_z36 : ee_w := [ee_q65, ee_q58, ee_q59, ee_q60, ee_q59, ee_q59, ee_q61, ee_q62, ee_q63, ee_q64, ee_q3, ee_q13]
def ee_i58 : ee_iv := (13, [(0, 0, 4, []), (1, (-2147483648), 2147483647, []), (2, 0, 1, []), (3, 0, 30, []), (4, 0, 100000, []), (5, 0, 1, []), (6, 0, 36, []), (7, 0, 127, []), (8, 0, 1023, []), (9, 0, 999, []), (10, 0, 999, []), (11, (-1), 29, []), (12, 1, 30, [])])
/- Hearsay.tell -/
def ee_k41 : ee_ct := (92, [.ref 0, .retAddr 0, .retAddr 1, .retAddr 2], ee_z35, ee_i57, [([.retAddr 11], ee_z36, ee_i58)], 0)
def ee_u41 : List ee_cu := []
set_option maxRecDepth 1000000 in
theorem ee_k41.ok : ee_Ct ee_mt ee_k41 := ee_cert (Γ := []) (K := []) (S := []) (f := 5000) (N := ee_me92) (cuts := ee_u41) ee_Tbok ee_gnil rfl (by decide +kernel) (by decide +kernel) (List.all_eq_true.mp (by decide +kernel))
def ee_q66 : ee_cell := .inl (2, [.retAddr 1, .retAddr 2, .retAddr 3, .retAddr 4, .ref 1, .ref 2, .ref 3, .ref 4, .ref 5, .ref 6, .ref 7, .ref 8, .ref 9])
def ee_q67 : ee_cell := .inl (6, [.retAddr 5, .retAddr 6, .retAddr 7, .retAddr 8, .ref 10, .ref 11])
def ee_z37 : ee_w := [ee_q66, ee_q58, ee_q59, ee_q60, ee_q59, ee_q59, ee_q61, ee_q62, ee_q63, ee_q67, ee_q3, ee_q13]
def ee_i59 : ee_iv := (9, [(0, (-2147483648), 2147483647, []), (1, 0, 30, []), (2, 0, 100000, []), (3, 0, 1, []), (4, 0, 36, []), (5, 0, 127, []), (6, 0, 1023, []), (7, 0, 999, []), (8, 0, 999, [])])
def ee_i60 : ee_iv := (10, [(0, (-2147483648), 2147483647, []), (1, 0, 30, []), (2, 0, 100000, []), (3, 0, 1, []), (4, 0, 36, []), (5, 0, 127, []), (6, 0, 1023, []), (7, 0, 999, []), (8, 0, 999, []), (9, 0, 1, [])])
/- Hearsay.takeBack -/
def ee_k42 : ee_ct := (91, [.ref 0, .retAddr 0], ee_z37, ee_i59, [([.retAddr 9], ee_z37, ee_i60)], 0)
def ee_u42 : List ee_cu := []
set_option maxRecDepth 1000000 in
theorem ee_k42.ok : ee_Ct ee_mt ee_k42 := ee_cert (Γ := []) (K := []) (S := []) (f := 5000) (N := ee_me91) (cuts := ee_u42) ee_Tbok ee_gnil rfl (by decide +kernel) (by decide +kernel) (List.all_eq_true.mp (by decide +kernel))
def ee_q68 : ee_cell := .inl (2, [.retAddr 2, .retAddr 3, .retAddr 4, .retAddr 5, .ref 1, .ref 2, .ref 3, .ref 4, .ref 5, .ref 6, .ref 7, .ref 8, .ref 9])
def ee_q69 : ee_cell := .inl (6, [.retAddr 6, .retAddr 7, .retAddr 8, .retAddr 9, .ref 10, .ref 11])
def ee_z38 : ee_w := [ee_q68, ee_q58, ee_q59, ee_q60, ee_q59, ee_q59, ee_q61, ee_q62, ee_q63, ee_q69, ee_q3, ee_q13]
def ee_i61 : ee_iv := (10, [(0, 0, 35, []), (1, (-2147483648), 2147483647, []), (2, 0, 30, []), (3, 0, 100000, []), (4, 0, 1, []), (5, 0, 36, []), (6, 0, 127, []), (7, 0, 1023, []), (8, 0, 999, []), (9, 0, 999, [])])
def ee_i62 : ee_iv := (11, [(0, 0, 35, []), (1, (-2147483648), 2147483647, []), (2, 0, 30, []), (3, 0, 100000, []), (4, 0, 1, []), (5, 0, 36, []), (6, 0, 127, []), (7, 0, 1023, []), (8, 0, 999, []), (9, 0, 999, []), (10, 0, 1, [])])
/- Hearsay.agrees -/
def ee_k43 : ee_ct := (83, [.ref 0, .retAddr 0, .retAddr 1], ee_z38, ee_i61, [([.retAddr 10], ee_z38, ee_i62)], 0)
def ee_i63 : ee_iv := (11, [(0, 0, 35, []), (1, (-2147483648), 2147483647, []), (2, 0, 30, []), (3, 0, 100000, []), (4, 0, 1, []), (5, 0, 36, []), (6, 0, 127, []), (7, 0, 1023, []), (8, 0, 999, []), (9, 0, 999, []), (10, 0, 30, [])])
def ee_u43 : List ee_cu := [(2, [(0, .ref 0), (1, .retAddr 0), (2, .retAddr 1), (3, .retAddr 10)], [], ee_z38, ee_i63, 64, [((-2), 10)])]
set_option maxRecDepth 1000000 in
theorem ee_k43.ok : ee_Ct ee_mt ee_k43 := ee_cert (Γ := []) (K := []) (S := []) (f := 5000) (N := ee_me83) (cuts := ee_u43) ee_Tbok ee_gnil rfl (by decide +kernel) (by decide +kernel) (List.all_eq_true.mp (by decide +kernel))
def ee_q70 : ee_cell := .inl (2, [.retAddr 0, .retAddr 1, .retAddr 2, .retAddr 3, .ref 3, .ref 4, .ref 5, .ref 6, .ref 7, .ref 8, .ref 9, .ref 10, .ref 11])
def ee_q71 : ee_cell := .inl (7, [.retAddr 4, .retAddr 5, .retAddr 6, .retAddr 7, .retAddr 8, .retAddr 9, .retAddr 10, .retAddr 11, .retAddr 12, .retAddr 13, .ref 12, .ref 13, .ref 14, .ref 15, .ref 16, .ref 17, .ref 18, .ref 19, .ref 20])
def ee_q72 : ee_cell := .inl (4, [.ref 21, .ref 22, .ref 23])
def ee_q73 : ee_cell := .inl (6, [.retAddr 14, .retAddr 15, .retAddr 16, .retAddr 17, .ref 24, .ref 25])
def ee_z39 : ee_w := [ee_q70, ee_q71, ee_q72, ee_q58, ee_q59, ee_q60, ee_q59, ee_q59, ee_q61, ee_q62, ee_q63, ee_q73, ee_q1, ee_q2, ee_q2, ee_q3, ee_q3, ee_q4, ee_q5, ee_q6, ee_q7, ee_q1, ee_q24, ee_q25, ee_q3, ee_q13]
def ee_i64 : ee_iv := (18, [(0, 0, 30, []), (1, 0, 100000, []), (2, 0, 1, []), (3, 0, 36, []), (4, 0, 6, []), (5, 0, 5, []), (6, 1, 10, []), (7, (-2147483648), 2147483647, []), (8, 0, 100, []), (9, 0, 999, []), (10, 0, 320, []), (11, 0, 1, []), (12, 0, 1, []), (13, 0, 1, []), (14, 0, 127, []), (15, 0, 1023, []), (16, 0, 999, []), (17, 0, 999, [])])
def ee_q74 : ee_cell := .inl (2, [.retAddr 0, .retAddr 1, .retAddr 18, .retAddr 19, .ref 3, .ref 4, .ref 5, .ref 6, .ref 7, .ref 8, .ref 9, .ref 10, .ref 11])
def ee_q75 : ee_cell := .inl (6, [.retAddr 20, .retAddr 21, .retAddr 22, .retAddr 23, .ref 24, .ref 25])
def ee_z40 : ee_w := [ee_q74, ee_q71, ee_q72, ee_q58, ee_q59, ee_q60, ee_q59, ee_q59, ee_q61, ee_q62, ee_q63, ee_q75, ee_q1, ee_q2, ee_q2, ee_q3, ee_q3, ee_q4, ee_q5, ee_q6, ee_q7, ee_q1, ee_q24, ee_q25, ee_q3, ee_q13]
def ee_i65 : ee_iv := (24, [(0, 0, 30, []), (1, 0, 100000, []), (2, 0, 1, []), (3, 0, 36, []), (4, 0, 6, []), (5, 0, 5, []), (6, 1, 10, []), (7, (-2147483648), 2147483647, []), (8, 0, 100, []), (9, 0, 999, []), (10, 0, 320, []), (11, 0, 1, []), (12, 0, 1, []), (13, 0, 1, []), (14, 0, 127, []), (15, 0, 1023, []), (16, 0, 999, []), (17, 0, 999, []), (18, 1, 1, []), (19, 0, 36, []), (20, 0, 127, []), (21, 0, 1023, []), (22, 0, 999, []), (23, 0, 999, [])])
/- Hearsay.reckon -/
def ee_k44 : ee_ct := (88, [.ref 0, .ref 1, .ref 2], ee_z39, ee_i64, [([], ee_z40, ee_i65)], 3)
def ee_q76 : ee_cell := .inl (2, [.retAddr 0, .retAddr 1, .retAddr 2, .retAddr 20, .ref 3, .ref 4, .ref 5, .ref 6, .ref 7, .ref 8, .ref 9, .ref 10, .ref 11])
def ee_q77 : ee_cell := .inl (6, [.int 0, .int 0, .int 0, .retAddr 9, .ref 24, .ref 25])
def ee_z41 : ee_w := [ee_q76, ee_q71, ee_q72, ee_q58, ee_q59, ee_q60, ee_q59, ee_q59, ee_q61, ee_q62, ee_q63, ee_q77, ee_q1, ee_q2, ee_q2, ee_q3, ee_q3, ee_q4, ee_q5, ee_q6, ee_q7, ee_q1, ee_q24, ee_q25, ee_q3, ee_q13]
def ee_i66 : ee_iv := (21, [(0, 0, 30, []), (1, 0, 100000, []), (2, 0, 0, []), (3, 0, 36, []), (4, 0, 6, []), (5, 0, 5, []), (6, 1, 10, []), (7, (-2147483648), 2147483647, []), (8, 0, 100, []), (9, 0, 999, []), (10, 0, 320, []), (11, 0, 1, []), (12, 0, 1, []), (13, 0, 1, []), (14, 0, 127, []), (15, 0, 1023, []), (16, 0, 999, []), (17, 0, 999, []), (18, 1, 6, []), (19, 0, 36, []), (20, 1, 36, [])])
def ee_q78 : ee_cell := .inl (2, [.retAddr 0, .retAddr 1, .retAddr 2, .retAddr 21, .ref 3, .ref 4, .ref 5, .ref 6, .ref 7, .ref 8, .ref 9, .ref 10, .ref 11])
def ee_z42 : ee_w := [ee_q78, ee_q71, ee_q72, ee_q58, ee_q59, ee_q60, ee_q59, ee_q59, ee_q61, ee_q62, ee_q63, ee_q77, ee_q1, ee_q2, ee_q2, ee_q3, ee_q3, ee_q4, ee_q5, ee_q6, ee_q7, ee_q1, ee_q24, ee_q25, ee_q3, ee_q13]
def ee_i67 : ee_iv := (22, [(0, 0, 30, []), (1, 0, 100000, []), (2, 0, 0, []), (3, 0, 36, []), (4, 0, 6, []), (5, 0, 5, []), (6, 1, 10, []), (7, (-2147483648), 2147483647, []), (8, 0, 100, []), (9, 0, 999, []), (10, 0, 320, []), (11, 0, 1, []), (12, 0, 1, []), (13, 0, 1, []), (14, 0, 127, []), (15, 0, 1023, []), (16, 0, 999, []), (17, 0, 999, []), (18, 1, 6, []), (19, 0, 35, []), (20, 0, 5, []), (21, 1, 36, [])])
def ee_u44 : List ee_cu := [(45, [(0, .ref 0), (1, .ref 1), (2, .ref 2), (3, .retAddr 18), (4, .retAddr 19)], [], ee_z41, ee_i66, 646, [((-17), 19)]),
  (107, [(0, .ref 0), (1, .ref 1), (2, .ref 2), (3, .retAddr 18), (4, .retAddr 19), (5, .retAddr 20)], [], ee_z42, ee_i67, 644, [((-17), 19), ((-2), 20)])]
set_option maxRecDepth 1000000 in
theorem ee_k44.ok : ee_Ct ee_mt ee_k44 := ee_cert (Γ := [ee_k9, ee_k19, ee_k0]) (K := [(88, 39, [0]), (88, 132, [1]), (88, 150, [2])]) (S := []) (f := 5000) (N := ee_me88) (cuts := ee_u44) ee_Tbok (ee_gcons ee_k9.ok (ee_gcons ee_k19.ok (ee_gcons ee_k0.ok ee_gnil))) rfl (by decide +kernel) (by decide +kernel) (List.all_eq_true.mp (by decide +kernel))
def ee_q79 : ee_cell := .inl (2, [.retAddr 1, .retAddr 2, .retAddr 3, .retAddr 4, .ref 3, .ref 4, .ref 5, .ref 6, .ref 7, .ref 8, .ref 9, .ref 10, .ref 11])
def ee_q80 : ee_cell := .inl (7, [.retAddr 5, .retAddr 6, .retAddr 7, .retAddr 8, .retAddr 9, .retAddr 10, .retAddr 11, .retAddr 12, .retAddr 13, .retAddr 14, .ref 12, .ref 13, .ref 14, .ref 15, .ref 16, .ref 17, .ref 18, .ref 19, .ref 20])
def ee_q81 : ee_cell := .inl (6, [.retAddr 15, .retAddr 16, .retAddr 17, .retAddr 18, .ref 24, .ref 25])
def ee_z43 : ee_w := [ee_q79, ee_q80, ee_q72, ee_q58, ee_q59, ee_q60, ee_q59, ee_q59, ee_q61, ee_q62, ee_q63, ee_q81, ee_q1, ee_q2, ee_q2, ee_q3, ee_q3, ee_q4, ee_q5, ee_q6, ee_q7, ee_q1, ee_q24, ee_q25, ee_q3, ee_q13]
def ee_i68 : ee_iv := (19, [(0, (-2147483648), 2147483647, []), (1, 0, 30, []), (2, 0, 100000, []), (3, 0, 1, []), (4, 0, 36, []), (5, 0, 6, []), (6, 0, 5, []), (7, 0, 10, []), (8, (-2147483648), 2147483647, []), (9, 0, 100, []), (10, 0, 999, []), (11, 0, 320, []), (12, 0, 1, []), (13, 0, 1, []), (14, 0, 1, []), (15, 0, 127, []), (16, 0, 1023, []), (17, 0, 999, []), (18, 0, 999, [])])
def ee_q82 : ee_cell := .inl (2, [.retAddr 1, .retAddr 2, .retAddr 20, .retAddr 21, .ref 3, .ref 4, .ref 5, .ref 6, .ref 7, .ref 8, .ref 9, .ref 10, .ref 11])
def ee_q83 : ee_cell := .inl (6, [.retAddr 22, .retAddr 23, .retAddr 24, .retAddr 25, .ref 24, .ref 25])
def ee_z44 : ee_w := [ee_q82, ee_q80, ee_q72, ee_q58, ee_q59, ee_q60, ee_q59, ee_q59, ee_q61, ee_q62, ee_q63, ee_q83, ee_q1, ee_q2, ee_q2, ee_q3, ee_q3, ee_q4, ee_q5, ee_q6, ee_q7, ee_q1, ee_q24, ee_q25, ee_q3, ee_q13]
def ee_i69 : ee_iv := (26, [(0, (-2147483648), 2147483647, []), (1, 0, 30, []), (2, 0, 100000, []), (3, 0, 1, []), (4, 0, 36, []), (5, 0, 6, []), (6, 0, 5, []), (7, 0, 10, []), (8, (-2147483648), 2147483647, []), (9, 0, 100, []), (10, 0, 999, []), (11, 0, 320, []), (12, 0, 1, []), (13, 0, 1, []), (14, 0, 1, []), (15, 0, 127, []), (16, 0, 1023, []), (17, 0, 999, []), (18, 0, 999, []), (19, (-2147483648), 2147483647, []), (20, 0, 1, []), (21, 0, 36, []), (22, 0, 127, []), (23, 0, 1023, []), (24, 0, 999, []), (25, 0, 999, [])])
/- Hearsay.sift -/
def ee_k45 : ee_ct := (90, [.ref 0, .ref 1, .ref 2, .retAddr 0], ee_z43, ee_i68, [([.retAddr 19], ee_z44, ee_i69)], 4)
def ee_q84 : ee_cell := .inl (2, [.retAddr 1, .retAddr 2, .retAddr 21, .retAddr 22, .ref 3, .ref 4, .ref 5, .ref 6, .ref 7, .ref 8, .ref 9, .ref 10, .ref 11])
def ee_q85 : ee_cell := .inl (6, [.retAddr 23, .retAddr 24, .retAddr 25, .retAddr 26, .ref 24, .ref 25])
def ee_z45 : ee_w := [ee_q84, ee_q80, ee_q72, ee_q58, ee_q59, ee_q60, ee_q59, ee_q59, ee_q61, ee_q62, ee_q63, ee_q85, ee_q1, ee_q2, ee_q2, ee_q3, ee_q3, ee_q4, ee_q5, ee_q6, ee_q7, ee_q1, ee_q24, ee_q25, ee_q3, ee_q13]
def ee_i70 : ee_iv := (27, [(0, (-2147483648), 2147483647, []), (1, 0, 30, []), (2, 0, 100000, []), (3, 0, 1, []), (4, 0, 36, []), (5, 0, 6, []), (6, 0, 5, []), (7, 1, 10, []), (8, (-2147483648), 2147483647, []), (9, 0, 100, []), (10, 0, 999, []), (11, 0, 320, []), (12, 0, 1, []), (13, 0, 1, []), (14, 0, 1, []), (15, 0, 127, []), (16, 0, 1023, []), (17, 0, 999, []), (18, 0, 999, []), (19, (-2147483648), 2147483647, []), (20, 0, 36, []), (21, 1, 1, []), (22, 0, 36, []), (23, 0, 127, []), (24, 0, 1023, []), (25, 0, 999, []), (26, 0, 999, [])])
def ee_u45 : List ee_cu := [(21, [(0, .ref 0), (1, .ref 1), (2, .ref 2), (3, .retAddr 0), (4, .retAddr 19), (5, .retAddr 20)], [], ee_z45, ee_i70, 76, [((-2), 20)])]
set_option maxRecDepth 1000000 in
theorem ee_k45.ok : ee_Ct ee_mt ee_k45 := ee_cert (Γ := [ee_k44, ee_k43]) (K := [(90, 12, [0]), (90, 40, [1])]) (S := []) (f := 5000) (N := ee_me90) (cuts := ee_u45) ee_Tbok (ee_gcons ee_k44.ok (ee_gcons ee_k43.ok ee_gnil)) rfl (by decide +kernel) (by decide +kernel) (List.all_eq_true.mp (by decide +kernel))
def ee_q86 : ee_cell := .inl (2, [.retAddr 1, .retAddr 2, .retAddr 3, .retAddr 4, .ref 2, .ref 3, .ref 4, .ref 5, .ref 6, .ref 7, .ref 8, .ref 9, .ref 10])
def ee_q87 : ee_cell := .inl (7, [.retAddr 5, .retAddr 6, .retAddr 7, .retAddr 8, .retAddr 9, .retAddr 10, .retAddr 11, .retAddr 12, .retAddr 13, .retAddr 14, .ref 11, .ref 12, .ref 13, .ref 14, .ref 15, .ref 16, .ref 17, .ref 18, .ref 19])
def ee_q88 : ee_cell := .inl (6, [.retAddr 15, .retAddr 16, .retAddr 17, .retAddr 18, .ref 20, .ref 21])
def ee_z46 : ee_w := [ee_q86, ee_q87, ee_q58, ee_q59, ee_q60, ee_q59, ee_q59, ee_q61, ee_q62, ee_q63, ee_q88, ee_q1, ee_q2, ee_q2, ee_q3, ee_q3, ee_q4, ee_q5, ee_q6, ee_q7, ee_q3, ee_q13]
def ee_i71 : ee_iv := (19, [(0, 0, 1, []), (1, 0, 30, []), (2, 0, 100000, []), (3, 0, 1, []), (4, 0, 36, []), (5, 0, 6, []), (6, 0, 5, []), (7, 0, 10, []), (8, (-2147483648), 2147483647, []), (9, 0, 100, []), (10, 0, 999, []), (11, 0, 320, []), (12, 0, 1, []), (13, 0, 1, []), (14, 0, 1, []), (15, 0, 127, []), (16, 0, 1023, []), (17, 0, 999, []), (18, 0, 999, [])])
def ee_i72 : ee_iv := (20, [(0, 0, 1, []), (1, 0, 30, []), (2, 0, 100000, []), (3, 0, 1, []), (4, 0, 36, []), (5, 0, 6, []), (6, 0, 5, []), (7, 0, 10, []), (8, (-2147483648), 2147483647, []), (9, 0, 100, []), (10, 0, 999, []), (11, 0, 320, []), (12, 0, 1, []), (13, 0, 1, []), (14, 0, 1, []), (15, 0, 127, []), (16, 0, 1023, []), (17, 0, 999, []), (18, 0, 999, []), (19, (-2), 2147483647, [])])
/- Hearsay.sameInAll -/
def ee_k46 : ee_ct := (89, [.ref 0, .ref 1, .retAddr 0], ee_z46, ee_i71, [([.retAddr 19], ee_z46, ee_i72)], 1)
def ee_i73 : ee_iv := (22, [(0, 0, 1, []), (1, 0, 30, []), (2, 0, 100000, []), (3, 0, 1, []), (4, 0, 36, []), (5, 0, 6, []), (6, 0, 5, []), (7, 0, 10, []), (8, (-2147483648), 2147483647, []), (9, 0, 100, []), (10, 0, 999, []), (11, 0, 320, []), (12, 0, 1, []), (13, 0, 1, []), (14, 0, 1, []), (15, 0, 127, []), (16, 0, 1023, []), (17, 0, 999, []), (18, 0, 999, []), (19, 0, 1, []), (20, (-1), 2147483647, []), (21, 0, 2147483647, [])])
def ee_u46 : List ee_cu := [(8, [(0, .ref 0), (1, .ref 1), (2, .retAddr 0), (3, .retAddr 19), (4, .retAddr 20), (5, .retAddr 21)], [], ee_z46, ee_i73, 4294967298, [((-2), 21)])]
set_option maxRecDepth 1000000 in
theorem ee_k46.ok : ee_Ct ee_mt ee_k46 := ee_cert (Γ := []) (K := []) (S := []) (f := 5000) (N := ee_me89) (cuts := ee_u46) ee_Tbok ee_gnil rfl (by decide +kernel) (by decide +kernel) (List.all_eq_true.mp (by decide +kernel))
