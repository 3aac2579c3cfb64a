/- Reader.readTerm@7 -/
def ee_k69 : ee_ct := (125, [.ref 0, .int 7], ee_z50, ee_i81, [([], ee_z72, ee_i112)], 6)
def ee_q119 : ee_cell := .inl (7, [.retAddr 7, .retAddr 8, .retAddr 9, .retAddr 24, .retAddr 11, .retAddr 12, .retAddr 25, .retAddr 14, .retAddr 15, .retAddr 16, .ref 4, .ref 5, .ref 6, .ref 7, .ref 8, .ref 9, .ref 10, .ref 11, .ref 12])
def ee_z73 : ee_w := [ee_q106, ee_q119, ee_q91, ee_q92, ee_q1, ee_q2, ee_q2, ee_q3, ee_q3, ee_q4, ee_q5, ee_q6, ee_q7]
def ee_i113 : ee_iv := (26, [(0, 0, 1600, []), (1, (-2147483648), 2147483647, []), (2, (-2147483648), 2147483647, []), (3, 0, 1600, []), (4, (-2147483648), 2147483647, []), (5, (-2147483648), 2147483647, []), (6, (-2147483648), 2147483647, []), (7, 0, 6, []), (8, 0, 5, []), (9, 0, 10, []), (10, (-2147483648), 2147483647, []), (11, 0, 100, []), (12, 0, 999, []), (13, 0, 320, []), (14, 0, 1, []), (15, 0, 1, []), (16, 0, 1, []), (17, 0, 60, []), (18, (-2147483648), 2147483647, []), (19, (-2147483648), 2147483647, []), (20, 0, 1600, []), (21, (-2147483648), 2147483647, []), (22, (-2147483648), 2147483647, []), (23, (-2147483648), 2147483647, []), (24, (-2147483648), 2147483647, []), (25, 0, 320, [])])
def ee_u69 : List ee_cu := [(7, [(0, .ref 0), (1, .int 7), (2, .retAddr 17)], [], ee_z73, ee_i113, 124, [((-2), 17)])]
set_option maxRecDepth 1000000 in
theorem ee_k69.ok : ee_Ct ee_mt ee_k69 := ee_cert (Γ := [ee_k68, ee_k51, ee_k67]) (K := [(125, 2, [0]), (125, 53, [1]), (125, 58, [0]), (125, 63, [2])]) (S := []) (f := 5000) (N := ee_me125) (cuts := ee_u69) ee_Tbok (ee_gcons ee_k68.ok (ee_gcons ee_k51.ok (ee_gcons ee_k67.ok ee_gnil))) rfl (by decide +kernel) (by decide +kernel) (List.all_eq_true.mp (by decide +kernel))
/- Reader.readSum@7 -/
def ee_k70 : ee_ct := (124, [.ref 0, .int 7], ee_z50, ee_i81, [([], ee_z72, ee_i112)], 7)
def ee_u70 : List ee_cu := [(7, [(0, .ref 0), (1, .int 7), (2, .retAddr 17)], [], ee_z73, ee_i113, 124, [((-2), 17)])]
set_option maxRecDepth 1000000 in
theorem ee_k70.ok : ee_Ct ee_mt ee_k70 := ee_cert (Γ := [ee_k69, ee_k51, ee_k67]) (K := [(124, 2, [0]), (124, 44, [1]), (124, 49, [0]), (124, 54, [2])]) (S := []) (f := 5000) (N := ee_me124) (cuts := ee_u70) ee_Tbok (ee_gcons ee_k69.ok (ee_gcons ee_k51.ok (ee_gcons ee_k67.ok ee_gnil))) rfl (by decide +kernel) (by decide +kernel) (List.all_eq_true.mp (by decide +kernel))
/- Reader.readOne@7 -/
def ee_k71 : ee_ct := (120, [.ref 0, .int 7], ee_z50, ee_i81, [([], ee_z72, ee_i112)], 8)
def ee_u71 : List ee_cu := []
set_option maxRecDepth 1000000 in
theorem ee_k71.ok : ee_Ct ee_mt ee_k71 := ee_cert (Γ := [ee_k53, ee_k70, ee_k51, ee_k67]) (K := [(120, 23, [0]), (120, 47, [1]), (120, 90, [2]), (120, 95, [1]), (120, 100, [3])]) (S := []) (f := 5000) (N := ee_me120) (cuts := ee_u71) ee_Tbok (ee_gcons ee_k53.ok (ee_gcons ee_k70.ok (ee_gcons ee_k51.ok (ee_gcons ee_k67.ok ee_gnil)))) rfl (by decide +kernel) (by decide +kernel) (List.all_eq_true.mp (by decide +kernel))
/- Reader.readBoth@7 -/
def ee_k72 : ee_ct := (115, [.ref 0, .int 7], ee_z50, ee_i81, [([], ee_z72, ee_i112)], 9)
def ee_u72 : List ee_cu := [(7, [(0, .ref 0), (1, .int 7), (2, .retAddr 17)], [], ee_z73, ee_i113, 124, [((-2), 17)])]
set_option maxRecDepth 1000000 in
theorem ee_k72.ok : ee_Ct ee_mt ee_k72 := ee_cert (Γ := [ee_k71, ee_k51, ee_k67]) (K := [(115, 2, [0]), (115, 30, [1]), (115, 35, [0]), (115, 41, [2])]) (S := []) (f := 5000) (N := ee_me115) (cuts := ee_u72) ee_Tbok (ee_gcons ee_k71.ok (ee_gcons ee_k51.ok (ee_gcons ee_k67.ok ee_gnil))) rfl (by decide +kernel) (by decide +kernel) (List.all_eq_true.mp (by decide +kernel))
/- Reader.readEither@7 -/
def ee_k73 : ee_ct := (117, [.ref 0, .int 7], ee_z50, ee_i81, [([], ee_z72, ee_i112)], 10)
def ee_u73 : List ee_cu := [(7, [(0, .ref 0), (1, .int 7), (2, .retAddr 17)], [], ee_z73, ee_i113, 124, [((-2), 17)])]
set_option maxRecDepth 1000000 in
theorem ee_k73.ok : ee_Ct ee_mt ee_k73 := ee_cert (Γ := [ee_k72, ee_k51, ee_k67]) (K := [(117, 2, [0]), (117, 30, [1]), (117, 35, [0]), (117, 41, [2])]) (S := []) (f := 5000) (N := ee_me117) (cuts := ee_u73) ee_Tbok (ee_gcons ee_k72.ok (ee_gcons ee_k51.ok (ee_gcons ee_k67.ok ee_gnil))) rfl (by decide +kernel) (by decide +kernel) (List.all_eq_true.mp (by decide +kernel))
/- Reader.readUnit@6 -/
def ee_k74 : ee_ct := (127, [.ref 0, .int 6], ee_z50, ee_i81, [([], ee_z72, ee_i112)], 11)
def ee_u74 : List ee_cu := []
set_option maxRecDepth 1000000 in
theorem ee_k74.ok : ee_Ct ee_mt ee_k74 := ee_cert (Γ := [ee_k53, ee_k67, ee_k51, ee_k73, ee_k54]) (K := [(127, 33, [0]), (127, 67, [1]), (127, 71, [2]), (127, 100, [1]), (127, 104, [2]), (127, 126, [2]), (127, 133, [3]), (127, 139, [4]), (127, 146, [0])]) (S := []) (f := 5000) (N := ee_me127) (cuts := ee_u74) ee_Tbok (ee_gcons ee_k53.ok (ee_gcons ee_k67.ok (ee_gcons ee_k51.ok (ee_gcons ee_k73.ok (ee_gcons ee_k54.ok ee_gnil))))) rfl (by decide +kernel) (by decide +kernel) (List.all_eq_true.mp (by decide +kernel))
/- Reader.readTerm@6 -/
def ee_k75 : ee_ct := (125, [.ref 0, .int 6], ee_z50, ee_i81, [([], ee_z72, ee_i112)], 12)
def ee_u75 : List ee_cu := [(7, [(0, .ref 0), (1, .int 6), (2, .retAddr 17)], [], ee_z73, ee_i113, 124, [((-2), 17)])]
set_option maxRecDepth 1000000 in
theorem ee_k75.ok : ee_Ct ee_mt ee_k75 := ee_cert (Γ := [ee_k68, ee_k74, ee_k51, ee_k67]) (K := [(125, 2, [0, 1]), (125, 53, [2]), (125, 58, [0, 1]), (125, 63, [3])]) (S := []) (f := 5000) (N := ee_me125) (cuts := ee_u75) ee_Tbok (ee_gcons ee_k68.ok (ee_gcons ee_k74.ok (ee_gcons ee_k51.ok (ee_gcons ee_k67.ok ee_gnil)))) rfl (by decide +kernel) (by decide +kernel) (List.all_eq_true.mp (by decide +kernel))
/- Reader.readSum@6 -/
def ee_k76 : ee_ct := (124, [.ref 0, .int 6], ee_z50, ee_i81, [([], ee_z72, ee_i112)], 13)
def ee_u76 : List ee_cu := [(7, [(0, .ref 0), (1, .int 6), (2, .retAddr 17)], [], ee_z73, ee_i113, 124, [((-2), 17)])]
set_option maxRecDepth 1000000 in
theorem ee_k76.ok : ee_Ct ee_mt ee_k76 := ee_cert (Γ := [ee_k69, ee_k75, ee_k51, ee_k67]) (K := [(124, 2, [0, 1]), (124, 44, [2]), (124, 49, [0, 1]), (124, 54, [3])]) (S := []) (f := 5000) (N := ee_me124) (cuts := ee_u76) ee_Tbok (ee_gcons ee_k69.ok (ee_gcons ee_k75.ok (ee_gcons ee_k51.ok (ee_gcons ee_k67.ok ee_gnil)))) rfl (by decide +kernel) (by decide +kernel) (List.all_eq_true.mp (by decide +kernel))
/- Reader.readOne@6 -/
def ee_k77 : ee_ct := (120, [.ref 0, .int 6], ee_z50, ee_i81, [([], ee_z72, ee_i112)], 14)
def ee_u77 : List ee_cu := []
set_option maxRecDepth 1000000 in
theorem ee_k77.ok : ee_Ct ee_mt ee_k77 := ee_cert (Γ := [ee_k51, ee_k71, ee_k67, ee_k70, ee_k76]) (K := [(120, 28, [0]), (120, 35, [1]), (120, 41, [2]), (120, 47, [3, 4]), (120, 90, [0]), (120, 95, [3, 4]), (120, 100, [2])]) (S := []) (f := 5000) (N := ee_me120) (cuts := ee_u77) ee_Tbok (ee_gcons ee_k51.ok (ee_gcons ee_k71.ok (ee_gcons ee_k67.ok (ee_gcons ee_k70.ok (ee_gcons ee_k76.ok ee_gnil))))) rfl (by decide +kernel) (by decide +kernel) (List.all_eq_true.mp (by decide +kernel))
/- Reader.readBoth@6 -/
def ee_k78 : ee_ct := (115, [.ref 0, .int 6], ee_z50, ee_i81, [([], ee_z72, ee_i112)], 15)
def ee_u78 : List ee_cu := [(7, [(0, .ref 0), (1, .int 6), (2, .retAddr 17)], [], ee_z73, ee_i113, 124, [((-2), 17)])]
set_option maxRecDepth 1000000 in
theorem ee_k78.ok : ee_Ct ee_mt ee_k78 := ee_cert (Γ := [ee_k71, ee_k77, ee_k51, ee_k67]) (K := [(115, 2, [0, 1]), (115, 30, [2]), (115, 35, [0, 1]), (115, 41, [3])]) (S := []) (f := 5000) (N := ee_me115) (cuts := ee_u78) ee_Tbok (ee_gcons ee_k71.ok (ee_gcons ee_k77.ok (ee_gcons ee_k51.ok (ee_gcons ee_k67.ok ee_gnil)))) rfl (by decide +kernel) (by decide +kernel) (List.all_eq_true.mp (by decide +kernel))
/- Reader.readEither@6 -/
def ee_k79 : ee_ct := (117, [.ref 0, .int 6], ee_z50, ee_i81, [([], ee_z72, ee_i112)], 16)
def ee_u79 : List ee_cu := [(7, [(0, .ref 0), (1, .int 6), (2, .retAddr 17)], [], ee_z73, ee_i113, 124, [((-2), 17)])]
set_option maxRecDepth 1000000 in
theorem ee_k79.ok : ee_Ct ee_mt ee_k79 := ee_cert (Γ := [ee_k72, ee_k78, ee_k51, ee_k67]) (K := [(117, 2, [0, 1]), (117, 30, [2]), (117, 35, [0, 1]), (117, 41, [3])]) (S := []) (f := 5000) (N := ee_me117) (cuts := ee_u79) ee_Tbok (ee_gcons ee_k72.ok (ee_gcons ee_k78.ok (ee_gcons ee_k51.ok (ee_gcons ee_k67.ok ee_gnil)))) rfl (by decide +kernel) (by decide +kernel) (List.all_eq_true.mp (by decide +kernel))
/- Reader.readUnit@5 -/
def ee_k80 : ee_ct := (127, [.ref 0, .int 5], ee_z50, ee_i81, [([], ee_z72, ee_i112)], 17)
def ee_u80 : List ee_cu := []
set_option maxRecDepth 1000000 in
theorem ee_k80.ok : ee_Ct ee_mt ee_k80 := ee_cert (Γ := [ee_k53, ee_k67, ee_k51, ee_k73, ee_k79, ee_k54]) (K := [(127, 33, [0]), (127, 67, [1]), (127, 71, [2]), (127, 100, [1]), (127, 104, [2]), (127, 126, [2]), (127, 133, [3, 4]), (127, 139, [5]), (127, 146, [0])]) (S := []) (f := 5000) (N := ee_me127) (cuts := ee_u80) ee_Tbok (ee_gcons ee_k53.ok (ee_gcons ee_k67.ok (ee_gcons ee_k51.ok (ee_gcons ee_k73.ok (ee_gcons ee_k79.ok (ee_gcons ee_k54.ok ee_gnil)))))) rfl (by decide +kernel) (by decide +kernel) (List.all_eq_true.mp (by decide +kernel))
/- Reader.readTerm@5 -/
def ee_k81 : ee_ct := (125, [.ref 0, .int 5], ee_z50, ee_i81, [([], ee_z72, ee_i112)], 18)
def ee_u81 : List ee_cu := [(7, [(0, .ref 0), (1, .int 5), (2, .retAddr 17)], [], ee_z73, ee_i113, 124, [((-2), 17)])]
set_option maxRecDepth 1000000 in
theorem ee_k81.ok : ee_Ct ee_mt ee_k81 := ee_cert (Γ := [ee_k68, ee_k74, ee_k80, ee_k51, ee_k67]) (K := [(125, 2, [0, 1, 2]), (125, 53, [3]), (125, 58, [0, 1, 2]), (125, 63, [4])]) (S := []) (f := 5000) (N := ee_me125) (cuts := ee_u81) ee_Tbok (ee_gcons ee_k68.ok (ee_gcons ee_k74.ok (ee_gcons ee_k80.ok (ee_gcons ee_k51.ok (ee_gcons ee_k67.ok ee_gnil))))) rfl (by decide +kernel) (by decide +kernel) (List.all_eq_true.mp (by decide +kernel))
/- Reader.readSum@5 -/
def ee_k82 : ee_ct := (124, [.ref 0, .int 5], ee_z50, ee_i81, [([], ee_z72, ee_i112)], 19)
def ee_u82 : List ee_cu := [(7, [(0, .ref 0), (1, .int 5), (2, .retAddr 17)], [], ee_z73, ee_i113, 124, [((-2), 17)])]
set_option maxRecDepth 1000000 in
theorem ee_k82.ok : ee_Ct ee_mt ee_k82 := ee_cert (Γ := [ee_k69, ee_k75, ee_k81, ee_k51, ee_k67]) (K := [(124, 2, [0, 1, 2]), (124, 44, [3]), (124, 49, [0, 1, 2]), (124, 54, [4])]) (S := []) (f := 5000) (N := ee_me124) (cuts := ee_u82) ee_Tbok (ee_gcons ee_k69.ok (ee_gcons ee_k75.ok (ee_gcons ee_k81.ok (ee_gcons ee_k51.ok (ee_gcons ee_k67.ok ee_gnil))))) rfl (by decide +kernel) (by decide +kernel) (List.all_eq_true.mp (by decide +kernel))
/- Reader.readOne@5 -/
def ee_k83 : ee_ct := (120, [.ref 0, .int 5], ee_z50, ee_i81, [([], ee_z72, ee_i112)], 20)
def ee_u83 : List ee_cu := []
set_option maxRecDepth 1000000 in
theorem ee_k83.ok : ee_Ct ee_mt ee_k83 := ee_cert (Γ := [ee_k51, ee_k71, ee_k77, ee_k67, ee_k70, ee_k76, ee_k82]) (K := [(120, 28, [0]), (120, 35, [1, 2]), (120, 41, [3]), (120, 47, [4, 5, 6]), (120, 90, [0]), (120, 95, [4, 5, 6]), (120, 100, [3])]) (S := []) (f := 5000) (N := ee_me120) (cuts := ee_u83) ee_Tbok (ee_gcons ee_k51.ok (ee_gcons ee_k71.ok (ee_gcons ee_k77.ok (ee_gcons ee_k67.ok (ee_gcons ee_k70.ok (ee_gcons ee_k76.ok (ee_gcons ee_k82.ok ee_gnil))))))) rfl (by decide +kernel) (by decide +kernel) (List.all_eq_true.mp (by decide +kernel))
/- Reader.readBoth@5 -/
def ee_k84 : ee_ct := (115, [.ref 0, .int 5], ee_z50, ee_i81, [([], ee_z72, ee_i112)], 21)
def ee_u84 : List ee_cu := [(7, [(0, .ref 0), (1, .int 5), (2, .retAddr 17)], [], ee_z73, ee_i113, 124, [((-2), 17)])]
set_option maxRecDepth 1000000 in
theorem ee_k84.ok : ee_Ct ee_mt ee_k84 := ee_cert (Γ := [ee_k71, ee_k77, ee_k83, ee_k51, ee_k67]) (K := [(115, 2, [0, 1, 2]), (115, 30, [3]), (115, 35, [0, 1, 2]), (115, 41, [4])]) (S := []) (f := 5000) (N := ee_me115) (cuts := ee_u84) ee_Tbok (ee_gcons ee_k71.ok (ee_gcons ee_k77.ok (ee_gcons ee_k83.ok (ee_gcons ee_k51.ok (ee_gcons ee_k67.ok ee_gnil))))) rfl (by decide +kernel) (by decide +kernel) (List.all_eq_true.mp (by decide +kernel))
/- Reader.readEither@5 -/
def ee_k85 : ee_ct := (117, [.ref 0, .int 5], ee_z50, ee_i81, [([], ee_z72, ee_i112)], 22)
def ee_u85 : List ee_cu := [(7, [(0, .ref 0), (1, .int 5), (2, .retAddr 17)], [], ee_z73, ee_i113, 124, [((-2), 17)])]
set_option maxRecDepth 1000000 in
theorem ee_k85.ok : ee_Ct ee_mt ee_k85 := ee_cert (Γ := [ee_k72, ee_k78, ee_k84, ee_k51, ee_k67]) (K := [(117, 2, [0, 1, 2]), (117, 30, [3]), (117, 35, [0, 1, 2]), (117, 41, [4])]) (S := []) (f := 5000) (N := ee_me117) (cuts := ee_u85) ee_Tbok (ee_gcons ee_k72.ok (ee_gcons ee_k78.ok (ee_gcons ee_k84.ok (ee_gcons ee_k51.ok (ee_gcons ee_k67.ok ee_gnil))))) rfl (by decide +kernel) (by decide +kernel) (List.all_eq_true.mp (by decide +kernel))
/- Reader.readUnit@4 -/
def ee_k86 : ee_ct := (127, [.ref 0, .int 4], ee_z50, ee_i81, [([], ee_z72, ee_i112)], 23)
def ee_u86 : List ee_cu := []
set_option maxRecDepth 1000000 in
theorem ee_k86.ok : ee_Ct ee_mt ee_k86 := ee_cert (Γ := [ee_k53, ee_k67, ee_k51, ee_k73, ee_k79, ee_k85, ee_k54]) (K := [(127, 33, [0]), (127, 67, [1]), (127, 71, [2]), (127, 100, [1]), (127, 104, [2]), (127, 126, [2]), (127, 133, [3, 4, 5]), (127, 139, [6]), (127, 146, [0])]) (S := []) (f := 5000) (N := ee_me127) (cuts := ee_u86) ee_Tbok (ee_gcons ee_k53.ok (ee_gcons ee_k67.ok (ee_gcons ee_k51.ok (ee_gcons ee_k73.ok (ee_gcons ee_k79.ok (ee_gcons ee_k85.ok (ee_gcons ee_k54.ok ee_gnil))))))) rfl (by decide +kernel) (by decide +kernel) (List.all_eq_true.mp (by decide +kernel))
/- Reader.readTerm@4 -/
def ee_k87 : ee_ct := (125, [.ref 0, .int 4], ee_z50, ee_i81, [([], ee_z72, ee_i112)], 24)
def ee_u87 : List ee_cu := [(7, [(0, .ref 0), (1, .int 4), (2, .retAddr 17)], [], ee_z73, ee_i113, 124, [((-2), 17)])]
set_option maxRecDepth 1000000 in
theorem ee_k87.ok : ee_Ct ee_mt ee_k87 := ee_cert (Γ := [ee_k68, ee_k74, ee_k80, ee_k86, ee_k51, ee_k67]) (K := [(125, 2, [0, 1, 2, 3]), (125, 53, [4]), (125, 58, [0, 1, 2, 3]), (125, 63, [5])]) (S := []) (f := 5000) (N := ee_me125) (cuts := ee_u87) ee_Tbok (ee_gcons ee_k68.ok (ee_gcons ee_k74.ok (ee_gcons ee_k80.ok (ee_gcons ee_k86.ok (ee_gcons ee_k51.ok (ee_gcons ee_k67.ok ee_gnil)))))) rfl (by decide +kernel) (by decide +kernel) (List.all_eq_true.mp (by decide +kernel))
/- Reader.readSum@4 -/
def ee_k88 : ee_ct := (124, [.ref 0, .int 4], ee_z50, ee_i81, [([], ee_z72, ee_i112)], 25)
def ee_u88 : List ee_cu := [(7, [(0, .ref 0), (1, .int 4), (2, .retAddr 17)], [], ee_z73, ee_i113, 124, [((-2), 17)])]
set_option maxRecDepth 1000000 in
theorem ee_k88.ok : ee_Ct ee_mt ee_k88 := ee_cert (Γ := [ee_k69, ee_k75, ee_k81, ee_k87, ee_k51, ee_k67]) (K := [(124, 2, [0, 1, 2, 3]), (124, 44, [4]), (124, 49, [0, 1, 2, 3]), (124, 54, [5])]) (S := []) (f := 5000) (N := ee_me124) (cuts := ee_u88) ee_Tbok (ee_gcons ee_k69.ok (ee_gcons ee_k75.ok (ee_gcons ee_k81.ok (ee_gcons ee_k87.ok (ee_gcons ee_k51.ok (ee_gcons ee_k67.ok ee_gnil)))))) rfl (by decide +kernel) (by decide +kernel) (List.all_eq_true.mp (by decide +kernel))
/- Reader.readOne@4 -/
def ee_k89 : ee_ct := (120, [.ref 0, .int 4], ee_z50, ee_i81, [([], ee_z72, ee_i112)], 26)
def ee_u89 : List ee_cu := []
set_option maxRecDepth 1000000 in
theorem ee_k89.ok : ee_Ct ee_mt ee_k89 := ee_cert (Γ := [ee_k51, ee_k71, ee_k77, ee_k83, ee_k67, ee_k70, ee_k76, ee_k82, ee_k88]) (K := [(120, 28, [0]), (120, 35, [1, 2, 3]), (120, 41, [4]), (120, 47, [5, 6, 7, 8]), (120, 90, [0]), (120, 95, [5, 6, 7, 8]), (120, 100, [4])]) (S := []) (f := 5000) (N := ee_me120) (cuts := ee_u89) ee_Tbok (ee_gcons ee_k51.ok (ee_gcons ee_k71.ok (ee_gcons ee_k77.ok (ee_gcons ee_k83.ok (ee_gcons ee_k67.ok (ee_gcons ee_k70.ok (ee_gcons ee_k76.ok (ee_gcons ee_k82.ok (ee_gcons ee_k88.ok ee_gnil))))))))) rfl (by decide +kernel) (by decide +kernel) (List.all_eq_true.mp (by decide +kernel))
/- Reader.readBoth@4 -/
def ee_k90 : ee_ct := (115, [.ref 0, .int 4], ee_z50, ee_i81, [([], ee_z72, ee_i112)], 27)
def ee_u90 : List ee_cu := [(7, [(0, .ref 0), (1, .int 4), (2, .retAddr 17)], [], ee_z73, ee_i113, 124, [((-2), 17)])]
set_option maxRecDepth 1000000 in
theorem ee_k90.ok : ee_Ct ee_mt ee_k90 := ee_cert (Γ := [ee_k71, ee_k77, ee_k83, ee_k89, ee_k51, ee_k67]) (K := [(115, 2, [0, 1, 2, 3]), (115, 30, [4]), (115, 35, [0, 1, 2, 3]), (115, 41, [5])]) (S := []) (f := 5000) (N := ee_me115) (cuts := ee_u90) ee_Tbok (ee_gcons ee_k71.ok (ee_gcons ee_k77.ok (ee_gcons ee_k83.ok (ee_gcons ee_k89.ok (ee_gcons ee_k51.ok (ee_gcons ee_k67.ok ee_gnil)))))) rfl (by decide +kernel) (by decide +kernel) (List.all_eq_true.mp (by decide +kernel))
/- Reader.readEither@4 -/
def ee_k91 : ee_ct := (117, [.ref 0, .int 4], ee_z50, ee_i81, [([], ee_z72, ee_i112)], 28)
def ee_u91 : List ee_cu := [(7, [(0, .ref 0), (1, .int 4), (2, .retAddr 17)], [], ee_z73, ee_i113, 124, [((-2), 17)])]
set_option maxRecDepth 1000000 in
theorem ee_k91.ok : ee_Ct ee_mt ee_k91 := ee_cert (Γ := [ee_k72, ee_k78, ee_k84, ee_k90, ee_k51, ee_k67]) (K := [(117, 2, [0, 1, 2, 3]), (117, 30, [4]), (117, 35, [0, 1, 2, 3]), (117, 41, [5])]) (S := []) (f := 5000) (N := ee_me117) (cuts := ee_u91) ee_Tbok (ee_gcons ee_k72.ok (ee_gcons ee_k78.ok (ee_gcons ee_k84.ok (ee_gcons ee_k90.ok (ee_gcons ee_k51.ok (ee_gcons ee_k67.ok ee_gnil)))))) rfl (by decide +kernel) (by decide +kernel) (List.all_eq_true.mp (by decide +kernel))
