/- Reader.readTerm@5 -/
def ee_k81 : ee_ct := (125, [.ref 0, .int 5], ee_xw186, ee_xi235, [([], ee_xw208, ee_xi266)], 18)
def ee_u81 : List ee_cu := [(7, [(0, .ref 0), (1, .int 5), (2, .retAddr 17)], [], ee_xw209, ee_xi267, 124, [((-2), 17)])]
set_option maxRecDepth 1000000 in
theorem ee_k81.ok : ee_Ct ee_mt ee_k81 := ee_cert (Γ := [ee_k80, ee_k51, ee_k67]) (K := [(125, 2, [0]), (125, 53, [1]), (125, 58, [0]), (125, 63, [2])]) (S := []) (f := 5000) (N := ee_me125) (cuts := ee_u81) ee_Tbok (ee_gcons ee_k80.ok (ee_gcons ee_k51.ok (ee_gcons ee_k67.ok ee_gnil))) rfl (by decide +kernel) (by decide +kernel) (List.all_eq_true.mp (by decide +kernel))
/- Reader.readSum@5 -/
def ee_k82 : ee_ct := (124, [.ref 0, .int 5], ee_xw186, ee_xi235, [([], ee_xw208, ee_xi266)], 19)
def ee_u82 : List ee_cu := [(7, [(0, .ref 0), (1, .int 5), (2, .retAddr 17)], [], ee_xw209, ee_xi267, 124, [((-2), 17)])]
set_option maxRecDepth 1000000 in
theorem ee_k82.ok : ee_Ct ee_mt ee_k82 := ee_cert (Γ := [ee_k81, ee_k51, ee_k67]) (K := [(124, 2, [0]), (124, 44, [1]), (124, 49, [0]), (124, 54, [2])]) (S := []) (f := 5000) (N := ee_me124) (cuts := ee_u82) ee_Tbok (ee_gcons ee_k81.ok (ee_gcons ee_k51.ok (ee_gcons ee_k67.ok ee_gnil))) rfl (by decide +kernel) (by decide +kernel) (List.all_eq_true.mp (by decide +kernel))
/- Reader.readOne@5 -/
def ee_k83 : ee_ct := (120, [.ref 0, .int 5], ee_xw186, ee_xi235, [([], ee_xw208, ee_xi266)], 20)
def ee_u83 : List ee_cu := []
set_option maxRecDepth 1000000 in
theorem ee_k83.ok : ee_Ct ee_mt ee_k83 := ee_cert (Γ := [ee_k51, ee_k77, ee_k67, ee_k82]) (K := [(120, 28, [0]), (120, 35, [1]), (120, 41, [2]), (120, 47, [3]), (120, 90, [0]), (120, 95, [3]), (120, 100, [2])]) (S := []) (f := 5000) (N := ee_me120) (cuts := ee_u83) ee_Tbok (ee_gcons ee_k51.ok (ee_gcons ee_k77.ok (ee_gcons ee_k67.ok (ee_gcons ee_k82.ok ee_gnil)))) rfl (by decide +kernel) (by decide +kernel) (List.all_eq_true.mp (by decide +kernel))
/- Reader.readBoth@5 -/
def ee_k84 : ee_ct := (115, [.ref 0, .int 5], ee_xw186, ee_xi235, [([], ee_xw208, ee_xi266)], 21)
def ee_u84 : List ee_cu := [(7, [(0, .ref 0), (1, .int 5), (2, .retAddr 17)], [], ee_xw209, ee_xi267, 124, [((-2), 17)])]
set_option maxRecDepth 1000000 in
theorem ee_k84.ok : ee_Ct ee_mt ee_k84 := ee_cert (Γ := [ee_k83, ee_k51, ee_k67]) (K := [(115, 2, [0]), (115, 30, [1]), (115, 35, [0]), (115, 41, [2])]) (S := []) (f := 5000) (N := ee_me115) (cuts := ee_u84) ee_Tbok (ee_gcons ee_k83.ok (ee_gcons ee_k51.ok (ee_gcons ee_k67.ok ee_gnil))) rfl (by decide +kernel) (by decide +kernel) (List.all_eq_true.mp (by decide +kernel))
/- Reader.readEither@5 -/
def ee_k85 : ee_ct := (117, [.ref 0, .int 5], ee_xw186, ee_xi235, [([], ee_xw208, ee_xi266)], 22)
def ee_u85 : List ee_cu := [(7, [(0, .ref 0), (1, .int 5), (2, .retAddr 17)], [], ee_xw209, ee_xi267, 124, [((-2), 17)])]
set_option maxRecDepth 1000000 in
theorem ee_k85.ok : ee_Ct ee_mt ee_k85 := ee_cert (Γ := [ee_k84, ee_k51, ee_k67]) (K := [(117, 2, [0]), (117, 30, [1]), (117, 35, [0]), (117, 41, [2])]) (S := []) (f := 5000) (N := ee_me117) (cuts := ee_u85) ee_Tbok (ee_gcons ee_k84.ok (ee_gcons ee_k51.ok (ee_gcons ee_k67.ok ee_gnil))) rfl (by decide +kernel) (by decide +kernel) (List.all_eq_true.mp (by decide +kernel))
/- Reader.readUnit@4 -/
def ee_k86 : ee_ct := (127, [.ref 0, .int 4], ee_xw186, ee_xi235, [([], ee_xw208, ee_xi266)], 23)
def ee_u86 : List ee_cu := []
set_option maxRecDepth 1000000 in
theorem ee_k86.ok : ee_Ct ee_mt ee_k86 := ee_cert (Γ := [ee_k53, ee_k67, ee_k51, ee_k85, ee_k54]) (K := [(127, 33, [0]), (127, 67, [1]), (127, 71, [2]), (127, 100, [1]), (127, 104, [2]), (127, 126, [2]), (127, 133, [3]), (127, 139, [4]), (127, 146, [0])]) (S := []) (f := 5000) (N := ee_me127) (cuts := ee_u86) ee_Tbok (ee_gcons ee_k53.ok (ee_gcons ee_k67.ok (ee_gcons ee_k51.ok (ee_gcons ee_k85.ok (ee_gcons ee_k54.ok ee_gnil))))) rfl (by decide +kernel) (by decide +kernel) (List.all_eq_true.mp (by decide +kernel))
/- Reader.readTerm@4 -/
def ee_k87 : ee_ct := (125, [.ref 0, .int 4], ee_xw186, ee_xi235, [([], ee_xw208, ee_xi266)], 24)
def ee_u87 : List ee_cu := [(7, [(0, .ref 0), (1, .int 4), (2, .retAddr 17)], [], ee_xw209, ee_xi267, 124, [((-2), 17)])]
set_option maxRecDepth 1000000 in
theorem ee_k87.ok : ee_Ct ee_mt ee_k87 := ee_cert (Γ := [ee_k86, ee_k51, ee_k67]) (K := [(125, 2, [0]), (125, 53, [1]), (125, 58, [0]), (125, 63, [2])]) (S := []) (f := 5000) (N := ee_me125) (cuts := ee_u87) ee_Tbok (ee_gcons ee_k86.ok (ee_gcons ee_k51.ok (ee_gcons ee_k67.ok ee_gnil))) rfl (by decide +kernel) (by decide +kernel) (List.all_eq_true.mp (by decide +kernel))
/- Reader.readSum@4 -/
def ee_k88 : ee_ct := (124, [.ref 0, .int 4], ee_xw186, ee_xi235, [([], ee_xw208, ee_xi266)], 25)
def ee_u88 : List ee_cu := [(7, [(0, .ref 0), (1, .int 4), (2, .retAddr 17)], [], ee_xw209, ee_xi267, 124, [((-2), 17)])]
set_option maxRecDepth 1000000 in
theorem ee_k88.ok : ee_Ct ee_mt ee_k88 := ee_cert (Γ := [ee_k87, ee_k51, ee_k67]) (K := [(124, 2, [0]), (124, 44, [1]), (124, 49, [0]), (124, 54, [2])]) (S := []) (f := 5000) (N := ee_me124) (cuts := ee_u88) ee_Tbok (ee_gcons ee_k87.ok (ee_gcons ee_k51.ok (ee_gcons ee_k67.ok ee_gnil))) rfl (by decide +kernel) (by decide +kernel) (List.all_eq_true.mp (by decide +kernel))
/- Reader.readOne@4 -/
def ee_k89 : ee_ct := (120, [.ref 0, .int 4], ee_xw186, ee_xi235, [([], ee_xw208, ee_xi266)], 26)
def ee_u89 : List ee_cu := []
set_option maxRecDepth 1000000 in
theorem ee_k89.ok : ee_Ct ee_mt ee_k89 := ee_cert (Γ := [ee_k51, ee_k83, ee_k67, ee_k88]) (K := [(120, 28, [0]), (120, 35, [1]), (120, 41, [2]), (120, 47, [3]), (120, 90, [0]), (120, 95, [3]), (120, 100, [2])]) (S := []) (f := 5000) (N := ee_me120) (cuts := ee_u89) ee_Tbok (ee_gcons ee_k51.ok (ee_gcons ee_k83.ok (ee_gcons ee_k67.ok (ee_gcons ee_k88.ok ee_gnil)))) rfl (by decide +kernel) (by decide +kernel) (List.all_eq_true.mp (by decide +kernel))
/- Reader.readBoth@4 -/
def ee_k90 : ee_ct := (115, [.ref 0, .int 4], ee_xw186, ee_xi235, [([], ee_xw208, ee_xi266)], 27)
def ee_u90 : List ee_cu := [(7, [(0, .ref 0), (1, .int 4), (2, .retAddr 17)], [], ee_xw209, ee_xi267, 124, [((-2), 17)])]
set_option maxRecDepth 1000000 in
theorem ee_k90.ok : ee_Ct ee_mt ee_k90 := ee_cert (Γ := [ee_k89, ee_k51, ee_k67]) (K := [(115, 2, [0]), (115, 30, [1]), (115, 35, [0]), (115, 41, [2])]) (S := []) (f := 5000) (N := ee_me115) (cuts := ee_u90) ee_Tbok (ee_gcons ee_k89.ok (ee_gcons ee_k51.ok (ee_gcons ee_k67.ok ee_gnil))) rfl (by decide +kernel) (by decide +kernel) (List.all_eq_true.mp (by decide +kernel))
/- Reader.readEither@4 -/
def ee_k91 : ee_ct := (117, [.ref 0, .int 4], ee_xw186, ee_xi235, [([], ee_xw208, ee_xi266)], 28)
def ee_u91 : List ee_cu := [(7, [(0, .ref 0), (1, .int 4), (2, .retAddr 17)], [], ee_xw209, ee_xi267, 124, [((-2), 17)])]
set_option maxRecDepth 1000000 in
theorem ee_k91.ok : ee_Ct ee_mt ee_k91 := ee_cert (Γ := [ee_k90, ee_k51, ee_k67]) (K := [(117, 2, [0]), (117, 30, [1]), (117, 35, [0]), (117, 41, [2])]) (S := []) (f := 5000) (N := ee_me117) (cuts := ee_u91) ee_Tbok (ee_gcons ee_k90.ok (ee_gcons ee_k51.ok (ee_gcons ee_k67.ok ee_gnil))) rfl (by decide +kernel) (by decide +kernel) (List.all_eq_true.mp (by decide +kernel))
/- Reader.readUnit@3 -/
def ee_k92 : ee_ct := (127, [.ref 0, .int 3], ee_xw186, ee_xi235, [([], ee_xw208, ee_xi266)], 29)
def ee_u92 : List ee_cu := []
set_option maxRecDepth 1000000 in
theorem ee_k92.ok : ee_Ct ee_mt ee_k92 := ee_cert (Γ := [ee_k53, ee_k67, ee_k51, ee_k91, ee_k54]) (K := [(127, 33, [0]), (127, 67, [1]), (127, 71, [2]), (127, 100, [1]), (127, 104, [2]), (127, 126, [2]), (127, 133, [3]), (127, 139, [4]), (127, 146, [0])]) (S := []) (f := 5000) (N := ee_me127) (cuts := ee_u92) ee_Tbok (ee_gcons ee_k53.ok (ee_gcons ee_k67.ok (ee_gcons ee_k51.ok (ee_gcons ee_k91.ok (ee_gcons ee_k54.ok ee_gnil))))) rfl (by decide +kernel) (by decide +kernel) (List.all_eq_true.mp (by decide +kernel))
/- Reader.readTerm@3 -/
def ee_k93 : ee_ct := (125, [.ref 0, .int 3], ee_xw186, ee_xi235, [([], ee_xw208, ee_xi266)], 30)
def ee_u93 : List ee_cu := [(7, [(0, .ref 0), (1, .int 3), (2, .retAddr 17)], [], ee_xw209, ee_xi267, 124, [((-2), 17)])]
set_option maxRecDepth 1000000 in
theorem ee_k93.ok : ee_Ct ee_mt ee_k93 := ee_cert (Γ := [ee_k92, ee_k51, ee_k67]) (K := [(125, 2, [0]), (125, 53, [1]), (125, 58, [0]), (125, 63, [2])]) (S := []) (f := 5000) (N := ee_me125) (cuts := ee_u93) ee_Tbok (ee_gcons ee_k92.ok (ee_gcons ee_k51.ok (ee_gcons ee_k67.ok ee_gnil))) rfl (by decide +kernel) (by decide +kernel) (List.all_eq_true.mp (by decide +kernel))
/- Reader.readSum@3 -/
def ee_k94 : ee_ct := (124, [.ref 0, .int 3], ee_xw186, ee_xi235, [([], ee_xw208, ee_xi266)], 31)
def ee_u94 : List ee_cu := [(7, [(0, .ref 0), (1, .int 3), (2, .retAddr 17)], [], ee_xw209, ee_xi267, 124, [((-2), 17)])]
set_option maxRecDepth 1000000 in
theorem ee_k94.ok : ee_Ct ee_mt ee_k94 := ee_cert (Γ := [ee_k93, ee_k51, ee_k67]) (K := [(124, 2, [0]), (124, 44, [1]), (124, 49, [0]), (124, 54, [2])]) (S := []) (f := 5000) (N := ee_me124) (cuts := ee_u94) ee_Tbok (ee_gcons ee_k93.ok (ee_gcons ee_k51.ok (ee_gcons ee_k67.ok ee_gnil))) rfl (by decide +kernel) (by decide +kernel) (List.all_eq_true.mp (by decide +kernel))
/- Reader.readOne@3 -/
def ee_k95 : ee_ct := (120, [.ref 0, .int 3], ee_xw186, ee_xi235, [([], ee_xw208, ee_xi266)], 32)
def ee_u95 : List ee_cu := []
set_option maxRecDepth 1000000 in
theorem ee_k95.ok : ee_Ct ee_mt ee_k95 := ee_cert (Γ := [ee_k51, ee_k89, ee_k67, ee_k94]) (K := [(120, 28, [0]), (120, 35, [1]), (120, 41, [2]), (120, 47, [3]), (120, 90, [0]), (120, 95, [3]), (120, 100, [2])]) (S := []) (f := 5000) (N := ee_me120) (cuts := ee_u95) ee_Tbok (ee_gcons ee_k51.ok (ee_gcons ee_k89.ok (ee_gcons ee_k67.ok (ee_gcons ee_k94.ok ee_gnil)))) rfl (by decide +kernel) (by decide +kernel) (List.all_eq_true.mp (by decide +kernel))
/- Reader.readBoth@3 -/
def ee_k96 : ee_ct := (115, [.ref 0, .int 3], ee_xw186, ee_xi235, [([], ee_xw208, ee_xi266)], 33)
def ee_u96 : List ee_cu := [(7, [(0, .ref 0), (1, .int 3), (2, .retAddr 17)], [], ee_xw209, ee_xi267, 124, [((-2), 17)])]
set_option maxRecDepth 1000000 in
theorem ee_k96.ok : ee_Ct ee_mt ee_k96 := ee_cert (Γ := [ee_k95, ee_k51, ee_k67]) (K := [(115, 2, [0]), (115, 30, [1]), (115, 35, [0]), (115, 41, [2])]) (S := []) (f := 5000) (N := ee_me115) (cuts := ee_u96) ee_Tbok (ee_gcons ee_k95.ok (ee_gcons ee_k51.ok (ee_gcons ee_k67.ok ee_gnil))) rfl (by decide +kernel) (by decide +kernel) (List.all_eq_true.mp (by decide +kernel))
/- Reader.readEither@3 -/
def ee_k97 : ee_ct := (117, [.ref 0, .int 3], ee_xw186, ee_xi235, [([], ee_xw208, ee_xi266)], 34)
def ee_u97 : List ee_cu := [(7, [(0, .ref 0), (1, .int 3), (2, .retAddr 17)], [], ee_xw209, ee_xi267, 124, [((-2), 17)])]
set_option maxRecDepth 1000000 in
theorem ee_k97.ok : ee_Ct ee_mt ee_k97 := ee_cert (Γ := [ee_k96, ee_k51, ee_k67]) (K := [(117, 2, [0]), (117, 30, [1]), (117, 35, [0]), (117, 41, [2])]) (S := []) (f := 5000) (N := ee_me117) (cuts := ee_u97) ee_Tbok (ee_gcons ee_k96.ok (ee_gcons ee_k51.ok (ee_gcons ee_k67.ok ee_gnil))) rfl (by decide +kernel) (by decide +kernel) (List.all_eq_true.mp (by decide +kernel))
/- Reader.readUnit@2 -/
def ee_k98 : ee_ct := (127, [.ref 0, .int 2], ee_xw186, ee_xi235, [([], ee_xw208, ee_xi266)], 35)
def ee_u98 : List ee_cu := []
set_option maxRecDepth 1000000 in
theorem ee_k98.ok : ee_Ct ee_mt ee_k98 := ee_cert (Γ := [ee_k53, ee_k67, ee_k51, ee_k97, ee_k54]) (K := [(127, 33, [0]), (127, 67, [1]), (127, 71, [2]), (127, 100, [1]), (127, 104, [2]), (127, 126, [2]), (127, 133, [3]), (127, 139, [4]), (127, 146, [0])]) (S := []) (f := 5000) (N := ee_me127) (cuts := ee_u98) ee_Tbok (ee_gcons ee_k53.ok (ee_gcons ee_k67.ok (ee_gcons ee_k51.ok (ee_gcons ee_k97.ok (ee_gcons ee_k54.ok ee_gnil))))) rfl (by decide +kernel) (by decide +kernel) (List.all_eq_true.mp (by decide +kernel))
/- Reader.readTerm@2 -/
def ee_k99 : ee_ct := (125, [.ref 0, .int 2], ee_xw186, ee_xi235, [([], ee_xw208, ee_xi266)], 36)
def ee_u99 : List ee_cu := [(7, [(0, .ref 0), (1, .int 2), (2, .retAddr 17)], [], ee_xw209, ee_xi267, 124, [((-2), 17)])]
set_option maxRecDepth 1000000 in
theorem ee_k99.ok : ee_Ct ee_mt ee_k99 := ee_cert (Γ := [ee_k98, ee_k51, ee_k67]) (K := [(125, 2, [0]), (125, 53, [1]), (125, 58, [0]), (125, 63, [2])]) (S := []) (f := 5000) (N := ee_me125) (cuts := ee_u99) ee_Tbok (ee_gcons ee_k98.ok (ee_gcons ee_k51.ok (ee_gcons ee_k67.ok ee_gnil))) rfl (by decide +kernel) (by decide +kernel) (List.all_eq_true.mp (by decide +kernel))
/- Reader.readSum@2 -/
def ee_k100 : ee_ct := (124, [.ref 0, .int 2], ee_xw186, ee_xi235, [([], ee_xw208, ee_xi266)], 37)
def ee_u100 : List ee_cu := [(7, [(0, .ref 0), (1, .int 2), (2, .retAddr 17)], [], ee_xw209, ee_xi267, 124, [((-2), 17)])]
set_option maxRecDepth 1000000 in
theorem ee_k100.ok : ee_Ct ee_mt ee_k100 := ee_cert (Γ := [ee_k99, ee_k51, ee_k67]) (K := [(124, 2, [0]), (124, 44, [1]), (124, 49, [0]), (124, 54, [2])]) (S := []) (f := 5000) (N := ee_me124) (cuts := ee_u100) ee_Tbok (ee_gcons ee_k99.ok (ee_gcons ee_k51.ok (ee_gcons ee_k67.ok ee_gnil))) rfl (by decide +kernel) (by decide +kernel) (List.all_eq_true.mp (by decide +kernel))
/- Reader.readOne@2 -/
def ee_k101 : ee_ct := (120, [.ref 0, .int 2], ee_xw186, ee_xi235, [([], ee_xw208, ee_xi266)], 38)
def ee_u101 : List ee_cu := []
set_option maxRecDepth 1000000 in
theorem ee_k101.ok : ee_Ct ee_mt ee_k101 := ee_cert (Γ := [ee_k51, ee_k95, ee_k67, ee_k100]) (K := [(120, 28, [0]), (120, 35, [1]), (120, 41, [2]), (120, 47, [3]), (120, 90, [0]), (120, 95, [3]), (120, 100, [2])]) (S := []) (f := 5000) (N := ee_me120) (cuts := ee_u101) ee_Tbok (ee_gcons ee_k51.ok (ee_gcons ee_k95.ok (ee_gcons ee_k67.ok (ee_gcons ee_k100.ok ee_gnil)))) rfl (by decide +kernel) (by decide +kernel) (List.all_eq_true.mp (by decide +kernel))
/- Reader.readBoth@2 -/
def ee_k102 : ee_ct := (115, [.ref 0, .int 2], ee_xw186, ee_xi235, [([], ee_xw208, ee_xi266)], 39)
def ee_u102 : List ee_cu := [(7, [(0, .ref 0), (1, .int 2), (2, .retAddr 17)], [], ee_xw209, ee_xi267, 124, [((-2), 17)])]
set_option maxRecDepth 1000000 in
theorem ee_k102.ok : ee_Ct ee_mt ee_k102 := ee_cert (Γ := [ee_k101, ee_k51, ee_k67]) (K := [(115, 2, [0]), (115, 30, [1]), (115, 35, [0]), (115, 41, [2])]) (S := []) (f := 5000) (N := ee_me115) (cuts := ee_u102) ee_Tbok (ee_gcons ee_k101.ok (ee_gcons ee_k51.ok (ee_gcons ee_k67.ok ee_gnil))) rfl (by decide +kernel) (by decide +kernel) (List.all_eq_true.mp (by decide +kernel))
/- Reader.readEither@2 -/
def ee_k103 : ee_ct := (117, [.ref 0, .int 2], ee_xw186, ee_xi235, [([], ee_xw208, ee_xi266)], 40)
def ee_u103 : List ee_cu := [(7, [(0, .ref 0), (1, .int 2), (2, .retAddr 17)], [], ee_xw209, ee_xi267, 124, [((-2), 17)])]
set_option maxRecDepth 1000000 in
theorem ee_k103.ok : ee_Ct ee_mt ee_k103 := ee_cert (Γ := [ee_k102, ee_k51, ee_k67]) (K := [(117, 2, [0]), (117, 30, [1]), (117, 35, [0]), (117, 41, [2])]) (S := []) (f := 5000) (N := ee_me117) (cuts := ee_u103) ee_Tbok (ee_gcons ee_k102.ok (ee_gcons ee_k51.ok (ee_gcons ee_k67.ok ee_gnil))) rfl (by decide +kernel) (by decide +kernel) (List.all_eq_true.mp (by decide +kernel))
/- Reader.readUnit@1 -/
def ee_k104 : ee_ct := (127, [.ref 0, .int 1], ee_xw186, ee_xi235, [([], ee_xw208, ee_xi266)], 41)
def ee_u104 : List ee_cu := []
set_option maxRecDepth 1000000 in
theorem ee_k104.ok : ee_Ct ee_mt ee_k104 := ee_cert (Γ := [ee_k53, ee_k67, ee_k51, ee_k103, ee_k54]) (K := [(127, 33, [0]), (127, 67, [1]), (127, 71, [2]), (127, 100, [1]), (127, 104, [2]), (127, 126, [2]), (127, 133, [3]), (127, 139, [4]), (127, 146, [0])]) (S := []) (f := 5000) (N := ee_me127) (cuts := ee_u104) ee_Tbok (ee_gcons ee_k53.ok (ee_gcons ee_k67.ok (ee_gcons ee_k51.ok (ee_gcons ee_k103.ok (ee_gcons ee_k54.ok ee_gnil))))) rfl (by decide +kernel) (by decide +kernel) (List.all_eq_true.mp (by decide +kernel))
/- Reader.readTerm@1 -/
def ee_k105 : ee_ct := (125, [.ref 0, .int 1], ee_xw186, ee_xi235, [([], ee_xw208, ee_xi266)], 42)
def ee_u105 : List ee_cu := [(7, [(0, .ref 0), (1, .int 1), (2, .retAddr 17)], [], ee_xw209, ee_xi267, 124, [((-2), 17)])]
set_option maxRecDepth 1000000 in
theorem ee_k105.ok : ee_Ct ee_mt ee_k105 := ee_cert (Γ := [ee_k104, ee_k51, ee_k67]) (K := [(125, 2, [0]), (125, 53, [1]), (125, 58, [0]), (125, 63, [2])]) (S := []) (f := 5000) (N := ee_me125) (cuts := ee_u105) ee_Tbok (ee_gcons ee_k104.ok (ee_gcons ee_k51.ok (ee_gcons ee_k67.ok ee_gnil))) rfl (by decide +kernel) (by decide +kernel) (List.all_eq_true.mp (by decide +kernel))
/- Reader.readSum@1 -/
def ee_k106 : ee_ct := (124, [.ref 0, .int 1], ee_xw186, ee_xi235, [([], ee_xw208, ee_xi266)], 43)
def ee_u106 : List ee_cu := [(7, [(0, .ref 0), (1, .int 1), (2, .retAddr 17)], [], ee_xw209, ee_xi267, 124, [((-2), 17)])]
set_option maxRecDepth 1000000 in
theorem ee_k106.ok : ee_Ct ee_mt ee_k106 := ee_cert (Γ := [ee_k105, ee_k51, ee_k67]) (K := [(124, 2, [0]), (124, 44, [1]), (124, 49, [0]), (124, 54, [2])]) (S := []) (f := 5000) (N := ee_me124) (cuts := ee_u106) ee_Tbok (ee_gcons ee_k105.ok (ee_gcons ee_k51.ok (ee_gcons ee_k67.ok ee_gnil))) rfl (by decide +kernel) (by decide +kernel) (List.all_eq_true.mp (by decide +kernel))
/- Reader.readOne@1 -/
def ee_k107 : ee_ct := (120, [.ref 0, .int 1], ee_xw186, ee_xi235, [([], ee_xw208, ee_xi266)], 44)
def ee_u107 : List ee_cu := []
set_option maxRecDepth 1000000 in
theorem ee_k107.ok : ee_Ct ee_mt ee_k107 := ee_cert (Γ := [ee_k51, ee_k101, ee_k67, ee_k106]) (K := [(120, 28, [0]), (120, 35, [1]), (120, 41, [2]), (120, 47, [3]), (120, 90, [0]), (120, 95, [3]), (120, 100, [2])]) (S := []) (f := 5000) (N := ee_me120) (cuts := ee_u107) ee_Tbok (ee_gcons ee_k51.ok (ee_gcons ee_k101.ok (ee_gcons ee_k67.ok (ee_gcons ee_k106.ok ee_gnil)))) rfl (by decide +kernel) (by decide +kernel) (List.all_eq_true.mp (by decide +kernel))
/- Reader.readBoth@1 -/
def ee_k108 : ee_ct := (115, [.ref 0, .int 1], ee_xw186, ee_xi235, [([], ee_xw208, ee_xi266)], 45)
def ee_u108 : List ee_cu := [(7, [(0, .ref 0), (1, .int 1), (2, .retAddr 17)], [], ee_xw209, ee_xi267, 124, [((-2), 17)])]
set_option maxRecDepth 1000000 in
theorem ee_k108.ok : ee_Ct ee_mt ee_k108 := ee_cert (Γ := [ee_k107, ee_k51, ee_k67]) (K := [(115, 2, [0]), (115, 30, [1]), (115, 35, [0]), (115, 41, [2])]) (S := []) (f := 5000) (N := ee_me115) (cuts := ee_u108) ee_Tbok (ee_gcons ee_k107.ok (ee_gcons ee_k51.ok (ee_gcons ee_k67.ok ee_gnil))) rfl (by decide +kernel) (by decide +kernel) (List.all_eq_true.mp (by decide +kernel))
/- Reader.readEither@1 -/
def ee_k109 : ee_ct := (117, [.ref 0, .int 1], ee_xw186, ee_xi235, [([], ee_xw208, ee_xi266)], 46)
def ee_u109 : List ee_cu := [(7, [(0, .ref 0), (1, .int 1), (2, .retAddr 17)], [], ee_xw209, ee_xi267, 124, [((-2), 17)])]
set_option maxRecDepth 1000000 in
theorem ee_k109.ok : ee_Ct ee_mt ee_k109 := ee_cert (Γ := [ee_k108, ee_k51, ee_k67]) (K := [(117, 2, [0]), (117, 30, [1]), (117, 35, [0]), (117, 41, [2])]) (S := []) (f := 5000) (N := ee_me117) (cuts := ee_u109) ee_Tbok (ee_gcons ee_k108.ok (ee_gcons ee_k51.ok (ee_gcons ee_k67.ok ee_gnil))) rfl (by decide +kernel) (by decide +kernel) (List.all_eq_true.mp (by decide +kernel))
/- Reader.readUnit@0 -/
def ee_k110 : ee_ct := (127, [.ref 0, .int 0], ee_xw186, ee_xi235, [([], ee_xw208, ee_xi266)], 47)
def ee_u110 : List ee_cu := []
set_option maxRecDepth 1000000 in
theorem ee_k110.ok : ee_Ct ee_mt ee_k110 := ee_cert (Γ := [ee_k53, ee_k67, ee_k51, ee_k109, ee_k54]) (K := [(127, 33, [0]), (127, 67, [1]), (127, 71, [2]), (127, 100, [1]), (127, 104, [2]), (127, 126, [2]), (127, 133, [3]), (127, 139, [4]), (127, 146, [0])]) (S := []) (f := 5000) (N := ee_me127) (cuts := ee_u110) ee_Tbok (ee_gcons ee_k53.ok (ee_gcons ee_k67.ok (ee_gcons ee_k51.ok (ee_gcons ee_k109.ok (ee_gcons ee_k54.ok ee_gnil))))) rfl (by decide +kernel) (by decide +kernel) (List.all_eq_true.mp (by decide +kernel))
/- Reader.readTerm@0 -/
def ee_k111 : ee_ct := (125, [.ref 0, .int 0], ee_xw186, ee_xi235, [([], ee_xw208, ee_xi266)], 48)
def ee_u111 : List ee_cu := [(7, [(0, .ref 0), (1, .int 0), (2, .retAddr 17)], [], ee_xw209, ee_xi267, 124, [((-2), 17)])]
set_option maxRecDepth 1000000 in
theorem ee_k111.ok : ee_Ct ee_mt ee_k111 := ee_cert (Γ := [ee_k110, ee_k51, ee_k67]) (K := [(125, 2, [0]), (125, 53, [1]), (125, 58, [0]), (125, 63, [2])]) (S := []) (f := 5000) (N := ee_me125) (cuts := ee_u111) ee_Tbok (ee_gcons ee_k110.ok (ee_gcons ee_k51.ok (ee_gcons ee_k67.ok ee_gnil))) rfl (by decide +kernel) (by decide +kernel) (List.all_eq_true.mp (by decide +kernel))
/- Reader.readSum@0 -/
def ee_k112 : ee_ct := (124, [.ref 0, .int 0], ee_xw186, ee_xi235, [([], ee_xw208, ee_xi266)], 49)
def ee_u112 : List ee_cu := [(7, [(0, .ref 0), (1, .int 0), (2, .retAddr 17)], [], ee_xw209, ee_xi267, 124, [((-2), 17)])]
set_option maxRecDepth 1000000 in
theorem ee_k112.ok : ee_Ct ee_mt ee_k112 := ee_cert (Γ := [ee_k111, ee_k51, ee_k67]) (K := [(124, 2, [0]), (124, 44, [1]), (124, 49, [0]), (124, 54, [2])]) (S := []) (f := 5000) (N := ee_me124) (cuts := ee_u112) ee_Tbok (ee_gcons ee_k111.ok (ee_gcons ee_k51.ok (ee_gcons ee_k67.ok ee_gnil))) rfl (by decide +kernel) (by decide +kernel) (List.all_eq_true.mp (by decide +kernel))
/- Reader.readOne@0 -/
def ee_k113 : ee_ct := (120, [.ref 0, .int 0], ee_xw186, ee_xi235, [([], ee_xw208, ee_xi266)], 50)
def ee_u113 : List ee_cu := []
set_option maxRecDepth 1000000 in
theorem ee_k113.ok : ee_Ct ee_mt ee_k113 := ee_cert (Γ := [ee_k51, ee_k107, ee_k67, ee_k112]) (K := [(120, 28, [0]), (120, 35, [1]), (120, 41, [2]), (120, 47, [3]), (120, 90, [0]), (120, 95, [3]), (120, 100, [2])]) (S := []) (f := 5000) (N := ee_me120) (cuts := ee_u113) ee_Tbok (ee_gcons ee_k51.ok (ee_gcons ee_k107.ok (ee_gcons ee_k67.ok (ee_gcons ee_k112.ok ee_gnil)))) rfl (by decide +kernel) (by decide +kernel) (List.all_eq_true.mp (by decide +kernel))
/- Reader.readBoth@0 -/
def ee_k114 : ee_ct := (115, [.ref 0, .int 0], ee_xw186, ee_xi235, [([], ee_xw208, ee_xi266)], 51)
def ee_u114 : List ee_cu := [(7, [(0, .ref 0), (1, .int 0), (2, .retAddr 17)], [], ee_xw209, ee_xi267, 124, [((-2), 17)])]
set_option maxRecDepth 1000000 in
theorem ee_k114.ok : ee_Ct ee_mt ee_k114 := ee_cert (Γ := [ee_k113, ee_k51, ee_k67]) (K := [(115, 2, [0]), (115, 30, [1]), (115, 35, [0]), (115, 41, [2])]) (S := []) (f := 5000) (N := ee_me115) (cuts := ee_u114) ee_Tbok (ee_gcons ee_k113.ok (ee_gcons ee_k51.ok (ee_gcons ee_k67.ok ee_gnil))) rfl (by decide +kernel) (by decide +kernel) (List.all_eq_true.mp (by decide +kernel))
/- Reader.readEither@0 -/
def ee_k115 : ee_ct := (117, [.ref 0, .int 0], ee_xw186, ee_xi235, [([], ee_xw208, ee_xi266)], 52)
def ee_u115 : List ee_cu := [(7, [(0, .ref 0), (1, .int 0), (2, .retAddr 17)], [], ee_xw209, ee_xi267, 124, [((-2), 17)])]
set_option maxRecDepth 1000000 in
theorem ee_k115.ok : ee_Ct ee_mt ee_k115 := ee_cert (Γ := [ee_k114, ee_k51, ee_k67]) (K := [(117, 2, [0]), (117, 30, [1]), (117, 35, [0]), (117, 41, [2])]) (S := []) (f := 5000) (N := ee_me117) (cuts := ee_u115) ee_Tbok (ee_gcons ee_k114.ok (ee_gcons ee_k51.ok (ee_gcons ee_k67.ok ee_gnil))) rfl (by decide +kernel) (by decide +kernel) (List.all_eq_true.mp (by decide +kernel))
def ee_xq297 : ee_cell := .inl (7, [.retAddr 7, .retAddr 8, .retAddr 9, .retAddr 23, .retAddr 11, .retAddr 12, .retAddr 24, .retAddr 25, .retAddr 15, .retAddr 16, .ref 4, .ref 5, .ref 6, .ref 7, .ref 8, .ref 9, .ref 10, .ref 11, .ref 12])
def ee_xw210 : ee_w := [ee_xq294, ee_xq297, ee_xq268, ee_xq269, ee_xq26, ee_xq185, ee_xq185, ee_xq186, ee_xq186, ee_xq187, ee_xq188, ee_xq189, ee_xq17]
def ee_xi268 : ee_iv := (26, [(0, 0, 1600, []), (1, (-2147483648), 2147483647, []), (2, (-2147483648), 2147483647, []), (3, 0, 1600, []), (4, (-2147483648), 2147483647, []), (5, (-2147483648), 2147483647, []), (6, (-2147483648), 2147483647, []), (7, 0, 6, []), (8, 0, 5, []), (9, 0, 10, []), (10, (-2147483648), 2147483647, []), (11, 0, 100, []), (12, 0, 999, []), (13, 0, 320, []), (14, 0, 1, []), (15, 0, 1, []), (16, 0, 1, []), (17, (-2147483648), 2147483647, []), (18, (-2147483648), 2147483647, []), (19, 0, 1600, []), (20, (-2147483648), 2147483647, []), (21, (-2147483648), 2147483647, []), (22, (-2147483648), 2147483647, []), (23, (-2147483648), 2147483647, []), (24, 0, 320, []), (25, 1, 1, [])])
/- Reader.readFormula -/
def ee_k116 : ee_ct := (118, [.ref 0], ee_xw186, ee_xi235, [([], ee_xw210, ee_xi268)], 53)
def ee_u116 : List ee_cu := []
set_option maxRecDepth 1000000 in
theorem ee_k116.ok : ee_Ct ee_mt ee_k116 := ee_cert (Γ := [ee_k53, ee_k51, ee_k115]) (K := [(118, 11, [0]), (118, 16, [1]), (118, 37, [2])]) (S := []) (f := 5000) (N := ee_me118) (cuts := ee_u116) ee_Tbok (ee_gcons ee_k53.ok (ee_gcons ee_k51.ok (ee_gcons ee_k115.ok ee_gnil))) rfl (by decide +kernel) (by decide +kernel) (List.all_eq_true.mp (by decide +kernel))
def ee_xq298 : ee_cell := .inl (7, [.retAddr 7, .retAddr 8, .retAddr 9, .retAddr 10, .retAddr 23, .retAddr 12, .retAddr 13, .retAddr 14, .retAddr 24, .retAddr 16, .ref 4, .ref 5, .ref 6, .ref 7, .ref 8, .ref 9, .ref 10, .ref 11, .ref 12])
def ee_xw211 : ee_w := [ee_xq294, ee_xq298, ee_xq268, ee_xq269, ee_xq26, ee_xq185, ee_xq185, ee_xq186, ee_xq186, ee_xq187, ee_xq188, ee_xq189, ee_xq17]
def ee_xi269 : ee_iv := (25, [(0, 0, 1600, []), (1, (-2147483648), 2147483647, []), (2, (-2147483648), 2147483647, []), (3, 0, 1600, []), (4, (-2147483648), 2147483647, []), (5, (-2147483648), 2147483647, []), (6, (-2147483648), 2147483647, []), (7, 0, 6, []), (8, 0, 5, []), (9, 0, 10, []), (10, (-2147483648), 2147483647, []), (11, 0, 100, []), (12, 0, 999, []), (13, 0, 320, []), (14, 0, 1, []), (15, 0, 1, []), (16, 0, 1, []), (17, (-2147483648), 2147483647, []), (18, (-2147483648), 2147483647, []), (19, 0, 1600, []), (20, (-2147483648), 2147483647, []), (21, (-2147483648), 2147483647, []), (22, (-2147483648), 2147483647, []), (23, 0, 100, []), (24, 1, 1, [])])
/- Reader.readSneeze -/
def ee_k117 : ee_ct := (123, [.ref 0], ee_xw186, ee_xi235, [([], ee_xw211, ee_xi269)], 6)
def ee_u117 : List ee_cu := []
set_option maxRecDepth 1000000 in
theorem ee_k117.ok : ee_Ct ee_mt ee_k117 := ee_cert (Γ := [ee_k53, ee_k51, ee_k57]) (K := [(123, 11, [0]), (123, 16, [1]), (123, 35, [2])]) (S := []) (f := 5000) (N := ee_me123) (cuts := ee_u117) ee_Tbok (ee_gcons ee_k53.ok (ee_gcons ee_k51.ok (ee_gcons ee_k57.ok ee_gnil))) rfl (by decide +kernel) (by decide +kernel) (List.all_eq_true.mp (by decide +kernel))
def ee_xq299 : ee_cell := .inl (7, [.retAddr 7, .retAddr 8, .retAddr 9, .retAddr 10, .retAddr 11, .retAddr 23, .retAddr 13, .retAddr 14, .retAddr 15, .retAddr 24, .ref 4, .ref 5, .ref 6, .ref 7, .ref 8, .ref 9, .ref 10, .ref 11, .ref 12])
def ee_xw212 : ee_w := [ee_xq294, ee_xq299, ee_xq268, ee_xq269, ee_xq26, ee_xq185, ee_xq185, ee_xq186, ee_xq186, ee_xq187, ee_xq188, ee_xq189, ee_xq17]
def ee_xi270 : ee_iv := (25, [(0, 0, 1600, []), (1, (-2147483648), 2147483647, []), (2, (-2147483648), 2147483647, []), (3, 0, 1600, []), (4, (-2147483648), 2147483647, []), (5, (-2147483648), 2147483647, []), (6, (-2147483648), 2147483647, []), (7, 0, 6, []), (8, 0, 5, []), (9, 0, 10, []), (10, (-2147483648), 2147483647, []), (11, 0, 100, []), (12, 0, 999, []), (13, 0, 320, []), (14, 0, 1, []), (15, 0, 1, []), (16, 0, 1, []), (17, (-2147483648), 2147483647, []), (18, (-2147483648), 2147483647, []), (19, 0, 1600, []), (20, (-2147483648), 2147483647, []), (21, (-2147483648), 2147483647, []), (22, (-2147483648), 2147483647, []), (23, 0, 999, []), (24, 1, 1, [])])
/- Reader.readDraw -/
def ee_k118 : ee_ct := (116, [.ref 0], ee_xw186, ee_xi235, [([], ee_xw212, ee_xi270)], 6)
def ee_u118 : List ee_cu := []
set_option maxRecDepth 1000000 in
theorem ee_k118.ok : ee_Ct ee_mt ee_k118 := ee_cert (Γ := [ee_k53, ee_k51, ee_k58]) (K := [(116, 11, [0]), (116, 16, [1]), (116, 36, [2])]) (S := []) (f := 5000) (N := ee_me116) (cuts := ee_u118) ee_Tbok (ee_gcons ee_k53.ok (ee_gcons ee_k51.ok (ee_gcons ee_k58.ok ee_gnil))) rfl (by decide +kernel) (by decide +kernel) (List.all_eq_true.mp (by decide +kernel))
def ee_xq300 : ee_cell := .inl (7, [.retAddr 23, .retAddr 8, .retAddr 9, .retAddr 10, .retAddr 11, .retAddr 12, .retAddr 13, .retAddr 14, .retAddr 15, .retAddr 16, .ref 4, .ref 5, .ref 6, .ref 7, .ref 8, .ref 9, .ref 10, .ref 11, .ref 12])
def ee_xw213 : ee_w := [ee_xq294, ee_xq300, ee_xq268, ee_xq269, ee_xq26, ee_xq185, ee_xq185, ee_xq186, ee_xq186, ee_xq187, ee_xq188, ee_xq189, ee_xq17]
def ee_xi271 : ee_iv := (24, [(0, 0, 1600, []), (1, (-2147483648), 2147483647, []), (2, (-2147483648), 2147483647, []), (3, 0, 1600, []), (4, (-2147483648), 2147483647, []), (5, (-2147483648), 2147483647, []), (6, (-2147483648), 2147483647, []), (7, 0, 6, []), (8, 0, 5, []), (9, 0, 10, []), (10, (-2147483648), 2147483647, []), (11, 0, 100, []), (12, 0, 999, []), (13, 0, 320, []), (14, 0, 1, []), (15, 0, 1, []), (16, 0, 1, []), (17, (-2147483648), 2147483647, []), (18, (-2147483648), 2147483647, []), (19, 0, 1600, []), (20, (-2147483648), 2147483647, []), (21, (-2147483648), 2147483647, []), (22, (-2147483648), 2147483647, []), (23, 1, 6, [])])
/- Reader.readPerson -/
def ee_k119 : ee_ct := (121, [.ref 0], ee_xw186, ee_xi235, [([], ee_xw213, ee_xi271)], 6)
def ee_u119 : List ee_cu := []
set_option maxRecDepth 1000000 in
theorem ee_k119.ok : ee_Ct ee_mt ee_k119 := ee_cert (Γ := [ee_k53, ee_k51, ee_k62, ee_k55]) (K := [(121, 15, [0]), (121, 20, [1]), (121, 32, [2]), (121, 62, [1]), (121, 77, [3])]) (S := []) (f := 5000) (N := ee_me121) (cuts := ee_u119) ee_Tbok (ee_gcons ee_k53.ok (ee_gcons ee_k51.ok (ee_gcons ee_k62.ok (ee_gcons ee_k55.ok ee_gnil)))) rfl (by decide +kernel) (by decide +kernel) (List.all_eq_true.mp (by decide +kernel))
def ee_xq301 : ee_cell := .inl (7, [.retAddr 7, .retAddr 23, .retAddr 9, .retAddr 10, .retAddr 11, .retAddr 12, .retAddr 13, .retAddr 14, .retAddr 15, .retAddr 16, .ref 4, .ref 5, .ref 6, .ref 7, .ref 8, .ref 9, .ref 10, .ref 11, .ref 12])
def ee_xw214 : ee_w := [ee_xq294, ee_xq301, ee_xq268, ee_xq269, ee_xq26, ee_xq185, ee_xq185, ee_xq186, ee_xq186, ee_xq187, ee_xq188, ee_xq189, ee_xq17]
def ee_xi272 : ee_iv := (24, [(0, 0, 1600, []), (1, (-2147483648), 2147483647, []), (2, (-2147483648), 2147483647, []), (3, 0, 1600, []), (4, (-2147483648), 2147483647, []), (5, (-2147483648), 2147483647, []), (6, (-2147483648), 2147483647, []), (7, 0, 6, []), (8, 0, 5, []), (9, 0, 10, []), (10, (-2147483648), 2147483647, []), (11, 0, 100, []), (12, 0, 999, []), (13, 0, 320, []), (14, 0, 1, []), (15, 0, 1, []), (16, 0, 1, []), (17, (-2147483648), 2147483647, []), (18, (-2147483648), 2147483647, []), (19, 0, 1600, []), (20, (-2147483648), 2147483647, []), (21, (-2147483648), 2147483647, []), (22, (-2147483648), 2147483647, []), (23, 1, 5, [])])
/- Reader.readSack -/
def ee_k120 : ee_ct := (122, [.ref 0], ee_xw186, ee_xi235, [([], ee_xw214, ee_xi272)], 6)
def ee_u120 : List ee_cu := []
set_option maxRecDepth 1000000 in
theorem ee_k120.ok : ee_Ct ee_mt ee_k120 := ee_cert (Γ := [ee_k53, ee_k51, ee_k63]) (K := [(122, 12, [0]), (122, 17, [1]), (122, 35, [2])]) (S := []) (f := 5000) (N := ee_me122) (cuts := ee_u120) ee_Tbok (ee_gcons ee_k53.ok (ee_gcons ee_k51.ok (ee_gcons ee_k63.ok ee_gnil))) rfl (by decide +kernel) (by decide +kernel) (List.all_eq_true.mp (by decide +kernel))
def ee_xq302 : ee_cell := .inl (7, [.retAddr 7, .retAddr 8, .retAddr 23, .retAddr 10, .retAddr 11, .retAddr 12, .retAddr 13, .retAddr 14, .retAddr 15, .retAddr 16, .ref 4, .ref 5, .ref 6, .ref 7, .ref 8, .ref 9, .ref 10, .ref 11, .ref 12])
def ee_xw215 : ee_w := [ee_xq294, ee_xq302, ee_xq268, ee_xq269, ee_xq26, ee_xq185, ee_xq185, ee_xq186, ee_xq186, ee_xq187, ee_xq188, ee_xq189, ee_xq17]
def ee_xi273 : ee_iv := (24, [(0, 0, 1600, []), (1, (-2147483648), 2147483647, []), (2, (-2147483648), 2147483647, []), (3, 0, 1600, []), (4, (-2147483648), 2147483647, []), (5, (-2147483648), 2147483647, []), (6, (-2147483648), 2147483647, []), (7, 0, 6, []), (8, 0, 5, []), (9, 0, 10, []), (10, (-2147483648), 2147483647, []), (11, 0, 100, []), (12, 0, 999, []), (13, 0, 320, []), (14, 0, 1, []), (15, 0, 1, []), (16, 0, 1, []), (17, (-2147483648), 2147483647, []), (18, (-2147483648), 2147483647, []), (19, 0, 1600, []), (20, (-2147483648), 2147483647, []), (21, (-2147483648), 2147483647, []), (22, (-2147483648), 2147483647, []), (23, 1, 10, [])])
/- Reader.readThing -/
def ee_k121 : ee_ct := (126, [.ref 0], ee_xw186, ee_xi235, [([], ee_xw215, ee_xi273)], 6)
def ee_u121 : List ee_cu := []
set_option maxRecDepth 1000000 in
theorem ee_k121.ok : ee_Ct ee_mt ee_k121 := ee_cert (Γ := [ee_k53, ee_k51, ee_k64, ee_k54, ee_k65, ee_k56, ee_k66]) (K := [(126, 15, [0]), (126, 20, [1]), (126, 32, [2]), (126, 38, [3]), (126, 65, [4]), (126, 72, [3]), (126, 107, [4]), (126, 114, [3]), (126, 129, [5]), (126, 160, [1]), (126, 187, [6])]) (S := []) (f := 5000) (N := ee_me126) (cuts := ee_u121) ee_Tbok (ee_gcons ee_k53.ok (ee_gcons ee_k51.ok (ee_gcons ee_k64.ok (ee_gcons ee_k54.ok (ee_gcons ee_k65.ok (ee_gcons ee_k56.ok (ee_gcons ee_k66.ok ee_gnil))))))) rfl (by decide +kernel) (by decide +kernel) (List.all_eq_true.mp (by decide +kernel))
