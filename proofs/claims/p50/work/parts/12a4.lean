/- Reader.readUnit@3 -/
def ee_k92 : ee_ct := (127, [.ref 0, .int 3], ee_z50, ee_i81, [([], ee_z72, ee_i112)], 29)
def ee_u92 : List ee_cu := []
set_option maxRecDepth 1000000 in
theorem ee_k92.ok : ee_Ct ee_mt ee_k92 := ee_cert (Γ := [ee_k53, ee_k67, ee_k51, ee_k73, ee_k79, ee_k85, ee_k91, ee_k54]) (K := [(127, 33, [0]), (127, 67, [1]), (127, 71, [2]), (127, 100, [1]), (127, 104, [2]), (127, 126, [2]), (127, 133, [3, 4, 5, 6]), (127, 139, [7]), (127, 146, [0])]) (S := []) (f := 5000) (N := ee_me127) (cuts := ee_u92) ee_Tbok (ee_gcons ee_k53.ok (ee_gcons ee_k67.ok (ee_gcons ee_k51.ok (ee_gcons ee_k73.ok (ee_gcons ee_k79.ok (ee_gcons ee_k85.ok (ee_gcons ee_k91.ok (ee_gcons ee_k54.ok ee_gnil)))))))) rfl (by decide +kernel) (by decide +kernel) (List.all_eq_true.mp (by decide +kernel))
/- Reader.readTerm@3 -/
def ee_k93 : ee_ct := (125, [.ref 0, .int 3], ee_z50, ee_i81, [([], ee_z72, ee_i112)], 30)
def ee_u93 : List ee_cu := [(7, [(0, .ref 0), (1, .int 3), (2, .retAddr 17)], [], ee_z73, ee_i113, 124, [((-2), 17)])]
set_option maxRecDepth 1000000 in
theorem ee_k93.ok : ee_Ct ee_mt ee_k93 := ee_cert (Γ := [ee_k68, ee_k74, ee_k80, ee_k86, ee_k92, ee_k51, ee_k67]) (K := [(125, 2, [0, 1, 2, 3, 4]), (125, 53, [5]), (125, 58, [0, 1, 2, 3, 4]), (125, 63, [6])]) (S := []) (f := 5000) (N := ee_me125) (cuts := ee_u93) ee_Tbok (ee_gcons ee_k68.ok (ee_gcons ee_k74.ok (ee_gcons ee_k80.ok (ee_gcons ee_k86.ok (ee_gcons ee_k92.ok (ee_gcons ee_k51.ok (ee_gcons ee_k67.ok ee_gnil))))))) rfl (by decide +kernel) (by decide +kernel) (List.all_eq_true.mp (by decide +kernel))
/- Reader.readSum@3 -/
def ee_k94 : ee_ct := (124, [.ref 0, .int 3], ee_z50, ee_i81, [([], ee_z72, ee_i112)], 31)
def ee_u94 : List ee_cu := [(7, [(0, .ref 0), (1, .int 3), (2, .retAddr 17)], [], ee_z73, ee_i113, 124, [((-2), 17)])]
set_option maxRecDepth 1000000 in
theorem ee_k94.ok : ee_Ct ee_mt ee_k94 := ee_cert (Γ := [ee_k69, ee_k75, ee_k81, ee_k87, ee_k93, ee_k51, ee_k67]) (K := [(124, 2, [0, 1, 2, 3, 4]), (124, 44, [5]), (124, 49, [0, 1, 2, 3, 4]), (124, 54, [6])]) (S := []) (f := 5000) (N := ee_me124) (cuts := ee_u94) ee_Tbok (ee_gcons ee_k69.ok (ee_gcons ee_k75.ok (ee_gcons ee_k81.ok (ee_gcons ee_k87.ok (ee_gcons ee_k93.ok (ee_gcons ee_k51.ok (ee_gcons ee_k67.ok ee_gnil))))))) rfl (by decide +kernel) (by decide +kernel) (List.all_eq_true.mp (by decide +kernel))
/- Reader.readOne@3 -/
def ee_k95 : ee_ct := (120, [.ref 0, .int 3], ee_z50, ee_i81, [([], ee_z72, ee_i112)], 32)
def ee_u95 : List ee_cu := []
set_option maxRecDepth 1000000 in
theorem ee_k95.ok : ee_Ct ee_mt ee_k95 := ee_cert (Γ := [ee_k51, ee_k71, ee_k77, ee_k83, ee_k89, ee_k67, ee_k70, ee_k76, ee_k82, ee_k88, ee_k94]) (K := [(120, 28, [0]), (120, 35, [1, 2, 3, 4]), (120, 41, [5]), (120, 47, [6, 7, 8, 9, 10]), (120, 90, [0]), (120, 95, [6, 7, 8, 9, 10]), (120, 100, [5])]) (S := []) (f := 5000) (N := ee_me120) (cuts := ee_u95) ee_Tbok (ee_gcons ee_k51.ok (ee_gcons ee_k71.ok (ee_gcons ee_k77.ok (ee_gcons ee_k83.ok (ee_gcons ee_k89.ok (ee_gcons ee_k67.ok (ee_gcons ee_k70.ok (ee_gcons ee_k76.ok (ee_gcons ee_k82.ok (ee_gcons ee_k88.ok (ee_gcons ee_k94.ok ee_gnil))))))))))) rfl (by decide +kernel) (by decide +kernel) (List.all_eq_true.mp (by decide +kernel))
/- Reader.readBoth@3 -/
def ee_k96 : ee_ct := (115, [.ref 0, .int 3], ee_z50, ee_i81, [([], ee_z72, ee_i112)], 33)
def ee_u96 : List ee_cu := [(7, [(0, .ref 0), (1, .int 3), (2, .retAddr 17)], [], ee_z73, ee_i113, 124, [((-2), 17)])]
set_option maxRecDepth 1000000 in
theorem ee_k96.ok : ee_Ct ee_mt ee_k96 := ee_cert (Γ := [ee_k71, ee_k77, ee_k83, ee_k89, ee_k95, ee_k51, ee_k67]) (K := [(115, 2, [0, 1, 2, 3, 4]), (115, 30, [5]), (115, 35, [0, 1, 2, 3, 4]), (115, 41, [6])]) (S := []) (f := 5000) (N := ee_me115) (cuts := ee_u96) ee_Tbok (ee_gcons ee_k71.ok (ee_gcons ee_k77.ok (ee_gcons ee_k83.ok (ee_gcons ee_k89.ok (ee_gcons ee_k95.ok (ee_gcons ee_k51.ok (ee_gcons ee_k67.ok ee_gnil))))))) rfl (by decide +kernel) (by decide +kernel) (List.all_eq_true.mp (by decide +kernel))
/- Reader.readEither@3 -/
def ee_k97 : ee_ct := (117, [.ref 0, .int 3], ee_z50, ee_i81, [([], ee_z72, ee_i112)], 34)
def ee_u97 : List ee_cu := [(7, [(0, .ref 0), (1, .int 3), (2, .retAddr 17)], [], ee_z73, ee_i113, 124, [((-2), 17)])]
set_option maxRecDepth 1000000 in
theorem ee_k97.ok : ee_Ct ee_mt ee_k97 := ee_cert (Γ := [ee_k72, ee_k78, ee_k84, ee_k90, ee_k96, ee_k51, ee_k67]) (K := [(117, 2, [0, 1, 2, 3, 4]), (117, 30, [5]), (117, 35, [0, 1, 2, 3, 4]), (117, 41, [6])]) (S := []) (f := 5000) (N := ee_me117) (cuts := ee_u97) ee_Tbok (ee_gcons ee_k72.ok (ee_gcons ee_k78.ok (ee_gcons ee_k84.ok (ee_gcons ee_k90.ok (ee_gcons ee_k96.ok (ee_gcons ee_k51.ok (ee_gcons ee_k67.ok ee_gnil))))))) rfl (by decide +kernel) (by decide +kernel) (List.all_eq_true.mp (by decide +kernel))
/- Reader.readUnit@2 -/
def ee_k98 : ee_ct := (127, [.ref 0, .int 2], ee_z50, ee_i81, [([], ee_z72, ee_i112)], 35)
def ee_u98 : List ee_cu := []
set_option maxRecDepth 1000000 in
theorem ee_k98.ok : ee_Ct ee_mt ee_k98 := ee_cert (Γ := [ee_k53, ee_k67, ee_k51, ee_k73, ee_k79, ee_k85, ee_k91, ee_k97, ee_k54]) (K := [(127, 33, [0]), (127, 67, [1]), (127, 71, [2]), (127, 100, [1]), (127, 104, [2]), (127, 126, [2]), (127, 133, [3, 4, 5, 6, 7]), (127, 139, [8]), (127, 146, [0])]) (S := []) (f := 5000) (N := ee_me127) (cuts := ee_u98) ee_Tbok (ee_gcons ee_k53.ok (ee_gcons ee_k67.ok (ee_gcons ee_k51.ok (ee_gcons ee_k73.ok (ee_gcons ee_k79.ok (ee_gcons ee_k85.ok (ee_gcons ee_k91.ok (ee_gcons ee_k97.ok (ee_gcons ee_k54.ok ee_gnil))))))))) rfl (by decide +kernel) (by decide +kernel) (List.all_eq_true.mp (by decide +kernel))
/- Reader.readTerm@2 -/
def ee_k99 : ee_ct := (125, [.ref 0, .int 2], ee_z50, ee_i81, [([], ee_z72, ee_i112)], 36)
def ee_u99 : List ee_cu := [(7, [(0, .ref 0), (1, .int 2), (2, .retAddr 17)], [], ee_z73, ee_i113, 124, [((-2), 17)])]
set_option maxRecDepth 1000000 in
theorem ee_k99.ok : ee_Ct ee_mt ee_k99 := ee_cert (Γ := [ee_k68, ee_k74, ee_k80, ee_k86, ee_k92, ee_k98, ee_k51, ee_k67]) (K := [(125, 2, [0, 1, 2, 3, 4, 5]), (125, 53, [6]), (125, 58, [0, 1, 2, 3, 4, 5]), (125, 63, [7])]) (S := []) (f := 5000) (N := ee_me125) (cuts := ee_u99) ee_Tbok (ee_gcons ee_k68.ok (ee_gcons ee_k74.ok (ee_gcons ee_k80.ok (ee_gcons ee_k86.ok (ee_gcons ee_k92.ok (ee_gcons ee_k98.ok (ee_gcons ee_k51.ok (ee_gcons ee_k67.ok ee_gnil)))))))) rfl (by decide +kernel) (by decide +kernel) (List.all_eq_true.mp (by decide +kernel))
/- Reader.readSum@2 -/
def ee_k100 : ee_ct := (124, [.ref 0, .int 2], ee_z50, ee_i81, [([], ee_z72, ee_i112)], 37)
def ee_u100 : List ee_cu := [(7, [(0, .ref 0), (1, .int 2), (2, .retAddr 17)], [], ee_z73, ee_i113, 124, [((-2), 17)])]
set_option maxRecDepth 1000000 in
theorem ee_k100.ok : ee_Ct ee_mt ee_k100 := ee_cert (Γ := [ee_k69, ee_k75, ee_k81, ee_k87, ee_k93, ee_k99, ee_k51, ee_k67]) (K := [(124, 2, [0, 1, 2, 3, 4, 5]), (124, 44, [6]), (124, 49, [0, 1, 2, 3, 4, 5]), (124, 54, [7])]) (S := []) (f := 5000) (N := ee_me124) (cuts := ee_u100) ee_Tbok (ee_gcons ee_k69.ok (ee_gcons ee_k75.ok (ee_gcons ee_k81.ok (ee_gcons ee_k87.ok (ee_gcons ee_k93.ok (ee_gcons ee_k99.ok (ee_gcons ee_k51.ok (ee_gcons ee_k67.ok ee_gnil)))))))) rfl (by decide +kernel) (by decide +kernel) (List.all_eq_true.mp (by decide +kernel))
/- Reader.readOne@2 -/
def ee_k101 : ee_ct := (120, [.ref 0, .int 2], ee_z50, ee_i81, [([], ee_z72, ee_i112)], 38)
def ee_u101 : List ee_cu := []
set_option maxRecDepth 1000000 in
theorem ee_k101.ok : ee_Ct ee_mt ee_k101 := ee_cert (Γ := [ee_k51, ee_k71, ee_k77, ee_k83, ee_k89, ee_k95, ee_k67, ee_k70, ee_k76, ee_k82, ee_k88, ee_k94, ee_k100]) (K := [(120, 28, [0]), (120, 35, [1, 2, 3, 4, 5]), (120, 41, [6]), (120, 47, [7, 8, 9, 10, 11, 12]), (120, 90, [0]), (120, 95, [7, 8, 9, 10, 11, 12]), (120, 100, [6])]) (S := []) (f := 5000) (N := ee_me120) (cuts := ee_u101) ee_Tbok (ee_gcons ee_k51.ok (ee_gcons ee_k71.ok (ee_gcons ee_k77.ok (ee_gcons ee_k83.ok (ee_gcons ee_k89.ok (ee_gcons ee_k95.ok (ee_gcons ee_k67.ok (ee_gcons ee_k70.ok (ee_gcons ee_k76.ok (ee_gcons ee_k82.ok (ee_gcons ee_k88.ok (ee_gcons ee_k94.ok (ee_gcons ee_k100.ok ee_gnil))))))))))))) rfl (by decide +kernel) (by decide +kernel) (List.all_eq_true.mp (by decide +kernel))
/- Reader.readBoth@2 -/
def ee_k102 : ee_ct := (115, [.ref 0, .int 2], ee_z50, ee_i81, [([], ee_z72, ee_i112)], 39)
def ee_u102 : List ee_cu := [(7, [(0, .ref 0), (1, .int 2), (2, .retAddr 17)], [], ee_z73, ee_i113, 124, [((-2), 17)])]
set_option maxRecDepth 1000000 in
theorem ee_k102.ok : ee_Ct ee_mt ee_k102 := ee_cert (Γ := [ee_k71, ee_k77, ee_k83, ee_k89, ee_k95, ee_k101, ee_k51, ee_k67]) (K := [(115, 2, [0, 1, 2, 3, 4, 5]), (115, 30, [6]), (115, 35, [0, 1, 2, 3, 4, 5]), (115, 41, [7])]) (S := []) (f := 5000) (N := ee_me115) (cuts := ee_u102) ee_Tbok (ee_gcons ee_k71.ok (ee_gcons ee_k77.ok (ee_gcons ee_k83.ok (ee_gcons ee_k89.ok (ee_gcons ee_k95.ok (ee_gcons ee_k101.ok (ee_gcons ee_k51.ok (ee_gcons ee_k67.ok ee_gnil)))))))) rfl (by decide +kernel) (by decide +kernel) (List.all_eq_true.mp (by decide +kernel))
/- Reader.readEither@2 -/
def ee_k103 : ee_ct := (117, [.ref 0, .int 2], ee_z50, ee_i81, [([], ee_z72, ee_i112)], 40)
def ee_u103 : List ee_cu := [(7, [(0, .ref 0), (1, .int 2), (2, .retAddr 17)], [], ee_z73, ee_i113, 124, [((-2), 17)])]
set_option maxRecDepth 1000000 in
theorem ee_k103.ok : ee_Ct ee_mt ee_k103 := ee_cert (Γ := [ee_k72, ee_k78, ee_k84, ee_k90, ee_k96, ee_k102, ee_k51, ee_k67]) (K := [(117, 2, [0, 1, 2, 3, 4, 5]), (117, 30, [6]), (117, 35, [0, 1, 2, 3, 4, 5]), (117, 41, [7])]) (S := []) (f := 5000) (N := ee_me117) (cuts := ee_u103) ee_Tbok (ee_gcons ee_k72.ok (ee_gcons ee_k78.ok (ee_gcons ee_k84.ok (ee_gcons ee_k90.ok (ee_gcons ee_k96.ok (ee_gcons ee_k102.ok (ee_gcons ee_k51.ok (ee_gcons ee_k67.ok ee_gnil)))))))) rfl (by decide +kernel) (by decide +kernel) (List.all_eq_true.mp (by decide +kernel))
/- Reader.readUnit@1 -/
def ee_k104 : ee_ct := (127, [.ref 0, .int 1], ee_z50, ee_i81, [([], ee_z72, ee_i112)], 41)
def ee_u104 : List ee_cu := []
set_option maxRecDepth 1000000 in
theorem ee_k104.ok : ee_Ct ee_mt ee_k104 := ee_cert (Γ := [ee_k53, ee_k67, ee_k51, ee_k73, ee_k79, ee_k85, ee_k91, ee_k97, ee_k103, ee_k54]) (K := [(127, 33, [0]), (127, 67, [1]), (127, 71, [2]), (127, 100, [1]), (127, 104, [2]), (127, 126, [2]), (127, 133, [3, 4, 5, 6, 7, 8]), (127, 139, [9]), (127, 146, [0])]) (S := []) (f := 5000) (N := ee_me127) (cuts := ee_u104) ee_Tbok (ee_gcons ee_k53.ok (ee_gcons ee_k67.ok (ee_gcons ee_k51.ok (ee_gcons ee_k73.ok (ee_gcons ee_k79.ok (ee_gcons ee_k85.ok (ee_gcons ee_k91.ok (ee_gcons ee_k97.ok (ee_gcons ee_k103.ok (ee_gcons ee_k54.ok ee_gnil)))))))))) rfl (by decide +kernel) (by decide +kernel) (List.all_eq_true.mp (by decide +kernel))
/- Reader.readTerm@1 -/
def ee_k105 : ee_ct := (125, [.ref 0, .int 1], ee_z50, ee_i81, [([], ee_z72, ee_i112)], 42)
def ee_u105 : List ee_cu := [(7, [(0, .ref 0), (1, .int 1), (2, .retAddr 17)], [], ee_z73, ee_i113, 124, [((-2), 17)])]
set_option maxRecDepth 1000000 in
theorem ee_k105.ok : ee_Ct ee_mt ee_k105 := ee_cert (Γ := [ee_k68, ee_k74, ee_k80, ee_k86, ee_k92, ee_k98, ee_k104, ee_k51, ee_k67]) (K := [(125, 2, [0, 1, 2, 3, 4, 5, 6]), (125, 53, [7]), (125, 58, [0, 1, 2, 3, 4, 5, 6]), (125, 63, [8])]) (S := []) (f := 5000) (N := ee_me125) (cuts := ee_u105) ee_Tbok (ee_gcons ee_k68.ok (ee_gcons ee_k74.ok (ee_gcons ee_k80.ok (ee_gcons ee_k86.ok (ee_gcons ee_k92.ok (ee_gcons ee_k98.ok (ee_gcons ee_k104.ok (ee_gcons ee_k51.ok (ee_gcons ee_k67.ok ee_gnil))))))))) rfl (by decide +kernel) (by decide +kernel) (List.all_eq_true.mp (by decide +kernel))
/- Reader.readSum@1 -/
def ee_k106 : ee_ct := (124, [.ref 0, .int 1], ee_z50, ee_i81, [([], ee_z72, ee_i112)], 43)
def ee_u106 : List ee_cu := [(7, [(0, .ref 0), (1, .int 1), (2, .retAddr 17)], [], ee_z73, ee_i113, 124, [((-2), 17)])]
set_option maxRecDepth 1000000 in
theorem ee_k106.ok : ee_Ct ee_mt ee_k106 := ee_cert (Γ := [ee_k69, ee_k75, ee_k81, ee_k87, ee_k93, ee_k99, ee_k105, ee_k51, ee_k67]) (K := [(124, 2, [0, 1, 2, 3, 4, 5, 6]), (124, 44, [7]), (124, 49, [0, 1, 2, 3, 4, 5, 6]), (124, 54, [8])]) (S := []) (f := 5000) (N := ee_me124) (cuts := ee_u106) ee_Tbok (ee_gcons ee_k69.ok (ee_gcons ee_k75.ok (ee_gcons ee_k81.ok (ee_gcons ee_k87.ok (ee_gcons ee_k93.ok (ee_gcons ee_k99.ok (ee_gcons ee_k105.ok (ee_gcons ee_k51.ok (ee_gcons ee_k67.ok ee_gnil))))))))) rfl (by decide +kernel) (by decide +kernel) (List.all_eq_true.mp (by decide +kernel))
/- Reader.readOne@1 -/
def ee_k107 : ee_ct := (120, [.ref 0, .int 1], ee_z50, ee_i81, [([], ee_z72, ee_i112)], 44)
def ee_u107 : List ee_cu := []
set_option maxRecDepth 1000000 in
theorem ee_k107.ok : ee_Ct ee_mt ee_k107 := ee_cert (Γ := [ee_k51, ee_k71, ee_k77, ee_k83, ee_k89, ee_k95, ee_k101, ee_k67, ee_k70, ee_k76, ee_k82, ee_k88, ee_k94, ee_k100, ee_k106]) (K := [(120, 28, [0]), (120, 35, [1, 2, 3, 4, 5, 6]), (120, 41, [7]), (120, 47, [8, 9, 10, 11, 12, 13, 14]), (120, 90, [0]), (120, 95, [8, 9, 10, 11, 12, 13, 14]), (120, 100, [7])]) (S := []) (f := 5000) (N := ee_me120) (cuts := ee_u107) ee_Tbok (ee_gcons ee_k51.ok (ee_gcons ee_k71.ok (ee_gcons ee_k77.ok (ee_gcons ee_k83.ok (ee_gcons ee_k89.ok (ee_gcons ee_k95.ok (ee_gcons ee_k101.ok (ee_gcons ee_k67.ok (ee_gcons ee_k70.ok (ee_gcons ee_k76.ok (ee_gcons ee_k82.ok (ee_gcons ee_k88.ok (ee_gcons ee_k94.ok (ee_gcons ee_k100.ok (ee_gcons ee_k106.ok ee_gnil))))))))))))))) rfl (by decide +kernel) (by decide +kernel) (List.all_eq_true.mp (by decide +kernel))
/- Reader.readBoth@1 -/
def ee_k108 : ee_ct := (115, [.ref 0, .int 1], ee_z50, ee_i81, [([], ee_z72, ee_i112)], 45)
def ee_u108 : List ee_cu := [(7, [(0, .ref 0), (1, .int 1), (2, .retAddr 17)], [], ee_z73, ee_i113, 124, [((-2), 17)])]
set_option maxRecDepth 1000000 in
theorem ee_k108.ok : ee_Ct ee_mt ee_k108 := ee_cert (Γ := [ee_k71, ee_k77, ee_k83, ee_k89, ee_k95, ee_k101, ee_k107, ee_k51, ee_k67]) (K := [(115, 2, [0, 1, 2, 3, 4, 5, 6]), (115, 30, [7]), (115, 35, [0, 1, 2, 3, 4, 5, 6]), (115, 41, [8])]) (S := []) (f := 5000) (N := ee_me115) (cuts := ee_u108) ee_Tbok (ee_gcons ee_k71.ok (ee_gcons ee_k77.ok (ee_gcons ee_k83.ok (ee_gcons ee_k89.ok (ee_gcons ee_k95.ok (ee_gcons ee_k101.ok (ee_gcons ee_k107.ok (ee_gcons ee_k51.ok (ee_gcons ee_k67.ok ee_gnil))))))))) rfl (by decide +kernel) (by decide +kernel) (List.all_eq_true.mp (by decide +kernel))
/- Reader.readEither@1 -/
def ee_k109 : ee_ct := (117, [.ref 0, .int 1], ee_z50, ee_i81, [([], ee_z72, ee_i112)], 46)
def ee_u109 : List ee_cu := [(7, [(0, .ref 0), (1, .int 1), (2, .retAddr 17)], [], ee_z73, ee_i113, 124, [((-2), 17)])]
set_option maxRecDepth 1000000 in
theorem ee_k109.ok : ee_Ct ee_mt ee_k109 := ee_cert (Γ := [ee_k72, ee_k78, ee_k84, ee_k90, ee_k96, ee_k102, ee_k108, ee_k51, ee_k67]) (K := [(117, 2, [0, 1, 2, 3, 4, 5, 6]), (117, 30, [7]), (117, 35, [0, 1, 2, 3, 4, 5, 6]), (117, 41, [8])]) (S := []) (f := 5000) (N := ee_me117) (cuts := ee_u109) ee_Tbok (ee_gcons ee_k72.ok (ee_gcons ee_k78.ok (ee_gcons ee_k84.ok (ee_gcons ee_k90.ok (ee_gcons ee_k96.ok (ee_gcons ee_k102.ok (ee_gcons ee_k108.ok (ee_gcons ee_k51.ok (ee_gcons ee_k67.ok ee_gnil))))))))) rfl (by decide +kernel) (by decide +kernel) (List.all_eq_true.mp (by decide +kernel))
/- Reader.readUnit@0 -/
def ee_k110 : ee_ct := (127, [.ref 0, .int 0], ee_z50, ee_i81, [([], ee_z72, ee_i112)], 47)
def ee_u110 : List ee_cu := []
set_option maxRecDepth 1000000 in
theorem ee_k110.ok : ee_Ct ee_mt ee_k110 := ee_cert (Γ := [ee_k53, ee_k67, ee_k51, ee_k73, ee_k79, ee_k85, ee_k91, ee_k97, ee_k103, ee_k109, ee_k54]) (K := [(127, 33, [0]), (127, 67, [1]), (127, 71, [2]), (127, 100, [1]), (127, 104, [2]), (127, 126, [2]), (127, 133, [3, 4, 5, 6, 7, 8, 9]), (127, 139, [10]), (127, 146, [0])]) (S := []) (f := 5000) (N := ee_me127) (cuts := ee_u110) ee_Tbok (ee_gcons ee_k53.ok (ee_gcons ee_k67.ok (ee_gcons ee_k51.ok (ee_gcons ee_k73.ok (ee_gcons ee_k79.ok (ee_gcons ee_k85.ok (ee_gcons ee_k91.ok (ee_gcons ee_k97.ok (ee_gcons ee_k103.ok (ee_gcons ee_k109.ok (ee_gcons ee_k54.ok ee_gnil))))))))))) rfl (by decide +kernel) (by decide +kernel) (List.all_eq_true.mp (by decide +kernel))
/- Reader.readTerm@0 -/
def ee_k111 : ee_ct := (125, [.ref 0, .int 0], ee_z50, ee_i81, [([], ee_z72, ee_i112)], 48)
def ee_u111 : List ee_cu := [(7, [(0, .ref 0), (1, .int 0), (2, .retAddr 17)], [], ee_z73, ee_i113, 124, [((-2), 17)])]
set_option maxRecDepth 1000000 in
theorem ee_k111.ok : ee_Ct ee_mt ee_k111 := ee_cert (Γ := [ee_k68, ee_k74, ee_k80, ee_k86, ee_k92, ee_k98, ee_k104, ee_k110, ee_k51, ee_k67]) (K := [(125, 2, [0, 1, 2, 3, 4, 5, 6, 7]), (125, 53, [8]), (125, 58, [0, 1, 2, 3, 4, 5, 6, 7]), (125, 63, [9])]) (S := []) (f := 5000) (N := ee_me125) (cuts := ee_u111) ee_Tbok (ee_gcons ee_k68.ok (ee_gcons ee_k74.ok (ee_gcons ee_k80.ok (ee_gcons ee_k86.ok (ee_gcons ee_k92.ok (ee_gcons ee_k98.ok (ee_gcons ee_k104.ok (ee_gcons ee_k110.ok (ee_gcons ee_k51.ok (ee_gcons ee_k67.ok ee_gnil)))))))))) rfl (by decide +kernel) (by decide +kernel) (List.all_eq_true.mp (by decide +kernel))
/- Reader.readSum@0 -/
def ee_k112 : ee_ct := (124, [.ref 0, .int 0], ee_z50, ee_i81, [([], ee_z72, ee_i112)], 49)
def ee_u112 : List ee_cu := [(7, [(0, .ref 0), (1, .int 0), (2, .retAddr 17)], [], ee_z73, ee_i113, 124, [((-2), 17)])]
set_option maxRecDepth 1000000 in
theorem ee_k112.ok : ee_Ct ee_mt ee_k112 := ee_cert (Γ := [ee_k69, ee_k75, ee_k81, ee_k87, ee_k93, ee_k99, ee_k105, ee_k111, ee_k51, ee_k67]) (K := [(124, 2, [0, 1, 2, 3, 4, 5, 6, 7]), (124, 44, [8]), (124, 49, [0, 1, 2, 3, 4, 5, 6, 7]), (124, 54, [9])]) (S := []) (f := 5000) (N := ee_me124) (cuts := ee_u112) ee_Tbok (ee_gcons ee_k69.ok (ee_gcons ee_k75.ok (ee_gcons ee_k81.ok (ee_gcons ee_k87.ok (ee_gcons ee_k93.ok (ee_gcons ee_k99.ok (ee_gcons ee_k105.ok (ee_gcons ee_k111.ok (ee_gcons ee_k51.ok (ee_gcons ee_k67.ok ee_gnil)))))))))) rfl (by decide +kernel) (by decide +kernel) (List.all_eq_true.mp (by decide +kernel))
/- Reader.readOne@0 -/
def ee_k113 : ee_ct := (120, [.ref 0, .int 0], ee_z50, ee_i81, [([], ee_z72, ee_i112)], 50)
def ee_u113 : List ee_cu := []
set_option maxRecDepth 1000000 in
theorem ee_k113.ok : ee_Ct ee_mt ee_k113 := ee_cert (Γ := [ee_k51, ee_k71, ee_k77, ee_k83, ee_k89, ee_k95, ee_k101, ee_k107, ee_k67, ee_k70, ee_k76, ee_k82, ee_k88, ee_k94, ee_k100, ee_k106, ee_k112]) (K := [(120, 28, [0]), (120, 35, [1, 2, 3, 4, 5, 6, 7]), (120, 41, [8]), (120, 47, [9, 10, 11, 12, 13, 14, 15, 16]), (120, 90, [0]), (120, 95, [9, 10, 11, 12, 13, 14, 15, 16]), (120, 100, [8])]) (S := []) (f := 5000) (N := ee_me120) (cuts := ee_u113) ee_Tbok (ee_gcons ee_k51.ok (ee_gcons ee_k71.ok (ee_gcons ee_k77.ok (ee_gcons ee_k83.ok (ee_gcons ee_k89.ok (ee_gcons ee_k95.ok (ee_gcons ee_k101.ok (ee_gcons ee_k107.ok (ee_gcons ee_k67.ok (ee_gcons ee_k70.ok (ee_gcons ee_k76.ok (ee_gcons ee_k82.ok (ee_gcons ee_k88.ok (ee_gcons ee_k94.ok (ee_gcons ee_k100.ok (ee_gcons ee_k106.ok (ee_gcons ee_k112.ok ee_gnil))))))))))))))))) rfl (by decide +kernel) (by decide +kernel) (List.all_eq_true.mp (by decide +kernel))
