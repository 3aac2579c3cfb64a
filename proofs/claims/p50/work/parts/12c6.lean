def ee_xq189 : ee_cell := .inl (9, [.ref 1, .ref 2, .retAddr 0, .retAddr 1, .int 0, .retAddr 2, .retAddr 3, .retAddr 4, .retAddr 5, .retAddr 6, .double 0, .ref 3, .ref 4, .ref 5, .ref 6, .ref 7, .ref 8, .ref 9, .ref 10, .ref 11, .ref 12, .ref 13, .ref 14, .ref 15, .ref 16, .ref 17, .ref 18, .ref 19, .ref 20, .ref 21, .ref 22, .ref 23, .ref 24, .int 0, .int 1, .retAddr 7, .retAddr 8, .retAddr 9, .retAddr 10, .retAddr 11, .retAddr 12, .retAddr 13, .ref 25, .retAddr 14, .retAddr 15, .ref 26, .retAddr 16, .retAddr 17, .ref 27, .ref 28, .retAddr 18, .ref 29, .ref 30, .ref 31, .ref 32, .ref 33, .ref 34, .ref 35, .ref 36, .ref 37, .retAddr 19, .retAddr 20, .retAddr 21, .ref 38, .ref 39])
def ee_xq190 : ee_cell := .inr (4, 1120, 0, [], [(0, .int 0), (1, .int 1), (2, .retAddr 30), (3, .retAddr 32), (4, .retAddr 28), (5, .retAddr 31), (6, .retAddr 33), (7, .retAddr 29)])
def ee_xw115 : ee_w := [ee_xq189, ee_xq1, ee_xq2, ee_xq75, ee_xq76, ee_xq77, ee_xq6, ee_xq7, ee_xq8, ee_xq78, ee_xq10, ee_xq11, ee_xq12, ee_xq12, ee_xq13, ee_xq79, ee_xq80, ee_xq16, ee_xq17, ee_xq18, ee_xq190, ee_xq20, ee_xq21, ee_xq21, ee_xq22, ee_xq23, ee_xq24, ee_xq23, ee_xq26, ee_xq27, ee_xq28, ee_xq29, ee_xq30, ee_xq30, ee_xq30, ee_xq30, ee_xq10, ee_xq31, ee_xq32, ee_xq33]
def ee_xq191 : ee_cell := .inl (9, [.ref 1, .ref 2, .retAddr 0, .retAddr 1, .retAddr 34, .retAddr 3, .retAddr 3, .retAddr 4, .retAddr 5, .retAddr 6, .double 0, .ref 3, .ref 4, .ref 5, .ref 6, .ref 7, .ref 8, .ref 9, .ref 10, .ref 11, .ref 12, .ref 13, .ref 14, .ref 15, .ref 16, .ref 17, .ref 18, .ref 19, .ref 20, .ref 21, .ref 22, .ref 23, .ref 24, .int 0, .int 1, .retAddr 7, .retAddr 8, .retAddr 9, .retAddr 10, .retAddr 11, .retAddr 12, .retAddr 13, .ref 25, .retAddr 14, .retAddr 15, .ref 26, .retAddr 16, .retAddr 17, .ref 27, .ref 28, .retAddr 18, .ref 29, .ref 30, .ref 31, .ref 32, .ref 33, .ref 34, .ref 35, .ref 36, .ref 37, .retAddr 19, .retAddr 20, .retAddr 21, .ref 38, .ref 39])
def ee_xw116 : ee_w := [ee_xq191, ee_xq1, ee_xq2, ee_xq75, ee_xq76, ee_xq77, ee_xq6, ee_xq7, ee_xq8, ee_xq78, ee_xq10, ee_xq11, ee_xq12, ee_xq12, ee_xq13, ee_xq79, ee_xq80, ee_xq16, ee_xq17, ee_xq18, ee_xq190, ee_xq20, ee_xq21, ee_xq21, ee_xq22, ee_xq23, ee_xq24, ee_xq23, ee_xq26, ee_xq27, ee_xq28, ee_xq29, ee_xq30, ee_xq30, ee_xq30, ee_xq30, ee_xq10, ee_xq31, ee_xq32, ee_xq33]
def ee_xq192 : ee_cell := .inl (9, [.ref 1, .ref 2, .retAddr 0, .retAddr 1, .int 0, .retAddr 2, .retAddr 35, .retAddr 36, .retAddr 37, .retAddr 38, .double 0, .ref 3, .ref 4, .ref 5, .ref 6, .ref 7, .ref 8, .ref 9, .ref 10, .ref 11, .ref 12, .ref 13, .ref 14, .ref 15, .ref 16, .ref 17, .ref 18, .ref 19, .ref 20, .ref 21, .ref 22, .ref 23, .ref 24, .int 0, .int 1, .retAddr 7, .retAddr 8, .retAddr 9, .retAddr 10, .retAddr 11, .retAddr 12, .retAddr 13, .ref 25, .retAddr 14, .retAddr 15, .ref 26, .retAddr 16, .retAddr 17, .ref 27, .ref 28, .retAddr 18, .ref 29, .ref 30, .ref 31, .ref 32, .ref 33, .ref 34, .ref 35, .ref 36, .ref 37, .retAddr 19, .retAddr 20, .retAddr 21, .ref 38, .ref 39])
def ee_xw117 : ee_w := [ee_xq192, ee_xq1, ee_xq2, ee_xq75, ee_xq76, ee_xq77, ee_xq6, ee_xq7, ee_xq8, ee_xq78, ee_xq10, ee_xq11, ee_xq12, ee_xq12, ee_xq13, ee_xq79, ee_xq80, ee_xq16, ee_xq17, ee_xq18, ee_xq190, ee_xq20, ee_xq21, ee_xq21, ee_xq22, ee_xq23, ee_xq24, ee_xq23, ee_xq26, ee_xq27, ee_xq28, ee_xq29, ee_xq30, ee_xq30, ee_xq30, ee_xq30, ee_xq10, ee_xq31, ee_xq32, ee_xq33]
/- PepperTablesModel.numeral@1g.0.9 -/
def ee_k262 : ee_ct := (245, [.ref 0, .int 0, .int 9], ee_xw115, ee_xi97, [([.int 0], ee_xw116, ee_xi98), ([.retAddr 34], ee_xw117, ee_xi99)], 2)
def ee_u262 : List ee_cu := []
set_option maxRecDepth 1000000 in
theorem ee_k262.ok : ee_Ct ee_mt ee_k262 := ee_cert (Γ := [ee_k261]) (K := [(245, 66, [0])]) (S := []) (f := 5000) (N := ee_me245) (cuts := ee_u262) ee_Tbok (ee_gcons ee_k261.ok ee_gnil) rfl (by decide +kernel) (by decide +kernel) (List.all_eq_true.mp (by decide +kernel))
/- PepperTablesModel.numeral@1g.1.9 -/
def ee_k263 : ee_ct := (245, [.ref 0, .int 1, .int 9], ee_xw115, ee_xi97, [([.int 1], ee_xw116, ee_xi98), ([.retAddr 34], ee_xw117, ee_xi100)], 2)
def ee_u263 : List ee_cu := []
set_option maxRecDepth 1000000 in
theorem ee_k263.ok : ee_Ct ee_mt ee_k263 := ee_cert (Γ := [ee_k261]) (K := [(245, 66, [0])]) (S := []) (f := 5000) (N := ee_me245) (cuts := ee_u263) ee_Tbok (ee_gcons ee_k261.ok ee_gnil) rfl (by decide +kernel) (by decide +kernel) (List.all_eq_true.mp (by decide +kernel))
/- PepperTablesModel.numeral@1g.0.100 -/
def ee_k264 : ee_ct := (245, [.ref 0, .int 0, .int 100], ee_xw115, ee_xi97, [([.int 0], ee_xw116, ee_xi98), ([.retAddr 34], ee_xw117, ee_xi101)], 2)
def ee_u264 : List ee_cu := []
set_option maxRecDepth 1000000 in
theorem ee_k264.ok : ee_Ct ee_mt ee_k264 := ee_cert (Γ := [ee_k261]) (K := [(245, 66, [0])]) (S := []) (f := 5000) (N := ee_me245) (cuts := ee_u264) ee_Tbok (ee_gcons ee_k261.ok ee_gnil) rfl (by decide +kernel) (by decide +kernel) (List.all_eq_true.mp (by decide +kernel))
/- PepperTablesModel.numeral@1g.0.999 -/
def ee_k265 : ee_ct := (245, [.ref 0, .int 0, .int 999], ee_xw115, ee_xi97, [([.int 0], ee_xw116, ee_xi98), ([.retAddr 34], ee_xw117, ee_xi102)], 2)
def ee_u265 : List ee_cu := []
set_option maxRecDepth 1000000 in
theorem ee_k265.ok : ee_Ct ee_mt ee_k265 := ee_cert (Γ := [ee_k261]) (K := [(245, 66, [0])]) (S := []) (f := 5000) (N := ee_me245) (cuts := ee_u265) ee_Tbok (ee_gcons ee_k261.ok ee_gnil) rfl (by decide +kernel) (by decide +kernel) (List.all_eq_true.mp (by decide +kernel))
def ee_xq193 : ee_cell := .inl (9, [.ref 1, .ref 2, .retAddr 1, .retAddr 2, .int 0, .retAddr 3, .retAddr 4, .retAddr 5, .retAddr 6, .retAddr 7, .double 0, .ref 3, .ref 4, .ref 5, .ref 6, .ref 7, .ref 8, .ref 9, .ref 10, .ref 11, .ref 12, .ref 13, .ref 14, .ref 15, .ref 16, .ref 17, .ref 18, .ref 19, .ref 20, .ref 21, .ref 22, .ref 23, .ref 24, .int 0, .int 1, .retAddr 8, .retAddr 9, .retAddr 10, .retAddr 11, .retAddr 12, .retAddr 13, .retAddr 14, .ref 25, .retAddr 15, .retAddr 16, .ref 26, .retAddr 17, .retAddr 18, .ref 27, .ref 28, .retAddr 19, .ref 29, .ref 30, .ref 31, .ref 32, .ref 33, .ref 34, .ref 35, .ref 36, .ref 37, .retAddr 20, .retAddr 21, .retAddr 22, .ref 38, .ref 39])
def ee_xw118 : ee_w := [ee_xq193, ee_xq1, ee_xq2, ee_xq63, ee_xq64, ee_xq65, ee_xq6, ee_xq7, ee_xq8, ee_xq66, ee_xq10, ee_xq11, ee_xq12, ee_xq12, ee_xq13, ee_xq67, ee_xq14, ee_xq16, ee_xq17, ee_xq18, ee_xq183, ee_xq20, ee_xq21, ee_xq21, ee_xq22, ee_xq23, ee_xq24, ee_xq23, ee_xq26, ee_xq27, ee_xq28, ee_xq29, ee_xq30, ee_xq30, ee_xq30, ee_xq30, ee_xq10, ee_xq31, ee_xq32, ee_xq33]
def ee_xq194 : ee_cell := .inl (9, [.ref 1, .ref 2, .retAddr 1, .retAddr 2, .retAddr 35, .retAddr 4, .retAddr 4, .retAddr 5, .retAddr 6, .retAddr 7, .double 0, .ref 3, .ref 4, .ref 5, .ref 6, .ref 7, .ref 8, .ref 9, .ref 10, .ref 11, .ref 12, .ref 13, .ref 14, .ref 15, .ref 16, .ref 17, .ref 18, .ref 19, .ref 20, .ref 21, .ref 22, .ref 23, .ref 24, .int 0, .int 1, .retAddr 8, .retAddr 9, .retAddr 10, .retAddr 11, .retAddr 12, .retAddr 13, .retAddr 14, .ref 25, .retAddr 15, .retAddr 16, .ref 26, .retAddr 17, .retAddr 18, .ref 27, .ref 28, .retAddr 19, .ref 29, .ref 30, .ref 31, .ref 32, .ref 33, .ref 34, .ref 35, .ref 36, .ref 37, .retAddr 20, .retAddr 21, .retAddr 22, .ref 38, .ref 39])
def ee_xw119 : ee_w := [ee_xq194, ee_xq1, ee_xq2, ee_xq63, ee_xq64, ee_xq65, ee_xq6, ee_xq7, ee_xq8, ee_xq66, ee_xq10, ee_xq11, ee_xq12, ee_xq12, ee_xq13, ee_xq67, ee_xq14, ee_xq16, ee_xq17, ee_xq18, ee_xq183, ee_xq20, ee_xq21, ee_xq21, ee_xq22, ee_xq23, ee_xq24, ee_xq23, ee_xq26, ee_xq27, ee_xq28, ee_xq29, ee_xq30, ee_xq30, ee_xq30, ee_xq30, ee_xq10, ee_xq31, ee_xq32, ee_xq33]
def ee_xq195 : ee_cell := .inl (9, [.ref 1, .ref 2, .retAddr 1, .retAddr 2, .int 0, .retAddr 3, .retAddr 35, .retAddr 36, .retAddr 37, .retAddr 38, .double 0, .ref 3, .ref 4, .ref 5, .ref 6, .ref 7, .ref 8, .ref 9, .ref 10, .ref 11, .ref 12, .ref 13, .ref 14, .ref 15, .ref 16, .ref 17, .ref 18, .ref 19, .ref 20, .ref 21, .ref 22, .ref 23, .ref 24, .int 0, .int 1, .retAddr 8, .retAddr 9, .retAddr 10, .retAddr 11, .retAddr 12, .retAddr 13, .retAddr 14, .ref 25, .retAddr 15, .retAddr 16, .ref 26, .retAddr 17, .retAddr 18, .ref 27, .ref 28, .retAddr 19, .ref 29, .ref 30, .ref 31, .ref 32, .ref 33, .ref 34, .ref 35, .ref 36, .ref 37, .retAddr 20, .retAddr 21, .retAddr 22, .ref 38, .ref 39])
def ee_xw120 : ee_w := [ee_xq195, ee_xq1, ee_xq2, ee_xq63, ee_xq64, ee_xq65, ee_xq6, ee_xq7, ee_xq8, ee_xq66, ee_xq10, ee_xq11, ee_xq12, ee_xq12, ee_xq13, ee_xq67, ee_xq14, ee_xq16, ee_xq17, ee_xq18, ee_xq183, ee_xq20, ee_xq21, ee_xq21, ee_xq22, ee_xq23, ee_xq24, ee_xq23, ee_xq26, ee_xq27, ee_xq28, ee_xq29, ee_xq30, ee_xq30, ee_xq30, ee_xq30, ee_xq10, ee_xq31, ee_xq32, ee_xq33]
/- PepperTablesModel.must@1g -/
def ee_k266 : ee_ct := (241, [.ref 0, .retAddr 0], ee_xw118, ee_xi103, [([], ee_xw119, ee_xi104), ([], ee_xw120, ee_xi105)], 2)
def ee_u266 : List ee_cu := []
set_option maxRecDepth 1000000 in
theorem ee_k266.ok : ee_Ct ee_mt ee_k266 := ee_cert (Γ := [ee_k261]) (K := [(241, 13, [0])]) (S := []) (f := 5000) (N := ee_me241) (cuts := ee_u266) ee_Tbok (ee_gcons ee_k261.ok ee_gnil) rfl (by decide +kernel) (by decide +kernel) (List.all_eq_true.mp (by decide +kernel))
def ee_xq196 : ee_cell := .inr (4, 1120, 0, [], [(0, .int 0), (1, .int 0), (2, .retAddr 31), (3, .retAddr 33), (4, .retAddr 29), (5, .retAddr 32), (6, .retAddr 34), (7, .retAddr 30)])
def ee_xw121 : ee_w := [ee_xq182, ee_xq1, ee_xq2, ee_xq63, ee_xq64, ee_xq65, ee_xq6, ee_xq7, ee_xq8, ee_xq66, ee_xq10, ee_xq11, ee_xq12, ee_xq12, ee_xq13, ee_xq67, ee_xq14, ee_xq16, ee_xq17, ee_xq18, ee_xq196, ee_xq20, ee_xq21, ee_xq21, ee_xq22, ee_xq23, ee_xq24, ee_xq23, ee_xq26, ee_xq27, ee_xq28, ee_xq29, ee_xq30, ee_xq30, ee_xq30, ee_xq30, ee_xq10, ee_xq31, ee_xq32, ee_xq33]
/- PepperTablesModel.numeral@1b.0.9 -/
def ee_k267 : ee_ct := (245, [.ref 0, .int 0, .int 9], ee_xw121, ee_xi106, [([.int 0], ee_xw121, ee_xi106)], 1)
def ee_u267 : List ee_cu := []
set_option maxRecDepth 1000000 in
theorem ee_k267.ok : ee_Ct ee_mt ee_k267 := ee_cert (Γ := []) (K := []) (S := []) (f := 5000) (N := ee_me245) (cuts := ee_u267) ee_Tbok ee_gnil rfl (by decide +kernel) (by decide +kernel) (List.all_eq_true.mp (by decide +kernel))
/- PepperTablesModel.numeral@1b.1.9 -/
def ee_k268 : ee_ct := (245, [.ref 0, .int 1, .int 9], ee_xw121, ee_xi106, [([.int 1], ee_xw121, ee_xi106)], 1)
def ee_u268 : List ee_cu := []
set_option maxRecDepth 1000000 in
theorem ee_k268.ok : ee_Ct ee_mt ee_k268 := ee_cert (Γ := []) (K := []) (S := []) (f := 5000) (N := ee_me245) (cuts := ee_u268) ee_Tbok ee_gnil rfl (by decide +kernel) (by decide +kernel) (List.all_eq_true.mp (by decide +kernel))
/- PepperTablesModel.numeral@1b.0.100 -/
def ee_k269 : ee_ct := (245, [.ref 0, .int 0, .int 100], ee_xw121, ee_xi106, [([.int 0], ee_xw121, ee_xi106)], 1)
def ee_u269 : List ee_cu := []
set_option maxRecDepth 1000000 in
theorem ee_k269.ok : ee_Ct ee_mt ee_k269 := ee_cert (Γ := []) (K := []) (S := []) (f := 5000) (N := ee_me245) (cuts := ee_u269) ee_Tbok ee_gnil rfl (by decide +kernel) (by decide +kernel) (List.all_eq_true.mp (by decide +kernel))
/- PepperTablesModel.numeral@1b.0.999 -/
def ee_k270 : ee_ct := (245, [.ref 0, .int 0, .int 999], ee_xw121, ee_xi106, [([.int 0], ee_xw121, ee_xi106)], 1)
def ee_u270 : List ee_cu := []
set_option maxRecDepth 1000000 in
theorem ee_k270.ok : ee_Ct ee_mt ee_k270 := ee_cert (Γ := []) (K := []) (S := []) (f := 5000) (N := ee_me245) (cuts := ee_u270) ee_Tbok ee_gnil rfl (by decide +kernel) (by decide +kernel) (List.all_eq_true.mp (by decide +kernel))
def ee_xq197 : ee_cell := .inl (9, [.ref 1, .ref 2, .retAddr 1, .retAddr 2, .retAddr 3, .retAddr 4, .retAddr 5, .retAddr 6, .retAddr 7, .retAddr 8, .double 0, .ref 3, .ref 4, .ref 5, .ref 6, .ref 7, .ref 8, .ref 9, .ref 10, .ref 11, .ref 12, .ref 13, .ref 14, .ref 15, .ref 16, .ref 17, .ref 18, .ref 19, .ref 20, .ref 21, .ref 22, .ref 23, .ref 24, .int 0, .int 1, .retAddr 9, .retAddr 10, .retAddr 11, .retAddr 12, .retAddr 13, .retAddr 14, .retAddr 15, .ref 25, .retAddr 16, .retAddr 17, .ref 26, .retAddr 18, .retAddr 19, .ref 27, .ref 28, .retAddr 20, .ref 29, .ref 30, .ref 31, .ref 32, .ref 33, .ref 34, .ref 35, .ref 36, .ref 37, .retAddr 21, .retAddr 22, .retAddr 23, .ref 38, .ref 39])
def ee_xq198 : ee_cell := .inr (4, 1120, 0, [], [(0, .int 0), (1, .int 0), (2, .retAddr 32), (3, .retAddr 34), (4, .retAddr 30), (5, .retAddr 33), (6, .retAddr 35), (7, .retAddr 31)])
def ee_xw122 : ee_w := [ee_xq197, ee_xq1, ee_xq2, ee_xq89, ee_xq90, ee_xq91, ee_xq6, ee_xq7, ee_xq8, ee_xq92, ee_xq10, ee_xq11, ee_xq12, ee_xq12, ee_xq13, ee_xq80, ee_xq39, ee_xq16, ee_xq17, ee_xq18, ee_xq198, ee_xq20, ee_xq21, ee_xq21, ee_xq22, ee_xq23, ee_xq24, ee_xq23, ee_xq26, ee_xq27, ee_xq28, ee_xq29, ee_xq30, ee_xq30, ee_xq30, ee_xq30, ee_xq10, ee_xq31, ee_xq32, ee_xq33]
/- PepperTablesModel.must@1b -/
def ee_k271 : ee_ct := (241, [.ref 0, .retAddr 0], ee_xw122, ee_xi107, [([], ee_xw122, ee_xi107)], 1)
def ee_u271 : List ee_cu := []
set_option maxRecDepth 1000000 in
theorem ee_k271.ok : ee_Ct ee_mt ee_k271 := ee_cert (Γ := []) (K := []) (S := []) (f := 5000) (N := ee_me241) (cuts := ee_u271) ee_Tbok ee_gnil rfl (by decide +kernel) (by decide +kernel) (List.all_eq_true.mp (by decide +kernel))
def ee_xq199 : ee_cell := .inl (9, [.ref 2, .ref 3, .retAddr 1, .retAddr 2, .retAddr 3, .retAddr 4, .retAddr 5, .retAddr 6, .retAddr 7, .retAddr 8, .double 0, .ref 4, .ref 5, .ref 6, .ref 7, .ref 8, .ref 9, .ref 10, .ref 11, .ref 12, .ref 13, .ref 14, .ref 15, .ref 16, .ref 17, .ref 1, .ref 18, .ref 19, .ref 20, .ref 21, .ref 22, .ref 23, .ref 24, .int 0, .int 1, .retAddr 9, .retAddr 10, .retAddr 11, .retAddr 12, .retAddr 13, .retAddr 14, .retAddr 15, .ref 25, .retAddr 16, .retAddr 17, .ref 26, .retAddr 18, .retAddr 19, .ref 27, .ref 28, .retAddr 20, .ref 29, .ref 30, .ref 31, .ref 32, .ref 33, .ref 34, .ref 35, .ref 36, .ref 37, .retAddr 21, .retAddr 22, .retAddr 23, .ref 38, .ref 39])
def ee_xq200 : ee_cell := .inr (4, 1120, 0, [], [(0, .int 0), (1, .int 1), (2, .retAddr 32), (3, .retAddr 34), (4, .retAddr 30), (5, .retAddr 33), (6, .retAddr 35), (7, .retAddr 31)])
def ee_xw123 : ee_w := [ee_xq199, ee_xq16, ee_xq1, ee_xq2, ee_xq89, ee_xq90, ee_xq91, ee_xq6, ee_xq7, ee_xq8, ee_xq92, ee_xq10, ee_xq11, ee_xq12, ee_xq12, ee_xq13, ee_xq80, ee_xq39, ee_xq17, ee_xq18, ee_xq200, ee_xq20, ee_xq21, ee_xq21, ee_xq22, ee_xq23, ee_xq24, ee_xq23, ee_xq26, ee_xq27, ee_xq28, ee_xq29, ee_xq30, ee_xq30, ee_xq30, ee_xq30, ee_xq10, ee_xq31, ee_xq32, ee_xq33]
/- PepperTablesModel.here@1pName1 -/
def ee_k272 : ee_ct := (199, [.ref 0, .ref 1, .int 6, .retAddr 0], ee_xw123, ee_xi108, [([.retAddr 36], ee_xw123, ee_xi109)], 0)
def ee_u272 : List ee_cu := [(3, [(0, .ref 0), (1, .ref 1), (2, .int 6), (3, .retAddr 0), (4, .retAddr 36)], [], ee_xw123, ee_xi110, 16, [((-2), 36)])]
set_option maxRecDepth 1000000 in
theorem ee_k272.ok : ee_Ct ee_mt ee_k272 := ee_cert (Γ := []) (K := []) (S := []) (f := 5000) (N := ee_me199) (cuts := ee_u272) ee_Tbok ee_gnil rfl (by decide +kernel) (by decide +kernel) (List.all_eq_true.mp (by decide +kernel))
def ee_xw124 : ee_w := [ee_xq199, ee_xq16, ee_xq1, ee_xq2, ee_xq89, ee_xq90, ee_xq91, ee_xq6, ee_xq7, ee_xq8, ee_xq92, ee_xq10, ee_xq11, ee_xq12, ee_xq12, ee_xq13, ee_xq80, ee_xq39, ee_xq17, ee_xq18, ee_xq198, ee_xq20, ee_xq21, ee_xq21, ee_xq22, ee_xq23, ee_xq24, ee_xq23, ee_xq26, ee_xq27, ee_xq28, ee_xq29, ee_xq30, ee_xq30, ee_xq30, ee_xq30, ee_xq10, ee_xq31, ee_xq32, ee_xq33]
/- PepperTablesModel.here@1pName0 -/
def ee_k273 : ee_ct := (199, [.ref 0, .ref 1, .int 6, .retAddr 0], ee_xw124, ee_xi108, [([.retAddr 36], ee_xw124, ee_xi109)], 0)
def ee_u273 : List ee_cu := [(3, [(0, .ref 0), (1, .ref 1), (2, .int 6), (3, .retAddr 0), (4, .retAddr 36)], [], ee_xw124, ee_xi110, 16, [((-2), 36)])]
set_option maxRecDepth 1000000 in
theorem ee_k273.ok : ee_Ct ee_mt ee_k273 := ee_cert (Γ := []) (K := []) (S := []) (f := 5000) (N := ee_me199) (cuts := ee_u273) ee_Tbok ee_gnil rfl (by decide +kernel) (by decide +kernel) (List.all_eq_true.mp (by decide +kernel))
def ee_xq201 : ee_cell := .inl (9, [.ref 2, .ref 3, .retAddr 1, .retAddr 2, .retAddr 3, .retAddr 4, .retAddr 5, .retAddr 6, .retAddr 7, .retAddr 8, .double 0, .ref 4, .ref 5, .ref 6, .ref 7, .ref 8, .ref 9, .ref 10, .ref 11, .ref 12, .ref 13, .ref 14, .ref 15, .ref 16, .ref 17, .ref 18, .ref 1, .ref 19, .ref 20, .ref 21, .ref 22, .ref 23, .ref 24, .int 0, .int 1, .retAddr 9, .retAddr 10, .retAddr 11, .retAddr 12, .retAddr 13, .retAddr 14, .retAddr 15, .ref 25, .retAddr 16, .retAddr 17, .ref 26, .retAddr 18, .retAddr 19, .ref 27, .ref 28, .retAddr 20, .ref 29, .ref 30, .ref 31, .ref 32, .ref 33, .ref 34, .ref 35, .ref 36, .ref 37, .retAddr 21, .retAddr 22, .retAddr 23, .ref 38, .ref 39])
def ee_xw125 : ee_w := [ee_xq201, ee_xq17, ee_xq1, ee_xq2, ee_xq89, ee_xq90, ee_xq91, ee_xq6, ee_xq7, ee_xq8, ee_xq92, ee_xq10, ee_xq11, ee_xq12, ee_xq12, ee_xq13, ee_xq80, ee_xq39, ee_xq16, ee_xq18, ee_xq200, ee_xq20, ee_xq21, ee_xq21, ee_xq22, ee_xq23, ee_xq24, ee_xq23, ee_xq26, ee_xq27, ee_xq28, ee_xq29, ee_xq30, ee_xq30, ee_xq30, ee_xq30, ee_xq10, ee_xq31, ee_xq32, ee_xq33]
/- PepperTablesModel.here@1sName1 -/
def ee_k274 : ee_ct := (199, [.ref 0, .ref 1, .int 5, .retAddr 0], ee_xw125, ee_xi111, [([.retAddr 36], ee_xw125, ee_xi112)], 0)
def ee_u274 : List ee_cu := [(3, [(0, .ref 0), (1, .ref 1), (2, .int 5), (3, .retAddr 0), (4, .retAddr 36)], [], ee_xw125, ee_xi113, 14, [((-2), 36)])]
set_option maxRecDepth 1000000 in
theorem ee_k274.ok : ee_Ct ee_mt ee_k274 := ee_cert (Γ := []) (K := []) (S := []) (f := 5000) (N := ee_me199) (cuts := ee_u274) ee_Tbok ee_gnil rfl (by decide +kernel) (by decide +kernel) (List.all_eq_true.mp (by decide +kernel))
def ee_xw126 : ee_w := [ee_xq201, ee_xq17, ee_xq1, ee_xq2, ee_xq89, ee_xq90, ee_xq91, ee_xq6, ee_xq7, ee_xq8, ee_xq92, ee_xq10, ee_xq11, ee_xq12, ee_xq12, ee_xq13, ee_xq80, ee_xq39, ee_xq16, ee_xq18, ee_xq198, ee_xq20, ee_xq21, ee_xq21, ee_xq22, ee_xq23, ee_xq24, ee_xq23, ee_xq26, ee_xq27, ee_xq28, ee_xq29, ee_xq30, ee_xq30, ee_xq30, ee_xq30, ee_xq10, ee_xq31, ee_xq32, ee_xq33]
/- PepperTablesModel.here@1sName0 -/
def ee_k275 : ee_ct := (199, [.ref 0, .ref 1, .int 5, .retAddr 0], ee_xw126, ee_xi111, [([.retAddr 36], ee_xw126, ee_xi112)], 0)
def ee_u275 : List ee_cu := [(3, [(0, .ref 0), (1, .ref 1), (2, .int 5), (3, .retAddr 0), (4, .retAddr 36)], [], ee_xw126, ee_xi113, 14, [((-2), 36)])]
set_option maxRecDepth 1000000 in
theorem ee_k275.ok : ee_Ct ee_mt ee_k275 := ee_cert (Γ := []) (K := []) (S := []) (f := 5000) (N := ee_me199) (cuts := ee_u275) ee_Tbok ee_gnil rfl (by decide +kernel) (by decide +kernel) (List.all_eq_true.mp (by decide +kernel))
def ee_xq202 : ee_cell := .inl (9, [.ref 2, .ref 3, .retAddr 1, .retAddr 2, .retAddr 3, .retAddr 4, .retAddr 5, .retAddr 6, .retAddr 7, .retAddr 8, .double 0, .ref 4, .ref 5, .ref 6, .ref 7, .ref 8, .ref 9, .ref 10, .ref 11, .ref 12, .ref 13, .ref 14, .ref 15, .ref 16, .ref 17, .ref 18, .ref 19, .ref 1, .ref 20, .ref 21, .ref 22, .ref 23, .ref 24, .int 0, .int 1, .retAddr 9, .retAddr 10, .retAddr 11, .retAddr 12, .retAddr 13, .retAddr 14, .retAddr 15, .ref 25, .retAddr 16, .retAddr 17, .ref 26, .retAddr 18, .retAddr 19, .ref 27, .ref 28, .retAddr 20, .ref 29, .ref 30, .ref 31, .ref 32, .ref 33, .ref 34, .ref 35, .ref 36, .ref 37, .retAddr 21, .retAddr 22, .retAddr 23, .ref 38, .ref 39])
def ee_xw127 : ee_w := [ee_xq202, ee_xq18, ee_xq1, ee_xq2, ee_xq89, ee_xq90, ee_xq91, ee_xq6, ee_xq7, ee_xq8, ee_xq92, ee_xq10, ee_xq11, ee_xq12, ee_xq12, ee_xq13, ee_xq80, ee_xq39, ee_xq16, ee_xq17, ee_xq200, ee_xq20, ee_xq21, ee_xq21, ee_xq22, ee_xq23, ee_xq24, ee_xq23, ee_xq26, ee_xq27, ee_xq28, ee_xq29, ee_xq30, ee_xq30, ee_xq30, ee_xq30, ee_xq10, ee_xq31, ee_xq32, ee_xq33]
/- PepperTablesModel.here@1tName1 -/
def ee_k276 : ee_ct := (199, [.ref 0, .ref 1, .int 10, .retAddr 0], ee_xw127, ee_xi114, [([.retAddr 36], ee_xw127, ee_xi115)], 0)
def ee_u276 : List ee_cu := [(3, [(0, .ref 0), (1, .ref 1), (2, .int 10), (3, .retAddr 0), (4, .retAddr 36)], [], ee_xw127, ee_xi116, 24, [((-2), 36)])]
set_option maxRecDepth 1000000 in
theorem ee_k276.ok : ee_Ct ee_mt ee_k276 := ee_cert (Γ := []) (K := []) (S := []) (f := 5000) (N := ee_me199) (cuts := ee_u276) ee_Tbok ee_gnil rfl (by decide +kernel) (by decide +kernel) (List.all_eq_true.mp (by decide +kernel))
def ee_xw128 : ee_w := [ee_xq202, ee_xq18, ee_xq1, ee_xq2, ee_xq89, ee_xq90, ee_xq91, ee_xq6, ee_xq7, ee_xq8, ee_xq92, ee_xq10, ee_xq11, ee_xq12, ee_xq12, ee_xq13, ee_xq80, ee_xq39, ee_xq16, ee_xq17, ee_xq198, ee_xq20, ee_xq21, ee_xq21, ee_xq22, ee_xq23, ee_xq24, ee_xq23, ee_xq26, ee_xq27, ee_xq28, ee_xq29, ee_xq30, ee_xq30, ee_xq30, ee_xq30, ee_xq10, ee_xq31, ee_xq32, ee_xq33]
/- PepperTablesModel.here@1tName0 -/
def ee_k277 : ee_ct := (199, [.ref 0, .ref 1, .int 10, .retAddr 0], ee_xw128, ee_xi114, [([.retAddr 36], ee_xw128, ee_xi115)], 0)
def ee_u277 : List ee_cu := [(3, [(0, .ref 0), (1, .ref 1), (2, .int 10), (3, .retAddr 0), (4, .retAddr 36)], [], ee_xw128, ee_xi116, 24, [((-2), 36)])]
set_option maxRecDepth 1000000 in
theorem ee_k277.ok : ee_Ct ee_mt ee_k277 := ee_cert (Γ := []) (K := []) (S := []) (f := 5000) (N := ee_me199) (cuts := ee_u277) ee_Tbok ee_gnil rfl (by decide +kernel) (by decide +kernel) (List.all_eq_true.mp (by decide +kernel))
/- PepperTablesModel.fresh@1g -/
def ee_k278 : ee_ct := (191, [.ref 0, .retAddr 0], ee_xw118, ee_xi117, [([.double 0], ee_xw119, ee_xi118), ([.double 0], ee_xw120, ee_xi119)], 2)
def ee_u278 : List ee_cu := []
set_option maxRecDepth 1000000 in
theorem ee_k278.ok : ee_Ct ee_mt ee_k278 := ee_cert (Γ := [ee_k261]) (K := [(191, 50, [0])]) (S := []) (f := 5000) (N := ee_me191) (cuts := ee_u278) ee_Tbok (ee_gcons ee_k261.ok ee_gnil) rfl (by decide +kernel) (by decide +kernel) (List.all_eq_true.mp (by decide +kernel))
def ee_xq203 : ee_cell := .inl (9, [.ref 1, .ref 2, .retAddr 1, .retAddr 2, .retAddr 36, .retAddr 4, .retAddr 4, .retAddr 5, .retAddr 6, .retAddr 7, .double 0, .ref 3, .ref 4, .ref 5, .ref 6, .ref 7, .ref 8, .ref 9, .ref 10, .ref 11, .ref 12, .ref 13, .ref 14, .ref 15, .ref 16, .ref 17, .ref 18, .ref 19, .ref 20, .ref 21, .ref 22, .ref 23, .ref 24, .int 0, .int 1, .retAddr 8, .retAddr 9, .retAddr 10, .retAddr 11, .retAddr 12, .retAddr 13, .retAddr 14, .ref 25, .retAddr 15, .retAddr 16, .ref 26, .retAddr 17, .retAddr 18, .ref 27, .ref 28, .retAddr 19, .ref 29, .ref 30, .ref 31, .ref 32, .ref 33, .ref 34, .ref 35, .ref 36, .ref 37, .retAddr 20, .retAddr 21, .retAddr 22, .ref 38, .ref 39])
def ee_xw129 : ee_w := [ee_xq203, ee_xq1, ee_xq2, ee_xq63, ee_xq64, ee_xq65, ee_xq6, ee_xq7, ee_xq8, ee_xq66, ee_xq10, ee_xq11, ee_xq12, ee_xq12, ee_xq13, ee_xq67, ee_xq14, ee_xq16, ee_xq17, ee_xq18, ee_xq183, ee_xq20, ee_xq21, ee_xq21, ee_xq22, ee_xq23, ee_xq24, ee_xq23, ee_xq26, ee_xq27, ee_xq28, ee_xq29, ee_xq30, ee_xq30, ee_xq30, ee_xq30, ee_xq10, ee_xq31, ee_xq32, ee_xq33]
def ee_xq204 : ee_cell := .inl (9, [.ref 1, .ref 2, .retAddr 1, .retAddr 2, .int 0, .retAddr 3, .retAddr 36, .retAddr 37, .retAddr 38, .retAddr 39, .double 0, .ref 3, .ref 4, .ref 5, .ref 6, .ref 7, .ref 8, .ref 9, .ref 10, .ref 11, .ref 12, .ref 13, .ref 14, .ref 15, .ref 16, .ref 17, .ref 18, .ref 19, .ref 20, .ref 21, .ref 22, .ref 23, .ref 24, .int 0, .int 1, .retAddr 8, .retAddr 9, .retAddr 10, .retAddr 11, .retAddr 12, .retAddr 13, .retAddr 14, .ref 25, .retAddr 15, .retAddr 16, .ref 26, .retAddr 17, .retAddr 18, .ref 27, .ref 28, .retAddr 19, .ref 29, .ref 30, .ref 31, .ref 32, .ref 33, .ref 34, .ref 35, .ref 36, .ref 37, .retAddr 20, .retAddr 21, .retAddr 22, .ref 38, .ref 39])
def ee_xw130 : ee_w := [ee_xq204, ee_xq1, ee_xq2, ee_xq63, ee_xq64, ee_xq65, ee_xq6, ee_xq7, ee_xq8, ee_xq66, ee_xq10, ee_xq11, ee_xq12, ee_xq12, ee_xq13, ee_xq67, ee_xq14, ee_xq16, ee_xq17, ee_xq18, ee_xq183, ee_xq20, ee_xq21, ee_xq21, ee_xq22, ee_xq23, ee_xq24, ee_xq23, ee_xq26, ee_xq27, ee_xq28, ee_xq29, ee_xq30, ee_xq30, ee_xq30, ee_xq30, ee_xq10, ee_xq31, ee_xq32, ee_xq33]
/- PepperTablesModel.known@1gs -/
def ee_k279 : ee_ct := (230, [.ref 0, .retAddr 0], ee_xw118, ee_xi120, [([.retAddr 35], ee_xw129, ee_xi121), ([.retAddr 35], ee_xw130, ee_xi122)], 2)
def ee_u279 : List ee_cu := []
set_option maxRecDepth 1000000 in
theorem ee_k279.ok : ee_Ct ee_mt ee_k279 := ee_cert (Γ := [ee_k261]) (K := [(230, 41, [0])]) (S := []) (f := 5000) (N := ee_me230) (cuts := ee_u279) ee_Tbok (ee_gcons ee_k261.ok ee_gnil) rfl (by decide +kernel) (by decide +kernel) (List.all_eq_true.mp (by decide +kernel))
/- PepperTablesModel.known@1gp -/
def ee_k280 : ee_ct := (230, [.ref 0, .retAddr 0], ee_xw118, ee_xi123, [([.retAddr 35], ee_xw129, ee_xi124), ([.retAddr 35], ee_xw130, ee_xi125)], 2)
def ee_u280 : List ee_cu := []
set_option maxRecDepth 1000000 in
theorem ee_k280.ok : ee_Ct ee_mt ee_k280 := ee_cert (Γ := [ee_k261]) (K := [(230, 41, [0])]) (S := []) (f := 5000) (N := ee_me230) (cuts := ee_u280) ee_Tbok (ee_gcons ee_k261.ok ee_gnil) rfl (by decide +kernel) (by decide +kernel) (List.all_eq_true.mp (by decide +kernel))
/- PepperTablesModel.fresh@1b -/
def ee_k281 : ee_ct := (191, [.ref 0, .retAddr 0], ee_xw122, ee_xi126, [([.double 0], ee_xw122, ee_xi126)], 1)
def ee_u281 : List ee_cu := []
set_option maxRecDepth 1000000 in
theorem ee_k281.ok : ee_Ct ee_mt ee_k281 := ee_cert (Γ := []) (K := []) (S := []) (f := 5000) (N := ee_me191) (cuts := ee_u281) ee_Tbok ee_gnil rfl (by decide +kernel) (by decide +kernel) (List.all_eq_true.mp (by decide +kernel))
