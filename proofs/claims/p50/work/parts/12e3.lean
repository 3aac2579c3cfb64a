def ee_q189 : ee_cell := .inl (9, [.ref 1, .ref 2, .retAddr 0, .retAddr 1, .int 0, .retAddr 2, .retAddr 3, .retAddr 4, .retAddr 5, .retAddr 6, .double 0, .ref 3, .ref 4, .ref 5, .ref 6, .ref 7, .ref 8, .ref 9, .ref 10, .ref 11, .ref 12, .ref 13, .ref 14, .ref 15, .ref 16, .ref 17, .ref 18, .ref 19, .ref 20, .ref 21, .ref 22, .ref 23, .ref 24, .int 0, .int 1, .retAddr 7, .retAddr 8, .retAddr 9, .retAddr 10, .retAddr 11, .retAddr 12, .retAddr 13, .ref 25, .retAddr 14, .retAddr 15, .ref 26, .retAddr 16, .retAddr 17, .ref 27, .ref 28, .retAddr 18, .ref 29, .ref 30, .ref 31, .ref 32, .ref 33, .ref 34, .ref 35, .ref 36, .ref 37, .retAddr 19, .retAddr 20, .retAddr 21, .ref 38, .ref 39])
def ee_q190 : ee_cell := .inr (4, 1120, 0, [], [(0, .int 0), (1, .int 1), (2, .retAddr 30), (3, .retAddr 32), (4, .retAddr 28), (5, .retAddr 31), (6, .retAddr 33), (7, .retAddr 29)])
def ee_z115 : ee_w := [ee_q189, ee_q1, ee_q2, ee_q75, ee_q76, ee_q77, ee_q6, ee_q7, ee_q8, ee_q78, ee_q10, ee_q11, ee_q12, ee_q12, ee_q13, ee_q79, ee_q80, ee_q16, ee_q17, ee_q18, ee_q190, ee_q20, ee_q21, ee_q21, ee_q22, ee_q23, ee_q24, ee_q23, ee_q26, ee_q27, ee_q28, ee_q29, ee_q30, ee_q30, ee_q30, ee_q30, ee_q10, ee_q31, ee_q32, ee_q33]
def ee_q191 : ee_cell := .inl (9, [.ref 1, .ref 2, .retAddr 0, .retAddr 1, .retAddr 34, .retAddr 3, .retAddr 3, .retAddr 4, .retAddr 5, .retAddr 6, .double 0, .ref 3, .ref 4, .ref 5, .ref 6, .ref 7, .ref 8, .ref 9, .ref 10, .ref 11, .ref 12, .ref 13, .ref 14, .ref 15, .ref 16, .ref 17, .ref 18, .ref 19, .ref 20, .ref 21, .ref 22, .ref 23, .ref 24, .int 0, .int 1, .retAddr 7, .retAddr 8, .retAddr 9, .retAddr 10, .retAddr 11, .retAddr 12, .retAddr 13, .ref 25, .retAddr 14, .retAddr 15, .ref 26, .retAddr 16, .retAddr 17, .ref 27, .ref 28, .retAddr 18, .ref 29, .ref 30, .ref 31, .ref 32, .ref 33, .ref 34, .ref 35, .ref 36, .ref 37, .retAddr 19, .retAddr 20, .retAddr 21, .ref 38, .ref 39])
def ee_z116 : ee_w := [ee_q191, ee_q1, ee_q2, ee_q75, ee_q76, ee_q77, ee_q6, ee_q7, ee_q8, ee_q78, ee_q10, ee_q11, ee_q12, ee_q12, ee_q13, ee_q79, ee_q80, ee_q16, ee_q17, ee_q18, ee_q190, ee_q20, ee_q21, ee_q21, ee_q22, ee_q23, ee_q24, ee_q23, ee_q26, ee_q27, ee_q28, ee_q29, ee_q30, ee_q30, ee_q30, ee_q30, ee_q10, ee_q31, ee_q32, ee_q33]
def ee_q192 : ee_cell := .inl (9, [.ref 1, .ref 2, .retAddr 0, .retAddr 1, .int 0, .retAddr 2, .retAddr 35, .retAddr 36, .retAddr 37, .retAddr 38, .double 0, .ref 3, .ref 4, .ref 5, .ref 6, .ref 7, .ref 8, .ref 9, .ref 10, .ref 11, .ref 12, .ref 13, .ref 14, .ref 15, .ref 16, .ref 17, .ref 18, .ref 19, .ref 20, .ref 21, .ref 22, .ref 23, .ref 24, .int 0, .int 1, .retAddr 7, .retAddr 8, .retAddr 9, .retAddr 10, .retAddr 11, .retAddr 12, .retAddr 13, .ref 25, .retAddr 14, .retAddr 15, .ref 26, .retAddr 16, .retAddr 17, .ref 27, .ref 28, .retAddr 18, .ref 29, .ref 30, .ref 31, .ref 32, .ref 33, .ref 34, .ref 35, .ref 36, .ref 37, .retAddr 19, .retAddr 20, .retAddr 21, .ref 38, .ref 39])
def ee_z117 : ee_w := [ee_q192, ee_q1, ee_q2, ee_q75, ee_q76, ee_q77, ee_q6, ee_q7, ee_q8, ee_q78, ee_q10, ee_q11, ee_q12, ee_q12, ee_q13, ee_q79, ee_q80, ee_q16, ee_q17, ee_q18, ee_q190, ee_q20, ee_q21, ee_q21, ee_q22, ee_q23, ee_q24, ee_q23, ee_q26, ee_q27, ee_q28, ee_q29, ee_q30, ee_q30, ee_q30, ee_q30, ee_q10, ee_q31, ee_q32, ee_q33]
/- PepperTablesModel.numeral@1g.0.9 -/
def ee_k262 : ee_ct := (245, [.ref 0, .int 0, .int 9], ee_z115, ee_i97, [([.int 0], ee_z116, ee_i98), ([.retAddr 34], ee_z117, ee_i99)], 2)
def ee_u262 : List ee_cu := []
set_option maxRecDepth 1000000 in
theorem ee_k262.ok : ee_Ct ee_mt ee_k262 := ee_cert (Γ := [ee_k261]) (K := [(245, 66, [0])]) (S := []) (f := 5000) (N := ee_me245) (cuts := ee_u262) ee_Tbok (ee_gcons ee_k261.ok ee_gnil) rfl (by decide +kernel) (by decide +kernel) (List.all_eq_true.mp (by decide +kernel))
/- PepperTablesModel.numeral@1g.1.9 -/
def ee_k263 : ee_ct := (245, [.ref 0, .int 1, .int 9], ee_z115, ee_i97, [([.int 1], ee_z116, ee_i98), ([.retAddr 34], ee_z117, ee_i100)], 2)
def ee_u263 : List ee_cu := []
set_option maxRecDepth 1000000 in
theorem ee_k263.ok : ee_Ct ee_mt ee_k263 := ee_cert (Γ := [ee_k261]) (K := [(245, 66, [0])]) (S := []) (f := 5000) (N := ee_me245) (cuts := ee_u263) ee_Tbok (ee_gcons ee_k261.ok ee_gnil) rfl (by decide +kernel) (by decide +kernel) (List.all_eq_true.mp (by decide +kernel))
/- PepperTablesModel.numeral@1g.0.100 -/
def ee_k264 : ee_ct := (245, [.ref 0, .int 0, .int 100], ee_z115, ee_i97, [([.int 0], ee_z116, ee_i98), ([.retAddr 34], ee_z117, ee_i101)], 2)
def ee_u264 : List ee_cu := []
set_option maxRecDepth 1000000 in
theorem ee_k264.ok : ee_Ct ee_mt ee_k264 := ee_cert (Γ := [ee_k261]) (K := [(245, 66, [0])]) (S := []) (f := 5000) (N := ee_me245) (cuts := ee_u264) ee_Tbok (ee_gcons ee_k261.ok ee_gnil) rfl (by decide +kernel) (by decide +kernel) (List.all_eq_true.mp (by decide +kernel))
/- PepperTablesModel.numeral@1g.0.999 -/
def ee_k265 : ee_ct := (245, [.ref 0, .int 0, .int 999], ee_z115, ee_i97, [([.int 0], ee_z116, ee_i98), ([.retAddr 34], ee_z117, ee_i102)], 2)
def ee_u265 : List ee_cu := []
set_option maxRecDepth 1000000 in
theorem ee_k265.ok : ee_Ct ee_mt ee_k265 := ee_cert (Γ := [ee_k261]) (K := [(245, 66, [0])]) (S := []) (f := 5000) (N := ee_me245) (cuts := ee_u265) ee_Tbok (ee_gcons ee_k261.ok ee_gnil) rfl (by decide +kernel) (by decide +kernel) (List.all_eq_true.mp (by decide +kernel))
def ee_q193 : ee_cell := .inl (9, [.ref 1, .ref 2, .retAddr 1, .retAddr 2, .int 0, .retAddr 3, .retAddr 4, .retAddr 5, .retAddr 6, .retAddr 7, .double 0, .ref 3, .ref 4, .ref 5, .ref 6, .ref 7, .ref 8, .ref 9, .ref 10, .ref 11, .ref 12, .ref 13, .ref 14, .ref 15, .ref 16, .ref 17, .ref 18, .ref 19, .ref 20, .ref 21, .ref 22, .ref 23, .ref 24, .int 0, .int 1, .retAddr 8, .retAddr 9, .retAddr 10, .retAddr 11, .retAddr 12, .retAddr 13, .retAddr 14, .ref 25, .retAddr 15, .retAddr 16, .ref 26, .retAddr 17, .retAddr 18, .ref 27, .ref 28, .retAddr 19, .ref 29, .ref 30, .ref 31, .ref 32, .ref 33, .ref 34, .ref 35, .ref 36, .ref 37, .retAddr 20, .retAddr 21, .retAddr 22, .ref 38, .ref 39])
def ee_z118 : ee_w := [ee_q193, ee_q1, ee_q2, ee_q63, ee_q64, ee_q65, ee_q6, ee_q7, ee_q8, ee_q66, ee_q10, ee_q11, ee_q12, ee_q12, ee_q13, ee_q67, ee_q14, ee_q16, ee_q17, ee_q18, ee_q183, ee_q20, ee_q21, ee_q21, ee_q22, ee_q23, ee_q24, ee_q23, ee_q26, ee_q27, ee_q28, ee_q29, ee_q30, ee_q30, ee_q30, ee_q30, ee_q10, ee_q31, ee_q32, ee_q33]
def ee_q194 : ee_cell := .inl (9, [.ref 1, .ref 2, .retAddr 1, .retAddr 2, .retAddr 35, .retAddr 4, .retAddr 4, .retAddr 5, .retAddr 6, .retAddr 7, .double 0, .ref 3, .ref 4, .ref 5, .ref 6, .ref 7, .ref 8, .ref 9, .ref 10, .ref 11, .ref 12, .ref 13, .ref 14, .ref 15, .ref 16, .ref 17, .ref 18, .ref 19, .ref 20, .ref 21, .ref 22, .ref 23, .ref 24, .int 0, .int 1, .retAddr 8, .retAddr 9, .retAddr 10, .retAddr 11, .retAddr 12, .retAddr 13, .retAddr 14, .ref 25, .retAddr 15, .retAddr 16, .ref 26, .retAddr 17, .retAddr 18, .ref 27, .ref 28, .retAddr 19, .ref 29, .ref 30, .ref 31, .ref 32, .ref 33, .ref 34, .ref 35, .ref 36, .ref 37, .retAddr 20, .retAddr 21, .retAddr 22, .ref 38, .ref 39])
def ee_z119 : ee_w := [ee_q194, ee_q1, ee_q2, ee_q63, ee_q64, ee_q65, ee_q6, ee_q7, ee_q8, ee_q66, ee_q10, ee_q11, ee_q12, ee_q12, ee_q13, ee_q67, ee_q14, ee_q16, ee_q17, ee_q18, ee_q183, ee_q20, ee_q21, ee_q21, ee_q22, ee_q23, ee_q24, ee_q23, ee_q26, ee_q27, ee_q28, ee_q29, ee_q30, ee_q30, ee_q30, ee_q30, ee_q10, ee_q31, ee_q32, ee_q33]
def ee_q195 : ee_cell := .inl (9, [.ref 1, .ref 2, .retAddr 1, .retAddr 2, .int 0, .retAddr 3, .retAddr 35, .retAddr 36, .retAddr 37, .retAddr 38, .double 0, .ref 3, .ref 4, .ref 5, .ref 6, .ref 7, .ref 8, .ref 9, .ref 10, .ref 11, .ref 12, .ref 13, .ref 14, .ref 15, .ref 16, .ref 17, .ref 18, .ref 19, .ref 20, .ref 21, .ref 22, .ref 23, .ref 24, .int 0, .int 1, .retAddr 8, .retAddr 9, .retAddr 10, .retAddr 11, .retAddr 12, .retAddr 13, .retAddr 14, .ref 25, .retAddr 15, .retAddr 16, .ref 26, .retAddr 17, .retAddr 18, .ref 27, .ref 28, .retAddr 19, .ref 29, .ref 30, .ref 31, .ref 32, .ref 33, .ref 34, .ref 35, .ref 36, .ref 37, .retAddr 20, .retAddr 21, .retAddr 22, .ref 38, .ref 39])
def ee_z120 : ee_w := [ee_q195, ee_q1, ee_q2, ee_q63, ee_q64, ee_q65, ee_q6, ee_q7, ee_q8, ee_q66, ee_q10, ee_q11, ee_q12, ee_q12, ee_q13, ee_q67, ee_q14, ee_q16, ee_q17, ee_q18, ee_q183, ee_q20, ee_q21, ee_q21, ee_q22, ee_q23, ee_q24, ee_q23, ee_q26, ee_q27, ee_q28, ee_q29, ee_q30, ee_q30, ee_q30, ee_q30, ee_q10, ee_q31, ee_q32, ee_q33]
/- PepperTablesModel.must@1g -/
def ee_k266 : ee_ct := (241, [.ref 0, .retAddr 0], ee_z118, ee_i103, [([], ee_z119, ee_i104), ([], ee_z120, ee_i105)], 2)
def ee_u266 : List ee_cu := []
set_option maxRecDepth 1000000 in
theorem ee_k266.ok : ee_Ct ee_mt ee_k266 := ee_cert (Γ := [ee_k261]) (K := [(241, 13, [0])]) (S := []) (f := 5000) (N := ee_me241) (cuts := ee_u266) ee_Tbok (ee_gcons ee_k261.ok ee_gnil) rfl (by decide +kernel) (by decide +kernel) (List.all_eq_true.mp (by decide +kernel))
def ee_q196 : ee_cell := .inr (4, 1120, 0, [], [(0, .int 0), (1, .int 0), (2, .retAddr 31), (3, .retAddr 33), (4, .retAddr 29), (5, .retAddr 32), (6, .retAddr 34), (7, .retAddr 30)])
def ee_z121 : ee_w := [ee_q182, ee_q1, ee_q2, ee_q63, ee_q64, ee_q65, ee_q6, ee_q7, ee_q8, ee_q66, ee_q10, ee_q11, ee_q12, ee_q12, ee_q13, ee_q67, ee_q14, ee_q16, ee_q17, ee_q18, ee_q196, ee_q20, ee_q21, ee_q21, ee_q22, ee_q23, ee_q24, ee_q23, ee_q26, ee_q27, ee_q28, ee_q29, ee_q30, ee_q30, ee_q30, ee_q30, ee_q10, ee_q31, ee_q32, ee_q33]
/- PepperTablesModel.numeral@1b.0.9 -/
def ee_k267 : ee_ct := (245, [.ref 0, .int 0, .int 9], ee_z121, ee_i106, [([.int 0], ee_z121, ee_i106)], 1)
def ee_u267 : List ee_cu := []
set_option maxRecDepth 1000000 in
theorem ee_k267.ok : ee_Ct ee_mt ee_k267 := ee_cert (Γ := []) (K := []) (S := []) (f := 5000) (N := ee_me245) (cuts := ee_u267) ee_Tbok ee_gnil rfl (by decide +kernel) (by decide +kernel) (List.all_eq_true.mp (by decide +kernel))
/- PepperTablesModel.numeral@1b.1.9 -/
def ee_k268 : ee_ct := (245, [.ref 0, .int 1, .int 9], ee_z121, ee_i106, [([.int 1], ee_z121, ee_i106)], 1)
def ee_u268 : List ee_cu := []
set_option maxRecDepth 1000000 in
theorem ee_k268.ok : ee_Ct ee_mt ee_k268 := ee_cert (Γ := []) (K := []) (S := []) (f := 5000) (N := ee_me245) (cuts := ee_u268) ee_Tbok ee_gnil rfl (by decide +kernel) (by decide +kernel) (List.all_eq_true.mp (by decide +kernel))
/- PepperTablesModel.numeral@1b.0.100 -/
def ee_k269 : ee_ct := (245, [.ref 0, .int 0, .int 100], ee_z121, ee_i106, [([.int 0], ee_z121, ee_i106)], 1)
def ee_u269 : List ee_cu := []
set_option maxRecDepth 1000000 in
theorem ee_k269.ok : ee_Ct ee_mt ee_k269 := ee_cert (Γ := []) (K := []) (S := []) (f := 5000) (N := ee_me245) (cuts := ee_u269) ee_Tbok ee_gnil rfl (by decide +kernel) (by decide +kernel) (List.all_eq_true.mp (by decide +kernel))
/- PepperTablesModel.numeral@1b.0.999 -/
def ee_k270 : ee_ct := (245, [.ref 0, .int 0, .int 999], ee_z121, ee_i106, [([.int 0], ee_z121, ee_i106)], 1)
def ee_u270 : List ee_cu := []
set_option maxRecDepth 1000000 in
theorem ee_k270.ok : ee_Ct ee_mt ee_k270 := ee_cert (Γ := []) (K := []) (S := []) (f := 5000) (N := ee_me245) (cuts := ee_u270) ee_Tbok ee_gnil rfl (by decide +kernel) (by decide +kernel) (List.all_eq_true.mp (by decide +kernel))
def ee_q197 : ee_cell := .inl (9, [.ref 1, .ref 2, .retAddr 1, .retAddr 2, .retAddr 3, .retAddr 4, .retAddr 5, .retAddr 6, .retAddr 7, .retAddr 8, .double 0, .ref 3, .ref 4, .ref 5, .ref 6, .ref 7, .ref 8, .ref 9, .ref 10, .ref 11, .ref 12, .ref 13, .ref 14, .ref 15, .ref 16, .ref 17, .ref 18, .ref 19, .ref 20, .ref 21, .ref 22, .ref 23, .ref 24, .int 0, .int 1, .retAddr 9, .retAddr 10, .retAddr 11, .retAddr 12, .retAddr 13, .retAddr 14, .retAddr 15, .ref 25, .retAddr 16, .retAddr 17, .ref 26, .retAddr 18, .retAddr 19, .ref 27, .ref 28, .retAddr 20, .ref 29, .ref 30, .ref 31, .ref 32, .ref 33, .ref 34, .ref 35, .ref 36, .ref 37, .retAddr 21, .retAddr 22, .retAddr 23, .ref 38, .ref 39])
def ee_q198 : ee_cell := .inr (4, 1120, 0, [], [(0, .int 0), (1, .int 0), (2, .retAddr 32), (3, .retAddr 34), (4, .retAddr 30), (5, .retAddr 33), (6, .retAddr 35), (7, .retAddr 31)])
def ee_z122 : ee_w := [ee_q197, ee_q1, ee_q2, ee_q89, ee_q90, ee_q91, ee_q6, ee_q7, ee_q8, ee_q92, ee_q10, ee_q11, ee_q12, ee_q12, ee_q13, ee_q80, ee_q39, ee_q16, ee_q17, ee_q18, ee_q198, ee_q20, ee_q21, ee_q21, ee_q22, ee_q23, ee_q24, ee_q23, ee_q26, ee_q27, ee_q28, ee_q29, ee_q30, ee_q30, ee_q30, ee_q30, ee_q10, ee_q31, ee_q32, ee_q33]
/- PepperTablesModel.must@1b -/
def ee_k271 : ee_ct := (241, [.ref 0, .retAddr 0], ee_z122, ee_i107, [([], ee_z122, ee_i107)], 1)
def ee_u271 : List ee_cu := []
set_option maxRecDepth 1000000 in
theorem ee_k271.ok : ee_Ct ee_mt ee_k271 := ee_cert (Γ := []) (K := []) (S := []) (f := 5000) (N := ee_me241) (cuts := ee_u271) ee_Tbok ee_gnil rfl (by decide +kernel) (by decide +kernel) (List.all_eq_true.mp (by decide +kernel))
def ee_q199 : ee_cell := .inl (9, [.ref 2, .ref 3, .retAddr 1, .retAddr 2, .retAddr 3, .retAddr 4, .retAddr 5, .retAddr 6, .retAddr 7, .retAddr 8, .double 0, .ref 4, .ref 5, .ref 6, .ref 7, .ref 8, .ref 9, .ref 10, .ref 11, .ref 12, .ref 13, .ref 14, .ref 15, .ref 16, .ref 17, .ref 1, .ref 18, .ref 19, .ref 20, .ref 21, .ref 22, .ref 23, .ref 24, .int 0, .int 1, .retAddr 9, .retAddr 10, .retAddr 11, .retAddr 12, .retAddr 13, .retAddr 14, .retAddr 15, .ref 25, .retAddr 16, .retAddr 17, .ref 26, .retAddr 18, .retAddr 19, .ref 27, .ref 28, .retAddr 20, .ref 29, .ref 30, .ref 31, .ref 32, .ref 33, .ref 34, .ref 35, .ref 36, .ref 37, .retAddr 21, .retAddr 22, .retAddr 23, .ref 38, .ref 39])
def ee_q200 : ee_cell := .inr (4, 1120, 0, [], [(0, .int 0), (1, .int 1), (2, .retAddr 32), (3, .retAddr 34), (4, .retAddr 30), (5, .retAddr 33), (6, .retAddr 35), (7, .retAddr 31)])
def ee_z123 : ee_w := [ee_q199, ee_q16, ee_q1, ee_q2, ee_q89, ee_q90, ee_q91, ee_q6, ee_q7, ee_q8, ee_q92, ee_q10, ee_q11, ee_q12, ee_q12, ee_q13, ee_q80, ee_q39, ee_q17, ee_q18, ee_q200, ee_q20, ee_q21, ee_q21, ee_q22, ee_q23, ee_q24, ee_q23, ee_q26, ee_q27, ee_q28, ee_q29, ee_q30, ee_q30, ee_q30, ee_q30, ee_q10, ee_q31, ee_q32, ee_q33]
/- PepperTablesModel.here@1pName1 -/
def ee_k272 : ee_ct := (199, [.ref 0, .ref 1, .int 6, .retAddr 0], ee_z123, ee_i108, [([.retAddr 36], ee_z123, ee_i109)], 0)
def ee_u272 : List ee_cu := [(3, [(0, .ref 0), (1, .ref 1), (2, .int 6), (3, .retAddr 0), (4, .retAddr 36)], [], ee_z123, ee_i110, 16, [((-2), 36)])]
set_option maxRecDepth 1000000 in
theorem ee_k272.ok : ee_Ct ee_mt ee_k272 := ee_cert (Γ := []) (K := []) (S := []) (f := 5000) (N := ee_me199) (cuts := ee_u272) ee_Tbok ee_gnil rfl (by decide +kernel) (by decide +kernel) (List.all_eq_true.mp (by decide +kernel))
def ee_z124 : ee_w := [ee_q199, ee_q16, ee_q1, ee_q2, ee_q89, ee_q90, ee_q91, ee_q6, ee_q7, ee_q8, ee_q92, ee_q10, ee_q11, ee_q12, ee_q12, ee_q13, ee_q80, ee_q39, ee_q17, ee_q18, ee_q198, ee_q20, ee_q21, ee_q21, ee_q22, ee_q23, ee_q24, ee_q23, ee_q26, ee_q27, ee_q28, ee_q29, ee_q30, ee_q30, ee_q30, ee_q30, ee_q10, ee_q31, ee_q32, ee_q33]
/- PepperTablesModel.here@1pName0 -/
def ee_k273 : ee_ct := (199, [.ref 0, .ref 1, .int 6, .retAddr 0], ee_z124, ee_i108, [([.retAddr 36], ee_z124, ee_i109)], 0)
def ee_u273 : List ee_cu := [(3, [(0, .ref 0), (1, .ref 1), (2, .int 6), (3, .retAddr 0), (4, .retAddr 36)], [], ee_z124, ee_i110, 16, [((-2), 36)])]
set_option maxRecDepth 1000000 in
theorem ee_k273.ok : ee_Ct ee_mt ee_k273 := ee_cert (Γ := []) (K := []) (S := []) (f := 5000) (N := ee_me199) (cuts := ee_u273) ee_Tbok ee_gnil rfl (by decide +kernel) (by decide +kernel) (List.all_eq_true.mp (by decide +kernel))
def ee_q201 : ee_cell := .inl (9, [.ref 2, .ref 3, .retAddr 1, .retAddr 2, .retAddr 3, .retAddr 4, .retAddr 5, .retAddr 6, .retAddr 7, .retAddr 8, .double 0, .ref 4, .ref 5, .ref 6, .ref 7, .ref 8, .ref 9, .ref 10, .ref 11, .ref 12, .ref 13, .ref 14, .ref 15, .ref 16, .ref 17, .ref 18, .ref 1, .ref 19, .ref 20, .ref 21, .ref 22, .ref 23, .ref 24, .int 0, .int 1, .retAddr 9, .retAddr 10, .retAddr 11, .retAddr 12, .retAddr 13, .retAddr 14, .retAddr 15, .ref 25, .retAddr 16, .retAddr 17, .ref 26, .retAddr 18, .retAddr 19, .ref 27, .ref 28, .retAddr 20, .ref 29, .ref 30, .ref 31, .ref 32, .ref 33, .ref 34, .ref 35, .ref 36, .ref 37, .retAddr 21, .retAddr 22, .retAddr 23, .ref 38, .ref 39])
def ee_z125 : ee_w := [ee_q201, ee_q17, ee_q1, ee_q2, ee_q89, ee_q90, ee_q91, ee_q6, ee_q7, ee_q8, ee_q92, ee_q10, ee_q11, ee_q12, ee_q12, ee_q13, ee_q80, ee_q39, ee_q16, ee_q18, ee_q200, ee_q20, ee_q21, ee_q21, ee_q22, ee_q23, ee_q24, ee_q23, ee_q26, ee_q27, ee_q28, ee_q29, ee_q30, ee_q30, ee_q30, ee_q30, ee_q10, ee_q31, ee_q32, ee_q33]
/- PepperTablesModel.here@1sName1 -/
def ee_k274 : ee_ct := (199, [.ref 0, .ref 1, .int 5, .retAddr 0], ee_z125, ee_i111, [([.retAddr 36], ee_z125, ee_i112)], 0)
def ee_u274 : List ee_cu := [(3, [(0, .ref 0), (1, .ref 1), (2, .int 5), (3, .retAddr 0), (4, .retAddr 36)], [], ee_z125, ee_i113, 14, [((-2), 36)])]
set_option maxRecDepth 1000000 in
theorem ee_k274.ok : ee_Ct ee_mt ee_k274 := ee_cert (Γ := []) (K := []) (S := []) (f := 5000) (N := ee_me199) (cuts := ee_u274) ee_Tbok ee_gnil rfl (by decide +kernel) (by decide +kernel) (List.all_eq_true.mp (by decide +kernel))
def ee_z126 : ee_w := [ee_q201, ee_q17, ee_q1, ee_q2, ee_q89, ee_q90, ee_q91, ee_q6, ee_q7, ee_q8, ee_q92, ee_q10, ee_q11, ee_q12, ee_q12, ee_q13, ee_q80, ee_q39, ee_q16, ee_q18, ee_q198, ee_q20, ee_q21, ee_q21, ee_q22, ee_q23, ee_q24, ee_q23, ee_q26, ee_q27, ee_q28, ee_q29, ee_q30, ee_q30, ee_q30, ee_q30, ee_q10, ee_q31, ee_q32, ee_q33]
/- PepperTablesModel.here@1sName0 -/
def ee_k275 : ee_ct := (199, [.ref 0, .ref 1, .int 5, .retAddr 0], ee_z126, ee_i111, [([.retAddr 36], ee_z126, ee_i112)], 0)
def ee_u275 : List ee_cu := [(3, [(0, .ref 0), (1, .ref 1), (2, .int 5), (3, .retAddr 0), (4, .retAddr 36)], [], ee_z126, ee_i113, 14, [((-2), 36)])]
set_option maxRecDepth 1000000 in
theorem ee_k275.ok : ee_Ct ee_mt ee_k275 := ee_cert (Γ := []) (K := []) (S := []) (f := 5000) (N := ee_me199) (cuts := ee_u275) ee_Tbok ee_gnil rfl (by decide +kernel) (by decide +kernel) (List.all_eq_true.mp (by decide +kernel))
def ee_q202 : ee_cell := .inl (9, [.ref 2, .ref 3, .retAddr 1, .retAddr 2, .retAddr 3, .retAddr 4, .retAddr 5, .retAddr 6, .retAddr 7, .retAddr 8, .double 0, .ref 4, .ref 5, .ref 6, .ref 7, .ref 8, .ref 9, .ref 10, .ref 11, .ref 12, .ref 13, .ref 14, .ref 15, .ref 16, .ref 17, .ref 18, .ref 19, .ref 1, .ref 20, .ref 21, .ref 22, .ref 23, .ref 24, .int 0, .int 1, .retAddr 9, .retAddr 10, .retAddr 11, .retAddr 12, .retAddr 13, .retAddr 14, .retAddr 15, .ref 25, .retAddr 16, .retAddr 17, .ref 26, .retAddr 18, .retAddr 19, .ref 27, .ref 28, .retAddr 20, .ref 29, .ref 30, .ref 31, .ref 32, .ref 33, .ref 34, .ref 35, .ref 36, .ref 37, .retAddr 21, .retAddr 22, .retAddr 23, .ref 38, .ref 39])
def ee_z127 : ee_w := [ee_q202, ee_q18, ee_q1, ee_q2, ee_q89, ee_q90, ee_q91, ee_q6, ee_q7, ee_q8, ee_q92, ee_q10, ee_q11, ee_q12, ee_q12, ee_q13, ee_q80, ee_q39, ee_q16, ee_q17, ee_q200, ee_q20, ee_q21, ee_q21, ee_q22, ee_q23, ee_q24, ee_q23, ee_q26, ee_q27, ee_q28, ee_q29, ee_q30, ee_q30, ee_q30, ee_q30, ee_q10, ee_q31, ee_q32, ee_q33]
/- PepperTablesModel.here@1tName1 -/
def ee_k276 : ee_ct := (199, [.ref 0, .ref 1, .int 10, .retAddr 0], ee_z127, ee_i114, [([.retAddr 36], ee_z127, ee_i115)], 0)
def ee_u276 : List ee_cu := [(3, [(0, .ref 0), (1, .ref 1), (2, .int 10), (3, .retAddr 0), (4, .retAddr 36)], [], ee_z127, ee_i116, 24, [((-2), 36)])]
set_option maxRecDepth 1000000 in
theorem ee_k276.ok : ee_Ct ee_mt ee_k276 := ee_cert (Γ := []) (K := []) (S := []) (f := 5000) (N := ee_me199) (cuts := ee_u276) ee_Tbok ee_gnil rfl (by decide +kernel) (by decide +kernel) (List.all_eq_true.mp (by decide +kernel))
def ee_z128 : ee_w := [ee_q202, ee_q18, ee_q1, ee_q2, ee_q89, ee_q90, ee_q91, ee_q6, ee_q7, ee_q8, ee_q92, ee_q10, ee_q11, ee_q12, ee_q12, ee_q13, ee_q80, ee_q39, ee_q16, ee_q17, ee_q198, ee_q20, ee_q21, ee_q21, ee_q22, ee_q23, ee_q24, ee_q23, ee_q26, ee_q27, ee_q28, ee_q29, ee_q30, ee_q30, ee_q30, ee_q30, ee_q10, ee_q31, ee_q32, ee_q33]
/- PepperTablesModel.here@1tName0 -/
def ee_k277 : ee_ct := (199, [.ref 0, .ref 1, .int 10, .retAddr 0], ee_z128, ee_i114, [([.retAddr 36], ee_z128, ee_i115)], 0)
def ee_u277 : List ee_cu := [(3, [(0, .ref 0), (1, .ref 1), (2, .int 10), (3, .retAddr 0), (4, .retAddr 36)], [], ee_z128, ee_i116, 24, [((-2), 36)])]
set_option maxRecDepth 1000000 in
theorem ee_k277.ok : ee_Ct ee_mt ee_k277 := ee_cert (Γ := []) (K := []) (S := []) (f := 5000) (N := ee_me199) (cuts := ee_u277) ee_Tbok ee_gnil rfl (by decide +kernel) (by decide +kernel) (List.all_eq_true.mp (by decide +kernel))
/- PepperTablesModel.fresh@1g -/
def ee_k278 : ee_ct := (191, [.ref 0, .retAddr 0], ee_z118, ee_i117, [([.double 0], ee_z119, ee_i118), ([.double 0], ee_z120, ee_i119)], 2)
def ee_u278 : List ee_cu := []
set_option maxRecDepth 1000000 in
theorem ee_k278.ok : ee_Ct ee_mt ee_k278 := ee_cert (Γ := [ee_k261]) (K := [(191, 50, [0])]) (S := []) (f := 5000) (N := ee_me191) (cuts := ee_u278) ee_Tbok (ee_gcons ee_k261.ok ee_gnil) rfl (by decide +kernel) (by decide +kernel) (List.all_eq_true.mp (by decide +kernel))
def ee_q203 : ee_cell := .inl (9, [.ref 1, .ref 2, .retAddr 1, .retAddr 2, .retAddr 36, .retAddr 4, .retAddr 4, .retAddr 5, .retAddr 6, .retAddr 7, .double 0, .ref 3, .ref 4, .ref 5, .ref 6, .ref 7, .ref 8, .ref 9, .ref 10, .ref 11, .ref 12, .ref 13, .ref 14, .ref 15, .ref 16, .ref 17, .ref 18, .ref 19, .ref 20, .ref 21, .ref 22, .ref 23, .ref 24, .int 0, .int 1, .retAddr 8, .retAddr 9, .retAddr 10, .retAddr 11, .retAddr 12, .retAddr 13, .retAddr 14, .ref 25, .retAddr 15, .retAddr 16, .ref 26, .retAddr 17, .retAddr 18, .ref 27, .ref 28, .retAddr 19, .ref 29, .ref 30, .ref 31, .ref 32, .ref 33, .ref 34, .ref 35, .ref 36, .ref 37, .retAddr 20, .retAddr 21, .retAddr 22, .ref 38, .ref 39])
def ee_z129 : ee_w := [ee_q203, ee_q1, ee_q2, ee_q63, ee_q64, ee_q65, ee_q6, ee_q7, ee_q8, ee_q66, ee_q10, ee_q11, ee_q12, ee_q12, ee_q13, ee_q67, ee_q14, ee_q16, ee_q17, ee_q18, ee_q183, ee_q20, ee_q21, ee_q21, ee_q22, ee_q23, ee_q24, ee_q23, ee_q26, ee_q27, ee_q28, ee_q29, ee_q30, ee_q30, ee_q30, ee_q30, ee_q10, ee_q31, ee_q32, ee_q33]
def ee_q204 : ee_cell := .inl (9, [.ref 1, .ref 2, .retAddr 1, .retAddr 2, .int 0, .retAddr 3, .retAddr 36, .retAddr 37, .retAddr 38, .retAddr 39, .double 0, .ref 3, .ref 4, .ref 5, .ref 6, .ref 7, .ref 8, .ref 9, .ref 10, .ref 11, .ref 12, .ref 13, .ref 14, .ref 15, .ref 16, .ref 17, .ref 18, .ref 19, .ref 20, .ref 21, .ref 22, .ref 23, .ref 24, .int 0, .int 1, .retAddr 8, .retAddr 9, .retAddr 10, .retAddr 11, .retAddr 12, .retAddr 13, .retAddr 14, .ref 25, .retAddr 15, .retAddr 16, .ref 26, .retAddr 17, .retAddr 18, .ref 27, .ref 28, .retAddr 19, .ref 29, .ref 30, .ref 31, .ref 32, .ref 33, .ref 34, .ref 35, .ref 36, .ref 37, .retAddr 20, .retAddr 21, .retAddr 22, .ref 38, .ref 39])
def ee_z130 : ee_w := [ee_q204, ee_q1, ee_q2, ee_q63, ee_q64, ee_q65, ee_q6, ee_q7, ee_q8, ee_q66, ee_q10, ee_q11, ee_q12, ee_q12, ee_q13, ee_q67, ee_q14, ee_q16, ee_q17, ee_q18, ee_q183, ee_q20, ee_q21, ee_q21, ee_q22, ee_q23, ee_q24, ee_q23, ee_q26, ee_q27, ee_q28, ee_q29, ee_q30, ee_q30, ee_q30, ee_q30, ee_q10, ee_q31, ee_q32, ee_q33]
/- PepperTablesModel.known@1gs -/
def ee_k279 : ee_ct := (230, [.ref 0, .retAddr 0], ee_z118, ee_i120, [([.retAddr 35], ee_z129, ee_i121), ([.retAddr 35], ee_z130, ee_i122)], 2)
def ee_u279 : List ee_cu := []
set_option maxRecDepth 1000000 in
theorem ee_k279.ok : ee_Ct ee_mt ee_k279 := ee_cert (Γ := [ee_k261]) (K := [(230, 41, [0])]) (S := []) (f := 5000) (N := ee_me230) (cuts := ee_u279) ee_Tbok (ee_gcons ee_k261.ok ee_gnil) rfl (by decide +kernel) (by decide +kernel) (List.all_eq_true.mp (by decide +kernel))
/- PepperTablesModel.known@1gp -/
def ee_k280 : ee_ct := (230, [.ref 0, .retAddr 0], ee_z118, ee_i123, [([.retAddr 35], ee_z129, ee_i124), ([.retAddr 35], ee_z130, ee_i125)], 2)
def ee_u280 : List ee_cu := []
set_option maxRecDepth 1000000 in
theorem ee_k280.ok : ee_Ct ee_mt ee_k280 := ee_cert (Γ := [ee_k261]) (K := [(230, 41, [0])]) (S := []) (f := 5000) (N := ee_me230) (cuts := ee_u280) ee_Tbok (ee_gcons ee_k261.ok ee_gnil) rfl (by decide +kernel) (by decide +kernel) (List.all_eq_true.mp (by decide +kernel))
/- PepperTablesModel.fresh@1b -/
def ee_k281 : ee_ct := (191, [.ref 0, .retAddr 0], ee_z122, ee_i126, [([.double 0], ee_z122, ee_i126)], 1)
def ee_u281 : List ee_cu := []
set_option maxRecDepth 1000000 in
theorem ee_k281.ok : ee_Ct ee_mt ee_k281 := ee_cert (Γ := []) (K := []) (S := []) (f := 5000) (N := ee_me191) (cuts := ee_u281) ee_Tbok ee_gnil rfl (by decide +kernel) (by decide +kernel) (List.all_eq_true.mp (by decide +kernel))
