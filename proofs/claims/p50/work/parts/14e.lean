def ee_yq33 : ee_cell := .inl (9, [.ref 59, .ref 60, .int 0, .int 0, .int 0, .int (-1), .int 0, .int 0, .int 0, .int 0, .long 0, .ref 61, .ref 62, .ref 63, .ref 64, .ref 65, .ref 66, .ref 67, .ref 68, .ref 69, .ref 70, .ref 71, .ref 72, .ref 73, .ref 74, .ref 75, .ref 76, .ref 77, .ref 78, .ref 79, .ref 80, .ref 81, .ref 82, .int 0, .int 0, .int 0, .int 0, .int 0, .int 0, .int 0, .int 0, .int 0, .ref 83, .int (-1), .int 0, .ref 84, .int 0, .int 0, .ref 85, .ref 86, .int 0, .ref 87, .ref 88, .ref 89, .ref 90, .ref 91, .ref 92, .ref 93, .ref 94, .ref 95, .int 0, .int 0, .int 0, .ref 96, .ref 97])
def ee_yq34 : ee_cell := .inr (1, 1620, 0, [(1620, 0, 0)], [])
def ee_yq35 : ee_cell := .inr (1, 1600, 0, [(1600, 0, 0)], [])
def ee_yq36 : ee_cell := .inr (0, 2, 0, [(2, 0, 0)], [(0, .int 0)])
def ee_yq37 : ee_cell := .inr (0, 12, 0, [(12, 0, 0)], [])
def ee_yq38 : ee_cell := .inr (0, 2, 0, [(2, 0, 0)], [])
def ee_yq39 : ee_cell := .inr (3, 12, 0, [(12, 0, 0)], [])
def ee_yq40 : ee_cell := .inr (3, 20, 0, [(20, 0, 0)], [])
def ee_yq41 : ee_cell := .inr (0, 1120, 0, [(1120, 0, 0)], [])
def ee_yq42 : ee_cell := .inr (0, 90, 0, [(90, 0, 0)], [])
def ee_yq43 : ee_cell := .inr (0, 60, 0, [(60, 0, 0)], [])
def ee_yq44 : ee_cell := .inr (0, 19, 0, [(1, 0, 63), (2, 0, 1023), (12, (-1), 5), (17, 0, 99), (18, 0, 999), (19, 0, 999)], [])
def ee_yq45 : ee_cell := .inr (0, 19, 0, [(19, 0, 0)], [])
def ee_yq46 : ee_cell := .inr (0, 8, 0, [(8, 0, 0)], [])
def ee_yq47 : ee_cell := .inr (2, 3, 0, [(3, 0, 0)], [(2, .int 0), (1, .int 0), (0, .int 0)])
def ee_yw2 : ee_w := [ee_yq0, ee_yq1, ee_yq2, ee_yq3, ee_yq4, ee_yq4, ee_yq4, ee_yq4, ee_yq5, ee_yq6, ee_yq7, ee_yq8, ee_yq9, ee_yq10, ee_yq11, ee_yq3, ee_yq4, ee_yq4, ee_yq4, ee_yq4, ee_yq5, ee_yq6, ee_yq7, ee_yq8, ee_yq12, ee_yq4, ee_yq13, ee_yq14, ee_yq4, ee_yq13, ee_yq15, ee_yq3, ee_yq16, ee_yq17, ee_yq18, ee_yq19, ee_yq20, ee_yq21, ee_yq22, ee_yq23, ee_yq3, ee_yq3, ee_yq3, ee_yq24, ee_yq25, ee_yq25, ee_yq26, ee_yq25, ee_yq25, ee_yq27, ee_yq28, ee_yq29, ee_yq30, ee_yq4, ee_yq13, ee_yq31, ee_yq32, ee_yq32, ee_yq33, ee_yq34, ee_yq35, ee_yq36, ee_yq36, ee_yq36, ee_yq36, ee_yq36, ee_yq36, ee_yq36, ee_yq37, ee_yq31, ee_yq31, ee_yq31, ee_yq31, ee_yq38, ee_yq38, ee_yq39, ee_yq8, ee_yq40, ee_yq41, ee_yq41, ee_yq42, ee_yq42, ee_yq43, ee_yq44, ee_yq19, ee_yq45, ee_yq3, ee_yq46, ee_yq27, ee_yq25, ee_yq25, ee_yq25, ee_yq25, ee_yq25, ee_yq37, ee_yq29, ee_yq21, ee_yq47]
def ee_zl18 : ee_tg := (18, [(0, .ref 2000000), (1, .ref 0), (2, .ref 58), (3, .int 0)], [], ee_yw2, (0, []))
set_option maxRecDepth 1000000 in
theorem ee_zK2 : ee_rnK ee_mt ([] : List ee_ct) [] [] 5000 60 ee_hs 154 ee_me154 0 [18] [ee_zl18] 58 3882 98 11043 ee_zl8 = true := by decide +kernel
theorem ee_zK2g : ∀ c ∈ ([] : List ee_ct), ee_Ct ee_mt c := ee_gnil
