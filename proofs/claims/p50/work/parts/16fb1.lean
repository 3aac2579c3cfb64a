def ee_zlG1_2_s : ee_tg := (33, [(0, .ref 2000000), (1, .ref 0), (2, .ref 58), (3, .retAddr 84)], [.retAddr 92], ee_yw4, ee_yi7)
set_option maxRecDepth 1000000 in
theorem ee_zlG1_2 : ee_rnK ee_mt [ee_k139, ee_k317, ee_k138, ee_k316, ee_k137, ee_k298] [(154, 355, [4]), (154, 360, [5]), (154, 373, [2]), (154, 383, [3]), (154, 401, [0]), (154, 416, [1])] [] 5000 60 (ee_hs.map (ee_hO ee_osR)) 154 ee_me154 93 [18] [ee_zlT0, ee_zlT1] 98 11043 98 11043 ee_zlG1_2_s = true := by decide +kernel
theorem ee_zlG1_2g : ∀ c ∈ [ee_k139, ee_k317, ee_k138, ee_k316, ee_k137, ee_k298], ee_Ct ee_mt c := (ee_gcons ee_k139.ok (ee_gcons ee_k317.ok (ee_gcons ee_k138.ok (ee_gcons ee_k316.ok (ee_gcons ee_k137.ok (ee_gcons (ee_k298.ok ee_manok) ee_gnil))))))
