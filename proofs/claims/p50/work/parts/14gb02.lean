def ee_zlG1_3_s : ee_tg := (33, [(0, .ref 2000000), (1, .ref 0), (2, .ref 58), (3, .retAddr 84)], [.retAddr 92], ee_yw4, ee_yi8)
set_option maxRecDepth 1000000 in
theorem ee_zlG1_3 : ee_rnK ee_mt [ee_k140, ee_k318, ee_k139, ee_k317, ee_k138, ee_k316] [(154, 373, [4]), (154, 383, [5]), (154, 401, [2]), (154, 416, [3]), (154, 434, [0]), (154, 449, [1])] [] 5000 60 (ee_hs.map (ee_hO ee_osR)) 154 ee_me154 93 [18] [ee_zlT0, ee_zlT1] 98 11043 98 11043 ee_zlG1_3_s = true := by decide +kernel
