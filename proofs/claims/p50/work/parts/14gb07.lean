def ee_zlG1_23_s : ee_tg := (33, [(0, .ref 2000000), (1, .ref 0), (2, .ref 58), (3, .retAddr 84)], [.retAddr 92], ee_yw4, ee_yi13)
set_option maxRecDepth 1000000 in
theorem ee_zlG1_23 : ee_rnK ee_mt [ee_k169, ee_k346, ee_k168, ee_k355, ee_k162, ee_k354, ee_k167, ee_k347] [(154, 878, [6]), (154, 893, [7]), (154, 906, [4]), (154, 916, [5]), (154, 924, [2]), (154, 929, [3]), (154, 942, [0]), (154, 952, [1])] [] 5000 60 (ee_hs.map (ee_hO ee_osR)) 154 ee_me154 93 [18] [ee_zlT0, ee_zlT1] 98 11043 98 11043 ee_zlG1_23_s = true := by decide +kernel
