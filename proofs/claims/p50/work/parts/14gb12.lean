def ee_zlG1_46_s : ee_tg := (33, [(0, .ref 2000000), (1, .ref 0), (2, .ref 58), (3, .retAddr 84)], [.retAddr 92], ee_yw4, ee_yi18)
set_option maxRecDepth 1000000 in
theorem ee_zlG1_46 : ee_rnK ee_mt [ee_k182, ee_k360, ee_k181, ee_k359] [(154, 1380, [2]), (154, 1408, [3]), (154, 1421, [0]), (154, 1431, [1])] [] 5000 60 (ee_hs.map (ee_hO ee_osR)) 154 ee_me154 93 [18] [ee_zlT0, ee_zlT1] 98 11043 98 11043 ee_zlG1_46_s = true := by decide +kernel
