def ee_zlG1_27_s : ee_tg := (33, [(0, .ref 2000000), (1, .ref 0), (2, .ref 58), (3, .retAddr 84)], [.retAddr 92], ee_yw4, ee_yi14)
set_option maxRecDepth 1000000 in
theorem ee_zlG1_27 : ee_rnK ee_mt [ee_k170, ee_k357, ee_k157, ee_k353, ee_k164, ee_k352, ee_k163, ee_k351] [(154, 970, [6]), (154, 985, [7]), (154, 998, [4]), (154, 1008, [5]), (154, 1021, [2]), (154, 1031, [3]), (154, 1049, [0]), (154, 1064, [1])] [] 5000 60 (ee_hs.map (ee_hO ee_osR)) 154 ee_me154 93 [18] [ee_zlT0, ee_zlT1] 98 11043 98 11043 ee_zlG1_27_s = true := by decide +kernel
