def ee_zlG1_10_s : ee_tg := (33, [(0, .ref 2000000), (1, .ref 0), (2, .ref 58), (3, .retAddr 84)], [.retAddr 92], ee_yw4, ee_yi10)
set_option maxRecDepth 1000000 in
theorem ee_zlG1_10 : ee_rnK ee_mt [ee_k149, ee_k338, ee_k148, ee_k337, ee_k147, ee_k336, ee_k146, ee_k335, ee_k145, ee_k334] [(154, 564, [8]), (154, 574, [9]), (154, 592, [6]), (154, 607, [7]), (154, 615, [4]), (154, 620, [5]), (154, 628, [2]), (154, 633, [3]), (154, 641, [0]), (154, 646, [1])] [] 5000 60 (ee_hs.map (ee_hO ee_osR)) 154 ee_me154 93 [18] [ee_zlT0, ee_zlT1] 98 11043 98 11043 ee_zlG1_10_s = true := by decide +kernel
