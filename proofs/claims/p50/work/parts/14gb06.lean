def ee_zlG1_19_s : ee_tg := (33, [(0, .ref 2000000), (1, .ref 0), (2, .ref 58), (3, .retAddr 84)], [.retAddr 92], ee_yw4, ee_yi12)
set_option maxRecDepth 1000000 in
theorem ee_zlG1_19 : ee_rnK ee_mt [ee_k166, ee_k345, ee_k165, ee_k330, ee_k161, ee_k350, ee_k152, ee_k342] [(154, 776, [6]), (154, 791, [7]), (154, 809, [4]), (154, 824, [5]), (154, 832, [2]), (154, 837, [3]), (154, 850, [0]), (154, 860, [1])] [] 5000 60 (ee_hs.map (ee_hO ee_osR)) 154 ee_me154 93 [18] [ee_zlT0, ee_zlT1] 98 11043 98 11043 ee_zlG1_19_s = true := by decide +kernel
