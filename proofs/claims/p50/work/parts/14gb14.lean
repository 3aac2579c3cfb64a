def ee_zlG1_49_s : ee_tg := (33, [(0, .ref 2000000), (1, .ref 0), (2, .ref 58), (3, .retAddr 84)], [.retAddr 92], ee_yw4, ee_yi20)
set_option maxRecDepth 1000000 in
theorem ee_zlG1_49 : ee_rnK ee_mt [ee_k186, ee_k364, ee_k185, ee_k363, ee_k184, ee_k362, ee_k183, ee_k361] [(154, 1467, [6]), (154, 1477, [7]), (154, 1495, [4]), (154, 1510, [5]), (154, 1528, [2]), (154, 1543, [3]), (154, 1556, [0]), (154, 1566, [1])] [] 5000 60 (ee_hs.map (ee_hO ee_osR)) 154 ee_me154 93 [18] [ee_zlT0, ee_zlT1] 98 11043 98 11043 ee_zlG1_49_s = true := by decide +kernel
