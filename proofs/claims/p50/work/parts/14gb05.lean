def ee_zlG1_15_s : ee_tg := (33, [(0, .ref 2000000), (1, .ref 0), (2, .ref 58), (3, .retAddr 84)], [.retAddr 92], ee_yw4, ee_yi11)
set_option maxRecDepth 1000000 in
theorem ee_zlG1_15 : ee_rnK ee_mt [ee_k156, ee_k349, ee_k151, ee_k341, ee_k155, ee_k348, ee_k150, ee_k340] [(154, 669, [6]), (154, 689, [7]), (154, 707, [4]), (154, 722, [5]), (154, 730, [2]), (154, 735, [3]), (154, 748, [0]), (154, 758, [1])] [] 5000 60 (ee_hs.map (ee_hO ee_osR)) 154 ee_me154 93 [18] [ee_zlT0, ee_zlT1] 98 11043 98 11043 ee_zlG1_15_s = true := by decide +kernel
