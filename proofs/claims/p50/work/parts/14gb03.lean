def ee_zlG1_6_s : ee_tg := (33, [(0, .ref 2000000), (1, .ref 0), (2, .ref 58), (3, .retAddr 84)], [.retAddr 92], ee_yw4, ee_yi9)
set_option maxRecDepth 1000000 in
theorem ee_zlG1_6 : ee_rnK ee_mt [ee_k144, ee_k333, ee_k143, ee_k332, ee_k142, ee_k320, ee_k141, ee_k319] [(154, 467, [6]), (154, 482, [7]), (154, 495, [4]), (154, 505, [5]), (154, 518, [2]), (154, 528, [3]), (154, 541, [0]), (154, 551, [1])] [] 5000 60 (ee_hs.map (ee_hO ee_osR)) 154 ee_me154 93 [18] [ee_zlT0, ee_zlT1] 98 11043 98 11043 ee_zlG1_6_s = true := by decide +kernel
