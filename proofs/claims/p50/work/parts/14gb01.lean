def ee_zlG1_2_s : ee_tg := (33, [(0, .ref 2000000), (1, .ref 0), (2, .ref 58), (3, .retAddr 84)], [.retAddr 92], ee_yw4, ee_yi7)
set_option maxRecDepth 1000000 in
theorem ee_zlG1_2n : ee_rnKn ee_mt [ee_k137, ee_k298] [(154, 355, [0]), (154, 360, [1])] [] 5000 60 (ee_hs.map (ee_hO ee_osR)) 154 ee_me154 93 [18] [ee_zlT0, ee_zlT1] 98 11043 98 11043 ee_zlG1_2_s 36 = true := by decide +kernel
set_option maxRecDepth 1000000 in
theorem ee_zlG1_2c0 : ee_rnKs ee_mt [ee_k137, ee_k298] [(154, 355, [0]), (154, 360, [1])] [] 5000 60 (ee_hs.map (ee_hO ee_osR)) 154 ee_me154 93 [18] [ee_zlT0, ee_zlT1] 98 11043 98 11043 ee_zlG1_2_s 4 0 = true := by decide +kernel
set_option maxRecDepth 1000000 in
theorem ee_zlG1_2c1 : ee_rnKs ee_mt [ee_k137, ee_k298] [(154, 355, [0]), (154, 360, [1])] [] 5000 60 (ee_hs.map (ee_hO ee_osR)) 154 ee_me154 93 [18] [ee_zlT0, ee_zlT1] 98 11043 98 11043 ee_zlG1_2_s 4 1 = true := by decide +kernel
set_option maxRecDepth 1000000 in
theorem ee_zlG1_2c2 : ee_rnKs ee_mt [ee_k137, ee_k298] [(154, 355, [0]), (154, 360, [1])] [] 5000 60 (ee_hs.map (ee_hO ee_osR)) 154 ee_me154 93 [18] [ee_zlT0, ee_zlT1] 98 11043 98 11043 ee_zlG1_2_s 4 2 = true := by decide +kernel
set_option maxRecDepth 1000000 in
theorem ee_zlG1_2c3 : ee_rnKs ee_mt [ee_k137, ee_k298] [(154, 355, [0]), (154, 360, [1])] [] 5000 60 (ee_hs.map (ee_hO ee_osR)) 154 ee_me154 93 [18] [ee_zlT0, ee_zlT1] 98 11043 98 11043 ee_zlG1_2_s 4 3 = true := by decide +kernel
set_option maxRecDepth 1000000 in
theorem ee_zlG1_2c4 : ee_rnKs ee_mt [ee_k137, ee_k298] [(154, 355, [0]), (154, 360, [1])] [] 5000 60 (ee_hs.map (ee_hO ee_osR)) 154 ee_me154 93 [18] [ee_zlT0, ee_zlT1] 98 11043 98 11043 ee_zlG1_2_s 4 4 = true := by decide +kernel
set_option maxRecDepth 1000000 in
theorem ee_zlG1_2c5 : ee_rnKs ee_mt [ee_k137, ee_k298] [(154, 355, [0]), (154, 360, [1])] [] 5000 60 (ee_hs.map (ee_hO ee_osR)) 154 ee_me154 93 [18] [ee_zlT0, ee_zlT1] 98 11043 98 11043 ee_zlG1_2_s 4 5 = true := by decide +kernel
set_option maxRecDepth 1000000 in
theorem ee_zlG1_2c6 : ee_rnKs ee_mt [ee_k137, ee_k298] [(154, 355, [0]), (154, 360, [1])] [] 5000 60 (ee_hs.map (ee_hO ee_osR)) 154 ee_me154 93 [18] [ee_zlT0, ee_zlT1] 98 11043 98 11043 ee_zlG1_2_s 4 6 = true := by decide +kernel
set_option maxRecDepth 1000000 in
theorem ee_zlG1_2c7 : ee_rnKs ee_mt [ee_k137, ee_k298] [(154, 355, [0]), (154, 360, [1])] [] 5000 60 (ee_hs.map (ee_hO ee_osR)) 154 ee_me154 93 [18] [ee_zlT0, ee_zlT1] 98 11043 98 11043 ee_zlG1_2_s 4 7 = true := by decide +kernel
set_option maxRecDepth 1000000 in
theorem ee_zlG1_2c8 : ee_rnKs ee_mt [ee_k137, ee_k298] [(154, 355, [0]), (154, 360, [1])] [] 5000 60 (ee_hs.map (ee_hO ee_osR)) 154 ee_me154 93 [18] [ee_zlT0, ee_zlT1] 98 11043 98 11043 ee_zlG1_2_s 4 8 = true := by decide +kernel
theorem ee_zlG1_2 : ee_rnK ee_mt [ee_k137, ee_k298] [(154, 355, [0]), (154, 360, [1])] [] 5000 60 (ee_hs.map (ee_hO ee_osR)) 154 ee_me154 93 [18] [ee_zlT0, ee_zlT1] 98 11043 98 11043 ee_zlG1_2_s = true := ee_rnKs.all (b := 4) (n := 9) ee_zlG1_2n (fun i hi => match i, hi with | 0, _ => ee_zlG1_2c0 | 1, _ => ee_zlG1_2c1 | 2, _ => ee_zlG1_2c2 | 3, _ => ee_zlG1_2c3 | 4, _ => ee_zlG1_2c4 | 5, _ => ee_zlG1_2c5 | 6, _ => ee_zlG1_2c6 | 7, _ => ee_zlG1_2c7 | 8, _ => ee_zlG1_2c8 | k + 9, h => absurd h (by omega))
