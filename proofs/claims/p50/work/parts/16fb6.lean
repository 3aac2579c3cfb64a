def ee_zlG1_48_s : ee_tg := (33, [(0, .ref 2000000), (1, .ref 0), (2, .ref 58), (3, .retAddr 84)], [.retAddr 92], ee_yw4, ee_yi12)
set_option maxRecDepth 1000000 in
theorem ee_zlG1_48 : ee_rnK ee_mt [ee_k185, ee_k363, ee_k184, ee_k362, ee_k183, ee_k361] [(154, 1467, [4]), (154, 1477, [5]), (154, 1495, [2]), (154, 1510, [3]), (154, 1528, [0]), (154, 1543, [1])] [] 5000 60 (ee_hs.map (ee_hO ee_osR)) 154 ee_me154 93 [18] [ee_zlT0, ee_zlT1] 98 11043 98 11043 ee_zlG1_48_s = true := by decide +kernel
theorem ee_zlG1_48g : ∀ c ∈ [ee_k185, ee_k363, ee_k184, ee_k362, ee_k183, ee_k361], ee_Ct ee_mt c := (ee_gcons ee_k185.ok (ee_gcons (ee_k363.ok ee_manok) (ee_gcons ee_k184.ok (ee_gcons (ee_k362.ok ee_manok) (ee_gcons ee_k183.ok (ee_gcons (ee_k361.ok ee_manok) ee_gnil))))))
