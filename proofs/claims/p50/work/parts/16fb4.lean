def ee_zlG1_27_s : ee_tg := (33, [(0, .ref 2000000), (1, .ref 0), (2, .ref 58), (3, .retAddr 84)], [.retAddr 92], ee_yw4, ee_yi10)
set_option maxRecDepth 1000000 in
theorem ee_zlG1_27 : ee_rnK ee_mt [] [] [] 5000 60 (ee_hs.map (ee_hO ee_osR)) 154 ee_me154 93 [18] [ee_zlT0, ee_zlT1] 98 11043 98 11043 ee_zlG1_27_s = true := by sorry
theorem ee_zlG1_27g : ∀ c ∈ ([] : List ee_ct), ee_Ct ee_mt c := ee_gnil
