set_option maxRecDepth 1000000 in
theorem ee_k301.s7 : ee_u301_7.all (ee_sg2 ee_mt [ee_k209, ee_k208, ee_k215, ee_k190, ee_k210] [(233, 1, [0]), (233, 24, [1]), (233, 116, [2]), (233, 119, [3]), (233, 136, [4])] [(164, 8, 100), (164, 9, 100), (190, 8, 100), (238, 8, 100)] 5000 ee_me233 ee_k301 ee_u301) = true := by decide +kernel
