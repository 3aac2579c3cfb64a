set_option maxRecDepth 1000000 in
theorem ee_k300.s5 : ee_u300_5.all (ee_sg2 ee_mt [ee_k208, ee_k207, ee_k214, ee_k189, ee_k209] [(233, 1, [0]), (233, 24, [1]), (233, 116, [2]), (233, 119, [3]), (233, 136, [4])] [(164, 8, 100), (164, 9, 100), (190, 8, 100), (238, 8, 100)] 5000 ee_me233 ee_k300 ee_u300) = true := by decide +kernel
