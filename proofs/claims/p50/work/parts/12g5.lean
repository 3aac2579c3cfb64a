set_option maxRecDepth 1000000 in
theorem ee_k351.s2 : ee_u351_2.all (ee_sg2 ee_mt [ee_k217, ee_k189, ee_k208, ee_k209] [(184, 18, [0]), (184, 21, [1]), (184, 82, [2]), (184, 126, [0]), (184, 129, [1]), (184, 135, [3])] [(164, 8, 100), (190, 8, 100), (238, 8, 100), (238, 9, 100)] 5000 ee_me184 ee_k351 ee_u351) = true := by decide +kernel
