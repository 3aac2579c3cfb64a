set_option maxRecDepth 1000000 in
theorem ee_k352.s5 : ee_u352_5.all (ee_sg2 ee_mt [ee_k218, ee_k190, ee_k209, ee_k210] [(184, 18, [0]), (184, 21, [1]), (184, 82, [2]), (184, 126, [0]), (184, 129, [1]), (184, 135, [3])] [(164, 8, 100), (190, 8, 100), (238, 8, 100), (238, 9, 100)] 5000 ee_me184 ee_k352 ee_u352) = true := by decide +kernel
