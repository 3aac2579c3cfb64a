set_option maxRecDepth 1000000 in
theorem ee_k352.s4 : ee_u352_4.all (ee_sg2 ee_mt [ee_k209, ee_k215] [(157, 58, [1]), (157, 83, [0])] [(157, 8, 1)] 5000 ee_me157 ee_k352 ee_u352) = true := by decide +kernel
