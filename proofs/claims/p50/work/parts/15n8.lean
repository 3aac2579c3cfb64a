set_option maxRecDepth 1000000 in
theorem ee_k353.s2 : ee_u353_2.all (ee_sg2 ee_mt [ee_k210, ee_k216] [(157, 58, [1]), (157, 83, [0])] [(157, 8, 1)] 5000 ee_me157 ee_k353 ee_u353) = true := by decide +kernel
