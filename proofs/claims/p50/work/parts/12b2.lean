set_option maxRecDepth 1000000 in
theorem ee_k384.s2 : ee_u384_2.all (ee_sg2 ee_mt [ee_k379, ee_k381] [(286, 60, [0]), (286, 211, [1])] [] 5000 ee_me286 ee_k384 ee_u384) = true := by decide +kernel
