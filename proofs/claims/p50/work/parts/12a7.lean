set_option maxRecDepth 1000000 in
theorem ee_k378.s4 : ee_u378_4.all (ee_sg2 ee_mt [ee_k373, ee_k375] [(286, 60, [0]), (286, 211, [1])] [] 5000 ee_me286 ee_k378 ee_u378) = true := by decide +kernel
