set_option maxRecDepth 1000000 in
theorem ee_k303.s1 : ee_u303_1.all (ee_sg2 ee_mt [ee_k299] [(240, 39, [0])] [(164, 8, 100), (164, 9, 100), (190, 8, 100), (238, 8, 100)] 5000 ee_me240 ee_k303 ee_u303) = true := by decide +kernel
