set_option maxRecDepth 1000000 in
theorem ee_k302.s2 : ee_u302_2.all (ee_sg2 ee_mt [ee_k298] [(240, 39, [0])] [(164, 8, 100), (164, 9, 100), (190, 8, 100), (238, 8, 100)] 5000 ee_me240 ee_k302 ee_u302) = true := by decide +kernel
