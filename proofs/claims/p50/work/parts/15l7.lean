set_option maxRecDepth 1000000 in
theorem ee_k302.s4 : ee_u302_4.all (ee_sg2 ee_mt [ee_k301, ee_k299] [(234, 27, [0]), (234, 43, [1])] [(164, 8, 100), (164, 9, 100), (190, 8, 100), (238, 8, 100)] 5000 ee_me234 ee_k302 ee_u302) = true := by decide +kernel
