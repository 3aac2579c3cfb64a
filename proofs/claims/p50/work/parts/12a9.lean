set_option maxRecDepth 1000000 in
theorem ee_k221.s6 : ee_u221_6.all (ee_sg2 ee_mt [] [] [] 5000 ee_me226 ee_k221 ee_u221) = true := by decide +kernel
