set_option maxRecDepth 1000000 in
theorem ee_k223.s2 : ee_u223_2.all (ee_sg2 ee_mt [] [] [] 5000 ee_me226 ee_k223 ee_u223) = true := by decide +kernel
