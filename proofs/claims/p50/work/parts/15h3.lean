set_option maxRecDepth 1000000 in
theorem ee_k222.s1 : ee_u222_1.all (ee_sg2 ee_mt [] [] [] 5000 ee_me226 ee_k222 ee_u222) = true := by decide +kernel
