set_option maxRecDepth 1000000 in
theorem ee_k222.s2 : ee_u222_2.all (ee_sg2 ee_mt [] [] [] 5000 ee_me226 ee_k222 ee_u222) = true := by decide +kernel
