set_option maxRecDepth 1000000 in
theorem ee_k130.s6 : ee_u130_6.all (ee_sg2 ee_mt [] [] [(58, 57, 7)] 5000 ee_me58 ee_k130 ee_u130) = true := by decide +kernel
