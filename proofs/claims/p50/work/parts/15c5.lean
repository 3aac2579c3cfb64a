set_option maxRecDepth 1000000 in
theorem ee_k0.s5 : ee_u0_5.all (ee_sg2 ee_mt [] [] [(297, 0, 0), (297, 1, 0)] 5000 ee_me297 ee_k0 ee_u0) = true := by decide +kernel
