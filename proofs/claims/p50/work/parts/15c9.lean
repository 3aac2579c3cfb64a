set_option maxRecDepth 1000000 in
theorem ee_k0.s9 : ee_u0_9.all (ee_sg2 ee_mt [] [] [(297, 0, 0), (297, 1, 0)] 5000 ee_me297 ee_k0 ee_u0) = true := by decide +kernel
