set_option maxRecDepth 1000000 in
theorem ee_k189.s14 : ee_u189_14.all (ee_sg2 ee_mt [] [] [(167, 0, 0), (167, 1, 0)] 5000 ee_me167 ee_k189 ee_u189) = true := by decide +kernel
