set_option maxRecDepth 1000000 in
theorem ee_k190.s3 : ee_u190_3.all (ee_sg2 ee_mt [] [] [(167, 0, 0), (167, 1, 0)] 5000 ee_me167 ee_k190 ee_u190) = true := by decide +kernel
