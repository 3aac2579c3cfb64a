set_option maxRecDepth 1000000 in
theorem ee_runB9 : ee_good1 (ee_exec ee_fuel 30 1000000 ee_lawno (ee_s2 54 63)) = true := by decide +kernel
