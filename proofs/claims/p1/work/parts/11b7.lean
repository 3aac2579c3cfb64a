set_option maxRecDepth 1000000 in
theorem ee_runB7 : ee_good1 (ee_exec ee_fuel 30 1000000 ee_lawno (ee_s2 48 51)) = true := by decide +kernel
