def ee_s2 (a b : Int) : ee_st := (33, [(3, .int 0), (2, .ref 58), (1, .ref 0), (0, .ref 2000000)], [.retAddr 7], ee_w1, [((-2147483648), 2147483647, none), ((-2147483648), 2147483647, none), ((-2147483648), 2147483647, none), ((-2147483648), 2147483647, none), ((-2147483648), 2147483647, none), ((-2147483648), 2147483647, none), (6, 6, none), (a, b, none)], 98, 11043, [])
set_option maxRecDepth 1000000 in
theorem ee_runB0 : ee_good1 (ee_exec ee_fuel 30 1000000 ee_lawno (ee_s2 0 7)) = true := by decide +kernel
