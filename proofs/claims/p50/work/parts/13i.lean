/-! the contracts by hand -/
theorem ee_manok : ee_man := ⟨ee_c0Kok, ee_c1Kok, ee_c0ok, ee_c1ok, ee_h250, ee_h251, ee_h252, ee_h253, ee_h286, ee_h287, ee_h288, ee_h289⟩
