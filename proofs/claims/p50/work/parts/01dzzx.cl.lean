set_option maxRecDepth 100000 in
theorem ee_CL0 : ((ee_CL.drop 0).take 15).all ee_clb = true := by decide +kernel
set_option maxRecDepth 100000 in
theorem ee_CL1 : ((ee_CL.drop 15).take 15).all ee_clb = true := by decide +kernel
set_option maxRecDepth 100000 in
theorem ee_CL2 : ((ee_CL.drop 30).take 15).all ee_clb = true := by decide +kernel
set_option maxRecDepth 100000 in
theorem ee_CL3 : ((ee_CL.drop 45).take 15).all ee_clb = true := by decide +kernel
set_option maxRecDepth 100000 in
theorem ee_CL4 : ((ee_CL.drop 60).take 15).all ee_clb = true := by decide +kernel
set_option maxRecDepth 100000 in
theorem ee_CL5 : ((ee_CL.drop 75).take 15).all ee_clb = true := by decide +kernel
set_option maxRecDepth 100000 in
theorem ee_CL6 : ((ee_CL.drop 90).take 15).all ee_clb = true := by decide +kernel
set_option maxRecDepth 100000 in
theorem ee_CL7 : ((ee_CL.drop 105).take 15).all ee_clb = true := by decide +kernel
set_option maxRecDepth 100000 in
theorem ee_CL8 : ((ee_CL.drop 120).take 15).all ee_clb = true := by decide +kernel
set_option maxRecDepth 100000 in
theorem ee_CL9 : ((ee_CL.drop 135).take 15).all ee_clb = true := by decide +kernel
set_option maxRecDepth 100000 in
theorem ee_CL10 : ((ee_CL.drop 150).take 15).all ee_clb = true := by decide +kernel
