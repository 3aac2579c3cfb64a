set_option maxRecDepth 100000 in
theorem ee_CL11 : ((ee_CL.drop 165).take 15).all ee_clb = true := by decide +kernel
set_option maxRecDepth 100000 in
theorem ee_CL12 : ((ee_CL.drop 180).take 15).all ee_clb = true := by decide +kernel
set_option maxRecDepth 100000 in
theorem ee_CL13 : ((ee_CL.drop 195).take 15).all ee_clb = true := by decide +kernel
set_option maxRecDepth 100000 in
theorem ee_CL14 : ((ee_CL.drop 210).take 15).all ee_clb = true := by decide +kernel
set_option maxRecDepth 100000 in
theorem ee_CL15 : ((ee_CL.drop 225).take 15).all ee_clb = true := by decide +kernel
set_option maxRecDepth 100000 in
theorem ee_CL16 : ((ee_CL.drop 240).take 15).all ee_clb = true := by decide +kernel
set_option maxRecDepth 100000 in
theorem ee_CL17 : ((ee_CL.drop 255).take 15).all ee_clb = true := by decide +kernel
set_option maxRecDepth 100000 in
theorem ee_CL18 : ((ee_CL.drop 270).take 15).all ee_clb = true := by decide +kernel
set_option maxRecDepth 100000 in
theorem ee_CL19 : ((ee_CL.drop 285).take 15).all ee_clb = true := by decide +kernel
set_option maxRecDepth 100000 in
theorem ee_CL20 : ((ee_CL.drop 300).take 15).all ee_clb = true := by decide +kernel
set_option maxRecDepth 100000 in
theorem ee_CL21 : ((ee_CL.drop 315).take 15).all ee_clb = true := by decide +kernel
