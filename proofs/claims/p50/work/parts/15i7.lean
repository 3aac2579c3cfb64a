set_option maxRecDepth 1000000 in
theorem ee_k223.ok : ee_Ct ee_mt ee_k223 := ee_cert (Γ := []) (K := []) (S := []) (f := 5000) (N := ee_me226) (cuts := ee_u223) ee_Tbok ee_gnil rfl (by decide +kernel) (by decide +kernel) (ee_aapp ee_k223.s0 (ee_aapp ee_k223.s1 (ee_aapp ee_k223.s2 (ee_aapp ee_k223.s3 (ee_aapp ee_k223.s4 (ee_aapp ee_k223.s5 (ee_aapp ee_k223.s6 ee_anil)))))))
