/- PepperTablesModel.back -/
def ee_u365 : List ee_cu := []
set_option maxRecDepth 1000000 in
theorem ee_k365.ok : ee_Ct ee_mt ee_k365 := ee_cert (Γ := []) (K := []) (S := [(163, 22, 1)]) (f := 5000) (N := ee_me163) (cuts := ee_u365) ee_Tbok ee_gnil rfl (by decide +kernel) (by decide +kernel) (List.all_eq_true.mp (by decide +kernel))
/- PepperTablesModel.about -/
def ee_u366 : List ee_cu := []
set_option maxRecDepth 1000000 in
theorem ee_k366.ok : ee_Ct ee_mt ee_k366 := ee_cert (Γ := [ee_k205]) (K := [(156, 180, [0])]) (S := []) (f := 5000) (N := ee_me156) (cuts := ee_u366) ee_Tbok (ee_gcons ee_k205.ok ee_gnil) rfl (by decide +kernel) (by decide +kernel) (List.all_eq_true.mp (by decide +kernel))
/- PepperTablesModel.feed -/
def ee_u367 : List ee_cu := []
set_option maxRecDepth 1000000 in
theorem ee_k367.ok : ee_Ct ee_mt ee_k367 := ee_cert (Γ := []) (K := []) (S := []) (f := 5000) (N := ee_me188) (cuts := ee_u367) ee_Tbok ee_gnil rfl (by decide +kernel) (by decide +kernel) (List.all_eq_true.mp (by decide +kernel))
/- PepperTablesModel.end -/
def ee_u368 : List ee_cu := []
set_option maxRecDepth 1000000 in
theorem ee_k368.ok : ee_Ct ee_mt ee_k368 := ee_cert (Γ := []) (K := []) (S := []) (f := 5000) (N := ee_me183) (cuts := ee_u368) ee_Tbok ee_gnil rfl (by decide +kernel) (by decide +kernel) (List.all_eq_true.mp (by decide +kernel))
