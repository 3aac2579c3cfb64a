def ee_yw0 : ee_w := []
/- String.length -/
def ee_k385 : ee_ct := (307, [.ref 1000000], ee_yw0, (0, []), [([.int 89], ee_yw0, (0, []))], 1)
def ee_u385 : List ee_cu := []
set_option maxRecDepth 1000000 in
theorem ee_k385.ok : ee_Ct ee_mt ee_k385 := ee_cert (Γ := []) (K := []) (S := []) (f := 5000) (N := ee_me307) (cuts := ee_u385) ee_Tbok ee_gnil rfl (by decide +kernel) (by decide +kernel) (List.all_eq_true.mp (by decide +kernel))
/- String.charAt@0 -/
def ee_k386 : ee_ct := (300, [.ref 1000000, .int 0], ee_yw0, (0, []), [([.int 112], ee_yw0, (0, []))], 3)
def ee_u386 : List ee_cu := []
set_option maxRecDepth 1000000 in
theorem ee_k386.ok : ee_Ct ee_mt ee_k386 := ee_cert (Γ := []) (K := []) (S := []) (f := 5000) (N := ee_me300) (cuts := ee_u386) ee_Tbok ee_gnil rfl (by decide +kernel) (by decide +kernel) (List.all_eq_true.mp (by decide +kernel))
/- String.charAt@1 -/
def ee_k387 : ee_ct := (300, [.ref 1000000, .int 1], ee_yw0, (0, []), [([.int 101], ee_yw0, (0, []))], 3)
def ee_u387 : List ee_cu := []
set_option maxRecDepth 1000000 in
theorem ee_k387.ok : ee_Ct ee_mt ee_k387 := ee_cert (Γ := []) (K := []) (S := []) (f := 5000) (N := ee_me300) (cuts := ee_u387) ee_Tbok ee_gnil rfl (by decide +kernel) (by decide +kernel) (List.all_eq_true.mp (by decide +kernel))
/- String.charAt@2 -/
def ee_k388 : ee_ct := (300, [.ref 1000000, .int 2], ee_yw0, (0, []), [([.int 114], ee_yw0, (0, []))], 3)
def ee_u388 : List ee_cu := []
set_option maxRecDepth 1000000 in
theorem ee_k388.ok : ee_Ct ee_mt ee_k388 := ee_cert (Γ := []) (K := []) (S := []) (f := 5000) (N := ee_me300) (cuts := ee_u388) ee_Tbok ee_gnil rfl (by decide +kernel) (by decide +kernel) (List.all_eq_true.mp (by decide +kernel))
/- String.charAt@3 -/
def ee_k389 : ee_ct := (300, [.ref 1000000, .int 3], ee_yw0, (0, []), [([.int 115], ee_yw0, (0, []))], 3)
def ee_u389 : List ee_cu := []
set_option maxRecDepth 1000000 in
theorem ee_k389.ok : ee_Ct ee_mt ee_k389 := ee_cert (Γ := []) (K := []) (S := []) (f := 5000) (N := ee_me300) (cuts := ee_u389) ee_Tbok ee_gnil rfl (by decide +kernel) (by decide +kernel) (List.all_eq_true.mp (by decide +kernel))
/- String.charAt@4 -/
def ee_k390 : ee_ct := (300, [.ref 1000000, .int 4], ee_yw0, (0, []), [([.int 111], ee_yw0, (0, []))], 3)
def ee_u390 : List ee_cu := []
set_option maxRecDepth 1000000 in
theorem ee_k390.ok : ee_Ct ee_mt ee_k390 := ee_cert (Γ := []) (K := []) (S := []) (f := 5000) (N := ee_me300) (cuts := ee_u390) ee_Tbok ee_gnil rfl (by decide +kernel) (by decide +kernel) (List.all_eq_true.mp (by decide +kernel))
/- String.charAt@5 -/
def ee_k391 : ee_ct := (300, [.ref 1000000, .int 5], ee_yw0, (0, []), [([.int 110], ee_yw0, (0, []))], 3)
def ee_u391 : List ee_cu := []
set_option maxRecDepth 1000000 in
theorem ee_k391.ok : ee_Ct ee_mt ee_k391 := ee_cert (Γ := []) (K := []) (S := []) (f := 5000) (N := ee_me300) (cuts := ee_u391) ee_Tbok ee_gnil rfl (by decide +kernel) (by decide +kernel) (List.all_eq_true.mp (by decide +kernel))
/- String.charAt@6 -/
def ee_k392 : ee_ct := (300, [.ref 1000000, .int 6], ee_yw0, (0, []), [([.int 32], ee_yw0, (0, []))], 3)
def ee_u392 : List ee_cu := []
set_option maxRecDepth 1000000 in
theorem ee_k392.ok : ee_Ct ee_mt ee_k392 := ee_cert (Γ := []) (K := []) (S := []) (f := 5000) (N := ee_me300) (cuts := ee_u392) ee_Tbok ee_gnil rfl (by decide +kernel) (by decide +kernel) (List.all_eq_true.mp (by decide +kernel))
/- String.charAt@7 -/
def ee_k393 : ee_ct := (300, [.ref 1000000, .int 7], ee_yw0, (0, []), [([.int 115], ee_yw0, (0, []))], 3)
def ee_u393 : List ee_cu := []
set_option maxRecDepth 1000000 in
theorem ee_k393.ok : ee_Ct ee_mt ee_k393 := ee_cert (Γ := []) (K := []) (S := []) (f := 5000) (N := ee_me300) (cuts := ee_u393) ee_Tbok ee_gnil rfl (by decide +kernel) (by decide +kernel) (List.all_eq_true.mp (by decide +kernel))
/- String.charAt@8 -/
def ee_k394 : ee_ct := (300, [.ref 1000000, .int 8], ee_yw0, (0, []), [([.int 97], ee_yw0, (0, []))], 3)
def ee_u394 : List ee_cu := []
set_option maxRecDepth 1000000 in
theorem ee_k394.ok : ee_Ct ee_mt ee_k394 := ee_cert (Γ := []) (K := []) (S := []) (f := 5000) (N := ee_me300) (cuts := ee_u394) ee_Tbok ee_gnil rfl (by decide +kernel) (by decide +kernel) (List.all_eq_true.mp (by decide +kernel))
/- String.charAt@9 -/
def ee_k395 : ee_ct := (300, [.ref 1000000, .int 9], ee_yw0, (0, []), [([.int 99], ee_yw0, (0, []))], 3)
def ee_u395 : List ee_cu := []
set_option maxRecDepth 1000000 in
theorem ee_k395.ok : ee_Ct ee_mt ee_k395 := ee_cert (Γ := []) (K := []) (S := []) (f := 5000) (N := ee_me300) (cuts := ee_u395) ee_Tbok ee_gnil rfl (by decide +kernel) (by decide +kernel) (List.all_eq_true.mp (by decide +kernel))
/- String.charAt@10 -/
def ee_k396 : ee_ct := (300, [.ref 1000000, .int 10], ee_yw0, (0, []), [([.int 107], ee_yw0, (0, []))], 3)
def ee_u396 : List ee_cu := []
set_option maxRecDepth 1000000 in
theorem ee_k396.ok : ee_Ct ee_mt ee_k396 := ee_cert (Γ := []) (K := []) (S := []) (f := 5000) (N := ee_me300) (cuts := ee_u396) ee_Tbok ee_gnil rfl (by decide +kernel) (by decide +kernel) (List.all_eq_true.mp (by decide +kernel))
/- String.charAt@11 -/
def ee_k397 : ee_ct := (300, [.ref 1000000, .int 11], ee_yw0, (0, []), [([.int 32], ee_yw0, (0, []))], 3)
def ee_u397 : List ee_cu := []
set_option maxRecDepth 1000000 in
theorem ee_k397.ok : ee_Ct ee_mt ee_k397 := ee_cert (Γ := []) (K := []) (S := []) (f := 5000) (N := ee_me300) (cuts := ee_u397) ee_Tbok ee_gnil rfl (by decide +kernel) (by decide +kernel) (List.all_eq_true.mp (by decide +kernel))
/- String.charAt@12 -/
def ee_k398 : ee_ct := (300, [.ref 1000000, .int 12], ee_yw0, (0, []), [([.int 116], ee_yw0, (0, []))], 3)
def ee_u398 : List ee_cu := []
set_option maxRecDepth 1000000 in
theorem ee_k398.ok : ee_Ct ee_mt ee_k398 := ee_cert (Γ := []) (K := []) (S := []) (f := 5000) (N := ee_me300) (cuts := ee_u398) ee_Tbok ee_gnil rfl (by decide +kernel) (by decide +kernel) (List.all_eq_true.mp (by decide +kernel))
/- String.charAt@13 -/
def ee_k399 : ee_ct := (300, [.ref 1000000, .int 13], ee_yw0, (0, []), [([.int 104], ee_yw0, (0, []))], 3)
def ee_u399 : List ee_cu := []
set_option maxRecDepth 1000000 in
theorem ee_k399.ok : ee_Ct ee_mt ee_k399 := ee_cert (Γ := []) (K := []) (S := []) (f := 5000) (N := ee_me300) (cuts := ee_u399) ee_Tbok ee_gnil rfl (by decide +kernel) (by decide +kernel) (List.all_eq_true.mp (by decide +kernel))
/- String.charAt@14 -/
def ee_k400 : ee_ct := (300, [.ref 1000000, .int 14], ee_yw0, (0, []), [([.int 105], ee_yw0, (0, []))], 3)
def ee_u400 : List ee_cu := []
set_option maxRecDepth 1000000 in
theorem ee_k400.ok : ee_Ct ee_mt ee_k400 := ee_cert (Γ := []) (K := []) (S := []) (f := 5000) (N := ee_me300) (cuts := ee_u400) ee_Tbok ee_gnil rfl (by decide +kernel) (by decide +kernel) (List.all_eq_true.mp (by decide +kernel))
/- String.charAt@15 -/
def ee_k401 : ee_ct := (300, [.ref 1000000, .int 15], ee_yw0, (0, []), [([.int 110], ee_yw0, (0, []))], 3)
def ee_u401 : List ee_cu := []
set_option maxRecDepth 1000000 in
theorem ee_k401.ok : ee_Ct ee_mt ee_k401 := ee_cert (Γ := []) (K := []) (S := []) (f := 5000) (N := ee_me300) (cuts := ee_u401) ee_Tbok ee_gnil rfl (by decide +kernel) (by decide +kernel) (List.all_eq_true.mp (by decide +kernel))
/- String.charAt@16 -/
def ee_k402 : ee_ct := (300, [.ref 1000000, .int 16], ee_yw0, (0, []), [([.int 103], ee_yw0, (0, []))], 3)
def ee_u402 : List ee_cu := []
set_option maxRecDepth 1000000 in
theorem ee_k402.ok : ee_Ct ee_mt ee_k402 := ee_cert (Γ := []) (K := []) (S := []) (f := 5000) (N := ee_me300) (cuts := ee_u402) ee_Tbok ee_gnil rfl (by decide +kernel) (by decide +kernel) (List.all_eq_true.mp (by decide +kernel))
/- String.charAt@17 -/
def ee_k403 : ee_ct := (300, [.ref 1000000, .int 17], ee_yw0, (0, []), [([.int 32], ee_yw0, (0, []))], 3)
def ee_u403 : List ee_cu := []
set_option maxRecDepth 1000000 in
theorem ee_k403.ok : ee_Ct ee_mt ee_k403 := ee_cert (Γ := []) (K := []) (S := []) (f := 5000) (N := ee_me300) (cuts := ee_u403) ee_Tbok ee_gnil rfl (by decide +kernel) (by decide +kernel) (List.all_eq_true.mp (by decide +kernel))
/- String.charAt@18 -/
def ee_k404 : ee_ct := (300, [.ref 1000000, .int 18], ee_yw0, (0, []), [([.int 115], ee_yw0, (0, []))], 3)
def ee_u404 : List ee_cu := []
set_option maxRecDepth 1000000 in
theorem ee_k404.ok : ee_Ct ee_mt ee_k404 := ee_cert (Γ := []) (K := []) (S := []) (f := 5000) (N := ee_me300) (cuts := ee_u404) ee_Tbok ee_gnil rfl (by decide +kernel) (by decide +kernel) (List.all_eq_true.mp (by decide +kernel))
/- String.charAt@19 -/
def ee_k405 : ee_ct := (300, [.ref 1000000, .int 19], ee_yw0, (0, []), [([.int 97], ee_yw0, (0, []))], 3)
def ee_u405 : List ee_cu := []
set_option maxRecDepth 1000000 in
theorem ee_k405.ok : ee_Ct ee_mt ee_k405 := ee_cert (Γ := []) (K := []) (S := []) (f := 5000) (N := ee_me300) (cuts := ee_u405) ee_Tbok ee_gnil rfl (by decide +kernel) (by decide +kernel) (List.all_eq_true.mp (by decide +kernel))
/- String.charAt@20 -/
def ee_k406 : ee_ct := (300, [.ref 1000000, .int 20], ee_yw0, (0, []), [([.int 105], ee_yw0, (0, []))], 3)
def ee_u406 : List ee_cu := []
set_option maxRecDepth 1000000 in
theorem ee_k406.ok : ee_Ct ee_mt ee_k406 := ee_cert (Γ := []) (K := []) (S := []) (f := 5000) (N := ee_me300) (cuts := ee_u406) ee_Tbok ee_gnil rfl (by decide +kernel) (by decide +kernel) (List.all_eq_true.mp (by decide +kernel))
/- String.charAt@21 -/
def ee_k407 : ee_ct := (300, [.ref 1000000, .int 21], ee_yw0, (0, []), [([.int 100], ee_yw0, (0, []))], 3)
def ee_u407 : List ee_cu := []
set_option maxRecDepth 1000000 in
theorem ee_k407.ok : ee_Ct ee_mt ee_k407 := ee_cert (Γ := []) (K := []) (S := []) (f := 5000) (N := ee_me300) (cuts := ee_u407) ee_Tbok ee_gnil rfl (by decide +kernel) (by decide +kernel) (List.all_eq_true.mp (by decide +kernel))
/- String.charAt@22 -/
def ee_k408 : ee_ct := (300, [.ref 1000000, .int 22], ee_yw0, (0, []), [([.int 32], ee_yw0, (0, []))], 3)
def ee_u408 : List ee_cu := []
set_option maxRecDepth 1000000 in
theorem ee_k408.ok : ee_Ct ee_mt ee_k408 := ee_cert (Γ := []) (K := []) (S := []) (f := 5000) (N := ee_me300) (cuts := ee_u408) ee_Tbok ee_gnil rfl (by decide +kernel) (by decide +kernel) (List.all_eq_true.mp (by decide +kernel))
/- String.charAt@23 -/
def ee_k409 : ee_ct := (300, [.ref 1000000, .int 23], ee_yw0, (0, []), [([.int 115], ee_yw0, (0, []))], 3)
def ee_u409 : List ee_cu := []
set_option maxRecDepth 1000000 in
theorem ee_k409.ok : ee_Ct ee_mt ee_k409 := ee_cert (Γ := []) (K := []) (S := []) (f := 5000) (N := ee_me300) (cuts := ee_u409) ee_Tbok ee_gnil rfl (by decide +kernel) (by decide +kernel) (List.all_eq_true.mp (by decide +kernel))
/- String.charAt@24 -/
def ee_k410 : ee_ct := (300, [.ref 1000000, .int 24], ee_yw0, (0, []), [([.int 110], ee_yw0, (0, []))], 3)
def ee_u410 : List ee_cu := []
set_option maxRecDepth 1000000 in
theorem ee_k410.ok : ee_Ct ee_mt ee_k410 := ee_cert (Γ := []) (K := []) (S := []) (f := 5000) (N := ee_me300) (cuts := ee_u410) ee_Tbok ee_gnil rfl (by decide +kernel) (by decide +kernel) (List.all_eq_true.mp (by decide +kernel))
/- String.charAt@25 -/
def ee_k411 : ee_ct := (300, [.ref 1000000, .int 25], ee_yw0, (0, []), [([.int 101], ee_yw0, (0, []))], 3)
def ee_u411 : List ee_cu := []
set_option maxRecDepth 1000000 in
theorem ee_k411.ok : ee_Ct ee_mt ee_k411 := ee_cert (Γ := []) (K := []) (S := []) (f := 5000) (N := ee_me300) (cuts := ee_u411) ee_Tbok ee_gnil rfl (by decide +kernel) (by decide +kernel) (List.all_eq_true.mp (by decide +kernel))
/- String.charAt@26 -/
def ee_k412 : ee_ct := (300, [.ref 1000000, .int 26], ee_yw0, (0, []), [([.int 101], ee_yw0, (0, []))], 3)
def ee_u412 : List ee_cu := []
set_option maxRecDepth 1000000 in
theorem ee_k412.ok : ee_Ct ee_mt ee_k412 := ee_cert (Γ := []) (K := []) (S := []) (f := 5000) (N := ee_me300) (cuts := ee_u412) ee_Tbok ee_gnil rfl (by decide +kernel) (by decide +kernel) (List.all_eq_true.mp (by decide +kernel))
/- String.charAt@27 -/
def ee_k413 : ee_ct := (300, [.ref 1000000, .int 27], ee_yw0, (0, []), [([.int 122], ee_yw0, (0, []))], 3)
def ee_u413 : List ee_cu := []
set_option maxRecDepth 1000000 in
theorem ee_k413.ok : ee_Ct ee_mt ee_k413 := ee_cert (Γ := []) (K := []) (S := []) (f := 5000) (N := ee_me300) (cuts := ee_u413) ee_Tbok ee_gnil rfl (by decide +kernel) (by decide +kernel) (List.all_eq_true.mp (by decide +kernel))
/- String.charAt@28 -/
def ee_k414 : ee_ct := (300, [.ref 1000000, .int 28], ee_yw0, (0, []), [([.int 101], ee_yw0, (0, []))], 3)
def ee_u414 : List ee_cu := []
set_option maxRecDepth 1000000 in
theorem ee_k414.ok : ee_Ct ee_mt ee_k414 := ee_cert (Γ := []) (K := []) (S := []) (f := 5000) (N := ee_me300) (cuts := ee_u414) ee_Tbok ee_gnil rfl (by decide +kernel) (by decide +kernel) (List.all_eq_true.mp (by decide +kernel))
/- String.charAt@29 -/
def ee_k415 : ee_ct := (300, [.ref 1000000, .int 29], ee_yw0, (0, []), [([.int 32], ee_yw0, (0, []))], 3)
def ee_u415 : List ee_cu := []
set_option maxRecDepth 1000000 in
theorem ee_k415.ok : ee_Ct ee_mt ee_k415 := ee_cert (Γ := []) (K := []) (S := []) (f := 5000) (N := ee_me300) (cuts := ee_u415) ee_Tbok ee_gnil rfl (by decide +kernel) (by decide +kernel) (List.all_eq_true.mp (by decide +kernel))
/- String.charAt@30 -/
def ee_k416 : ee_ct := (300, [.ref 1000000, .int 30], ee_yw0, (0, []), [([.int 100], ee_yw0, (0, []))], 3)
def ee_u416 : List ee_cu := []
set_option maxRecDepth 1000000 in
theorem ee_k416.ok : ee_Ct ee_mt ee_k416 := ee_cert (Γ := []) (K := []) (S := []) (f := 5000) (N := ee_me300) (cuts := ee_u416) ee_Tbok ee_gnil rfl (by decide +kernel) (by decide +kernel) (List.all_eq_true.mp (by decide +kernel))
/- String.charAt@31 -/
def ee_k417 : ee_ct := (300, [.ref 1000000, .int 31], ee_yw0, (0, []), [([.int 114], ee_yw0, (0, []))], 3)
def ee_u417 : List ee_cu := []
set_option maxRecDepth 1000000 in
theorem ee_k417.ok : ee_Ct ee_mt ee_k417 := ee_cert (Γ := []) (K := []) (S := []) (f := 5000) (N := ee_me300) (cuts := ee_u417) ee_Tbok ee_gnil rfl (by decide +kernel) (by decide +kernel) (List.all_eq_true.mp (by decide +kernel))
/- String.charAt@32 -/
def ee_k418 : ee_ct := (300, [.ref 1000000, .int 32], ee_yw0, (0, []), [([.int 97], ee_yw0, (0, []))], 3)
def ee_u418 : List ee_cu := []
set_option maxRecDepth 1000000 in
theorem ee_k418.ok : ee_Ct ee_mt ee_k418 := ee_cert (Γ := []) (K := []) (S := []) (f := 5000) (N := ee_me300) (cuts := ee_u418) ee_Tbok ee_gnil rfl (by decide +kernel) (by decide +kernel) (List.all_eq_true.mp (by decide +kernel))
/- String.charAt@33 -/
def ee_k419 : ee_ct := (300, [.ref 1000000, .int 33], ee_yw0, (0, []), [([.int 119], ee_yw0, (0, []))], 3)
def ee_u419 : List ee_cu := []
set_option maxRecDepth 1000000 in
theorem ee_k419.ok : ee_Ct ee_mt ee_k419 := ee_cert (Γ := []) (K := []) (S := []) (f := 5000) (N := ee_me300) (cuts := ee_u419) ee_Tbok ee_gnil rfl (by decide +kernel) (by decide +kernel) (List.all_eq_true.mp (by decide +kernel))
/- String.charAt@34 -/
def ee_k420 : ee_ct := (300, [.ref 1000000, .int 34], ee_yw0, (0, []), [([.int 32], ee_yw0, (0, []))], 3)
def ee_u420 : List ee_cu := []
set_option maxRecDepth 1000000 in
theorem ee_k420.ok : ee_Ct ee_mt ee_k420 := ee_cert (Γ := []) (K := []) (S := []) (f := 5000) (N := ee_me300) (cuts := ee_u420) ee_Tbok ee_gnil rfl (by decide +kernel) (by decide +kernel) (List.all_eq_true.mp (by decide +kernel))
/- String.charAt@35 -/
def ee_k421 : ee_ct := (300, [.ref 1000000, .int 35], ee_yw0, (0, []), [([.int 98], ee_yw0, (0, []))], 3)
def ee_u421 : List ee_cu := []
set_option maxRecDepth 1000000 in
theorem ee_k421.ok : ee_Ct ee_mt ee_k421 := ee_cert (Γ := []) (K := []) (S := []) (f := 5000) (N := ee_me300) (cuts := ee_u421) ee_Tbok ee_gnil rfl (by decide +kernel) (by decide +kernel) (List.all_eq_true.mp (by decide +kernel))
/- String.charAt@36 -/
def ee_k422 : ee_ct := (300, [.ref 1000000, .int 36], ee_yw0, (0, []), [([.int 121], ee_yw0, (0, []))], 3)
def ee_u422 : List ee_cu := []
set_option maxRecDepth 1000000 in
theorem ee_k422.ok : ee_Ct ee_mt ee_k422 := ee_cert (Γ := []) (K := []) (S := []) (f := 5000) (N := ee_me300) (cuts := ee_u422) ee_Tbok ee_gnil rfl (by decide +kernel) (by decide +kernel) (List.all_eq_true.mp (by decide +kernel))
/- String.charAt@37 -/
def ee_k423 : ee_ct := (300, [.ref 1000000, .int 37], ee_yw0, (0, []), [([.int 32], ee_yw0, (0, []))], 3)
def ee_u423 : List ee_cu := []
set_option maxRecDepth 1000000 in
theorem ee_k423.ok : ee_Ct ee_mt ee_k423 := ee_cert (Γ := []) (K := []) (S := []) (f := 5000) (N := ee_me300) (cuts := ee_u423) ee_Tbok ee_gnil rfl (by decide +kernel) (by decide +kernel) (List.all_eq_true.mp (by decide +kernel))
/- String.charAt@38 -/
def ee_k424 : ee_ct := (300, [.ref 1000000, .int 38], ee_yw0, (0, []), [([.int 116], ee_yw0, (0, []))], 3)
def ee_u424 : List ee_cu := []
set_option maxRecDepth 1000000 in
theorem ee_k424.ok : ee_Ct ee_mt ee_k424 := ee_cert (Γ := []) (K := []) (S := []) (f := 5000) (N := ee_me300) (cuts := ee_u424) ee_Tbok ee_gnil rfl (by decide +kernel) (by decide +kernel) (List.all_eq_true.mp (by decide +kernel))
/- String.charAt@39 -/
def ee_k425 : ee_ct := (300, [.ref 1000000, .int 39], ee_yw0, (0, []), [([.int 111], ee_yw0, (0, []))], 3)
def ee_u425 : List ee_cu := []
set_option maxRecDepth 1000000 in
theorem ee_k425.ok : ee_Ct ee_mt ee_k425 := ee_cert (Γ := []) (K := []) (S := []) (f := 5000) (N := ee_me300) (cuts := ee_u425) ee_Tbok ee_gnil rfl (by decide +kernel) (by decide +kernel) (List.all_eq_true.mp (by decide +kernel))
/- String.charAt@40 -/
def ee_k426 : ee_ct := (300, [.ref 1000000, .int 40], ee_yw0, (0, []), [([.int 32], ee_yw0, (0, []))], 3)
def ee_u426 : List ee_cu := []
set_option maxRecDepth 1000000 in
theorem ee_k426.ok : ee_Ct ee_mt ee_k426 := ee_cert (Γ := []) (K := []) (S := []) (f := 5000) (N := ee_me300) (cuts := ee_u426) ee_Tbok ee_gnil rfl (by decide +kernel) (by decide +kernel) (List.all_eq_true.mp (by decide +kernel))
/- String.charAt@41 -/
def ee_k427 : ee_ct := (300, [.ref 1000000, .int 41], ee_yw0, (0, []), [([.int 105], ee_yw0, (0, []))], 3)
def ee_u427 : List ee_cu := []
set_option maxRecDepth 1000000 in
theorem ee_k427.ok : ee_Ct ee_mt ee_k427 := ee_cert (Γ := []) (K := []) (S := []) (f := 5000) (N := ee_me300) (cuts := ee_u427) ee_Tbok ee_gnil rfl (by decide +kernel) (by decide +kernel) (List.all_eq_true.mp (by decide +kernel))
/- String.charAt@42 -/
def ee_k428 : ee_ct := (300, [.ref 1000000, .int 42], ee_yw0, (0, []), [([.int 110], ee_yw0, (0, []))], 3)
def ee_u428 : List ee_cu := []
set_option maxRecDepth 1000000 in
theorem ee_k428.ok : ee_Ct ee_mt ee_k428 := ee_cert (Γ := []) (K := []) (S := []) (f := 5000) (N := ee_me300) (cuts := ee_u428) ee_Tbok ee_gnil rfl (by decide +kernel) (by decide +kernel) (List.all_eq_true.mp (by decide +kernel))
/- String.charAt@43 -/
def ee_k429 : ee_ct := (300, [.ref 1000000, .int 43], ee_yw0, (0, []), [([.int 32], ee_yw0, (0, []))], 3)
def ee_u429 : List ee_cu := []
set_option maxRecDepth 1000000 in
theorem ee_k429.ok : ee_Ct ee_mt ee_k429 := ee_cert (Γ := []) (K := []) (S := []) (f := 5000) (N := ee_me300) (cuts := ee_u429) ee_Tbok ee_gnil rfl (by decide +kernel) (by decide +kernel) (List.all_eq_true.mp (by decide +kernel))
/- String.charAt@44 -/
def ee_k430 : ee_ct := (300, [.ref 1000000, .int 44], ee_yw0, (0, []), [([.int 111], ee_yw0, (0, []))], 3)
def ee_u430 : List ee_cu := []
set_option maxRecDepth 1000000 in
theorem ee_k430.ok : ee_Ct ee_mt ee_k430 := ee_cert (Γ := []) (K := []) (S := []) (f := 5000) (N := ee_me300) (cuts := ee_u430) ee_Tbok ee_gnil rfl (by decide +kernel) (by decide +kernel) (List.all_eq_true.mp (by decide +kernel))
/- String.charAt@45 -/
def ee_k431 : ee_ct := (300, [.ref 1000000, .int 45], ee_yw0, (0, []), [([.int 114], ee_yw0, (0, []))], 3)
def ee_u431 : List ee_cu := []
set_option maxRecDepth 1000000 in
theorem ee_k431.ok : ee_Ct ee_mt ee_k431 := ee_cert (Γ := []) (K := []) (S := []) (f := 5000) (N := ee_me300) (cuts := ee_u431) ee_Tbok ee_gnil rfl (by decide +kernel) (by decide +kernel) (List.all_eq_true.mp (by decide +kernel))
/- String.charAt@46 -/
def ee_k432 : ee_ct := (300, [.ref 1000000, .int 46], ee_yw0, (0, []), [([.int 32], ee_yw0, (0, []))], 3)
def ee_u432 : List ee_cu := []
set_option maxRecDepth 1000000 in
theorem ee_k432.ok : ee_Ct ee_mt ee_k432 := ee_cert (Γ := []) (K := []) (S := []) (f := 5000) (N := ee_me300) (cuts := ee_u432) ee_Tbok ee_gnil rfl (by decide +kernel) (by decide +kernel) (List.all_eq_true.mp (by decide +kernel))
/- String.charAt@47 -/
def ee_k433 : ee_ct := (300, [.ref 1000000, .int 47], ee_yw0, (0, []), [([.int 97], ee_yw0, (0, []))], 3)
def ee_u433 : List ee_cu := []
set_option maxRecDepth 1000000 in
theorem ee_k433.ok : ee_Ct ee_mt ee_k433 := ee_cert (Γ := []) (K := []) (S := []) (f := 5000) (N := ee_me300) (cuts := ee_u433) ee_Tbok ee_gnil rfl (by decide +kernel) (by decide +kernel) (List.all_eq_true.mp (by decide +kernel))
/- String.charAt@48 -/
def ee_k434 : ee_ct := (300, [.ref 1000000, .int 48], ee_yw0, (0, []), [([.int 110], ee_yw0, (0, []))], 3)
def ee_u434 : List ee_cu := []
set_option maxRecDepth 1000000 in
theorem ee_k434.ok : ee_Ct ee_mt ee_k434 := ee_cert (Γ := []) (K := []) (S := []) (f := 5000) (N := ee_me300) (cuts := ee_u434) ee_Tbok ee_gnil rfl (by decide +kernel) (by decide +kernel) (List.all_eq_true.mp (by decide +kernel))
/- String.charAt@49 -/
def ee_k435 : ee_ct := (300, [.ref 1000000, .int 49], ee_yw0, (0, []), [([.int 100], ee_yw0, (0, []))], 3)
def ee_u435 : List ee_cu := []
set_option maxRecDepth 1000000 in
theorem ee_k435.ok : ee_Ct ee_mt ee_k435 := ee_cert (Γ := []) (K := []) (S := []) (f := 5000) (N := ee_me300) (cuts := ee_u435) ee_Tbok ee_gnil rfl (by decide +kernel) (by decide +kernel) (List.all_eq_true.mp (by decide +kernel))
/- String.charAt@50 -/
def ee_k436 : ee_ct := (300, [.ref 1000000, .int 50], ee_yw0, (0, []), [([.int 32], ee_yw0, (0, []))], 3)
def ee_u436 : List ee_cu := []
set_option maxRecDepth 1000000 in
theorem ee_k436.ok : ee_Ct ee_mt ee_k436 := ee_cert (Γ := []) (K := []) (S := []) (f := 5000) (N := ee_me300) (cuts := ee_u436) ee_Tbok ee_gnil rfl (by decide +kernel) (by decide +kernel) (List.all_eq_true.mp (by decide +kernel))
/- String.charAt@51 -/
def ee_k437 : ee_ct := (300, [.ref 1000000, .int 51], ee_yw0, (0, []), [([.int 110], ee_yw0, (0, []))], 3)
def ee_u437 : List ee_cu := []
set_option maxRecDepth 1000000 in
theorem ee_k437.ok : ee_Ct ee_mt ee_k437 := ee_cert (Γ := []) (K := []) (S := []) (f := 5000) (N := ee_me300) (cuts := ee_u437) ee_Tbok ee_gnil rfl (by decide +kernel) (by decide +kernel) (List.all_eq_true.mp (by decide +kernel))
/- String.charAt@52 -/
def ee_k438 : ee_ct := (300, [.ref 1000000, .int 52], ee_yw0, (0, []), [([.int 111], ee_yw0, (0, []))], 3)
def ee_u438 : List ee_cu := []
set_option maxRecDepth 1000000 in
theorem ee_k438.ok : ee_Ct ee_mt ee_k438 := ee_cert (Γ := []) (K := []) (S := []) (f := 5000) (N := ee_me300) (cuts := ee_u438) ee_Tbok ee_gnil rfl (by decide +kernel) (by decide +kernel) (List.all_eq_true.mp (by decide +kernel))
/- String.charAt@53 -/
def ee_k439 : ee_ct := (300, [.ref 1000000, .int 53], ee_yw0, (0, []), [([.int 116], ee_yw0, (0, []))], 3)
def ee_u439 : List ee_cu := []
set_option maxRecDepth 1000000 in
theorem ee_k439.ok : ee_Ct ee_mt ee_k439 := ee_cert (Γ := []) (K := []) (S := []) (f := 5000) (N := ee_me300) (cuts := ee_u439) ee_Tbok ee_gnil rfl (by decide +kernel) (by decide +kernel) (List.all_eq_true.mp (by decide +kernel))
/- String.charAt@54 -/
def ee_k440 : ee_ct := (300, [.ref 1000000, .int 54], ee_yw0, (0, []), [([.int 32], ee_yw0, (0, []))], 3)
def ee_u440 : List ee_cu := []
set_option maxRecDepth 1000000 in
theorem ee_k440.ok : ee_Ct ee_mt ee_k440 := ee_cert (Γ := []) (K := []) (S := []) (f := 5000) (N := ee_me300) (cuts := ee_u440) ee_Tbok ee_gnil rfl (by decide +kernel) (by decide +kernel) (List.all_eq_true.mp (by decide +kernel))
/- String.charAt@55 -/
def ee_k441 : ee_ct := (300, [.ref 1000000, .int 55], ee_yw0, (0, []), [([.int 104], ee_yw0, (0, []))], 3)
def ee_u441 : List ee_cu := []
set_option maxRecDepth 1000000 in
theorem ee_k441.ok : ee_Ct ee_mt ee_k441 := ee_cert (Γ := []) (K := []) (S := []) (f := 5000) (N := ee_me300) (cuts := ee_u441) ee_Tbok ee_gnil rfl (by decide +kernel) (by decide +kernel) (List.all_eq_true.mp (by decide +kernel))
/- String.charAt@56 -/
def ee_k442 : ee_ct := (300, [.ref 1000000, .int 56], ee_yw0, (0, []), [([.int 111], ee_yw0, (0, []))], 3)
def ee_u442 : List ee_cu := []
set_option maxRecDepth 1000000 in
theorem ee_k442.ok : ee_Ct ee_mt ee_k442 := ee_cert (Γ := []) (K := []) (S := []) (f := 5000) (N := ee_me300) (cuts := ee_u442) ee_Tbok ee_gnil rfl (by decide +kernel) (by decide +kernel) (List.all_eq_true.mp (by decide +kernel))
/- String.charAt@57 -/
def ee_k443 : ee_ct := (300, [.ref 1000000, .int 57], ee_yw0, (0, []), [([.int 116], ee_yw0, (0, []))], 3)
def ee_u443 : List ee_cu := []
set_option maxRecDepth 1000000 in
theorem ee_k443.ok : ee_Ct ee_mt ee_k443 := ee_cert (Γ := []) (K := []) (S := []) (f := 5000) (N := ee_me300) (cuts := ee_u443) ee_Tbok ee_gnil rfl (by decide +kernel) (by decide +kernel) (List.all_eq_true.mp (by decide +kernel))
/- String.charAt@58 -/
def ee_k444 : ee_ct := (300, [.ref 1000000, .int 58], ee_yw0, (0, []), [([.int 32], ee_yw0, (0, []))], 3)
def ee_u444 : List ee_cu := []
set_option maxRecDepth 1000000 in
theorem ee_k444.ok : ee_Ct ee_mt ee_k444 := ee_cert (Γ := []) (K := []) (S := []) (f := 5000) (N := ee_me300) (cuts := ee_u444) ee_Tbok ee_gnil rfl (by decide +kernel) (by decide +kernel) (List.all_eq_true.mp (by decide +kernel))
/- String.charAt@59 -/
def ee_k445 : ee_ct := (300, [.ref 1000000, .int 59], ee_yw0, (0, []), [([.int 115], ee_yw0, (0, []))], 3)
def ee_u445 : List ee_cu := []
set_option maxRecDepth 1000000 in
theorem ee_k445.ok : ee_Ct ee_mt ee_k445 := ee_cert (Γ := []) (K := []) (S := []) (f := 5000) (N := ee_me300) (cuts := ee_u445) ee_Tbok ee_gnil rfl (by decide +kernel) (by decide +kernel) (List.all_eq_true.mp (by decide +kernel))
/- String.charAt@60 -/
def ee_k446 : ee_ct := (300, [.ref 1000000, .int 60], ee_yw0, (0, []), [([.int 104], ee_yw0, (0, []))], 3)
def ee_u446 : List ee_cu := []
set_option maxRecDepth 1000000 in
theorem ee_k446.ok : ee_Ct ee_mt ee_k446 := ee_cert (Γ := []) (K := []) (S := []) (f := 5000) (N := ee_me300) (cuts := ee_u446) ee_Tbok ee_gnil rfl (by decide +kernel) (by decide +kernel) (List.all_eq_true.mp (by decide +kernel))
/- String.charAt@61 -/
def ee_k447 : ee_ct := (300, [.ref 1000000, .int 61], ee_yw0, (0, []), [([.int 121], ee_yw0, (0, []))], 3)
def ee_u447 : List ee_cu := []
set_option maxRecDepth 1000000 in
theorem ee_k447.ok : ee_Ct ee_mt ee_k447 := ee_cert (Γ := []) (K := []) (S := []) (f := 5000) (N := ee_me300) (cuts := ee_u447) ee_Tbok ee_gnil rfl (by decide +kernel) (by decide +kernel) (List.all_eq_true.mp (by decide +kernel))
/- String.charAt@62 -/
def ee_k448 : ee_ct := (300, [.ref 1000000, .int 62], ee_yw0, (0, []), [([.int 32], ee_yw0, (0, []))], 3)
def ee_u448 : List ee_cu := []
set_option maxRecDepth 1000000 in
theorem ee_k448.ok : ee_Ct ee_mt ee_k448 := ee_cert (Γ := []) (K := []) (S := []) (f := 5000) (N := ee_me300) (cuts := ee_u448) ee_Tbok ee_gnil rfl (by decide +kernel) (by decide +kernel) (List.all_eq_true.mp (by decide +kernel))
/- String.charAt@63 -/
def ee_k449 : ee_ct := (300, [.ref 1000000, .int 63], ee_yw0, (0, []), [([.int 103], ee_yw0, (0, []))], 3)
def ee_u449 : List ee_cu := []
set_option maxRecDepth 1000000 in
theorem ee_k449.ok : ee_Ct ee_mt ee_k449 := ee_cert (Γ := []) (K := []) (S := []) (f := 5000) (N := ee_me300) (cuts := ee_u449) ee_Tbok ee_gnil rfl (by decide +kernel) (by decide +kernel) (List.all_eq_true.mp (by decide +kernel))
/- String.charAt@64 -/
def ee_k450 : ee_ct := (300, [.ref 1000000, .int 64], ee_yw0, (0, []), [([.int 117], ee_yw0, (0, []))], 3)
def ee_u450 : List ee_cu := []
set_option maxRecDepth 1000000 in
theorem ee_k450.ok : ee_Ct ee_mt ee_k450 := ee_cert (Γ := []) (K := []) (S := []) (f := 5000) (N := ee_me300) (cuts := ee_u450) ee_Tbok ee_gnil rfl (by decide +kernel) (by decide +kernel) (List.all_eq_true.mp (by decide +kernel))
/- String.charAt@65 -/
def ee_k451 : ee_ct := (300, [.ref 1000000, .int 65], ee_yw0, (0, []), [([.int 101], ee_yw0, (0, []))], 3)
def ee_u451 : List ee_cu := []
set_option maxRecDepth 1000000 in
theorem ee_k451.ok : ee_Ct ee_mt ee_k451 := ee_cert (Γ := []) (K := []) (S := []) (f := 5000) (N := ee_me300) (cuts := ee_u451) ee_Tbok ee_gnil rfl (by decide +kernel) (by decide +kernel) (List.all_eq_true.mp (by decide +kernel))
/- String.charAt@66 -/
def ee_k452 : ee_ct := (300, [.ref 1000000, .int 66], ee_yw0, (0, []), [([.int 115], ee_yw0, (0, []))], 3)
def ee_u452 : List ee_cu := []
set_option maxRecDepth 1000000 in
theorem ee_k452.ok : ee_Ct ee_mt ee_k452 := ee_cert (Γ := []) (K := []) (S := []) (f := 5000) (N := ee_me300) (cuts := ee_u452) ee_Tbok ee_gnil rfl (by decide +kernel) (by decide +kernel) (List.all_eq_true.mp (by decide +kernel))
/- String.charAt@67 -/
def ee_k453 : ee_ct := (300, [.ref 1000000, .int 67], ee_yw0, (0, []), [([.int 116], ee_yw0, (0, []))], 3)
def ee_u453 : List ee_cu := []
set_option maxRecDepth 1000000 in
theorem ee_k453.ok : ee_Ct ee_mt ee_k453 := ee_cert (Γ := []) (K := []) (S := []) (f := 5000) (N := ee_me300) (cuts := ee_u453) ee_Tbok ee_gnil rfl (by decide +kernel) (by decide +kernel) (List.all_eq_true.mp (by decide +kernel))
/- String.charAt@68 -/
def ee_k454 : ee_ct := (300, [.ref 1000000, .int 68], ee_yw0, (0, []), [([.int 115], ee_yw0, (0, []))], 3)
def ee_u454 : List ee_cu := []
set_option maxRecDepth 1000000 in
theorem ee_k454.ok : ee_Ct ee_mt ee_k454 := ee_cert (Γ := []) (K := []) (S := []) (f := 5000) (N := ee_me300) (cuts := ee_u454) ee_Tbok ee_gnil rfl (by decide +kernel) (by decide +kernel) (List.all_eq_true.mp (by decide +kernel))
/- String.charAt@69 -/
def ee_k455 : ee_ct := (300, [.ref 1000000, .int 69], ee_yw0, (0, []), [([.int 32], ee_yw0, (0, []))], 3)
def ee_u455 : List ee_cu := []
set_option maxRecDepth 1000000 in
theorem ee_k455.ok : ee_Ct ee_mt ee_k455 := ee_cert (Γ := []) (K := []) (S := []) (f := 5000) (N := ee_me300) (cuts := ee_u455) ee_Tbok ee_gnil rfl (by decide +kernel) (by decide +kernel) (List.all_eq_true.mp (by decide +kernel))
/- String.charAt@70 -/
def ee_k456 : ee_ct := (300, [.ref 1000000, .int 70], ee_yw0, (0, []), [([.int 103], ee_yw0, (0, []))], 3)
def ee_u456 : List ee_cu := []
set_option maxRecDepth 1000000 in
theorem ee_k456.ok : ee_Ct ee_mt ee_k456 := ee_cert (Γ := []) (K := []) (S := []) (f := 5000) (N := ee_me300) (cuts := ee_u456) ee_Tbok ee_gnil rfl (by decide +kernel) (by decide +kernel) (List.all_eq_true.mp (by decide +kernel))
/- String.charAt@71 -/
def ee_k457 : ee_ct := (300, [.ref 1000000, .int 71], ee_yw0, (0, []), [([.int 114], ee_yw0, (0, []))], 3)
def ee_u457 : List ee_cu := []
set_option maxRecDepth 1000000 in
theorem ee_k457.ok : ee_Ct ee_mt ee_k457 := ee_cert (Γ := []) (K := []) (S := []) (f := 5000) (N := ee_me300) (cuts := ee_u457) ee_Tbok ee_gnil rfl (by decide +kernel) (by decide +kernel) (List.all_eq_true.mp (by decide +kernel))
/- String.charAt@72 -/
def ee_k458 : ee_ct := (300, [.ref 1000000, .int 72], ee_yw0, (0, []), [([.int 111], ee_yw0, (0, []))], 3)
def ee_u458 : List ee_cu := []
set_option maxRecDepth 1000000 in
theorem ee_k458.ok : ee_Ct ee_mt ee_k458 := ee_cert (Γ := []) (K := []) (S := []) (f := 5000) (N := ee_me300) (cuts := ee_u458) ee_Tbok ee_gnil rfl (by decide +kernel) (by decide +kernel) (List.all_eq_true.mp (by decide +kernel))
/- String.charAt@73 -/
def ee_k459 : ee_ct := (300, [.ref 1000000, .int 73], ee_yw0, (0, []), [([.int 117], ee_yw0, (0, []))], 3)
def ee_u459 : List ee_cu := []
set_option maxRecDepth 1000000 in
theorem ee_k459.ok : ee_Ct ee_mt ee_k459 := ee_cert (Γ := []) (K := []) (S := []) (f := 5000) (N := ee_me300) (cuts := ee_u459) ee_Tbok ee_gnil rfl (by decide +kernel) (by decide +kernel) (List.all_eq_true.mp (by decide +kernel))
/- String.charAt@74 -/
def ee_k460 : ee_ct := (300, [.ref 1000000, .int 74], ee_yw0, (0, []), [([.int 110], ee_yw0, (0, []))], 3)
def ee_u460 : List ee_cu := []
set_option maxRecDepth 1000000 in
theorem ee_k460.ok : ee_Ct ee_mt ee_k460 := ee_cert (Γ := []) (K := []) (S := []) (f := 5000) (N := ee_me300) (cuts := ee_u460) ee_Tbok ee_gnil rfl (by decide +kernel) (by decide +kernel) (List.all_eq_true.mp (by decide +kernel))
/- String.charAt@75 -/
def ee_k461 : ee_ct := (300, [.ref 1000000, .int 75], ee_yw0, (0, []), [([.int 100], ee_yw0, (0, []))], 3)
def ee_u461 : List ee_cu := []
set_option maxRecDepth 1000000 in
theorem ee_k461.ok : ee_Ct ee_mt ee_k461 := ee_cert (Γ := []) (K := []) (S := []) (f := 5000) (N := ee_me300) (cuts := ee_u461) ee_Tbok ee_gnil rfl (by decide +kernel) (by decide +kernel) (List.all_eq_true.mp (by decide +kernel))
/- String.charAt@76 -/
def ee_k462 : ee_ct := (300, [.ref 1000000, .int 76], ee_yw0, (0, []), [([.int 32], ee_yw0, (0, []))], 3)
def ee_u462 : List ee_cu := []
set_option maxRecDepth 1000000 in
theorem ee_k462.ok : ee_Ct ee_mt ee_k462 := ee_cert (Γ := []) (K := []) (S := []) (f := 5000) (N := ee_me300) (cuts := ee_u462) ee_Tbok ee_gnil rfl (by decide +kernel) (by decide +kernel) (List.all_eq_true.mp (by decide +kernel))
/- String.charAt@77 -/
def ee_k463 : ee_ct := (300, [.ref 1000000, .int 77], ee_yw0, (0, []), [([.int 104], ee_yw0, (0, []))], 3)
def ee_u463 : List ee_cu := []
set_option maxRecDepth 1000000 in
theorem ee_k463.ok : ee_Ct ee_mt ee_k463 := ee_cert (Γ := []) (K := []) (S := []) (f := 5000) (N := ee_me300) (cuts := ee_u463) ee_Tbok ee_gnil rfl (by decide +kernel) (by decide +kernel) (List.all_eq_true.mp (by decide +kernel))
/- String.charAt@78 -/
def ee_k464 : ee_ct := (300, [.ref 1000000, .int 78], ee_yw0, (0, []), [([.int 101], ee_yw0, (0, []))], 3)
def ee_u464 : List ee_cu := []
set_option maxRecDepth 1000000 in
theorem ee_k464.ok : ee_Ct ee_mt ee_k464 := ee_cert (Γ := []) (K := []) (S := []) (f := 5000) (N := ee_me300) (cuts := ee_u464) ee_Tbok ee_gnil rfl (by decide +kernel) (by decide +kernel) (List.all_eq_true.mp (by decide +kernel))
/- String.charAt@79 -/
def ee_k465 : ee_ct := (300, [.ref 1000000, .int 79], ee_yw0, (0, []), [([.int 97], ee_yw0, (0, []))], 3)
def ee_u465 : List ee_cu := []
set_option maxRecDepth 1000000 in
theorem ee_k465.ok : ee_Ct ee_mt ee_k465 := ee_cert (Γ := []) (K := []) (S := []) (f := 5000) (N := ee_me300) (cuts := ee_u465) ee_Tbok ee_gnil rfl (by decide +kernel) (by decide +kernel) (List.all_eq_true.mp (by decide +kernel))
/- String.charAt@80 -/
def ee_k466 : ee_ct := (300, [.ref 1000000, .int 80], ee_yw0, (0, []), [([.int 116], ee_yw0, (0, []))], 3)
def ee_u466 : List ee_cu := []
set_option maxRecDepth 1000000 in
theorem ee_k466.ok : ee_Ct ee_mt ee_k466 := ee_cert (Γ := []) (K := []) (S := []) (f := 5000) (N := ee_me300) (cuts := ee_u466) ee_Tbok ee_gnil rfl (by decide +kernel) (by decide +kernel) (List.all_eq_true.mp (by decide +kernel))
/- String.charAt@81 -/
def ee_k467 : ee_ct := (300, [.ref 1000000, .int 81], ee_yw0, (0, []), [([.int 32], ee_yw0, (0, []))], 3)
def ee_u467 : List ee_cu := []
set_option maxRecDepth 1000000 in
theorem ee_k467.ok : ee_Ct ee_mt ee_k467 := ee_cert (Γ := []) (K := []) (S := []) (f := 5000) (N := ee_me300) (cuts := ee_u467) ee_Tbok ee_gnil rfl (by decide +kernel) (by decide +kernel) (List.all_eq_true.mp (by decide +kernel))
/- String.charAt@82 -/
def ee_k468 : ee_ct := (300, [.ref 1000000, .int 82], ee_yw0, (0, []), [([.int 99], ee_yw0, (0, []))], 3)
def ee_u468 : List ee_cu := []
set_option maxRecDepth 1000000 in
theorem ee_k468.ok : ee_Ct ee_mt ee_k468 := ee_cert (Γ := []) (K := []) (S := []) (f := 5000) (N := ee_me300) (cuts := ee_u468) ee_Tbok ee_gnil rfl (by decide +kernel) (by decide +kernel) (List.all_eq_true.mp (by decide +kernel))
/- String.charAt@83 -/
def ee_k469 : ee_ct := (300, [.ref 1000000, .int 83], ee_yw0, (0, []), [([.int 111], ee_yw0, (0, []))], 3)
def ee_u469 : List ee_cu := []
set_option maxRecDepth 1000000 in
theorem ee_k469.ok : ee_Ct ee_mt ee_k469 := ee_cert (Γ := []) (K := []) (S := []) (f := 5000) (N := ee_me300) (cuts := ee_u469) ee_Tbok ee_gnil rfl (by decide +kernel) (by decide +kernel) (List.all_eq_true.mp (by decide +kernel))
/- String.charAt@84 -/
def ee_k470 : ee_ct := (300, [.ref 1000000, .int 84], ee_yw0, (0, []), [([.int 117], ee_yw0, (0, []))], 3)
def ee_u470 : List ee_cu := []
set_option maxRecDepth 1000000 in
theorem ee_k470.ok : ee_Ct ee_mt ee_k470 := ee_cert (Γ := []) (K := []) (S := []) (f := 5000) (N := ee_me300) (cuts := ee_u470) ee_Tbok ee_gnil rfl (by decide +kernel) (by decide +kernel) (List.all_eq_true.mp (by decide +kernel))
/- String.charAt@85 -/
def ee_k471 : ee_ct := (300, [.ref 1000000, .int 85], ee_yw0, (0, []), [([.int 114], ee_yw0, (0, []))], 3)
def ee_u471 : List ee_cu := []
set_option maxRecDepth 1000000 in
theorem ee_k471.ok : ee_Ct ee_mt ee_k471 := ee_cert (Γ := []) (K := []) (S := []) (f := 5000) (N := ee_me300) (cuts := ee_u471) ee_Tbok ee_gnil rfl (by decide +kernel) (by decide +kernel) (List.all_eq_true.mp (by decide +kernel))
/- String.charAt@86 -/
def ee_k472 : ee_ct := (300, [.ref 1000000, .int 86], ee_yw0, (0, []), [([.int 115], ee_yw0, (0, []))], 3)
def ee_u472 : List ee_cu := []
set_option maxRecDepth 1000000 in
theorem ee_k472.ok : ee_Ct ee_mt ee_k472 := ee_cert (Γ := []) (K := []) (S := []) (f := 5000) (N := ee_me300) (cuts := ee_u472) ee_Tbok ee_gnil rfl (by decide +kernel) (by decide +kernel) (List.all_eq_true.mp (by decide +kernel))
/- String.charAt@87 -/
def ee_k473 : ee_ct := (300, [.ref 1000000, .int 87], ee_yw0, (0, []), [([.int 101], ee_yw0, (0, []))], 3)
def ee_u473 : List ee_cu := []
set_option maxRecDepth 1000000 in
theorem ee_k473.ok : ee_Ct ee_mt ee_k473 := ee_cert (Γ := []) (K := []) (S := []) (f := 5000) (N := ee_me300) (cuts := ee_u473) ee_Tbok ee_gnil rfl (by decide +kernel) (by decide +kernel) (List.all_eq_true.mp (by decide +kernel))
/- String.charAt@88 -/
def ee_k474 : ee_ct := (300, [.ref 1000000, .int 88], ee_yw0, (0, []), [([.int 32], ee_yw0, (0, []))], 3)
def ee_u474 : List ee_cu := []
set_option maxRecDepth 1000000 in
theorem ee_k474.ok : ee_Ct ee_mt ee_k474 := ee_cert (Γ := []) (K := []) (S := []) (f := 5000) (N := ee_me300) (cuts := ee_u474) ee_Tbok ee_gnil rfl (by decide +kernel) (by decide +kernel) (List.all_eq_true.mp (by decide +kernel))
