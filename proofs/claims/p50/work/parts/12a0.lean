/-! contracts -/
theorem ee_Tbok : ee_Tb ee_mt := ⟨ee_MTok, ee_CLok⟩
theorem ee_gnil {mt : Nat → Option ee_me} : ∀ c ∈ ([] : List ee_ct), ee_Ct mt c := fun c h => by cases h
theorem ee_gcons {mt : Nat → Option ee_me} {c : ee_ct} {l : List ee_ct} (h : ee_Ct mt c) (t : ∀ x ∈ l, ee_Ct mt x) : ∀ x ∈ c :: l, ee_Ct mt x := fun x hx => by
  rcases List.mem_cons.mp hx with rfl | hx
  · exact h
  · exact t x hx
theorem ee_anil {α : Type} {p : α → Bool} : ∀ t ∈ ([] : List α), p t = true := fun t h => by cases h
theorem ee_aapp {α : Type} {p : α → Bool} {l k : List α} (h1 : l.all p = true) (h2 : ∀ t ∈ k, p t = true) : ∀ t ∈ l ++ k, p t = true := fun t ht => by
  rcases List.mem_append.mp ht with ht | ht
  · exact List.all_eq_true.mp h1 t ht
  · exact h2 t ht
def ee_z0 : ee_w := []
/- Integer.bitCount@10 -/
def ee_k0 : ee_ct := (297, [.retAddr 0], ee_z0, (1, [(0, 0, 1023, [])]), [([.retAddr 1], ee_z0, (2, [(0, 0, 1023, []), (1, 0, 10, [])]))], 0)
theorem ee_k0.ok : ee_Ct ee_mt ee_k0 := by sorry
/- Integer.bitCount -/
def ee_k1 : ee_ct := (297, [.retAddr 0], ee_z0, (1, [(0, (-2147483648), 2147483647, [])]), [([.retAddr 1], ee_z0, (2, [(0, (-2147483648), 2147483647, []), (1, 0, 63, [])]))], 0)
def ee_u1 : List ee_cu := []
set_option maxRecDepth 1000000 in
theorem ee_k1.ok : ee_Ct ee_mt ee_k1 := ee_cert (Γ := []) (K := []) (S := []) (f := 5000) (N := ee_me297) (cuts := ee_u1) ee_Tbok ee_gnil rfl (by decide +kernel) (by decide +kernel) (List.all_eq_true.mp (by decide +kernel))
/- String.indexOf -/
def ee_k2 : ee_ct := (304, [.ref 1000001, .retAddr 0], ee_z0, (1, [(0, 0, 65535, [])]), [([.retAddr 1], ee_z0, (2, [(0, 0, 65535, []), (1, (-1), 10, [])]))], 3)
def ee_u2 : List ee_cu := []
set_option maxRecDepth 1000000 in
theorem ee_k2.ok : ee_Ct ee_mt ee_k2 := ee_cert (Γ := []) (K := []) (S := []) (f := 5000) (N := ee_me304) (cuts := ee_u2) ee_Tbok ee_gnil rfl (by decide +kernel) (by decide +kernel) (List.all_eq_true.mp (by decide +kernel))
def ee_q0 : ee_cell := .inl (7, [.retAddr 1, .retAddr 2, .retAddr 3, .retAddr 4, .retAddr 5, .retAddr 6, .retAddr 7, .retAddr 8, .retAddr 9, .retAddr 10, .ref 1, .ref 2, .ref 3, .ref 4, .ref 5, .ref 6, .ref 7, .ref 8, .ref 9])
def ee_q1 : ee_cell := .inr (0, 6, 0, [], [])
def ee_q2 : ee_cell := .inr (0, 10, 0, [(10, 0, 5)], [])
def ee_q3 : ee_cell := .inr (0, 10, 0, [], [])
def ee_q4 : ee_cell := .inr (0, 320, 0, [], [])
def ee_q5 : ee_cell := .inr (3, 6, 0, [], [])
def ee_q6 : ee_cell := .inr (3, 5, 0, [], [])
def ee_q7 : ee_cell := .inr (3, 10, 0, [], [])
def ee_z1 : ee_w := [ee_q0, ee_q1, ee_q2, ee_q2, ee_q3, ee_q3, ee_q4, ee_q5, ee_q6, ee_q7]
def ee_i0 : ee_iv := (11, [(0, (-2147483648), 2147483647, []), (1, 0, 6, []), (2, 0, 5, []), (3, 0, 10, []), (4, (-2147483648), 2147483647, []), (5, 0, 100, []), (6, 0, 999, []), (7, 0, 320, []), (8, 0, 1, []), (9, 0, 1, []), (10, 0, 1, [])])
def ee_i1 : ee_iv := (12, [(0, (-2147483648), 2147483647, []), (1, 0, 6, []), (2, 0, 5, []), (3, 0, 10, []), (4, (-2147483648), 2147483647, []), (5, 0, 100, []), (6, 0, 999, []), (7, 0, 320, []), (8, 0, 1, []), (9, 0, 1, []), (10, 0, 1, []), (11, (-2147483648), 2147483647, [])])
/- Told.heatOf -/
def ee_k3 : ee_ct := (149, [.ref 0, .retAddr 0], ee_z1, ee_i0, [([.retAddr 11], ee_z1, ee_i1)], 0)
def ee_i2 : ee_iv := (13, [(0, (-2147483648), 2147483647, []), (1, 0, 6, []), (2, 0, 5, []), (3, 0, 10, []), (4, (-2147483648), 2147483647, []), (5, 0, 100, []), (6, 0, 999, []), (7, 0, 320, []), (8, 0, 1, []), (9, 0, 1, []), (10, 0, 1, []), (11, (-2147483648), 2147483647, []), (12, 0, 10, [])])
def ee_u3 : List ee_cu := [(4, [(0, .ref 0), (1, .retAddr 0), (2, .retAddr 11), (3, .retAddr 12)], [], ee_z1, ee_i2, 24, [((-2), 12)])]
set_option maxRecDepth 1000000 in
theorem ee_k3.ok : ee_Ct ee_mt ee_k3 := ee_cert (Γ := []) (K := []) (S := []) (f := 5000) (N := ee_me149) (cuts := ee_u3) ee_Tbok ee_gnil rfl (by decide +kernel) (by decide +kernel) (List.all_eq_true.mp (by decide +kernel))
def ee_i3 : ee_iv := (12, [(0, (-2147483648), 2147483647, []), (1, 0, 6, []), (2, 0, 5, []), (3, 0, 10, []), (4, (-2147483648), 2147483647, []), (5, 0, 100, []), (6, 0, 999, []), (7, 0, 320, []), (8, 0, 1, []), (9, 0, 1, []), (10, 0, 1, []), (11, 0, 1023, [])])
/- Told.thingsBy -/
def ee_k4 : ee_ct := (152, [.ref 0, .retAddr 0], ee_z1, ee_i0, [([.retAddr 11], ee_z1, ee_i3)], 0)
def ee_i4 : ee_iv := (13, [(0, (-2147483648), 2147483647, []), (1, 0, 6, []), (2, 0, 5, []), (3, 0, 10, []), (4, (-2147483648), 2147483647, []), (5, 0, 100, []), (6, 0, 999, []), (7, 0, 320, []), (8, 0, 1, []), (9, 0, 1, []), (10, 0, 1, []), (11, 0, 1023, []), (12, 0, 10, [])])
def ee_u4 : List ee_cu := [(4, [(0, .ref 0), (1, .retAddr 0), (2, .retAddr 11), (3, .retAddr 12)], [], ee_z1, ee_i4, 24, [((-2), 12)])]
set_option maxRecDepth 1000000 in
theorem ee_k4.ok : ee_Ct ee_mt ee_k4 := ee_cert (Γ := []) (K := []) (S := []) (f := 5000) (N := ee_me152) (cuts := ee_u4) ee_Tbok ee_gnil rfl (by decide +kernel) (by decide +kernel) (List.all_eq_true.mp (by decide +kernel))
/- Told.thingsTo -/
def ee_k5 : ee_ct := (153, [.ref 0, .retAddr 0], ee_z1, ee_i0, [([.retAddr 11], ee_z1, ee_i3)], 0)
def ee_u5 : List ee_cu := [(4, [(0, .ref 0), (1, .retAddr 0), (2, .retAddr 11), (3, .retAddr 12)], [], ee_z1, ee_i4, 24, [((-2), 12)])]
set_option maxRecDepth 1000000 in
theorem ee_k5.ok : ee_Ct ee_mt ee_k5 := ee_cert (Γ := []) (K := []) (S := []) (f := 5000) (N := ee_me153) (cuts := ee_u5) ee_Tbok ee_gnil rfl (by decide +kernel) (by decide +kernel) (List.all_eq_true.mp (by decide +kernel))
/- Told.thingsAmong -/
def ee_k6 : ee_ct := (151, [.ref 0, .retAddr 0], ee_z1, ee_i0, [([.retAddr 11], ee_z1, ee_i3)], 0)
def ee_u6 : List ee_cu := [(4, [(0, .ref 0), (1, .retAddr 0), (2, .retAddr 11), (3, .retAddr 12)], [], ee_z1, ee_i4, 24, [((-2), 12)])]
set_option maxRecDepth 1000000 in
theorem ee_k6.ok : ee_Ct ee_mt ee_k6 := ee_cert (Γ := []) (K := []) (S := []) (f := 5000) (N := ee_me151) (cuts := ee_u6) ee_Tbok ee_gnil rfl (by decide +kernel) (by decide +kernel) (List.all_eq_true.mp (by decide +kernel))
def ee_q8 : ee_cell := .inl (7, [.retAddr 2, .retAddr 3, .retAddr 4, .retAddr 5, .retAddr 6, .retAddr 7, .retAddr 8, .retAddr 9, .retAddr 10, .retAddr 11, .ref 1, .ref 2, .ref 3, .ref 4, .ref 5, .ref 6, .ref 7, .ref 8, .ref 9])
def ee_z2 : ee_w := [ee_q8, ee_q1, ee_q2, ee_q2, ee_q3, ee_q3, ee_q4, ee_q5, ee_q6, ee_q7]
def ee_i5 : ee_iv := (12, [(0, (-2147483648), 2147483647, []), (1, (-2147483648), 2147483647, []), (2, 0, 6, []), (3, 0, 5, []), (4, 0, 10, []), (5, (-2147483648), 2147483647, []), (6, 0, 100, []), (7, 0, 999, []), (8, 0, 320, []), (9, 0, 1, []), (10, 0, 1, []), (11, 0, 1, [])])
def ee_i6 : ee_iv := (13, [(0, (-2147483648), 2147483647, []), (1, (-2147483648), 2147483647, []), (2, 0, 6, []), (3, 0, 5, []), (4, 0, 10, []), (5, (-2147483648), 2147483647, []), (6, 0, 100, []), (7, 0, 999, []), (8, 0, 320, []), (9, 0, 1, []), (10, 0, 1, []), (11, 0, 1, []), (12, 0, 63, [])])
/- Told.listenersOf -/
def ee_k7 : ee_ct := (150, [.ref 0, .retAddr 0, .retAddr 1], ee_z2, ee_i5, [([.retAddr 12], ee_z2, ee_i6)], 0)
def ee_i7 : ee_iv := (14, [(0, (-2147483648), 2147483647, []), (1, (-2147483648), 2147483647, []), (2, 0, 6, []), (3, 0, 5, []), (4, 0, 10, []), (5, (-2147483648), 2147483647, []), (6, 0, 100, []), (7, 0, 999, []), (8, 0, 320, []), (9, 0, 1, []), (10, 0, 1, []), (11, 0, 1, []), (12, 0, 63, []), (13, 0, 10, [])])
def ee_u7 : List ee_cu := [(5, [(0, .ref 0), (1, .retAddr 0), (2, .retAddr 1), (3, .retAddr 12), (4, .retAddr 13)], [], ee_z2, ee_i7, 24, [((-2), 13)])]
set_option maxRecDepth 1000000 in
theorem ee_k7.ok : ee_Ct ee_mt ee_k7 := ee_cert (Γ := []) (K := []) (S := []) (f := 5000) (N := ee_me150) (cuts := ee_u7) ee_Tbok ee_gnil rfl (by decide +kernel) (by decide +kernel) (List.all_eq_true.mp (by decide +kernel))
def ee_q9 : ee_cell := .inl (7, [.retAddr 0, .retAddr 1, .retAddr 2, .retAddr 3, .retAddr 4, .retAddr 5, .retAddr 6, .retAddr 7, .retAddr 8, .retAddr 9, .ref 1, .ref 2, .ref 3, .ref 4, .ref 5, .ref 6, .ref 7, .ref 8, .ref 9])
def ee_z3 : ee_w := [ee_q9, ee_q1, ee_q2, ee_q2, ee_q3, ee_q3, ee_q4, ee_q5, ee_q6, ee_q7]
def ee_i8 : ee_iv := (10, [(0, 0, 6, []), (1, 0, 5, []), (2, 0, 10, []), (3, (-2147483648), 2147483647, []), (4, 0, 100, []), (5, 0, 999, []), (6, 0, 320, []), (7, 0, 1, []), (8, 0, 1, []), (9, 0, 1, [])])
def ee_q10 : ee_cell := .inl (7, [.int 0, .int 0, .int 0, .int 0, .int 0, .int 0, .int 3, .int 0, .int 0, .int 0, .ref 1, .ref 2, .ref 3, .ref 4, .ref 5, .ref 6, .ref 7, .ref 8, .ref 9])
def ee_z4 : ee_w := [ee_q10, ee_q1, ee_q2, ee_q2, ee_q3, ee_q3, ee_q4, ee_q5, ee_q6, ee_q7]
/- Told.clear -/
def ee_k8 : ee_ct := (148, [.ref 0], ee_z3, ee_i8, [([], ee_z4, ee_i8)], 1)
def ee_u8 : List ee_cu := []
set_option maxRecDepth 1000000 in
theorem ee_k8.ok : ee_Ct ee_mt ee_k8 := ee_cert (Γ := []) (K := []) (S := []) (f := 5000) (N := ee_me148) (cuts := ee_u8) ee_Tbok ee_gnil rfl (by decide +kernel) (by decide +kernel) (List.all_eq_true.mp (by decide +kernel))
def ee_q11 : ee_cell := .inl (6, [.retAddr 0, .retAddr 1, .retAddr 2, .retAddr 3, .ref 2, .ref 3])
def ee_q12 : ee_cell := .inl (7, [.retAddr 4, .retAddr 5, .retAddr 6, .retAddr 7, .retAddr 8, .retAddr 9, .retAddr 10, .retAddr 11, .retAddr 12, .retAddr 13, .ref 4, .ref 5, .ref 6, .ref 7, .ref 8, .ref 9, .ref 10, .ref 11, .ref 12])
def ee_q13 : ee_cell := .inr (0, 5, 0, [], [])
def ee_z5 : ee_w := [ee_q11, ee_q12, ee_q3, ee_q13, ee_q1, ee_q2, ee_q2, ee_q3, ee_q3, ee_q4, ee_q5, ee_q6, ee_q7]
def ee_i9 : ee_iv := (14, [(0, 0, 127, []), (1, 0, 1023, []), (2, 0, 999, []), (3, 0, 999, []), (4, 0, 6, []), (5, 0, 5, []), (6, 0, 10, []), (7, (-2147483648), 2147483647, []), (8, 0, 100, []), (9, 0, 999, []), (10, 0, 320, []), (11, 0, 1, []), (12, 0, 1, []), (13, 0, 1, [])])
def ee_q14 : ee_cell := .inl (6, [.int 0, .int 0, .int 0, .retAddr 9, .ref 2, .ref 3])
def ee_z6 : ee_w := [ee_q14, ee_q12, ee_q3, ee_q13, ee_q1, ee_q2, ee_q2, ee_q3, ee_q3, ee_q4, ee_q5, ee_q6, ee_q7]
/- State.begin -/
def ee_k9 : ee_ct := (138, [.ref 0, .ref 1], ee_z5, ee_i9, [([], ee_z6, ee_i9)], 0)
def ee_i10 : ee_iv := (15, [(0, 0, 127, []), (1, 0, 1023, []), (2, 0, 999, []), (3, 0, 999, []), (4, 0, 6, []), (5, 0, 5, []), (6, 0, 10, []), (7, (-2147483648), 2147483647, []), (8, 0, 100, []), (9, 0, 999, []), (10, 0, 320, []), (11, 0, 1, []), (12, 0, 1, []), (13, 0, 1, []), (14, 0, 10, [])])
def ee_i11 : ee_iv := (15, [(0, 0, 127, []), (1, 0, 1023, []), (2, 0, 999, []), (3, 0, 999, []), (4, 0, 6, []), (5, 0, 5, []), (6, 0, 10, []), (7, (-2147483648), 2147483647, []), (8, 0, 100, []), (9, 0, 999, []), (10, 0, 320, []), (11, 0, 1, []), (12, 0, 1, []), (13, 0, 1, []), (14, 0, 5, [])])
def ee_u9 : List ee_cu := [(25, [(0, .ref 0), (1, .ref 1), (2, .retAddr 14)], [], ee_z6, ee_i10, 39, [((-2), 14)]),
  (63, [(0, .ref 0), (1, .ref 1), (2, .retAddr 14)], [], ee_z6, ee_i11, 14, [((-2), 14)])]
set_option maxRecDepth 1000000 in
theorem ee_k9.ok : ee_Ct ee_mt ee_k9 := ee_cert (Γ := []) (K := []) (S := []) (f := 5000) (N := ee_me138) (cuts := ee_u9) ee_Tbok ee_gnil rfl (by decide +kernel) (by decide +kernel) (List.all_eq_true.mp (by decide +kernel))
def ee_q15 : ee_cell := .inl (6, [.retAddr 4, .retAddr 5, .retAddr 6, .retAddr 7, .ref 4, .ref 5])
def ee_z7 : ee_w := [ee_q11, ee_q15, ee_q3, ee_q13, ee_q3, ee_q13]
def ee_i12 : ee_iv := (8, [(0, 0, 127, []), (1, 0, 1023, []), (2, 0, 999, []), (3, 0, 999, []), (4, 0, 127, []), (5, 0, 1023, []), (6, 0, 999, []), (7, 0, 999, [])])
def ee_q16 : ee_cell := .inl (6, [.retAddr 4, .retAddr 5, .retAddr 6, .retAddr 7, .ref 2, .ref 3])
def ee_z8 : ee_w := [ee_q16, ee_q15, ee_q3, ee_q13, ee_q3, ee_q13]
/- State.copyFrom -/
def ee_k10 : ee_ct := (139, [.ref 0, .ref 1], ee_z7, ee_i12, [([], ee_z8, ee_i12)], 0)
def ee_u10 : List ee_cu := []
set_option maxRecDepth 1000000 in
theorem ee_k10.ok : ee_Ct ee_mt ee_k10 := ee_cert (Γ := []) (K := []) (S := []) (f := 5000) (N := ee_me139) (cuts := ee_u10) ee_Tbok ee_gnil rfl (by decide +kernel) (by decide +kernel) (List.all_eq_true.mp (by decide +kernel))
def ee_q17 : ee_cell := .inl (6, [.retAddr 1, .retAddr 2, .retAddr 3, .retAddr 4, .ref 2, .ref 3])
def ee_q18 : ee_cell := .inl (7, [.retAddr 5, .retAddr 6, .retAddr 7, .retAddr 8, .retAddr 9, .retAddr 10, .retAddr 11, .retAddr 12, .retAddr 13, .retAddr 14, .ref 4, .ref 5, .ref 6, .ref 7, .ref 8, .ref 9, .ref 10, .ref 11, .ref 12])
def ee_z9 : ee_w := [ee_q17, ee_q18, ee_q3, ee_q13, ee_q1, ee_q2, ee_q2, ee_q3, ee_q3, ee_q4, ee_q5, ee_q6, ee_q7]
def ee_i13 : ee_iv := (15, [(0, (-2147483648), 2147483647, []), (1, 0, 127, []), (2, 0, 1023, []), (3, 0, 999, []), (4, 0, 999, []), (5, 0, 6, []), (6, 0, 5, []), (7, 0, 10, []), (8, (-2147483648), 2147483647, []), (9, 0, 100, []), (10, 0, 999, []), (11, 0, 320, []), (12, 0, 1, []), (13, 0, 1, []), (14, 0, 1, [])])
def ee_i14 : ee_iv := (16, [(0, (-2147483648), 2147483647, []), (1, 0, 127, []), (2, 0, 1023, []), (3, 0, 999, []), (4, 0, 999, []), (5, 0, 6, []), (6, 0, 5, []), (7, 0, 10, []), (8, (-2147483648), 2147483647, []), (9, 0, 100, []), (10, 0, 999, []), (11, 0, 320, []), (12, 0, 1, []), (13, 0, 1, []), (14, 0, 1, []), (15, 0, 1023, [])])
/- State.keptIn -/
def ee_k11 : ee_ct := (141, [.ref 0, .ref 1, .retAddr 0], ee_z9, ee_i13, [([.retAddr 15], ee_z9, ee_i14)], 0)
def ee_i15 : ee_iv := (17, [(0, (-2147483648), 2147483647, []), (1, 0, 127, []), (2, 0, 1023, []), (3, 0, 999, []), (4, 0, 999, []), (5, 0, 6, []), (6, 0, 5, []), (7, 0, 10, []), (8, (-2147483648), 2147483647, []), (9, 0, 100, []), (10, 0, 999, []), (11, 0, 320, []), (12, 0, 1, []), (13, 0, 1, []), (14, 0, 1, []), (15, 0, 1023, []), (16, 0, 10, [])])
def ee_u11 : List ee_cu := [(5, [(0, .ref 0), (1, .ref 1), (2, .retAddr 0), (3, .retAddr 15), (4, .retAddr 16)], [], ee_z9, ee_i15, 24, [((-2), 16)])]
set_option maxRecDepth 1000000 in
theorem ee_k11.ok : ee_Ct ee_mt ee_k11 := ee_cert (Γ := []) (K := []) (S := []) (f := 5000) (N := ee_me141) (cuts := ee_u11) ee_Tbok ee_gnil rfl (by decide +kernel) (by decide +kernel) (List.all_eq_true.mp (by decide +kernel))
def ee_q19 : ee_cell := .inr (0, 779, 19, [(1, 0, 127), (2, 0, 1023), (3, 0, 999), (4, 0, 999)], [])
def ee_z10 : ee_w := [ee_q17, ee_q19, ee_q3, ee_q13]
def ee_i16 : ee_iv := (5, [(0, 0, 40, []), (1, 0, 127, []), (2, 0, 1023, []), (3, 0, 999, []), (4, 0, 999, [])])
/- State.saveTo@779 -/
def ee_k12 : ee_ct := (143, [.ref 0, .ref 1, .retAddr 0], ee_z10, ee_i16, [([], ee_z10, ee_i16)], 0)
def ee_u12 : List ee_cu := []
set_option maxRecDepth 1000000 in
theorem ee_k12.ok : ee_Ct ee_mt ee_k12 := ee_cert (Γ := []) (K := []) (S := []) (f := 5000) (N := ee_me143) (cuts := ee_u12) ee_Tbok ee_gnil rfl (by decide +kernel) (by decide +kernel) (List.all_eq_true.mp (by decide +kernel))
def ee_q20 : ee_cell := .inl (6, [.retAddr 5, .retAddr 6, .retAddr 7, .retAddr 8, .ref 2, .ref 3])
def ee_z11 : ee_w := [ee_q20, ee_q19, ee_q3, ee_q13]
def ee_i17 : ee_iv := (9, [(0, 0, 40, []), (1, 0, 127, []), (2, 0, 1023, []), (3, 0, 999, []), (4, 0, 999, []), (5, 0, 127, []), (6, 0, 1023, []), (7, 0, 999, []), (8, 0, 999, [])])
/- State.loadFrom@779 -/
def ee_k13 : ee_ct := (142, [.ref 0, .ref 1, .retAddr 0], ee_z10, ee_i16, [([], ee_z11, ee_i17)], 0)
def ee_u13 : List ee_cu := []
set_option maxRecDepth 1000000 in
theorem ee_k13.ok : ee_Ct ee_mt ee_k13 := ee_cert (Γ := []) (K := []) (S := []) (f := 5000) (N := ee_me142) (cuts := ee_u13) ee_Tbok ee_gnil rfl (by decide +kernel) (by decide +kernel) (List.all_eq_true.mp (by decide +kernel))
def ee_q21 : ee_cell := .inr (0, 57, 19, [(1, 0, 127), (2, 0, 1023), (3, 0, 999), (4, 0, 999)], [])
def ee_z12 : ee_w := [ee_q17, ee_q21, ee_q3, ee_q13]
def ee_i18 : ee_iv := (5, [(0, 0, 2, []), (1, 0, 127, []), (2, 0, 1023, []), (3, 0, 999, []), (4, 0, 999, [])])
/- State.saveTo@57 -/
def ee_k14 : ee_ct := (143, [.ref 0, .ref 1, .retAddr 0], ee_z12, ee_i18, [([], ee_z12, ee_i18)], 0)
def ee_u14 : List ee_cu := []
set_option maxRecDepth 1000000 in
theorem ee_k14.ok : ee_Ct ee_mt ee_k14 := ee_cert (Γ := []) (K := []) (S := []) (f := 5000) (N := ee_me143) (cuts := ee_u14) ee_Tbok ee_gnil rfl (by decide +kernel) (by decide +kernel) (List.all_eq_true.mp (by decide +kernel))
def ee_z13 : ee_w := [ee_q20, ee_q21, ee_q3, ee_q13]
def ee_i19 : ee_iv := (9, [(0, 0, 2, []), (1, 0, 127, []), (2, 0, 1023, []), (3, 0, 999, []), (4, 0, 999, []), (5, 0, 127, []), (6, 0, 1023, []), (7, 0, 999, []), (8, 0, 999, [])])
/- State.loadFrom@57 -/
def ee_k15 : ee_ct := (142, [.ref 0, .ref 1, .retAddr 0], ee_z12, ee_i18, [([], ee_z13, ee_i19)], 0)
def ee_u15 : List ee_cu := []
set_option maxRecDepth 1000000 in
theorem ee_k15.ok : ee_Ct ee_mt ee_k15 := ee_cert (Γ := []) (K := []) (S := []) (f := 5000) (N := ee_me142) (cuts := ee_u15) ee_Tbok ee_gnil rfl (by decide +kernel) (by decide +kernel) (List.all_eq_true.mp (by decide +kernel))
def ee_i20 : ee_iv := (3, [(0, (-2147483648), 2147483647, []), (1, (-2147483648), 2147483647, []), (2, (-2147483648), 2147483647, [])])
def ee_i21 : ee_iv := (4, [(0, (-2147483648), 2147483647, []), (1, (-2147483648), 2147483647, []), (2, (-2147483648), 2147483647, []), (3, (-2147483648), 2147483647, [])])
/- Mill.joined -/
def ee_k16 : ee_ct := (100, [.retAddr 0, .retAddr 1, .retAddr 2], ee_z0, ee_i20, [([.retAddr 3], ee_z0, ee_i21)], 0)
def ee_u16 : List ee_cu := []
set_option maxRecDepth 1000000 in
theorem ee_k16.ok : ee_Ct ee_mt ee_k16 := ee_cert (Γ := []) (K := []) (S := [(100, 0, 202)]) (f := 5000) (N := ee_me100) (cuts := ee_u16) ee_Tbok ee_gnil rfl (by decide +kernel) (by decide +kernel) (List.all_eq_true.mp (by decide +kernel))
def ee_q22 : ee_cell := .inl (4, [.ref 2, .ref 3, .ref 4])
def ee_q23 : ee_cell := .inl (7, [.retAddr 2, .retAddr 3, .retAddr 4, .retAddr 5, .retAddr 6, .retAddr 7, .retAddr 8, .retAddr 9, .retAddr 10, .retAddr 11, .ref 5, .ref 6, .ref 7, .ref 8, .ref 9, .ref 10, .ref 11, .ref 12, .ref 13])
def ee_q24 : ee_cell := .inr (0, 64, 0, [], [])
def ee_q25 : ee_cell := .inr (0, 7, 0, [], [])
def ee_z14 : ee_w := [ee_q22, ee_q23, ee_q1, ee_q24, ee_q25, ee_q1, ee_q2, ee_q2, ee_q3, ee_q3, ee_q4, ee_q5, ee_q6, ee_q7]
def ee_i22 : ee_iv := (12, [(0, 0, 9, []), (1, (-2147483648), 2147483647, []), (2, 0, 6, []), (3, 0, 5, []), (4, 0, 10, []), (5, (-2147483648), 2147483647, []), (6, 0, 100, []), (7, 0, 999, []), (8, 0, 320, []), (9, 0, 1, []), (10, 0, 1, []), (11, 0, 1, [])])
def ee_i23 : ee_iv := (13, [(0, 0, 9, []), (1, (-2147483648), 2147483647, []), (2, 0, 6, []), (3, 0, 5, []), (4, 0, 10, []), (5, (-2147483648), 2147483647, []), (6, 0, 100, []), (7, 0, 999, []), (8, 0, 320, []), (9, 0, 1, []), (10, 0, 1, []), (11, 0, 1, []), (12, 0, 1, [])])
/- Mill.passes -/
def ee_k17 : ee_ct := (106, [.ref 0, .ref 1, .retAddr 0, .retAddr 1], ee_z14, ee_i22, [([.retAddr 12], ee_z14, ee_i23)], 1)
def ee_i24 : ee_iv := (14, [(0, 0, 9, []), (1, (-2147483648), 2147483647, []), (2, 0, 6, []), (3, 0, 5, []), (4, 0, 10, []), (5, (-2147483648), 2147483647, []), (6, 0, 100, []), (7, 0, 999, []), (8, 0, 320, []), (9, 0, 1, []), (10, 0, 1, []), (11, 0, 1, []), (12, 0, 64, []), (13, 0, 2147483647, [])])
def ee_u17 : List ee_cu := [(25, [(0, .ref 0), (1, .ref 1), (2, .retAddr 0), (3, .retAddr 1), (4, .retAddr 12), (5, .retAddr 13)], [], ee_z14, ee_i24, 4294967298, [((-2), 13)])]
set_option maxRecDepth 1000000 in
theorem ee_k17.ok : ee_Ct ee_mt ee_k17 := ee_cert (Γ := [ee_k16]) (K := [(106, 161, [0])]) (S := []) (f := 5000) (N := ee_me106) (cuts := ee_u17) ee_Tbok (ee_gcons ee_k16.ok ee_gnil) rfl (by decide +kernel) (by decide +kernel) (List.all_eq_true.mp (by decide +kernel))
def ee_q26 : ee_cell := .inl (4, [.ref 3, .ref 4, .ref 5])
def ee_q27 : ee_cell := .inl (7, [.retAddr 2, .retAddr 3, .retAddr 4, .retAddr 5, .retAddr 6, .retAddr 7, .retAddr 8, .retAddr 9, .retAddr 10, .retAddr 11, .ref 6, .ref 7, .ref 8, .ref 9, .ref 10, .ref 11, .ref 12, .ref 13, .ref 14])
def ee_q28 : ee_cell := .inl (6, [.retAddr 12, .retAddr 13, .retAddr 14, .retAddr 15, .ref 15, .ref 16])
def ee_z15 : ee_w := [ee_q26, ee_q27, ee_q28, ee_q1, ee_q24, ee_q25, ee_q1, ee_q2, ee_q2, ee_q3, ee_q3, ee_q4, ee_q5, ee_q6, ee_q7, ee_q3, ee_q13]
def ee_i25 : ee_iv := (16, [(0, (-2147483648), 2147483647, []), (1, (-2147483648), 2147483647, []), (2, 0, 6, []), (3, 0, 5, []), (4, 0, 10, []), (5, (-2147483648), 2147483647, []), (6, 0, 100, []), (7, 0, 999, []), (8, 0, 320, []), (9, 0, 1, []), (10, 0, 1, []), (11, 0, 1, []), (12, 0, 127, []), (13, 0, 1023, []), (14, 0, 999, []), (15, 0, 999, [])])
/- Mill.setUp -/
def ee_k18 : ee_ct := (108, [.ref 0, .ref 1, .ref 2, .retAddr 0, .retAddr 1], ee_z15, ee_i25, [([], ee_z15, ee_i25)], 1)
def ee_u18 : List ee_cu := []
set_option maxRecDepth 1000000 in
theorem ee_k18.ok : ee_Ct ee_mt ee_k18 := ee_cert (Γ := [ee_k11, ee_k3]) (K := [(108, 42, [0]), (108, 45, [1])]) (S := []) (f := 5000) (N := ee_me108) (cuts := ee_u18) ee_Tbok (ee_gcons ee_k11.ok (ee_gcons ee_k3.ok ee_gnil)) rfl (by decide +kernel) (by decide +kernel) (List.all_eq_true.mp (by decide +kernel))
def ee_q29 : ee_cell := .inl (7, [.retAddr 3, .retAddr 4, .retAddr 5, .retAddr 6, .retAddr 7, .retAddr 8, .retAddr 9, .retAddr 10, .retAddr 11, .retAddr 12, .ref 6, .ref 7, .ref 8, .ref 9, .ref 10, .ref 11, .ref 12, .ref 13, .ref 14])
def ee_q30 : ee_cell := .inl (6, [.retAddr 13, .retAddr 14, .retAddr 15, .retAddr 16, .ref 15, .ref 16])
def ee_z16 : ee_w := [ee_q26, ee_q29, ee_q30, ee_q1, ee_q24, ee_q25, ee_q1, ee_q2, ee_q2, ee_q3, ee_q3, ee_q4, ee_q5, ee_q6, ee_q7, ee_q3, ee_q13]
def ee_i26 : ee_iv := (17, [(0, (-2147483648), 2147483647, []), (1, (-2147483648), 2147483647, []), (2, (-2147483648), 2147483647, []), (3, 0, 6, []), (4, 0, 5, []), (5, 0, 10, []), (6, (-2147483648), 2147483647, []), (7, 0, 100, []), (8, 0, 999, []), (9, 0, 320, []), (10, 0, 1, []), (11, 0, 1, []), (12, 0, 1, []), (13, 0, 127, []), (14, 0, 1023, []), (15, 0, 999, []), (16, 0, 999, [])])
def ee_i27 : ee_iv := (18, [(0, (-2147483648), 2147483647, []), (1, (-2147483648), 2147483647, []), (2, (-2147483648), 2147483647, []), (3, 0, 6, []), (4, 0, 5, []), (5, 0, 10, []), (6, (-2147483648), 2147483647, []), (7, 0, 100, []), (8, 0, 999, []), (9, 0, 320, []), (10, 0, 1, []), (11, 0, 1, []), (12, 0, 1, []), (13, 0, 127, []), (14, 0, 1023, []), (15, 0, 999, []), (16, 0, 999, []), (17, 0, 1023, [])])
/- Mill.passing -/
def ee_k19 : ee_ct := (107, [.ref 0, .ref 1, .ref 2, .retAddr 0, .retAddr 1, .retAddr 2], ee_z16, ee_i26, [([.retAddr 17], ee_z16, ee_i27)], 2)
def ee_i28 : ee_iv := (20, [(0, (-2147483648), 2147483647, []), (1, (-2147483648), 2147483647, []), (2, (-2147483648), 2147483647, []), (3, 0, 6, []), (4, 0, 5, []), (5, 0, 10, []), (6, (-2147483648), 2147483647, []), (7, 0, 100, []), (8, 0, 999, []), (9, 0, 320, []), (10, 0, 1, []), (11, 0, 1, []), (12, 0, 1, []), (13, 0, 127, []), (14, 0, 1023, []), (15, 0, 999, []), (16, 0, 999, []), (17, 1, 1023, []), (18, 0, 1023, []), (19, 0, 10, [])])
def ee_u19 : List ee_cu := [(33, [(0, .ref 0), (1, .ref 1), (2, .ref 2), (3, .retAddr 0), (4, .retAddr 1), (5, .retAddr 2), (6, .retAddr 17), (7, .retAddr 18), (8, .retAddr 19)], [], ee_z16, ee_i28, 24, [((-2), 19)])]
set_option maxRecDepth 1000000 in
theorem ee_k19.ok : ee_Ct ee_mt ee_k19 := ee_cert (Γ := [ee_k11, ee_k18, ee_k17]) (K := [(107, 3, [0]), (107, 24, [1]), (107, 68, [2])]) (S := []) (f := 5000) (N := ee_me107) (cuts := ee_u19) ee_Tbok (ee_gcons ee_k11.ok (ee_gcons ee_k18.ok (ee_gcons ee_k17.ok ee_gnil))) rfl (by decide +kernel) (by decide +kernel) (List.all_eq_true.mp (by decide +kernel))
def ee_q31 : ee_cell := .inl (7, [.retAddr 1, .retAddr 2, .retAddr 3, .retAddr 4, .retAddr 5, .retAddr 6, .retAddr 7, .retAddr 8, .retAddr 9, .retAddr 10, .ref 6, .ref 7, .ref 8, .ref 9, .ref 10, .ref 11, .ref 12, .ref 13, .ref 14])
def ee_q32 : ee_cell := .inl (6, [.retAddr 11, .retAddr 12, .retAddr 13, .retAddr 14, .ref 15, .ref 16])
def ee_z17 : ee_w := [ee_q26, ee_q31, ee_q32, ee_q1, ee_q24, ee_q25, ee_q1, ee_q2, ee_q2, ee_q3, ee_q3, ee_q4, ee_q5, ee_q6, ee_q7, ee_q3, ee_q13]
def ee_i29 : ee_iv := (15, [(0, (-2147483648), 2147483647, []), (1, 0, 6, []), (2, 0, 5, []), (3, 0, 10, []), (4, (-2147483648), 2147483647, []), (5, 0, 100, []), (6, 0, 999, []), (7, 0, 320, []), (8, 0, 1, []), (9, 0, 1, []), (10, 0, 1, []), (11, 0, 127, []), (12, 0, 1023, []), (13, 0, 999, []), (14, 0, 999, [])])
def ee_i30 : ee_iv := (16, [(0, (-2147483648), 2147483647, []), (1, 0, 6, []), (2, 0, 5, []), (3, 0, 10, []), (4, (-2147483648), 2147483647, []), (5, 0, 100, []), (6, 0, 999, []), (7, 0, 320, []), (8, 0, 1, []), (9, 0, 1, []), (10, 0, 1, []), (11, 0, 127, []), (12, 0, 1023, []), (13, 0, 999, []), (14, 0, 999, []), (15, 0, 1023, [])])
/- Mill.letOut -/
def ee_k20 : ee_ct := (101, [.ref 0, .ref 1, .ref 2, .retAddr 0], ee_z17, ee_i29, [([.retAddr 15], ee_z17, ee_i30)], 3)
def ee_u20 : List ee_cu := []
set_option maxRecDepth 1000000 in
theorem ee_k20.ok : ee_Ct ee_mt ee_k20 := ee_cert (Γ := [ee_k0, ee_k6, ee_k19]) (K := [(101, 8, [0]), (101, 16, [1]), (101, 19, [2])]) (S := []) (f := 5000) (N := ee_me101) (cuts := ee_u20) ee_Tbok (ee_gcons ee_k0.ok (ee_gcons ee_k6.ok (ee_gcons ee_k19.ok ee_gnil))) rfl (by decide +kernel) (by decide +kernel) (List.all_eq_true.mp (by decide +kernel))
def ee_q33 : ee_cell := .inl (7, [.retAddr 0, .retAddr 1, .retAddr 2, .retAddr 3, .retAddr 4, .retAddr 5, .retAddr 6, .retAddr 7, .retAddr 8, .retAddr 9, .ref 6, .ref 7, .ref 8, .ref 9, .ref 10, .ref 11, .ref 12, .ref 13, .ref 14])
def ee_q34 : ee_cell := .inl (6, [.retAddr 10, .retAddr 11, .retAddr 12, .retAddr 13, .ref 15, .ref 16])
def ee_z18 : ee_w := [ee_q26, ee_q33, ee_q34, ee_q1, ee_q24, ee_q25, ee_q1, ee_q2, ee_q2, ee_q3, ee_q3, ee_q4, ee_q5, ee_q6, ee_q7, ee_q3, ee_q13]
def ee_i31 : ee_iv := (14, [(0, 0, 6, []), (1, 0, 5, []), (2, 0, 10, []), (3, (-2147483648), 2147483647, []), (4, 0, 100, []), (5, 0, 999, []), (6, 0, 320, []), (7, 0, 1, []), (8, 0, 1, []), (9, 0, 1, []), (10, 0, 127, []), (11, 0, 1023, []), (12, 0, 999, []), (13, 0, 999, [])])
def ee_i32 : ee_iv := (15, [(0, 0, 6, []), (1, 0, 5, []), (2, 0, 10, []), (3, (-2147483648), 2147483647, []), (4, 0, 100, []), (5, 0, 999, []), (6, 0, 320, []), (7, 0, 1, []), (8, 0, 1, []), (9, 0, 1, []), (10, 0, 127, []), (11, 0, 1023, []), (12, 0, 999, []), (13, 0, 999, []), (14, 0, 1023, [])])
/- Mill.letOutOfAll -/
def ee_k21 : ee_ct := (103, [.ref 0, .ref 1, .ref 2], ee_z18, ee_i31, [([.retAddr 14], ee_z18, ee_i32)], 4)
def ee_i33 : ee_iv := (16, [(0, 0, 6, []), (1, 0, 5, []), (2, 0, 10, []), (3, (-2147483648), 2147483647, []), (4, 0, 100, []), (5, 0, 999, []), (6, 0, 320, []), (7, 0, 1, []), (8, 0, 1, []), (9, 0, 1, []), (10, 0, 127, []), (11, 0, 1023, []), (12, 0, 999, []), (13, 0, 999, []), (14, 0, 1023, []), (15, 0, 5, [])])
def ee_u21 : List ee_cu := [(5, [(0, .ref 0), (1, .ref 1), (2, .ref 2), (3, .retAddr 14), (4, .retAddr 15)], [], ee_z18, ee_i33, 14, [((-2), 15)])]
set_option maxRecDepth 1000000 in
theorem ee_k21.ok : ee_Ct ee_mt ee_k21 := ee_cert (Γ := [ee_k20]) (K := [(103, 20, [0])]) (S := []) (f := 5000) (N := ee_me103) (cuts := ee_u21) ee_Tbok (ee_gcons ee_k20.ok ee_gnil) rfl (by decide +kernel) (by decide +kernel) (List.all_eq_true.mp (by decide +kernel))
def ee_q35 : ee_cell := .inl (6, [.retAddr 11, .retAddr 16, .retAddr 13, .retAddr 14, .ref 15, .ref 16])
def ee_z19 : ee_w := [ee_q26, ee_q31, ee_q35, ee_q1, ee_q24, ee_q25, ee_q1, ee_q2, ee_q2, ee_q3, ee_q3, ee_q4, ee_q5, ee_q6, ee_q7, ee_q3, ee_q13]
def ee_i34 : ee_iv := (17, [(0, (-2147483648), 2147483647, []), (1, 0, 6, []), (2, 0, 5, []), (3, 0, 10, []), (4, (-2147483648), 2147483647, []), (5, 0, 100, []), (6, 0, 999, []), (7, 0, 320, []), (8, 0, 1, []), (9, 0, 1, []), (10, 0, 1, []), (11, 0, 127, []), (12, 0, 1023, []), (13, 0, 999, []), (14, 0, 999, []), (15, 0, 1023, []), (16, 0, 1023, [])])
/- Mill.turn -/
def ee_k22 : ee_ct := (109, [.ref 0, .ref 1, .ref 2, .retAddr 0], ee_z17, ee_i29, [([.retAddr 15], ee_z19, ee_i34)], 4)
def ee_u22 : List ee_cu := []
set_option maxRecDepth 1000000 in
theorem ee_k22.ok : ee_Ct ee_mt ee_k22 := ee_cert (Γ := [ee_k20]) (K := [(109, 18, [0])]) (S := []) (f := 5000) (N := ee_me109) (cuts := ee_u22) ee_Tbok (ee_gcons ee_k20.ok ee_gnil) rfl (by decide +kernel) (by decide +kernel) (List.all_eq_true.mp (by decide +kernel))
