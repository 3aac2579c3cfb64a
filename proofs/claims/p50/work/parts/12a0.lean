/-! contracts -/
theorem ee_Tbok : ee_Tb ee_mt := ⟨ee_MTok, ee_CLok⟩
theorem ee_gnil {mt : Nat → Option ee_me} : ∀ c ∈ ([] : List ee_ct), ee_Ct mt c := fun c h => by cases h
theorem ee_gcons {mt : Nat → Option ee_me} {c : ee_ct} {l : List ee_ct} (h : ee_Ct mt c) (t : ∀ x ∈ l, ee_Ct mt x) : ∀ x ∈ c :: l, ee_Ct mt x := fun x hx => by
  rcases List.mem_cons.mp hx with rfl | hx
  · exact h
  · exact t x hx
theorem ee_anil {α : Type} {p : α → Bool} : ∀ t ∈ ([] : List α), p t = true := fun t h => by cases h
theorem ee_aapp {α : Type} {p : α → Bool} {l k : List α} (h1 : l.all p = true) (h2 : ∀ t ∈ k, p t = true) : ∀ t ∈ l ++ k, p t = true := fun t ht => by
  rcases List.mem_append.mp ht with ht | ht
  · exact List.all_eq_true.mp h1 t ht
  · exact h2 t ht
def ee_z0 : ee_w := []
/- PepperTablesModel.bitsOf@10 -/
def ee_k189 : ee_ct := (167, [.retAddr 0], ee_z0, (1, [(0, 0, 1023, [])]), [([.retAddr 1], ee_z0, (2, [(0, 0, 1023, []), (1, 0, 10, [])]))], 0)
def ee_u189_0 : List ee_cu := [(1, [(0, .retAddr 0)], [.int 0], ee_z0, (1, [(0, 0, 63, [])]), 2, [])]
def ee_u189_1 : List ee_cu := [(1, [(0, .retAddr 0)], [.int 0], ee_z0, (1, [(0, 64, 127, [])]), 2, [])]
def ee_u189_2 : List ee_cu := [(1, [(0, .retAddr 0)], [.int 0], ee_z0, (1, [(0, 128, 191, [])]), 2, [])]
def ee_u189_3 : List ee_cu := [(1, [(0, .retAddr 0)], [.int 0], ee_z0, (1, [(0, 192, 255, [])]), 2, [])]
def ee_u189_4 : List ee_cu := [(1, [(0, .retAddr 0)], [.int 0], ee_z0, (1, [(0, 256, 319, [])]), 2, [])]
def ee_u189_5 : List ee_cu := [(1, [(0, .retAddr 0)], [.int 0], ee_z0, (1, [(0, 320, 383, [])]), 2, [])]
def ee_u189_6 : List ee_cu := [(1, [(0, .retAddr 0)], [.int 0], ee_z0, (1, [(0, 384, 447, [])]), 2, [])]
def ee_u189_7 : List ee_cu := [(1, [(0, .retAddr 0)], [.int 0], ee_z0, (1, [(0, 448, 511, [])]), 2, [])]
def ee_u189_8 : List ee_cu := [(1, [(0, .retAddr 0)], [.int 0], ee_z0, (1, [(0, 512, 575, [])]), 2, [])]
def ee_u189_9 : List ee_cu := [(1, [(0, .retAddr 0)], [.int 0], ee_z0, (1, [(0, 576, 639, [])]), 2, [])]
def ee_u189_10 : List ee_cu := [(1, [(0, .retAddr 0)], [.int 0], ee_z0, (1, [(0, 640, 703, [])]), 2, [])]
def ee_u189_11 : List ee_cu := [(1, [(0, .retAddr 0)], [.int 0], ee_z0, (1, [(0, 704, 767, [])]), 2, [])]
def ee_u189_12 : List ee_cu := [(1, [(0, .retAddr 0)], [.int 0], ee_z0, (1, [(0, 768, 831, [])]), 2, [])]
def ee_u189_13 : List ee_cu := [(1, [(0, .retAddr 0)], [.int 0], ee_z0, (1, [(0, 832, 895, [])]), 2, [])]
def ee_u189_14 : List ee_cu := [(1, [(0, .retAddr 0)], [.int 0], ee_z0, (1, [(0, 896, 959, [])]), 2, [])]
def ee_u189_15 : List ee_cu := [(1, [(0, .retAddr 0)], [.int 0], ee_z0, (1, [(0, 960, 1023, [])]), 2, [])]
def ee_u189 : List ee_cu := ee_u189_0 ++ (ee_u189_1 ++ (ee_u189_2 ++ (ee_u189_3 ++ (ee_u189_4 ++ (ee_u189_5 ++ (ee_u189_6 ++ (ee_u189_7 ++ (ee_u189_8 ++ (ee_u189_9 ++ (ee_u189_10 ++ (ee_u189_11 ++ (ee_u189_12 ++ (ee_u189_13 ++ (ee_u189_14 ++ (ee_u189_15 ++ [])))))))))))))))
set_option maxRecDepth 1000000 in
theorem ee_k189.s0 : ee_u189_0.all (ee_sg2 ee_mt [] [] [(167, 0, 0), (167, 1, 0)] 5000 ee_me167 ee_k189 ee_u189) = true := by decide +kernel
