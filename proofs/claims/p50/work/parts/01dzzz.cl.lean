set_option maxRecDepth 100000 in
theorem ee_CLall : ee_CL.all ee_clb = true := by
  refine List.all_eq_true.mpr (fun q hq => ?_)
  obtain ⟨i, hi⟩ := List.getElem?_of_mem hq
  have hl : i < 327 := (List.getElem?_eq_some_iff.mp hi).1
  have hm : ∀ a, 15 * a ≤ i → i < 15 * a + 15 → q ∈ (ee_CL.drop (15 * a)).take 15 := fun a h1 h2 => List.mem_of_getElem? (i := i - 15 * a) (by rw [List.getElem?_take_of_lt (by omega), List.getElem?_drop, show 15 * a + (i - 15 * a) = i by omega]; exact hi)
  have hd : i / 15 < 22 := by omega
  have h0 := hm (i / 15) (by omega) (by omega)
  match h : i / 15, hd, h0 with
  | 0, _, h0 => exact List.all_eq_true.mp ee_CL0 q h0
  | 1, _, h0 => exact List.all_eq_true.mp ee_CL1 q h0
  | 2, _, h0 => exact List.all_eq_true.mp ee_CL2 q h0
  | 3, _, h0 => exact List.all_eq_true.mp ee_CL3 q h0
  | 4, _, h0 => exact List.all_eq_true.mp ee_CL4 q h0
  | 5, _, h0 => exact List.all_eq_true.mp ee_CL5 q h0
  | 6, _, h0 => exact List.all_eq_true.mp ee_CL6 q h0
  | 7, _, h0 => exact List.all_eq_true.mp ee_CL7 q h0
  | 8, _, h0 => exact List.all_eq_true.mp ee_CL8 q h0
  | 9, _, h0 => exact List.all_eq_true.mp ee_CL9 q h0
  | 10, _, h0 => exact List.all_eq_true.mp ee_CL10 q h0
  | 11, _, h0 => exact List.all_eq_true.mp ee_CL11 q h0
  | 12, _, h0 => exact List.all_eq_true.mp ee_CL12 q h0
  | 13, _, h0 => exact List.all_eq_true.mp ee_CL13 q h0
  | 14, _, h0 => exact List.all_eq_true.mp ee_CL14 q h0
  | 15, _, h0 => exact List.all_eq_true.mp ee_CL15 q h0
  | 16, _, h0 => exact List.all_eq_true.mp ee_CL16 q h0
  | 17, _, h0 => exact List.all_eq_true.mp ee_CL17 q h0
  | 18, _, h0 => exact List.all_eq_true.mp ee_CL18 q h0
  | 19, _, h0 => exact List.all_eq_true.mp ee_CL19 q h0
  | 20, _, h0 => exact List.all_eq_true.mp ee_CL20 q h0
  | 21, _, h0 => exact List.all_eq_true.mp ee_CL21 q h0
  | n + 22, hd, _ => omega
theorem ee_CLok : ∀ (q : Nat × Nat × Nat × Nat × Nat × Nat × Nat × Nat × Nat) (N : ee_me), q ∈ ee_CL → ee_mt q.2.2.1 = some N → ee_Cok q N := fun q N hq hN => by
  have h := List.all_eq_true.mp ee_CLall q hq
  unfold ee_clb at h
  rw [hN] at h
  exact ee_Cb.ok h
def ee_lawno : Nat := 154
def ee_lawm : ee_me := (10, ⟨"PepperTablesLaw", "law", "([I)Z"⟩, code, 4, (some .boolean), ee_B154, 98, 11043)
theorem ee_lawM : ee_mt ee_lawno = some ee_lawm := rfl
theorem ee_ls0 : Cond.laysStatic "java/lang/String" "COMPACT_STRINGS" "Z" ∈ lw_tbl := ee_atL.mem (i := 271) (by decide +kernel)
theorem ee_ini0 : Cond.initialized "java/lang/String" ∈ lw_tbl := ee_atL.mem (i := 119) (by decide +kernel)
theorem ee_ls1 : Cond.laysStatic "jdk/internal/util/Preconditions" "SIOOBE_FORMATTER" "Ljava/util/function/BiFunction;" ∈ lw_tbl := ee_atL.mem (i := 287) (by decide +kernel)
theorem ee_ini1 : Cond.initialized "jdk/internal/util/Preconditions" ∈ lw_tbl := ee_atL.mem (i := 121) (by decide +kernel)
theorem ee_srf : ∀ i, i < 2 → Cond.stringRef RX5 (ee_six.getD i 0) (ee_stx.getD i "") ∈ lw_tbl := by
  intro i hi
  rcases (show i = 0 ∨ i = 1 by omega) with rfl | rfl
  · exact ee_atL.mem (i := 261) (by decide +kernel)
  · exact ee_atL.mem (i := 585) (by decide +kernel)
