def ee_MT : List ee_me := ee_M0 ++ (ee_M1 ++ (ee_M2 ++ (ee_M3 ++ (ee_M4 ++ (ee_M5 ++ (ee_M6 ++ (ee_M7 ++ (ee_M8 ++ (ee_M9 ++ (ee_M10 ++ (ee_M11 ++ (ee_M12 ++ (ee_M13 ++ (ee_M14 ++ (ee_M15 ++ (ee_M16 ++ (ee_M17)))))))))))))))))
theorem ee_MTall : ee_MT.all ee_Mb = true := by
  unfold ee_MT
  simp only [List.all_append, ee_M0ok, ee_M1ok, ee_M2ok, ee_M3ok, ee_M4ok, ee_M5ok, ee_M6ok, ee_M7ok, ee_M8ok, ee_M9ok, ee_M10ok, ee_M11ok, ee_M12ok, ee_M13ok, ee_M14ok, ee_M15ok, ee_M16ok, ee_M17ok, Bool.and_self]
theorem ee_MTok : ∀ (y : Nat) (M : ee_me), ee_MT[y]? = some M → ee_Mok M := fun y M h => ee_Mb.ok (List.all_eq_true.mp ee_MTall M (List.mem_of_getElem? h))
def ee_CP : List Nat := [138, 1208, 985, 1181, 1199, 1016, 1082, 1113, 885, 1078, 560, 1020, 755, 1036, 552, 981, 1032, 867, 1125, 1005, 1094, 989, 1190, 1065, 916, 881, 763, 795, 787, 1074, 1141, 1001, 1117, 1048, 940, 1098, 1106, 1110, 1028, 759, 877, 1086, 905, 863, 957, 1150, 1069, 791, 1102, 945, 1009, 849, 889, 949, 953, 564, 993, 1173, 913, 783, 893, 1133, 807, 408, 736, 857, 897, 909, 429, 1194, 747, 1203, 466, 751, 1145, 1154, 1137, 443, 1060, 1052, 1121, 392, 997, 146, 556, 568, 576, 356, 732, 767, 740, 152, 771, 157, 572, 803, 821, 0, 1213, 1963, 1863, 1935, 1704, 1947, 1959, 1634, 1673, 1851, 1839, 1218, 1688, 1760, 1898, 1684, 1971, 1855, 1575, 1816, 1967, 1843, 1587, 1808, 1434, 1748, 1902, 1646, 1927, 1847, 1692, 1696, 1955, 1812, 1472, 1590, 1583, 1630, 1618, 1740, 1831, 1680, 1602, 1910, 1732, 1923, 1919, 1226, 1776, 1871, 1230, 1788, 1716, 1720, 1895, 1728, 1579, 1756, 1827, 1887, 1772, 1744, 1824, 1915, 1891, 1626, 1708, 1792, 1712, 1796, 1867, 1438, 1736, 1724, 1800, 1804, 1222, 1430, 1700, 1943, 1780, 1614, 1764, 1906, 1650, 814, 275, 285, 269, 279, 265, 282, 290]
def ee_sox : Nat := 12
/-- what the tables say of a call -/
def ee_Cok (q : Nat × Nat × Nat × Nat × Nat × Nat × Nat × Nat × Nat) (N : ee_me) : Prop := (plainName N.2.1.cls = true ∧ Cond.code N.2.1 N.2.2.1 N.2.2.2.1 N.2.2.2.2.1 ∈ ee_tbl ∧ N.2.2.2.1 ≤ 45) ∧ (Cond.methodLink (ee_ow q.1) q.2.1 N.2.1 ∈ ee_tbl ∧ Cond.initialized N.2.1.cls ∈ ee_tbl) ∧ (N.2.1.cls ≠ "java/lang/invoke/MethodHandle" ∧ N.2.1.cls ≠ "java/lang/invoke/VarHandle" ∧ (parseMethodDescriptor N.2.1.desc).map (fun d => d.parameters.length) = some q.2.2.2.2.1) ∧ (q.2.2.2.1 = 0 → Cond.instanceMethod N.2.1 ∈ ee_tbl ∧ Cond.selects N.2.1.cls N.2.1 N.2.1 ∈ ee_tbl) ∧ (q.2.2.2.1 = 1 → Cond.static N.2.1 ∈ ee_tbl) ∧ (q.2.2.2.1 = 2 → Cond.instanceMethod N.2.1 ∈ ee_tbl ∧ N.2.1.name = "<init>" ∧ N.2.2.2.2.1 = none)
def ee_Cb (q : Nat × Nat × Nat × Nat × Nat × Nat × Nat × Nat × Nat) (N : ee_me) : Bool := ((plainName N.2.1.cls && (ee_at (ee_CP.getD q.2.2.1 0) (.code N.2.1 N.2.2.1 N.2.2.2.1 N.2.2.2.2.1) && decide (N.2.2.2.1 ≤ 45))) && (ee_at q.2.2.2.2.2.1 (.methodLink (ee_ow q.1) q.2.1 N.2.1) && ee_at q.2.2.2.2.2.2.2.2 (.initialized N.2.1.cls))) && ((decide (N.2.1.cls ≠ "java/lang/invoke/MethodHandle") && (decide (N.2.1.cls ≠ "java/lang/invoke/VarHandle") && decide ((parseMethodDescriptor N.2.1.desc).map (fun d => d.parameters.length) = some q.2.2.2.2.1))) && ((!decide (q.2.2.2.1 = 0) || (ee_at q.2.2.2.2.2.2.1 (.instanceMethod N.2.1) && ee_at q.2.2.2.2.2.2.2.1 (.selects N.2.1.cls N.2.1 N.2.1))) && ((!decide (q.2.2.2.1 = 1) || ee_at q.2.2.2.2.2.2.1 (.static N.2.1)) && (!decide (q.2.2.2.1 = 2) || (ee_at q.2.2.2.2.2.2.1 (.instanceMethod N.2.1) && (decide (N.2.1.name = "<init>") && decide (N.2.2.2.2.1 = none)))))))
theorem ee_imp {a b : Bool} (h : (!a || b) = true) (ha : a = true) : b = true := by
  rw [ha] at h
  simpa using h
theorem ee_Cb.ok {q : Nat × Nat × Nat × Nat × Nat × Nat × Nat × Nat × Nat} {N : ee_me} (h : ee_Cb q N = true) : ee_Cok q N := by
  have an : ∀ {a b : Bool}, (a && b) = true → a = true ∧ b = true := fun h => Bool.and_eq_true_iff.mp h
  obtain ⟨h, h2⟩ := an h
  obtain ⟨h, h1⟩ := an h
  obtain ⟨a1, a2⟩ := an h
  obtain ⟨a2, a3⟩ := an a2
  obtain ⟨b1, b2⟩ := an h1
  obtain ⟨c1, d1⟩ := an h2
  obtain ⟨c1, c2⟩ := an c1
  obtain ⟨c2, c3⟩ := an c2
  obtain ⟨d1, d2⟩ := an d1
  obtain ⟨d2, d3⟩ := an d2
  refine ⟨⟨a1, ee_at.mem a2, of_decide_eq_true a3⟩, ⟨ee_at.mem b1, ee_at.mem b2⟩, ⟨of_decide_eq_true c1, of_decide_eq_true c2, of_decide_eq_true c3⟩, fun z => ?_, fun z => ?_, fun z => ?_⟩
  · obtain ⟨x1, x2⟩ := an (ee_imp d1 (decide_eq_true z))
    exact ⟨ee_at.mem x1, ee_at.mem x2⟩
  · exact ee_at.mem (ee_imp d2 (decide_eq_true z))
  · obtain ⟨x1, x2⟩ := an (ee_imp d3 (decide_eq_true z))
    obtain ⟨x2, x3⟩ := an x2
    exact ⟨ee_at.mem x1, of_decide_eq_true x2, of_decide_eq_true x3⟩
def ee_clb (q : Nat × Nat × Nat × Nat × Nat × Nat × Nat × Nat × Nat) : Bool := match ee_MT[q.2.2.1]? with
    | some N => ee_Cb q N
    | none => false
set_option maxRecDepth 100000 in
theorem ee_CL0 : ((ee_CL.drop 0).take 15).all ee_clb = true := by decide +kernel
set_option maxRecDepth 100000 in
theorem ee_CL1 : ((ee_CL.drop 15).take 15).all ee_clb = true := by decide +kernel
set_option maxRecDepth 100000 in
theorem ee_CL2 : ((ee_CL.drop 30).take 15).all ee_clb = true := by decide +kernel
set_option maxRecDepth 100000 in
theorem ee_CL3 : ((ee_CL.drop 45).take 15).all ee_clb = true := by decide +kernel
set_option maxRecDepth 100000 in
theorem ee_CL4 : ((ee_CL.drop 60).take 15).all ee_clb = true := by decide +kernel
set_option maxRecDepth 100000 in
theorem ee_CL5 : ((ee_CL.drop 75).take 15).all ee_clb = true := by decide +kernel
set_option maxRecDepth 100000 in
theorem ee_CL6 : ((ee_CL.drop 90).take 15).all ee_clb = true := by decide +kernel
set_option maxRecDepth 100000 in
theorem ee_CL7 : ((ee_CL.drop 105).take 15).all ee_clb = true := by decide +kernel
set_option maxRecDepth 100000 in
theorem ee_CL8 : ((ee_CL.drop 120).take 15).all ee_clb = true := by decide +kernel
set_option maxRecDepth 100000 in
theorem ee_CL9 : ((ee_CL.drop 135).take 15).all ee_clb = true := by decide +kernel
set_option maxRecDepth 100000 in
theorem ee_CL10 : ((ee_CL.drop 150).take 15).all ee_clb = true := by decide +kernel
set_option maxRecDepth 100000 in
theorem ee_CL11 : ((ee_CL.drop 165).take 15).all ee_clb = true := by decide +kernel
set_option maxRecDepth 100000 in
theorem ee_CL12 : ((ee_CL.drop 180).take 15).all ee_clb = true := by decide +kernel
theorem ee_CLall : ee_CL.all ee_clb = true := by
  refine List.all_eq_true.mpr (fun q hq => ?_)
  obtain ⟨i, hi⟩ := List.getElem?_of_mem hq
  have hl : i < 194 := (List.getElem?_eq_some_iff.mp hi).1
  have hm : ∀ a, 15 * a ≤ i → i < 15 * a + 15 → q ∈ (ee_CL.drop (15 * a)).take 15 := fun a h1 h2 => List.mem_of_getElem? (i := i - 15 * a) (by rw [List.getElem?_take_of_lt (by omega), List.getElem?_drop, show 15 * a + (i - 15 * a) = i by omega]; exact hi)
  have hd : i / 15 < 13 := by omega
  have h0 := hm (i / 15) (by omega) (by omega)
  match h : i / 15, hd, h0 with
  | 0, _, h0 => exact List.all_eq_true.mp ee_CL0 q h0
  | 1, _, h0 => exact List.all_eq_true.mp ee_CL1 q h0
  | 2, _, h0 => exact List.all_eq_true.mp ee_CL2 q h0
  | 3, _, h0 => exact List.all_eq_true.mp ee_CL3 q h0
  | 4, _, h0 => exact List.all_eq_true.mp ee_CL4 q h0
  | 5, _, h0 => exact List.all_eq_true.mp ee_CL5 q h0
  | 6, _, h0 => exact List.all_eq_true.mp ee_CL6 q h0
  | 7, _, h0 => exact List.all_eq_true.mp ee_CL7 q h0
  | 8, _, h0 => exact List.all_eq_true.mp ee_CL8 q h0
  | 9, _, h0 => exact List.all_eq_true.mp ee_CL9 q h0
  | 10, _, h0 => exact List.all_eq_true.mp ee_CL10 q h0
  | 11, _, h0 => exact List.all_eq_true.mp ee_CL11 q h0
  | 12, _, h0 => exact List.all_eq_true.mp ee_CL12 q h0
  | n + 13, hd, _ => omega
theorem ee_CLok : ∀ (q : Nat × Nat × Nat × Nat × Nat × Nat × Nat × Nat × Nat) (N : ee_me), q ∈ ee_CL → ee_MT[q.2.2.1]? = some N → ee_Cok q N := fun q N hq hN => by
  have h := List.all_eq_true.mp ee_CLall q hq
  unfold ee_clb at h
  rw [hN] at h
  exact ee_Cb.ok h
def ee_lawno : Nat := 97
def ee_lawm : ee_me := (10, ⟨"PepperTablesLaw", "law", "([I)Z"⟩, code, 4, (some .boolean), ee_T97, 98, 11043)
theorem ee_lawM : ee_MT[ee_lawno]? = some ee_lawm := rfl
theorem ee_ls0 : Cond.laysStatic "java/lang/String" "COMPACT_STRINGS" "Z" ∈ lw_tbl := ee_atL.mem (i := 271) (by decide +kernel)
theorem ee_ini0 : Cond.initialized "java/lang/String" ∈ lw_tbl := ee_atL.mem (i := 119) (by decide +kernel)
theorem ee_ls1 : Cond.laysStatic "jdk/internal/util/Preconditions" "SIOOBE_FORMATTER" "Ljava/util/function/BiFunction;" ∈ lw_tbl := ee_atL.mem (i := 287) (by decide +kernel)
theorem ee_ini1 : Cond.initialized "jdk/internal/util/Preconditions" ∈ lw_tbl := ee_atL.mem (i := 121) (by decide +kernel)
theorem ee_srf : ∀ i, i < 2 → Cond.stringRef RX5 (ee_six.getD i 0) (ee_stx.getD i "") ∈ lw_tbl := by
  intro i hi
  rcases (show i = 0 ∨ i = 1 by omega) with rfl | rfl
  · exact ee_atL.mem (i := 261) (by decide +kernel)
  · exact ee_atL.mem (i := 585) (by decide +kernel)
