def ee_MC0 : List ee_me := [ee_me0, ee_me1, ee_me2, ee_me3, ee_me4, ee_me5, ee_me6, ee_me7, ee_me8, ee_me9, ee_me10, ee_me11, ee_me12, ee_me13, ee_me14, ee_me15]
theorem ee_MC0ok : ee_MC0.all ee_Mb = true := by
  unfold ee_MC0
  simp only [List.all_cons, List.all_nil, ee_me0ok, ee_me1ok, ee_me2ok, ee_me3ok, ee_me4ok, ee_me5ok, ee_me6ok, ee_me7ok, ee_me8ok, ee_me9ok, ee_me10ok, ee_me11ok, ee_me12ok, ee_me13ok, ee_me14ok, ee_me15ok, Bool.and_self]
def ee_MC1 : List ee_me := [ee_me16, ee_me17, ee_me18, ee_me19, ee_me20, ee_me21, ee_me22, ee_me23, ee_me24, ee_me25, ee_me26, ee_me27, ee_me28, ee_me29, ee_me30, ee_me31]
theorem ee_MC1ok : ee_MC1.all ee_Mb = true := by
  unfold ee_MC1
  simp only [List.all_cons, List.all_nil, ee_me16ok, ee_me17ok, ee_me18ok, ee_me19ok, ee_me20ok, ee_me21ok, ee_me22ok, ee_me23ok, ee_me24ok, ee_me25ok, ee_me26ok, ee_me27ok, ee_me28ok, ee_me29ok, ee_me30ok, ee_me31ok, Bool.and_self]
def ee_MC2 : List ee_me := [ee_me32, ee_me33, ee_me34, ee_me35, ee_me36, ee_me37, ee_me38, ee_me39, ee_me40, ee_me41, ee_me42, ee_me43, ee_me44, ee_me45, ee_me46, ee_me47]
theorem ee_MC2ok : ee_MC2.all ee_Mb = true := by
  unfold ee_MC2
  simp only [List.all_cons, List.all_nil, ee_me32ok, ee_me33ok, ee_me34ok, ee_me35ok, ee_me36ok, ee_me37ok, ee_me38ok, ee_me39ok, ee_me40ok, ee_me41ok, ee_me42ok, ee_me43ok, ee_me44ok, ee_me45ok, ee_me46ok, ee_me47ok, Bool.and_self]
def ee_MC3 : List ee_me := [ee_me48, ee_me49, ee_me50, ee_me51, ee_me52, ee_me53, ee_me54, ee_me55, ee_me56, ee_me57, ee_me58, ee_me59, ee_me60, ee_me61, ee_me62, ee_me63]
theorem ee_MC3ok : ee_MC3.all ee_Mb = true := by
  unfold ee_MC3
  simp only [List.all_cons, List.all_nil, ee_me48ok, ee_me49ok, ee_me50ok, ee_me51ok, ee_me52ok, ee_me53ok, ee_me54ok, ee_me55ok, ee_me56ok, ee_me57ok, ee_me58ok, ee_me59ok, ee_me60ok, ee_me61ok, ee_me62ok, ee_me63ok, Bool.and_self]
def ee_MC4 : List ee_me := [ee_me64, ee_me65, ee_me66, ee_me67, ee_me68, ee_me69, ee_me70, ee_me71, ee_me72, ee_me73, ee_me74, ee_me75, ee_me76, ee_me77, ee_me78, ee_me79]
theorem ee_MC4ok : ee_MC4.all ee_Mb = true := by
  unfold ee_MC4
  simp only [List.all_cons, List.all_nil, ee_me64ok, ee_me65ok, ee_me66ok, ee_me67ok, ee_me68ok, ee_me69ok, ee_me70ok, ee_me71ok, ee_me72ok, ee_me73ok, ee_me74ok, ee_me75ok, ee_me76ok, ee_me77ok, ee_me78ok, ee_me79ok, Bool.and_self]
def ee_MC5 : List ee_me := [ee_me80, ee_me81, ee_me82, ee_me83, ee_me84, ee_me85, ee_me86, ee_me87, ee_me88, ee_me89, ee_me90, ee_me91, ee_me92, ee_me93, ee_me94, ee_me95]
theorem ee_MC5ok : ee_MC5.all ee_Mb = true := by
  unfold ee_MC5
  simp only [List.all_cons, List.all_nil, ee_me80ok, ee_me81ok, ee_me82ok, ee_me83ok, ee_me84ok, ee_me85ok, ee_me86ok, ee_me87ok, ee_me88ok, ee_me89ok, ee_me90ok, ee_me91ok, ee_me92ok, ee_me93ok, ee_me94ok, ee_me95ok, Bool.and_self]
def ee_MC6 : List ee_me := [ee_me96, ee_me97, ee_me98, ee_me99, ee_me100, ee_me101, ee_me102, ee_me103, ee_me104, ee_me105, ee_me106, ee_me107, ee_me108, ee_me109, ee_me110, ee_me111]
theorem ee_MC6ok : ee_MC6.all ee_Mb = true := by
  unfold ee_MC6
  simp only [List.all_cons, List.all_nil, ee_me96ok, ee_me97ok, ee_me98ok, ee_me99ok, ee_me100ok, ee_me101ok, ee_me102ok, ee_me103ok, ee_me104ok, ee_me105ok, ee_me106ok, ee_me107ok, ee_me108ok, ee_me109ok, ee_me110ok, ee_me111ok, Bool.and_self]
def ee_MC7 : List ee_me := [ee_me112, ee_me113, ee_me114, ee_me115, ee_me116, ee_me117, ee_me118, ee_me119, ee_me120, ee_me121, ee_me122, ee_me123, ee_me124, ee_me125, ee_me126, ee_me127]
theorem ee_MC7ok : ee_MC7.all ee_Mb = true := by
  unfold ee_MC7
  simp only [List.all_cons, List.all_nil, ee_me112ok, ee_me113ok, ee_me114ok, ee_me115ok, ee_me116ok, ee_me117ok, ee_me118ok, ee_me119ok, ee_me120ok, ee_me121ok, ee_me122ok, ee_me123ok, ee_me124ok, ee_me125ok, ee_me126ok, ee_me127ok, Bool.and_self]
def ee_MC8 : List ee_me := [ee_me128, ee_me129, ee_me130, ee_me131, ee_me132, ee_me133, ee_me134, ee_me135, ee_me136, ee_me137, ee_me138, ee_me139, ee_me140, ee_me141, ee_me142, ee_me143]
theorem ee_MC8ok : ee_MC8.all ee_Mb = true := by
  unfold ee_MC8
  simp only [List.all_cons, List.all_nil, ee_me128ok, ee_me129ok, ee_me130ok, ee_me131ok, ee_me132ok, ee_me133ok, ee_me134ok, ee_me135ok, ee_me136ok, ee_me137ok, ee_me138ok, ee_me139ok, ee_me140ok, ee_me141ok, ee_me142ok, ee_me143ok, Bool.and_self]
def ee_MC9 : List ee_me := [ee_me144, ee_me145, ee_me146, ee_me147, ee_me148, ee_me149, ee_me150, ee_me151, ee_me152, ee_me153, ee_me154, ee_me155, ee_me156, ee_me157, ee_me158, ee_me159]
theorem ee_MC9ok : ee_MC9.all ee_Mb = true := by
  unfold ee_MC9
  simp only [List.all_cons, List.all_nil, ee_me144ok, ee_me145ok, ee_me146ok, ee_me147ok, ee_me148ok, ee_me149ok, ee_me150ok, ee_me151ok, ee_me152ok, ee_me153ok, ee_me154ok, ee_me155ok, ee_me156ok, ee_me157ok, ee_me158ok, ee_me159ok, Bool.and_self]
def ee_MC10 : List ee_me := [ee_me160, ee_me161, ee_me162, ee_me163, ee_me164, ee_me165, ee_me166, ee_me167, ee_me168, ee_me169, ee_me170, ee_me171, ee_me172, ee_me173, ee_me174, ee_me175]
theorem ee_MC10ok : ee_MC10.all ee_Mb = true := by
  unfold ee_MC10
  simp only [List.all_cons, List.all_nil, ee_me160ok, ee_me161ok, ee_me162ok, ee_me163ok, ee_me164ok, ee_me165ok, ee_me166ok, ee_me167ok, ee_me168ok, ee_me169ok, ee_me170ok, ee_me171ok, ee_me172ok, ee_me173ok, ee_me174ok, ee_me175ok, Bool.and_self]
def ee_MC11 : List ee_me := [ee_me176, ee_me177, ee_me178, ee_me179, ee_me180, ee_me181, ee_me182, ee_me183, ee_me184, ee_me185, ee_me186, ee_me187, ee_me188, ee_me189, ee_me190, ee_me191]
theorem ee_MC11ok : ee_MC11.all ee_Mb = true := by
  unfold ee_MC11
  simp only [List.all_cons, List.all_nil, ee_me176ok, ee_me177ok, ee_me178ok, ee_me179ok, ee_me180ok, ee_me181ok, ee_me182ok, ee_me183ok, ee_me184ok, ee_me185ok, ee_me186ok, ee_me187ok, ee_me188ok, ee_me189ok, ee_me190ok, ee_me191ok, Bool.and_self]
def ee_MC12 : List ee_me := [ee_me192, ee_me193, ee_me194, ee_me195, ee_me196, ee_me197, ee_me198, ee_me199, ee_me200, ee_me201, ee_me202, ee_me203, ee_me204, ee_me205, ee_me206, ee_me207]
theorem ee_MC12ok : ee_MC12.all ee_Mb = true := by
  unfold ee_MC12
  simp only [List.all_cons, List.all_nil, ee_me192ok, ee_me193ok, ee_me194ok, ee_me195ok, ee_me196ok, ee_me197ok, ee_me198ok, ee_me199ok, ee_me200ok, ee_me201ok, ee_me202ok, ee_me203ok, ee_me204ok, ee_me205ok, ee_me206ok, ee_me207ok, Bool.and_self]
def ee_MC13 : List ee_me := [ee_me208, ee_me209, ee_me210, ee_me211, ee_me212, ee_me213, ee_me214, ee_me215, ee_me216, ee_me217, ee_me218, ee_me219, ee_me220, ee_me221, ee_me222, ee_me223]
theorem ee_MC13ok : ee_MC13.all ee_Mb = true := by
  unfold ee_MC13
  simp only [List.all_cons, List.all_nil, ee_me208ok, ee_me209ok, ee_me210ok, ee_me211ok, ee_me212ok, ee_me213ok, ee_me214ok, ee_me215ok, ee_me216ok, ee_me217ok, ee_me218ok, ee_me219ok, ee_me220ok, ee_me221ok, ee_me222ok, ee_me223ok, Bool.and_self]
def ee_MC14 : List ee_me := [ee_me224, ee_me225, ee_me226, ee_me227, ee_me228, ee_me229, ee_me230, ee_me231, ee_me232, ee_me233, ee_me234, ee_me235, ee_me236, ee_me237, ee_me238, ee_me239]
theorem ee_MC14ok : ee_MC14.all ee_Mb = true := by
  unfold ee_MC14
  simp only [List.all_cons, List.all_nil, ee_me224ok, ee_me225ok, ee_me226ok, ee_me227ok, ee_me228ok, ee_me229ok, ee_me230ok, ee_me231ok, ee_me232ok, ee_me233ok, ee_me234ok, ee_me235ok, ee_me236ok, ee_me237ok, ee_me238ok, ee_me239ok, Bool.and_self]
def ee_MC15 : List ee_me := [ee_me240, ee_me241, ee_me242, ee_me243, ee_me244, ee_me245, ee_me246, ee_me247, ee_me248, ee_me249, ee_me250, ee_me251, ee_me252, ee_me253, ee_me254, ee_me255]
theorem ee_MC15ok : ee_MC15.all ee_Mb = true := by
  unfold ee_MC15
  simp only [List.all_cons, List.all_nil, ee_me240ok, ee_me241ok, ee_me242ok, ee_me243ok, ee_me244ok, ee_me245ok, ee_me246ok, ee_me247ok, ee_me248ok, ee_me249ok, ee_me250ok, ee_me251ok, ee_me252ok, ee_me253ok, ee_me254ok, ee_me255ok, Bool.and_self]
def ee_MC16 : List ee_me := [ee_me256, ee_me257, ee_me258, ee_me259, ee_me260, ee_me261, ee_me262, ee_me263, ee_me264, ee_me265, ee_me266, ee_me267, ee_me268, ee_me269, ee_me270, ee_me271]
theorem ee_MC16ok : ee_MC16.all ee_Mb = true := by
  unfold ee_MC16
  simp only [List.all_cons, List.all_nil, ee_me256ok, ee_me257ok, ee_me258ok, ee_me259ok, ee_me260ok, ee_me261ok, ee_me262ok, ee_me263ok, ee_me264ok, ee_me265ok, ee_me266ok, ee_me267ok, ee_me268ok, ee_me269ok, ee_me270ok, ee_me271ok, Bool.and_self]
def ee_MC17 : List ee_me := [ee_me272, ee_me273, ee_me274, ee_me275, ee_me276, ee_me277, ee_me278, ee_me279, ee_me280, ee_me281, ee_me282, ee_me283, ee_me284, ee_me285, ee_me286, ee_me287]
theorem ee_MC17ok : ee_MC17.all ee_Mb = true := by
  unfold ee_MC17
  simp only [List.all_cons, List.all_nil, ee_me272ok, ee_me273ok, ee_me274ok, ee_me275ok, ee_me276ok, ee_me277ok, ee_me278ok, ee_me279ok, ee_me280ok, ee_me281ok, ee_me282ok, ee_me283ok, ee_me284ok, ee_me285ok, ee_me286ok, ee_me287ok, Bool.and_self]
def ee_MC18 : List ee_me := [ee_me288, ee_me289, ee_me290, ee_me291, ee_me292, ee_me293, ee_me294, ee_me295, ee_me296, ee_me297, ee_me298, ee_me299, ee_me300, ee_me301, ee_me302, ee_me303]
theorem ee_MC18ok : ee_MC18.all ee_Mb = true := by
  unfold ee_MC18
  simp only [List.all_cons, List.all_nil, ee_me288ok, ee_me289ok, ee_me290ok, ee_me291ok, ee_me292ok, ee_me293ok, ee_me294ok, ee_me295ok, ee_me296ok, ee_me297ok, ee_me298ok, ee_me299ok, ee_me300ok, ee_me301ok, ee_me302ok, ee_me303ok, Bool.and_self]
def ee_MC19 : List ee_me := [ee_me304, ee_me305, ee_me306, ee_me307, ee_me308, ee_me309, ee_me310, ee_me311, ee_me312, ee_me313]
theorem ee_MC19ok : ee_MC19.all ee_Mb = true := by
  unfold ee_MC19
  simp only [List.all_cons, List.all_nil, ee_me304ok, ee_me305ok, ee_me306ok, ee_me307ok, ee_me308ok, ee_me309ok, ee_me310ok, ee_me311ok, ee_me312ok, ee_me313ok, Bool.and_self]
def ee_MC : List (List ee_me) := [ee_MC0, ee_MC1, ee_MC2, ee_MC3, ee_MC4, ee_MC5, ee_MC6, ee_MC7, ee_MC8, ee_MC9, ee_MC10, ee_MC11, ee_MC12, ee_MC13, ee_MC14, ee_MC15, ee_MC16, ee_MC17, ee_MC18, ee_MC19]
def ee_mt (y : Nat) : Option ee_me := match ee_MC[y / 16]? with
  | some l => l[y % 16]?
  | none => none
theorem ee_MCall : ee_MC.all (fun l => l.all ee_Mb) = true := by
  unfold ee_MC
  simp only [List.all_cons, List.all_nil, ee_MC0ok, ee_MC1ok, ee_MC2ok, ee_MC3ok, ee_MC4ok, ee_MC5ok, ee_MC6ok, ee_MC7ok, ee_MC8ok, ee_MC9ok, ee_MC10ok, ee_MC11ok, ee_MC12ok, ee_MC13ok, ee_MC14ok, ee_MC15ok, ee_MC16ok, ee_MC17ok, ee_MC18ok, ee_MC19ok, Bool.and_self]
theorem ee_MTok : ∀ (y : Nat) (M : ee_me), ee_mt y = some M → ee_Mok M := fun y M h => by
  unfold ee_mt at h
  split at h
  · rename_i l hl
    exact ee_Mb.ok (List.all_eq_true.mp (List.all_eq_true.mp ee_MCall l (List.mem_of_getElem? hl)) M (List.mem_of_getElem? h))
  · cases h
def ee_CP : List Nat := [138, 1208, 985, 1181, 1199, 1016, 1082, 1113, 936, 885, 1078, 560, 1020, 755, 1036, 552, 981, 1032, 1044, 867, 1125, 1005, 1094, 1090, 989, 1190, 1065, 916, 881, 763, 795, 853, 933, 787, 1074, 1141, 1001, 973, 1117, 1048, 940, 1098, 1106, 1110, 1028, 759, 877, 1086, 1040, 905, 863, 957, 1150, 1069, 791, 1024, 1102, 961, 969, 945, 1009, 849, 889, 949, 953, 564, 993, 1173, 913, 783, 893, 1133, 807, 408, 736, 857, 897, 909, 429, 1194, 747, 1203, 466, 1169, 751, 1145, 1185, 1162, 1158, 1177, 1154, 1137, 1129, 443, 977, 1060, 1052, 1121, 392, 838, 845, 811, 930, 997, 842, 921, 835, 825, 830, 871, 146, 556, 660, 668, 568, 700, 728, 696, 692, 648, 704, 652, 676, 724, 712, 716, 680, 720, 656, 576, 584, 580, 684, 688, 664, 672, 708, 356, 732, 965, 767, 799, 901, 740, 152, 926, 771, 157, 572, 803, 1056, 821, 775, 779, 0, 1213, 1963, 1863, 1511, 1935, 1704, 1947, 1670, 1959, 1634, 1563, 1487, 1673, 1851, 1839, 1594, 1859, 1218, 1688, 1666, 1760, 1898, 1662, 1939, 1883, 1684, 1539, 1559, 1971, 1855, 1495, 1575, 1816, 1967, 1843, 1587, 1507, 1598, 1808, 1752, 1434, 1748, 1902, 1646, 1503, 1927, 1847, 1622, 1692, 1696, 1955, 1638, 1879, 1835, 1812, 1571, 1465, 1480, 1472, 1590, 1444, 1658, 1441, 1875, 1583, 1630, 1468, 1551, 1642, 1618, 1484, 1740, 1831, 1680, 1602, 1531, 1910, 1732, 1923, 1919, 1226, 1776, 1871, 1230, 1491, 1951, 1515, 1788, 1716, 1720, 1519, 1895, 1728, 1579, 1499, 1756, 1827, 1543, 1887, 1567, 1476, 1535, 1527, 1772, 1744, 1824, 1915, 1891, 1626, 1523, 1931, 1708, 1792, 1712, 1796, 1867, 1438, 1736, 1724, 1800, 1804, 1222, 1430, 1700, 1943, 1768, 1780, 1614, 1606, 1676, 1764, 1547, 1906, 1610, 1555, 1820, 1650, 1654, 1784, 639, 636, 643, 814, 603, 606, 275, 624, 285, 269, 589, 593, 279, 265, 600, 282, 597, 609, 627, 290]
def ee_Cb (q : Nat × Nat × Nat × Nat × Nat × Nat × Nat × Nat × Nat) (N : ee_me) : Bool := ((plainName N.2.1.cls && (ee_at (ee_CP.getD q.2.2.1 0) (.code N.2.1 N.2.2.1 N.2.2.2.1 N.2.2.2.2.1) && decide (N.2.2.2.1 ≤ 45))) && (ee_at q.2.2.2.2.2.1 (.methodLink (ee_ow q.1) q.2.1 N.2.1) && ee_at q.2.2.2.2.2.2.2.2 (.initialized N.2.1.cls))) && ((decide (N.2.1.cls ≠ "java/lang/invoke/MethodHandle") && (decide (N.2.1.cls ≠ "java/lang/invoke/VarHandle") && decide ((parseMethodDescriptor N.2.1.desc).map (fun d => d.parameters.length) = some q.2.2.2.2.1))) && ((!decide (q.2.2.2.1 = 0) || (ee_at q.2.2.2.2.2.2.1 (.instanceMethod N.2.1) && ee_at q.2.2.2.2.2.2.2.1 (.selects N.2.1.cls N.2.1 N.2.1))) && ((!decide (q.2.2.2.1 = 1) || ee_at q.2.2.2.2.2.2.1 (.static N.2.1)) && (!decide (q.2.2.2.1 = 2) || (ee_at q.2.2.2.2.2.2.1 (.instanceMethod N.2.1) && (decide (N.2.1.name = "<init>") && decide (N.2.2.2.2.1 = none)))))))
theorem ee_imp {a b : Bool} (h : (!a || b) = true) (ha : a = true) : b = true := by
  rw [ha] at h
  simpa using h
theorem ee_Cb.ok {q : Nat × Nat × Nat × Nat × Nat × Nat × Nat × Nat × Nat} {N : ee_me} (h : ee_Cb q N = true) : ee_Cok q N := by
  have an : ∀ {a b : Bool}, (a && b) = true → a = true ∧ b = true := fun h => Bool.and_eq_true_iff.mp h
  obtain ⟨h, h2⟩ := an h
  obtain ⟨h, h1⟩ := an h
  obtain ⟨a1, a2⟩ := an h
  obtain ⟨a2, a3⟩ := an a2
  obtain ⟨b1, b2⟩ := an h1
  obtain ⟨c1, d1⟩ := an h2
  obtain ⟨c1, c2⟩ := an c1
  obtain ⟨c2, c3⟩ := an c2
  obtain ⟨d1, d2⟩ := an d1
  obtain ⟨d2, d3⟩ := an d2
  refine ⟨⟨a1, ee_at.mem a2, of_decide_eq_true a3⟩, ⟨ee_at.mem b1, ee_at.mem b2⟩, ⟨of_decide_eq_true c1, of_decide_eq_true c2, of_decide_eq_true c3⟩, fun z => ?_, fun z => ?_, fun z => ?_⟩
  · obtain ⟨x1, x2⟩ := an (ee_imp d1 (decide_eq_true z))
    exact ⟨ee_at.mem x1, ee_at.mem x2⟩
  · exact ee_at.mem (ee_imp d2 (decide_eq_true z))
  · obtain ⟨x1, x2⟩ := an (ee_imp d3 (decide_eq_true z))
    obtain ⟨x2, x3⟩ := an x2
    exact ⟨ee_at.mem x1, of_decide_eq_true x2, of_decide_eq_true x3⟩
def ee_clb (q : Nat × Nat × Nat × Nat × Nat × Nat × Nat × Nat × Nat) : Bool := match ee_mt q.2.2.1 with
    | some N => ee_Cb q N
    | none => false
