/-! the law from its entry, by the walk -/
theorem ee_arrK {s : State} {args : Array Value} {ty : FieldType} (hp : ∀ C, ty ≠ .object C) (h : (Cond.arrayClass ty).before args s = true) : ∃ cA : ClassId, ArrOfT s cA ty ∧ va_RA s cA ty := by
  obtain ⟨cA, kA, comp, hfind, hk, hkind⟩ := Cond.arrayClass_spec h
  refine ⟨cA, fun n z => ⟨fun k h => (by cases h), kA, hk, comp, hkind⟩, ?_⟩
  cases ty with
  | object C => exact absurd rfl (hp C)
  | _ => exact hfind
/-- the start: the script's cell, six numbers, its length -/
def ee_st0 : ee_st := (0, [(0, .ref 2000000)], [], [], [(-2147483648, 2147483647, none), (-2147483648, 2147483647, none), (-2147483648, 2147483647, none), (-2147483648, 2147483647, none), (-2147483648, 2147483647, none), (-2147483648, 2147483647, none), (0, 6, none)], 0, 0, [])
/-- the end: at a return, with 1 -/
def ee_fin (M : ee_me) (q : ee_st) : Bool := match ee_find M q.1 with
  | some e => decide (e.2.1 = .ireturn) && (decide (e.2.2.1 = 1) && (decide (q.2.2.1 = [.int 1]) && (decide (q.2.2.2.2.2.1 ≤ 600000) && decide (q.2.2.2.2.2.2.1 ≤ 7302250))))
  | none => false
/-- the walk itself: the kernel does it -/
def ee_fuel : Nat := 20000
def ee_o1 : Option (List ee_st) := ee_exec ee_fuel 30 1000000 ee_lawno ee_st0
def ee_good1 (o : Option (List ee_st)) : Bool := match o with
  | some outs => outs.all (ee_fin ee_lawm)
  | none => false
theorem ee_good1.ok {o : Option (List ee_st)} (h : ee_good1 o = true) : ∃ outs, o = some outs ∧ outs.all (ee_fin ee_lawm) = true := by
  cases o with
  | none => cases h
  | some outs => exact ⟨outs, rfl, h⟩
def ee_tm (i : Nat) : Term := .string RX5 (ee_six.getD i 0)
theorem ee_t1 : ∀ i, i < 2 → Cond.exactly (ee_tm i) "java/lang/String" ∈ flatC (Jvm.Cond.and given_1 narrow_1) := by decide +kernel
theorem ee_t2 : ∀ i, i < 2 → Cond.eq (.field (ee_tm i) "java/lang/String" "coder" "B") (.int 0) ∈ flatC (Jvm.Cond.and given_1 narrow_1) := by decide +kernel
theorem ee_t3 : ∀ i, i < 2 → Cond.arrayOf (.field (ee_tm i) "java/lang/String" "value" "[B") .byte ∈ flatC (Jvm.Cond.and given_1 narrow_1) := by decide +kernel
theorem ee_t4 : ∀ i, i < 2 → Cond.eq (.length (.field (ee_tm i) "java/lang/String" "value" "[B")) (.int (Int32.ofNat (ee_len.getD i 0))) ∈ flatC (Jvm.Cond.and given_1 narrow_1) := by decide +kernel
theorem ee_t5 : ∀ i, i < 2 → ∀ j, j < ee_len.getD i 0 → Cond.eq (.elem (.field (ee_tm i) "java/lang/String" "value" "[B") (.int (Int32.ofNat j))) (.int ((ee_byt.getD i []).getD j 0)) ∈ flatC (Jvm.Cond.and given_1 narrow_1) := by decide +kernel
theorem ee_t6 : Cond.not (Cond.eq (ee_tm 0) (ee_tm 1)) ∈ flatC (Jvm.Cond.and given_1 narrow_1) := by decide +kernel
theorem ee_t7 : Cond.eq (.static "java/lang/String" "COMPACT_STRINGS" "Z") (.int 1) ∈ flatC (Jvm.Cond.and given_1 narrow_1) := by decide +kernel
theorem ee_t8 : Cond.isRef (.static "jdk/internal/util/Preconditions" "SIOOBE_FORMATTER" "Ljava/util/function/BiFunction;") ∈ flatC (Jvm.Cond.and given_1 narrow_1) := by decide +kernel
set_option maxHeartbeats 2000000 in
theorem ee_ext {s : State} {b L : Nat} {xs : Nat → Int32} (hL : L ≤ 6) (hts : ∀ w ∈ lw_tbl, w.before #[Value.ref b] s = true) (hX : va_X b L xs s s.heap) (hbl : b < s.heap.size) (hgv : (Jvm.Cond.and given_1 narrow_1).before #[Value.ref b] s = true) :
    ∃ ex : Nat → Nat, ex 2000000 = b ∧ ee_Ext s (fun q : Nat => s.heap.size ≤ q) ex [xs 0, xs 1, xs 2, xs 3, xs 4, xs 5, nI L] := by
  have hs := flat_of_before _ hgv
  have hA : ∀ a : Nat, a < s.heap.size → ¬ (fun q : Nat => s.heap.size ≤ q) a := fun a h => Nat.not_le.mpr h
  obtain ⟨adK, adV, g1, g2⟩ := vk_Sof (N := 2) (tm := ee_tm) (len := ee_len) (byt := ee_byt) (A := fun q : Nat => s.heap.size ≤ q) (by decide) (fun i hi => hs _ (ee_t1 i hi)) (fun i hi => hs _ (ee_t2 i hi)) (fun i hi => hs _ (ee_t3 i hi)) (fun i hi => hs _ (ee_t4 i hi)) (fun i hi j hj => hs _ (ee_t5 i hi j hj)) (fun i j hi hj hne => by
    rcases (show i = 0 ∨ i = 1 by omega) with rfl | rfl
    · rcases (show j = 0 ∨ j = 1 by omega) with rfl | rfl
      · exact absurd rfl hne
      · exact Or.inl (hs _ ee_t6)
    · rcases (show j = 0 ∨ j = 1 by omega) with rfl | rfl
      · exact Or.inr (hs _ ee_t6)
      · exact absurd rfl hne) hA
  obtain ⟨ex, e1, e2, e3⟩ : ∃ ex : Nat → Nat, ex 2000000 = b ∧ (∀ i, i < 2 → ex (1000000 + i) = adK i) ∧ (∀ i, i < 2 → ex (1000100 + i) = adV i) :=
    ⟨fun k => if k = 2000000 then b else if k < 1000100 then adK (k - 1000000) else adV (k - 1000100), by simp, fun i hi => by
      show (if 1000000 + i = 2000000 then b else if 1000000 + i < 1000100 then adK (1000000 + i - 1000000) else adV (1000000 + i - 1000100)) = adK i
      rw [if_neg (by omega), if_pos (by omega), Nat.add_sub_cancel_left], fun i hi => by
      show (if 1000100 + i = 2000000 then b else if 1000100 + i < 1000100 then adK (1000100 + i - 1000000) else adV (1000100 + i - 1000100)) = adV i
      rw [if_neg (by omega), if_neg (by omega), Nat.add_sub_cancel_left]⟩
  refine ⟨ex, e1, ⟨fun i hi => ?_, fun i j hi hj h => ?_⟩, fun i hi => ?_, va_Zof (hts _ ee_ls0) (hts _ ee_ini0) (va_eqi (hs _ ee_t7)) hA, va_Zqof (hts _ ee_ls1) (hts _ ee_ini1) (hs _ ee_t8) hA, L, xs, by rw [e1]; exact hX, by rw [e1]; exact hbl, by rw [e1]; exact hA b hbl, rfl, hL, fun j hj => ?_⟩
  · simp only [e2 i hi, e3 i hi]
    exact g1.1 i hi
  · simp only [e2 i hi, e2 j hj] at h
    exact g1.2 i j hi hj h
  · rw [e2 i hi]
    exact vk_R.of (hts _ (ee_srf i hi)) (g2 i hi)
  · match j, hj with
    | 0, _ => rfl
    | 1, _ => rfl
    | 2, _ => rfl
    | 3, _ => rfl
    | 4, _ => rfl
    | 5, _ => rfl
    | j + 6, hj => omega
theorem ee_fin.ok {M : ee_me} {q : ee_st} (h : ee_fin M q = true) : ∃ e, ee_find M q.1 = some e ∧ e.2.1 = .ireturn ∧ e.2.2.1 = 1 ∧ q.2.2.1 = [.int 1] ∧ q.2.2.2.2.2.1 ≤ 600000 ∧ q.2.2.2.2.2.2.1 ≤ 7302250 := by
  unfold ee_fin at h
  cases hf : ee_find M q.1 with
  | none => rw [hf] at h; cases h
  | some e =>
    rw [hf] at h
    obtain ⟨h1, h2⟩ := ee_and h
    obtain ⟨h2, h3⟩ := ee_and h2
    obtain ⟨h3, h4⟩ := ee_and h3
    obtain ⟨h4, h5⟩ := ee_and h4
    exact ⟨e, rfl, of_decide_eq_true h1, of_decide_eq_true h2, of_decide_eq_true h3, of_decide_eq_true h4, of_decide_eq_true h5⟩
