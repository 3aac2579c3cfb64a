/-- a method: number of its file, name, code, locals, what it returns, its code as entries in blocks (each with the first place behind it), cells and slots that it makes -/
abbrev ee_me : Type := Nat × MethodName × ByteArray × Nat × Option FieldType × List (Nat × List ee_en) × Nat × Nat
/-- the entries of a method are what its bytes say -/
def ee_eb (oc : Nat) (cc : ByteArray) (b : Bool) (e : ee_en) : Bool := decide (decode cc e.1 = .ok (e.2.1, e.2.2.1)) && (ee_eok oc e && (!ee_ini e || b))
def ee_Bb (oc : Nat) (cc : ByteArray) (b : Bool) (q : Nat × List ee_en) : Bool := q.2.all (ee_eb oc cc b)
def ee_Mb (M : ee_me) : Bool := decide (ee_own[M.1]? = some M.2.1.cls) && M.2.2.2.2.2.1.all (ee_Bb M.1 M.2.2.1 (decide (M.2.1.name = "<init>")))
def ee_Mok (M : ee_me) : Prop := ee_own[M.1]? = some M.2.1.cls ∧ ∀ q ∈ M.2.2.2.2.2.1, ∀ e ∈ q.2, decode M.2.2.1 e.1 = .ok (e.2.1, e.2.2.1) ∧ ee_eok M.1 e = true ∧ (ee_ini e = true → M.2.1.name = "<init>")
theorem ee_Mb.ok {M : ee_me} (h : ee_Mb M = true) : ee_Mok M := by
  obtain ⟨h1, h2⟩ := Bool.and_eq_true_iff.mp h
  refine ⟨of_decide_eq_true h1, fun q hq e he => ?_⟩
  have h3 := List.all_eq_true.mp h2 q hq
  obtain ⟨g1, g2⟩ := Bool.and_eq_true_iff.mp (List.all_eq_true.mp h3 e he)
  obtain ⟨g2, g3⟩ := Bool.and_eq_true_iff.mp g2
  refine ⟨of_decide_eq_true g1, g2, fun hi => ?_⟩
  rw [hi] at g3
  exact of_decide_eq_true (by simpa using g3)
def ee_sox : Nat := 14
/-- what the tables say of a call -/
def ee_Cok (q : Nat × Nat × Nat × Nat × Nat × Nat × Nat × Nat × Nat) (N : ee_me) : Prop := (plainName N.2.1.cls = true ∧ Cond.code N.2.1 N.2.2.1 N.2.2.2.1 N.2.2.2.2.1 ∈ ee_tbl ∧ N.2.2.2.1 ≤ 45) ∧ (Cond.methodLink (ee_ow q.1) q.2.1 N.2.1 ∈ ee_tbl ∧ Cond.initialized N.2.1.cls ∈ ee_tbl) ∧ (N.2.1.cls ≠ "java/lang/invoke/MethodHandle" ∧ N.2.1.cls ≠ "java/lang/invoke/VarHandle" ∧ (parseMethodDescriptor N.2.1.desc).map (fun d => d.parameters.length) = some q.2.2.2.2.1) ∧ (q.2.2.2.1 = 0 → Cond.instanceMethod N.2.1 ∈ ee_tbl ∧ Cond.selects N.2.1.cls N.2.1 N.2.1 ∈ ee_tbl) ∧ (q.2.2.2.1 = 1 → Cond.static N.2.1 ∈ ee_tbl) ∧ (q.2.2.2.1 = 2 → Cond.instanceMethod N.2.1 ∈ ee_tbl ∧ N.2.1.name = "<init>" ∧ N.2.2.2.2.1 = none)
