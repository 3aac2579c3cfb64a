/-! how callees end; a return -/
theorem ee_find.ok {M : ee_me} {pc : Nat} {e : ee_en} (h : ee_find M pc = some e) : ∃ b ∈ M.2.2.2.2.2.1, e ∈ b.2 ∧ e.1 = pc := by
  unfold ee_find at h
  split at h
  · rename_i b hb
    have : Nat.beq e.1 pc = true := List.find?_some (p := fun e : ee_en => Nat.beq e.1 pc) h
    exact ⟨b, List.mem_of_find?_eq_some hb, List.mem_of_find?_eq_some h, Nat.eq_of_beq_eq_true this⟩
  · cases h
/-- how a callee ends -/
def ee_Q (outs : List ee_st) (D : va_G) (dA : Nat → ClassId) (ex : Nat → Nat) (x0 : List Int32) (a0 : List Nat) (sv0 : List Value) (A1 : Nat → Prop) : Array Value → State → Outcome → State → Prop := fun _ st oc t =>
  (∃ q ∈ outs, ∃ (ns : List Int32) (as : List Nat) (ws : va_W) (v : Option Value), oc = .returned v ∧ ee_all (ee_v ns as ex) q.2.2.1 v.toList ∧ ee_ok ns q.2.2.2.2.1 ∧ ((∃ r, ns = x0 ++ r) ∧ ∃ r, as = a0 ++ r) ∧ ee_all (ee_v ns as ex) q.2.2.2.2.2.2.2 sv0 ∧ ee_wr ns as ex dA q.2.2.2.1 ws ∧ va_P D vwCl ws t.heap ∧ va_D A1 ws) ∧ va_F A1 st t
def ee_Pc (D : va_G) (dA : Nat → ClassId) (ex : Nat → Nat) (av : List Value) (ws : va_W) (sz : Nat) : Array Value → State → Prop := va_Pc av (fun U => U.heap.size = sz ∧ va_P D vwCl ws U.heap ∧ va_K D vwCl (ee_tys dA) U ∧ va_D (fun _ => True) ws ∧ ee_Ext U (va_A ws sz) ex)
theorem ee_Ext.same {u U : State} {A : Nat → Prop} {ex : Nat → Nat} (hv : U.vm = u.vm) (hh : U.heap = u.heap) (h : ee_Ext u A ex) : ee_Ext U A ex := by
  obtain ⟨h1, h2, h3, h4⟩ := h
  have ha : u.vm.Alike U.vm := by rw [hv]; exact Vm.Alike.refl u.vm
  unfold ee_Ext
  rw [hh]
  exact ⟨h1.moved ha, fun i hi => (h2 i hi).same hv, h3.moved ha, h4.moved ha⟩
theorem ee_Ext.call {s U : State} {A B : Nat → Prop} {ex : Nat → Nat} {H : Heap} {lc : List Loc} (h : ee_Ext s A ex) (hS : va_S A s.heap H lc) (hH : U.heap = H) (hW : s.WarmedH U.vm) (hAB : ∀ q, B q → A q) : ee_Ext U B ex := by
  obtain ⟨h1, h2, h3, h4⟩ := h
  have ha := hW.alike
  unfold ee_Ext
  rw [hH]
  exact ⟨((h1.kept hS.2.1).narrow hAB).moved ha, fun i hi => (h2 i hi).warm hW, ((h3.kept hS.2.1).narrow hAB).moved ha, ((h4.kept hS.2.1).narrow hAB).moved ha⟩
theorem ee_Pc.blind {D : va_G} {dA : Nat → ClassId} {ex : Nat → Nat} {av : List Value} {ws : va_W} {sz : Nat} : FrameBlind (ee_Pc D dA ex av ws sz) := by
  intro a U g mk q
  obtain ⟨q0, q1, qP, qK, qD, qE⟩ := q
  exact ⟨q0, q1, qP, va_K.moved (u := U) (U := U.calling g mk a) (Vm.Alike.refl U.vm) qK, qD, ee_Ext.same (u := U) rfl rfl qE⟩
theorem ee_arg.ok {ns : List Int32} {as : List Nat} {ex : Nat → Nat} : ∀ {A av : List Value} (i : Nat), ee_all (ee_v ns as ex) A av → ee_all (ee_lr ns as ex) (ee_arg i A) (lv_args i av)
  | [], [], _, _ => trivial
  | x :: A, v :: av, i, h => by
    refine ⟨⟨rfl, h.1⟩, ?_⟩
    have e : (if v.category = 2 then i + 2 else i + 1) = i + ee_cat x := by
      have h1 := h.1.cat
      by_cases hc : v.category = 2
      · rw [if_pos hc, ← h1, hc]
      · rw [if_neg hc]
        have := lv_cat v
        omega
    show ee_all _ (ee_arg (i + ee_cat x) A) (lv_args (if v.category = 2 then i + 2 else i + 1) av)
    rw [e]
    exact ee_arg.ok (i + ee_cat x) h.2
  | [], _ :: _, _, h => h.elim
  | _ :: _, [], _, h => h.elim
theorem ee_sl_len : ∀ (av : List Value), (lg_sl av).length = (av.map fun v => v.category).sum
  | [] => rfl
  | v :: av => by
    unfold lg_sl
    rw [List.flatMap_cons, List.length_append, List.map_cons, List.sum_cons]
    have ih := ee_sl_len av
    unfold lg_sl at ih
    rw [ih]
    have := lv_cat v
    by_cases hc : v.category = 2
    · rw [if_pos hc, hc]; rfl
    · rw [if_neg hc]
      have : v.category = 1 := by omega
      rw [this]; rfl
theorem ee_cA_sum {ns : List Int32} {as : List Nat} {ex : Nat → Nat} {A av : List Value} (h : ee_all (ee_v ns as ex) A av) : (lg_sl av).length = (A.map ee_cat).sum := by
  rw [ee_sl_len, ee_cats h]
theorem ee_rok.ok {ret : Option FieldType} {e : ee_en} {stk : List Value} {iv : ee_iv} (h : ee_rok ret e stk iv = true) : e.2.2.1 = 1 ∧ ((ret = none ∧ e.2.1 = .return_ ∧ stk = []) ∨ (∃ (x : Value) (ty : FieldType), ret = some ty ∧ e.2.1 = .ireturn ∧ stk = [x] ∧ ∃ a b : Int, ee_it iv x = some (a, b) ∧ ∀ z : Int32, a ≤ z.toInt → z.toInt ≤ b → narrow ty (.int z) = .int z) ∨ (∃ x : Value, ret = some .long ∧ e.2.1 = .lreturn ∧ stk = [x] ∧ ee_isl x = true)) := by
  have bnd : ∀ {x : Value} {p q : Int}, (match ee_it iv x with
    | some (a, b) => decide (p ≤ a) && decide (b ≤ q)
    | none => false) = true → ∃ a b : Int, ee_it iv x = some (a, b) ∧ p ≤ a ∧ b ≤ q := by
    intro x p q hb
    cases hq : ee_it iv x with
    | none => rw [hq] at hb; cases hb
    | some r =>
      obtain ⟨a, b⟩ := r
      rw [hq] at hb
      obtain ⟨e1, e2⟩ := ee_and hb
      exact ⟨a, b, rfl, of_decide_eq_true e1, of_decide_eq_true e2⟩
  unfold ee_rok at h
  split at h
  · rename_i o2
    exact ⟨of_decide_eq_true h, Or.inl ⟨rfl, o2, rfl⟩⟩
  · rename_i x o2
    obtain ⟨hl, hi⟩ := ee_and h
    obtain ⟨q, hq⟩ := Option.isSome_iff_exists.mp hi
    obtain ⟨a, b⟩ := q
    exact ⟨of_decide_eq_true hl, Or.inr (Or.inl ⟨x, .int, rfl, o2, rfl, a, b, hq, fun z _ _ => rfl⟩)⟩
  · rename_i x o2
    obtain ⟨hl, hi⟩ := ee_and h
    obtain ⟨a, b, hq, h1, h2⟩ := bnd hi
    refine ⟨of_decide_eq_true hl, Or.inr (Or.inl ⟨x, .boolean, rfl, o2, rfl, a, b, hq, fun z z1 z2 => ?_⟩)⟩
    rcases ee_01 (z := z) (by omega) (by omega) with rfl | rfl <;> decide
  · rename_i x o2
    obtain ⟨hl, hi⟩ := ee_and h
    obtain ⟨a, b, hq, h1, h2⟩ := bnd hi
    refine ⟨of_decide_eq_true hl, Or.inr (Or.inl ⟨x, .char, rfl, o2, rfl, a, b, hq, fun z z1 z2 => ?_⟩)⟩
    obtain ⟨j, hj, rfl⟩ := nI_of2 (x := z) (M := 65535) (n := 65535) (by decide) (fun q => by
      have := Int32.lt_iff_toInt_lt.mp q
      rw [Int32.toInt_zero] at this
      omega) (Int32.le_iff_toInt_le.mpr (by rw [show (65535 : Int32).toInt = 65535 by decide]; omega))
    exact (pk_charN (by omega)).1
  · rename_i x o2
    obtain ⟨hl, hi⟩ := ee_and h
    obtain ⟨a, b, hq, h1, h2⟩ := bnd hi
    refine ⟨of_decide_eq_true hl, Or.inr (Or.inl ⟨x, .byte, rfl, o2, rfl, a, b, hq, fun z z1 z2 => ?_⟩)⟩
    have := ee_byte (x := z) (by omega) (by omega)
    rw [vp_nar_byte] at this
    show Value.int z.toInt8.toInt32 = Value.int z
    rw [this]
  · rename_i x o2
    obtain ⟨hl, hi⟩ := ee_and h
    exact ⟨of_decide_eq_true hl, Or.inr (Or.inr ⟨x, rfl, o2, rfl, hi⟩)⟩
  · cases h
/-- a return, with what the callee owes -/
theorem ee_retG {p : Program} {l : Launch} {en : Env} {R : Room} {s : State} {m : MethodId} {args : Array Value} {below : List Frame} {meth : Method} {c : Code} {A : Nat → Prop} {D : va_G} {dA : Nat → ClassId} {ex : Nat → Nat} {x0 : List Int32} {a0 : List Nat} {sv0 : List Value} {nL : Nat} {N : ee_me} {outs : List ee_st} {q : ee_st} (hx : p.tables.exec = Jvm.exec) (hb : c.code = N.2.2.1) (hr : meth.sig.returnType = N.2.2.2.2.1) (hlocks : meth.locks = false) (hN : ∀ b ∈ N.2.2.2.2.2.1, ∀ e ∈ b.2, decode N.2.2.1 e.1 = .ok (e.2.1, e.2.2.1)) (hq : q ∈ outs) (he : ee_end N q = true) :
    ee_G (p, l, en, R, s, m, args, below, meth, c) (A, D, dA, ex, x0, a0, sv0, nL) (MQ below (ee_Q outs D dA ex x0 a0 sv0 A) args s N.2.2.2.2.2.2.1 N.2.2.2.2.2.2.2 A) q := by
  unfold ee_end at he
  cases hf : ee_find N q.1 with
  | none => rw [hf] at he; cases he
  | some e =>
    rw [hf] at he
    simp only at he
    obtain ⟨h1, h2⟩ := ee_and he
    obtain ⟨h2, h3⟩ := ee_and h2
    have h2 := of_decide_eq_true h2
    have h3 := of_decide_eq_true h3
    obtain ⟨b, g0, g1, g2⟩ := ee_find.ok hf
    have hd := hN b g0 e g1
    rw [g2] at hd
    obtain ⟨pc, lo, stk, w, iv, kc, ks, sv⟩ := q
    intro ns as H lc ls vs C
    obtain ⟨c1, c2, c3, c4, c5, ws, c6w, hP, hD, hS⟩ := C
    show W p l en R s m args below meth c H lc kc ks _ (F0 m pc ls vs)
    refine W.widen h2 h3 ?_
    have hd : decode N.2.2.1 pc = .ok (e.2.1, e.2.2.1) := hd
    have fin : ∀ v : Option Value, ee_all (ee_v ns as ex) stk v.toList → ∀ t : State, t.heap = H → s.WarmedH t.vm → ee_Q outs D dA ex x0 a0 sv0 A args s (.returned v) t := fun v hv t ht _ =>
      ⟨⟨_, hq, ns, as, ws, v, rfl, hv, c1, c2, c5, c6w, by rw [ht]; exact hP, hD⟩, hS.F ht⟩
    have h1 : ee_rok N.2.2.2.2.1 e stk iv = true := h1
    obtain ⟨hlen, hcase⟩ := ee_rok.ok h1
    rcases hcase with ⟨o1, o2, o3⟩ | ⟨x, ty, o1, o2, o3, a, b, hq1, hnar⟩ | ⟨x, o1, o2, o3, hi⟩
    · rw [o2, hlen] at hd
      rw [o3] at c4 fin
      cases vs with
      | cons v vs => exact c4.elim
      | nil => exact W.vret hx hb (hr.trans o1) (fin none trivial) hS.2.2 hd hlocks
    · rw [o2, hlen] at hd
      rw [o3] at c4 fin
      obtain ⟨v, vs1, rfl, cv, c4a⟩ := c4.cons
      cases vs1 with
      | cons v vs => exact c4a.elim
      | nil =>
        obtain ⟨z, rfl, z1, z2⟩ := ee_it.int c1 cv hq1
        exact W.zret hx hb (hr.trans o1) (hnar z z1 z2) (fin (some (.int z)) ⟨cv, trivial⟩) hS.2.2 hd hlocks
    · rw [o2, hlen] at hd
      rw [o3] at c4 fin
      obtain ⟨v, vs1, rfl, cv, c4a⟩ := c4.cons
      cases vs1 with
      | cons v vs => exact c4a.elim
      | nil =>
        obtain ⟨z, rfl⟩ := ee_isl.ok cv hi
        exact W.lret hx hb (hr.trans o1) (fin (some (.long z)) ⟨cv, trivial⟩) hS.2.2 hd hlocks
