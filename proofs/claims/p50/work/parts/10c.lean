/-! a contract whose start names one long -/
theorem ee_all.impm {α β : Type} {R S : α → β → Prop} : ∀ {l : List α} {k : List β}, (∀ a ∈ l, ∀ b, R a b → S a b) → ee_all R l k → ee_all S l k
  | [], [], _, _ => trivial
  | a :: l, b :: k, h, q => ⟨h a List.mem_cons_self b q.1, ee_all.impm (fun x hx => h x (List.mem_cons_of_mem _ hx)) q.2⟩
  | [], _ :: _, _, q => q.elim
  | _ :: _, [], _, q => q.elim
theorem ee_all.setl {α β : Type} {R : α → β → Prop} {a : α} {b : β} (hab : R a b) : ∀ {l : List α} {k : List β} {i : Nat}, ee_all R l k → k[i]? = some b → ee_all R (l.set i a) k
  | [], [], _, _, _ => trivial
  | x :: l, y :: k, 0, q, h => by
    rw [List.getElem?_cons_zero] at h
    cases h
    exact ⟨hab, q.2⟩
  | x :: l, y :: k, i + 1, q, h => by
    rw [List.getElem?_cons_succ] at h
    exact ⟨q.1, ee_all.setl hab q.2 h⟩
  | [], _ :: _, _, q, _ => q.elim
  | _ :: _, [], _, q, _ => q.elim
/-- says nothing of a named long -/
def ee_nd (x : Value) : Bool := match x with
  | .double k => decide (k = 0)
  | .ref k => decide (k ≠ 3000001)
  | _ => true
def ee_ndc (x : ee_cell) : Bool := match x with
  | .inl q => q.2.all ee_nd
  | .inr q => q.2.2.2.2.all (fun z => ee_nd z.2)
def ee_exz (ex : Nat → Nat) (z : Int64) : Nat → Nat := fun n => if n = 3000001 then z.toBitVec.toNat else ex n
theorem ee_nd.ok {ns : List Int32} {as : List Nat} {ex : Nat → Nat} {z : Int64} {x v : Value} (h : ee_nd x = true) : ee_v ns as ex x v ↔ ee_v ns as (ee_exz ex z) x v := by
  cases x with
  | ref k =>
    have hn : k ≠ 3000001 := of_decide_eq_true h
    have e : ee_exz ex z k = ex k := if_neg hn
    unfold ee_v
    by_cases hk : k < 1000000
    · simp only [hk, if_true]
    · simp only [hk, if_false, e]
  | double k =>
    have hn : k = 0 := of_decide_eq_true h
    unfold ee_v
    simp only [hn, if_true]
  | int c => exact Iff.rfl
  | retAddr c => exact Iff.rfl
  | null => exact Iff.rfl
  | long c => exact Iff.rfl
  | float c => exact Iff.rfl
theorem ee_ndc.ok {ns : List Int32} {as : List Nat} {ex ex2 : Nat → Nat} {dA : Nat → ClassId} {x : ee_cell} {e : va_E} (R : ∀ (x v : Value), ee_nd x = true → ee_v ns as ex x v → ee_v ns as ex2 x v) (Z : ∀ i j, ee_fz ex i j = ee_fz ex2 i j) (h : ee_ndc x = true) (hc : ee_c ns as ex dA x e) : ee_c ns as ex2 dA x e := by
  match x, h, hc with
  | .inl (ci, fs), h, ⟨vs, h1, h2⟩ => exact ⟨vs, h1, h2.impm (fun x hx v q => R x v (List.all_eq_true.mp h x hx) q)⟩
  | .inr (t, n, P, sg, ov), h, hc =>
    have h : ∀ q ∈ ov, ee_nd q.2 = true := List.all_eq_true.mp h
    unfold ee_c at hc ⊢
    simp only at hc ⊢
    by_cases h3 : t = 3
    · rw [if_pos h3] at hc ⊢; exact hc
    · rw [if_neg h3] at hc ⊢
      by_cases h4 : t = 4
      · rw [if_pos h4] at hc ⊢
        obtain ⟨f, h1, h2⟩ := hc
        refine ⟨f, h1, ?_⟩
        unfold ee_rq at h2 ⊢
        split at h2
        · obtain ⟨y1, y2, x0, c0, d0, x1, c1, d1, g0, g1, ⟨g2, g3, g4⟩, ⟨g5, g6, g7⟩, g8⟩ := h2
          exact ⟨y1, y2, x0, c0, d0, x1, c1, d1, R _ _ (h _ List.mem_cons_self) g0, R _ _ (h _ (List.mem_cons_of_mem _ List.mem_cons_self)) g1, ⟨R _ _ (h _ (List.mem_cons_of_mem _ (List.mem_cons_of_mem _ List.mem_cons_self))) g2, R _ _ (h _ (List.mem_cons_of_mem _ (List.mem_cons_of_mem _ (List.mem_cons_of_mem _ List.mem_cons_self)))) g3, R _ _ (h _ (List.mem_cons_of_mem _ (List.mem_cons_of_mem _ (List.mem_cons_of_mem _ (List.mem_cons_of_mem _ List.mem_cons_self))))) g4⟩, ⟨R _ _ (h _ (List.mem_cons_of_mem _ (List.mem_cons_of_mem _ (List.mem_cons_of_mem _ (List.mem_cons_of_mem _ (List.mem_cons_of_mem _ List.mem_cons_self)))))) g5, R _ _ (h _ (List.mem_cons_of_mem _ (List.mem_cons_of_mem _ (List.mem_cons_of_mem _ (List.mem_cons_of_mem _ (List.mem_cons_of_mem _ (List.mem_cons_of_mem _ List.mem_cons_self))))))) g6, R _ _ (h _ (List.mem_cons_of_mem _ (List.mem_cons_of_mem _ (List.mem_cons_of_mem _ (List.mem_cons_of_mem _ (List.mem_cons_of_mem _ (List.mem_cons_of_mem _ (List.mem_cons_of_mem _ List.mem_cons_self)))))))) g7⟩, g8⟩
        · intro j hj
          rw [← Z]
          exact h2 j hj
        · obtain ⟨z, y, g0, g1, g2, g3, g4⟩ := h2
          refine ⟨z, y, R _ _ (h _ (List.mem_cons_of_mem _ (List.mem_cons_of_mem _ List.mem_cons_self))) g0, R _ _ (h _ (List.mem_cons_of_mem _ (List.mem_cons_of_mem _ (List.mem_cons_of_mem _ List.mem_cons_self)))) g1, g2, g3, fun j hj hne => ?_⟩
          rw [← Z]
          exact g4 j hj hne
        · trivial
      · rw [if_neg h4] at hc ⊢
        obtain ⟨h0, f, h1, h2⟩ := hc
        refine ⟨h0, f, h1, fun j hj => ?_⟩
        have h5 := h2 j hj
        unfold ee_el at h5 ⊢
        cases hl : ov.lookup j with
        | none => rw [hl] at h5; exact h5
        | some y => rw [hl] at h5; exact R _ _ (h (j, y) (ee_mem_lookup hl)) h5
theorem ee_exz.fz {ex : Nat → Nat} {z : Int64} (i j : Nat) : ee_fz ex i j = ee_fz (ee_exz ex z) i j := by
  have e : ee_exz ex z (5000000 + 2000 * i + j) = ex (5000000 + 2000 * i + j) := if_neg (Nat.ne_of_gt (Nat.lt_of_lt_of_le (by decide : 3000001 < 5000000) (Nat.le_trans (Nat.le_add_right _ _) (Nat.le_add_right _ _))))
  unfold ee_fz
  rw [e]
theorem ee_exz.out {ex : Nat → Nat} {z : Int64} {s : State} {A : Nat → Prop} (h : ee_Ext s A ex) : ee_Ext s A (ee_exz ex z) := by
  have E1 : ∀ i, i < 2 → ee_exz ex z (1000000 + i) = ex (1000000 + i) := fun i hi => match i, hi with
    | 0, _ => if_neg (by decide)
    | 1, _ => if_neg (by decide)
    | n + 2, h => absurd h (by omega)
  have E2 : ∀ i, i < 2 → ee_exz ex z (1000100 + i) = ex (1000100 + i) := fun i hi => match i, hi with
    | 0, _ => if_neg (by decide)
    | 1, _ => if_neg (by decide)
    | n + 2, h => absurd h (by omega)
  obtain ⟨h1, h2, h3, h4⟩ := h
  refine ⟨⟨fun i hi => ?_, fun i j hi hj q => ?_⟩, fun i hi => ?_, h3, h4⟩
  · simp only [E1 i hi, E2 i hi]
    exact h1.1 i hi
  · simp only [E1 i hi, E1 j hj] at q
    exact h1.2 i j hi hj q
  · rw [E1 i hi]
    exact h2 i hi
theorem ee_lift {mt : Nat → Option ee_me} {y d ci k : Nat} {A0 fs : List Value} {r : ee_w} {iv : ee_iv} {ps : List (List Value × ee_w × ee_iv)} (hf : fs[k]? = some (.double 0)) (hn : A0.all ee_nd = true ∧ fs.all ee_nd = true ∧ r.all ee_ndc = true ∧ ps.all (fun p => p.1.all ee_nd && p.2.1.all ee_ndc) = true)
    (h : ee_Ct mt (y, A0, .inl (ci, fs.set k (.double 1)) :: r, iv, ps, d)) : ee_Ct mt (y, A0, .inl (ci, fs) :: r, iv, ps, d) := by
  obtain ⟨nA, nf, nr, np⟩ := hn
  have nA := List.all_eq_true.mp nA
  have nf := List.all_eq_true.mp nf
  have nr := List.all_eq_true.mp nr
  have np := List.all_eq_true.mp np
  intro N hN l D dA ex ns as ws sz av h1 h3 h5
  obtain ⟨ha, h6⟩ := h5
  have h6 : ee_all (fun x q => ee_c ns as ex dA x q.2) (.inl (ci, fs) :: r) ws := h6
  match ws, ha, h6 with
  | (a, e) :: ws', ha, h6 =>
    obtain ⟨⟨vs, e1, e2⟩, h7⟩ := h6
    obtain ⟨v, g1, g2⟩ := ee_all.get e2 hf
    obtain ⟨z, rfl⟩ := ee_v.dbl g2
    have U : ∀ (ns : List Int32) (as : List Nat) (x v : Value), ee_nd x = true → ee_v ns as ex x v → ee_v ns as (ee_exz ex z) x v := fun ns as x v q => (ee_nd.ok q).mp
    have W : ∀ (ns : List Int32) (as : List Nat) (x v : Value), ee_nd x = true → ee_v ns as (ee_exz ex z) x v → ee_v ns as ex x v := fun ns as x v q => (ee_nd.ok q).mpr
    have hz : ee_v ns as (ee_exz ex z) (.double 1) (.long z) := by
      show (if (1 : UInt64) = 0 then ∃ y, Value.long z = Value.long y else Value.long z = Value.long (Int64.ofNat (ee_exz ex z (3000000 + (1 : UInt64).toNat))))
      rw [if_neg (by decide : ¬ (1 : UInt64) = 0)]
      show Value.long z = Value.long (Int64.ofNat (ee_exz ex z 3000001))
      rw [show ee_exz ex z 3000001 = z.toBitVec.toNat from if_pos rfl, Int64.ofNat_bitVecToNat]
      rfl
    have key := h N hN l D dA (ee_exz ex z) ns as ((a, e) :: ws') sz av h1 (h3.impm (fun x hx v q => U _ _ _ _ (nA x hx) q)) ⟨ha, ⟨vs, e1, ee_all.setl hz (e2.impm (fun x hx v q => U _ _ _ _ (nf x hx) q)) g1⟩, h7.impm (fun x hx q c => ee_ndc.ok (U ns as) ee_exz.fz (nr x hx) c)⟩
    intro p0 en hadm hc hk s m args below hfr happ hP hK
    obtain ⟨n, o, q1, q2, q3, q4⟩ := key p0 en hadm hc hk s m args below hfr happ (by
      obtain ⟨u0, u1, u2, u3, u4, u5⟩ := hP
      exact ⟨u0, u1, u2, u3, u4, ee_exz.out u5⟩) hK
    refine ⟨n, o, q1, q2, q3, ?_⟩
    obtain ⟨⟨⟨p, hp, r2, ws2, v2, t1, t2, t3, t4, t5, t6⟩, t7⟩, t8⟩ := q4
    obtain ⟨k1, k2⟩ := ee_and (np p hp)
    have k1 := List.all_eq_true.mp k1
    have k2 := List.all_eq_true.mp k2
    exact ⟨⟨⟨p, hp, r2, ws2, v2, t1, t2.impm (fun x hx v q => W _ _ _ _ (k1 x hx) q), t3, ⟨t4.1, t4.2.impm (fun x hx q c => ee_ndc.ok (W _ _) (fun i j => (ee_exz.fz i j).symm) (k2 x hx) c)⟩, t5, t6⟩, t7⟩, t8⟩
