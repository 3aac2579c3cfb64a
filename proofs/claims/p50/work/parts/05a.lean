/-! handlers: loads, stores, numbers -/
theorem ee_own_ow {oc : Nat} {own : String} (h : ee_own[oc]? = some own) : ee_ow oc = own := by
  unfold ee_ow
  rw [List.getD_eq_getElem?_getD, h]; rfl
theorem ee_and {a b : Bool} (h : (a && b) = true) : a = true ∧ b = true := Bool.and_eq_true_iff.mp h
/-- an int out of the locals -/
def ee_ld (iv : ee_iv) (lo : List (Nat × Value)) (i : Nat) : Option Value := match lo.lookup i with
  | some x => (match ee_it iv x with
    | some _ => some x
    | none => none)
  | none => none
theorem ee_ld.ok {ns : List Int32} {as : List Nat} {ex : Nat → Nat} {iv : ee_iv} {lo lv : List (Nat × Value)} {ls : Array Slot} {nL i : Nat} {x : Value} (hk : ee_ok ns iv) (hl : lv_has ls nL lv) (ha : ee_all (ee_lr ns as ex) lo lv) (h : ee_ld iv lo i = some x) : ∃ z : Int32, (i, Value.int z) ∈ lv ∧ ls[i]? = some (.val (.int z)) ∧ ee_v ns as ex x (.int z) := by
  unfold ee_ld at h
  cases h1 : lo.lookup i with
  | none => rw [h1] at h; cases h
  | some y =>
    rw [h1] at h
    simp only at h
    cases h2 : ee_it iv y with
    | none => rw [h2] at h; cases h
    | some q =>
      rw [h2] at h
      cases h
      obtain ⟨v, g1, g2⟩ := ee_look ha h1
      obtain ⟨z, rfl, -, -⟩ := ee_it.int hk g2 h2
      exact ⟨z, g1, hl.2.2 _ g1, g2⟩
def ee_la (lo : List (Nat × Value)) (i : Nat) : Option Nat := match lo.lookup i with
  | some (.ref k) => some k
  | _ => none
theorem ee_v.ref {ns : List Int32} {as : List Nat} {ex : Nat → Nat} {k : Nat} {v : Value} (h : ee_v ns as ex (.ref k) v) : ∃ a, v = .ref a := by
  unfold ee_v at h
  by_cases hk : k < 1000000
  · simp only [hk, if_true] at h
    obtain ⟨a, -, h⟩ := h
    exact ⟨a, h⟩
  · simp only [hk, if_false] at h
    exact ⟨_, h⟩
theorem ee_la.ok {ns : List Int32} {as : List Nat} {ex : Nat → Nat} {lo lv : List (Nat × Value)} {ls : Array Slot} {nL i k : Nat} (hl : lv_has ls nL lv) (ha : ee_all (ee_lr ns as ex) lo lv) (h : ee_la lo i = some k) : ∃ a, ls[i]? = some (.val (.ref a)) ∧ ee_v ns as ex (.ref k) (.ref a) := by
  unfold ee_la at h
  split at h
  · rename_i j h1
    cases h
    obtain ⟨v, g1, g2⟩ := ee_look ha h1
    obtain ⟨a, rfl⟩ := ee_v.ref g2
    exact ⟨a, hl.2.2 _ g1, g2⟩
  · cases h
/-- a long, whatever is known of it -/
def ee_isl (x : Value) : Bool := match x with
  | .long _ => true
  | .double _ => true
  | _ => false
theorem ee_isl.ok {ns : List Int32} {as : List Nat} {ex : Nat → Nat} {x v : Value} (h : ee_v ns as ex x v) (hl : ee_isl x = true) : ∃ z, v = .long z := by
  cases x with
  | long q => exact ⟨q, h⟩
  | double q => exact h.dbl
  | _ => cases hl
def ee_ll (lo : List (Nat × Value)) (i : Nat) : Option Value := match lo.lookup i with
  | some x => if ee_isl x = true then some x else none
  | none => none
theorem ee_ll.ok {ns : List Int32} {as : List Nat} {ex : Nat → Nat} {lo lv : List (Nat × Value)} {ls : Array Slot} {nL i : Nat} {x : Value} (hl : lv_has ls nL lv) (ha : ee_all (ee_lr ns as ex) lo lv) (h : ee_ll lo i = some x) : ∃ z, ls[i]? = some (.val (.long z)) ∧ ee_v ns as ex x (.long z) := by
  unfold ee_ll at h
  cases h1 : lo.lookup i with
  | none => rw [h1] at h; cases h
  | some y =>
    rw [h1] at h
    simp only at h
    by_cases hc : ee_isl y = true
    · rw [if_pos hc] at h
      cases h
      obtain ⟨v, g1, g2⟩ := ee_look ha h1
      obtain ⟨z, rfl⟩ := ee_isl.ok g2 hc
      exact ⟨z, hl.2.2 _ g1, g2⟩
    · rw [if_neg hc] at h
      cases h
theorem ee_v.outs {ns : List Int32} {as : List Nat} {ex : Nat → Nat} {k : Nat} (hk : ¬ k < 1000000) : ee_v ns as ex (.ref k) (.ref (ex k)) := by
  show (if k < 1000000 then ∃ a, as[k]? = some a ∧ Value.ref (ex k) = Value.ref a else Value.ref (ex k) = Value.ref (ex k))
  rw [if_neg hk]
theorem ee_v.inw {ns : List Int32} {as : List Nat} {ex : Nat → Nat} {k a : Nat} (hk : k < 1000000) (h : as[k]? = some a) : ee_v ns as ex (.ref k) (.ref a) := by
  show (if k < 1000000 then ∃ b, as[k]? = some b ∧ Value.ref a = Value.ref b else Value.ref a = Value.ref (ex k))
  rw [if_pos hk]
  exact ⟨a, h, rfl⟩
def ee_isr (x : Value) : Bool := match x with
  | .ref _ => true
  | _ => false
theorem ee_isr.ok {ns : List Int32} {as : List Nat} {ex : Nat → Nat} {x v : Value} (h : ee_v ns as ex x v) (hl : ee_isr x = true) : ∃ a, v = .ref a := by
  cases x with
  | ref k => exact h.ref
  | _ => cases hl
def ee_h1 : ee_H := fun _ _ _ e st => match st with
  | (pc, lo, stk, w, iv, kc, ks, sv) => match e.2.1 with
    | .ldc _ => if e.2.2.2.2.2.1 = 0 then ee_nx e.2.2.1 2 [(pc + 2, lo, .int (Int32.ofInt e.2.2.2.2.2.2.1) :: stk, w, iv, kc, ks, sv)] else if e.2.2.2.2.2.1 = 1 then ee_nx e.2.2.1 2 [(pc + 2, lo, .ref (1000000 + e.2.2.2.2.1) :: stk, w, iv, kc, ks, sv)] else none
    | .ldc_w _ => if e.2.2.2.2.2.1 = 0 then ee_nx e.2.2.1 3 [(pc + 3, lo, .int (Int32.ofInt e.2.2.2.2.2.2.1) :: stk, w, iv, kc, ks, sv)] else none
    | .ldc2_w _ => ee_nx e.2.2.1 3 [(pc + 3, lo, .long (Int64.ofInt e.2.2.2.2.2.2.1) :: stk, w, iv, kc, ks, sv)]
    | _ => none
set_option maxHeartbeats 2000000 in
theorem ee_h1.snd : ee_Snd ee_h1 := by
  intro X Y oc own cc ini dm bc bs Q e st sts F ho hi hd he hpc h k
  obtain ⟨p, l, en, R, s, m, args, below, meth, c⟩ := X
  obtain ⟨A, D, dA, ex, x0, a0, sv0, nL⟩ := Y
  obtain ⟨pc, lo, stk, w, iv, kc, ks, sv⟩ := st
  obtain ⟨pc', ins, len, hn, ea, eb, ez, qa, qb, qc⟩ := e
  obtain ⟨hx, hb, hml, hown, hts, hK, hA, hini, hR, hE⟩ := F
  have hpc : pc = pc' := hpc
  subst hpc
  have hd : decode cc pc = .ok (ins, len) := hd
  intro ns as H lc ls vs C
  obtain ⟨c1, c2, c3, c4, c5, c6⟩ := C
  show W p l en R s m args below meth c H lc kc ks Q (F0 m pc ls vs)
  cases ins with
  | ldc i =>
    replace h : (if eb = 0 then ee_nx len 2 [(pc + 2, lo, Value.int (Int32.ofInt ez) :: stk, w, iv, kc, ks, sv)] else if eb = 1 then ee_nx len 2 [(pc + 2, lo, Value.ref (1000000 + ea) :: stk, w, iv, kc, ks, sv)] else none) = some sts := h
    have hee : (if eb = 0 then (match ee_KL[ea]? with
      | some q => decide (q.1 = oc) && (decide (q.2.1 = i) && decide (q.2.2.1 = ez))
      | none => false) else if eb = 1 then decide (oc = 5) && (decide (ea < 2) && decide (ee_six.getD ea 0 = i)) else true) = true := he
    by_cases h0 : eb = 0
    · rw [if_pos h0] at h hee
      obtain ⟨rfl, rfl⟩ := ee_nx_some h
      cases hq : ee_KL[ea]? with
      | none => rw [hq] at hee; cases hee
      | some q =>
        rw [hq] at hee
        obtain ⟨e1, e2⟩ := ee_and hee
        obtain ⟨e2, e3⟩ := ee_and e2
        have e1 := of_decide_eq_true e1
        have e2 := of_decide_eq_true e2
        have e3 := of_decide_eq_true e3
        have hm := ee_KLok q (List.mem_of_getElem? hq)
        rw [e1, ee_own_ow ho, e2, e3] at hm
        exact lv_ldc hx hb hown (hts _ hm) hd (k _ List.mem_cons_self ns as H lc ls _ ⟨c1, c2, c3, ⟨rfl, c4⟩, c5, c6⟩)
    · rw [if_neg h0] at h hee
      by_cases h1 : eb = 1
      · rw [if_pos h1] at h hee
        obtain ⟨rfl, rfl⟩ := ee_nx_some h
        obtain ⟨e1, e2⟩ := ee_and hee
        obtain ⟨e2, e3⟩ := ee_and e2
        have e1 := of_decide_eq_true e1
        have e2 := of_decide_eq_true e2
        have e3 := of_decide_eq_true e3
        have hR5 : own = RX5 := by
          rw [e1] at ho
          exact (Option.some.inj (ho.symm.trans rfl))
        have hz := hE.2.1 ea e2
        rw [e3, ← hR5] at hz
        exact va_ldcS hx hb hown hz hd (k _ List.mem_cons_self ns as H lc ls _ ⟨c1, c2, c3, ⟨ee_v.outs (by omega), c4⟩, c5, c6⟩)
      · rw [if_neg h1] at h
        exact ee_no h
  | ldc_w i =>
    replace h : (if eb = 0 then ee_nx len 3 [(pc + 3, lo, Value.int (Int32.ofInt ez) :: stk, w, iv, kc, ks, sv)] else none) = some sts := h
    have hee : (if eb = 0 then (match ee_KL[ea]? with
      | some q => decide (q.1 = oc) && (decide (q.2.1 = i) && decide (q.2.2.1 = ez))
      | none => false) else true) = true := he
    by_cases h0 : eb = 0
    · rw [if_pos h0] at h hee
      obtain ⟨rfl, rfl⟩ := ee_nx_some h
      cases hq : ee_KL[ea]? with
      | none => rw [hq] at hee; cases hee
      | some q =>
        rw [hq] at hee
        obtain ⟨e1, e2⟩ := ee_and hee
        obtain ⟨e2, e3⟩ := ee_and e2
        have e1 := of_decide_eq_true e1
        have e2 := of_decide_eq_true e2
        have e3 := of_decide_eq_true e3
        have hm := ee_KLok q (List.mem_of_getElem? hq)
        rw [e1, ee_own_ow ho, e2, e3] at hm
        exact lv_ldcw hx hb hown (hts _ hm) hd (k _ List.mem_cons_self ns as H lc ls _ ⟨c1, c2, c3, ⟨rfl, c4⟩, c5, c6⟩)
    · rw [if_neg h0] at h
      exact ee_no h
  | ldc2_w i =>
    replace h : ee_nx len 3 [(pc + 3, lo, Value.long (Int64.ofInt ez) :: stk, w, iv, kc, ks, sv)] = some sts := h
    have hee : (match ee_LL[ea]? with
      | some q => decide (q.1 = oc) && (decide (q.2.1 = i) && decide (q.2.2.1 = Int64.ofInt ez))
      | none => false) = true := he
    obtain ⟨rfl, rfl⟩ := ee_nx_some h
    cases hq : ee_LL[ea]? with
    | none => rw [hq] at hee; cases hee
    | some q =>
      rw [hq] at hee
      obtain ⟨e1, e2⟩ := ee_and hee
      obtain ⟨e2, e3⟩ := ee_and e2
      have e1 := of_decide_eq_true e1
      have e2 := of_decide_eq_true e2
      have e3 := of_decide_eq_true e3
      have hm := ee_LLok q (List.mem_of_getElem? hq)
      rw [e1, ee_own_ow ho, e2, e3] at hm
      exact lv_ldc2 hx hb hown (hts _ hm) hd (k _ List.mem_cons_self ns as H lc ls _ ⟨c1, c2, c3, ⟨rfl, c4⟩, c5, c6⟩)
  | _ => exact ee_no h
def ee_h2 : ee_H := fun _ _ _ e st => match st with
  | (pc, lo, stk, w, iv, kc, ks, sv) => match e.2.1 with
    | .iload i => (match ee_ld iv lo i with
      | some x => ee_nx e.2.2.1 2 [(pc + 2, lo, x :: stk, w, iv, kc, ks, sv)]
      | none => none)
    | .iload_n i => (match ee_ld iv lo i.val with
      | some x => ee_nx e.2.2.1 1 [(pc + 1, lo, x :: stk, w, iv, kc, ks, sv)]
      | none => none)
    | _ => none
set_option maxHeartbeats 2000000 in
theorem ee_h2.snd : ee_Snd ee_h2 := by
  intro X Y oc own cc ini dm bc bs Q e st sts F ho hi hd he hpc h k
  obtain ⟨p, l, en, R, s, m, args, below, meth, c⟩ := X
  obtain ⟨A, D, dA, ex, x0, a0, sv0, nL⟩ := Y
  obtain ⟨pc, lo, stk, w, iv, kc, ks, sv⟩ := st
  obtain ⟨pc', ins, len, hn, ea, eb, ez, qa, qb, qc⟩ := e
  obtain ⟨hx, hb, hml, hown, hts, hK, hA, hini, hR, hE⟩ := F
  have hpc : pc = pc' := hpc
  subst hpc
  have hd : decode cc pc = .ok (ins, len) := hd
  intro ns as H lc ls vs C
  obtain ⟨c1, c2, c3, c4, c5, c6⟩ := C
  show W p l en R s m args below meth c H lc kc ks Q (F0 m pc ls vs)
  obtain ⟨lv, c3, c3l⟩ := c3
  cases ins with
  | iload i =>
    replace h : (match ee_ld iv lo i with
      | some x => ee_nx len 2 [(pc + 2, lo, x :: stk, w, iv, kc, ks, sv)]
      | none => none) = some sts := h
    cases hq : ee_ld iv lo i with
    | none => rw [hq] at h; exact ee_no h
    | some x =>
      rw [hq] at h
      obtain ⟨rfl, rfl⟩ := ee_nx_some h
      obtain ⟨z, -, g1, g2⟩ := ee_ld.ok c1 c3 c3l hq
      exact lv_iload hx hb hd g1 (k _ List.mem_cons_self ns as H lc ls _ ⟨c1, c2, ⟨lv, c3, c3l⟩, ⟨g2, c4⟩, c5, c6⟩)
  | iload_n i =>
    replace h : (match ee_ld iv lo i.val with
      | some x => ee_nx len 1 [(pc + 1, lo, x :: stk, w, iv, kc, ks, sv)]
      | none => none) = some sts := h
    cases hq : ee_ld iv lo i.val with
    | none => rw [hq] at h; exact ee_no h
    | some x =>
      rw [hq] at h
      obtain ⟨rfl, rfl⟩ := ee_nx_some h
      obtain ⟨z, -, g1, g2⟩ := ee_ld.ok c1 c3 c3l hq
      exact lv_iload_n hx hb hd rfl g1 (k _ List.mem_cons_self ns as H lc ls _ ⟨c1, c2, ⟨lv, c3, c3l⟩, ⟨g2, c4⟩, c5, c6⟩)
  | _ => exact ee_no h
def ee_h3 : ee_H := fun _ _ _ e st => match st with
  | (pc, lo, stk, w, iv, kc, ks, sv) => match e.2.1 with
    | .aload i => (match ee_la lo i with
      | some x => ee_nx e.2.2.1 2 [(pc + 2, lo, .ref x :: stk, w, iv, kc, ks, sv)]
      | none => none)
    | .aload_n i => (match ee_la lo i.val with
      | some x => ee_nx e.2.2.1 1 [(pc + 1, lo, .ref x :: stk, w, iv, kc, ks, sv)]
      | none => none)
    | .lload i => (match ee_ll lo i with
      | some x => ee_nx e.2.2.1 2 [(pc + 2, lo, x :: stk, w, iv, kc, ks, sv)]
      | none => none)
    | .lload_n i => (match ee_ll lo i.val with
      | some x => ee_nx e.2.2.1 1 [(pc + 1, lo, x :: stk, w, iv, kc, ks, sv)]
      | none => none)
    | _ => none
set_option maxHeartbeats 2000000 in
theorem ee_h3.snd : ee_Snd ee_h3 := by
  intro X Y oc own cc ini dm bc bs Q e st sts F ho hi hd he hpc h k
  obtain ⟨p, l, en, R, s, m, args, below, meth, c⟩ := X
  obtain ⟨A, D, dA, ex, x0, a0, sv0, nL⟩ := Y
  obtain ⟨pc, lo, stk, w, iv, kc, ks, sv⟩ := st
  obtain ⟨pc', ins, len, hn, ea, eb, ez, qa, qb, qc⟩ := e
  obtain ⟨hx, hb, hml, hown, hts, hK, hA, hini, hR, hE⟩ := F
  have hpc : pc = pc' := hpc
  subst hpc
  have hd : decode cc pc = .ok (ins, len) := hd
  intro ns as H lc ls vs C
  obtain ⟨c1, c2, c3, c4, c5, c6⟩ := C
  show W p l en R s m args below meth c H lc kc ks Q (F0 m pc ls vs)
  obtain ⟨lv, c3, c3l⟩ := c3
  cases ins with
  | aload i =>
    replace h : (match ee_la lo i with
      | some x => ee_nx len 2 [(pc + 2, lo, Value.ref x :: stk, w, iv, kc, ks, sv)]
      | none => none) = some sts := h
    cases hq : ee_la lo i with
    | none => rw [hq] at h; exact ee_no h
    | some x =>
      rw [hq] at h
      obtain ⟨rfl, rfl⟩ := ee_nx_some h
      obtain ⟨a, g1, g2⟩ := ee_la.ok c3 c3l hq
      exact lv_aload hx hb hd g1 (k _ List.mem_cons_self ns as H lc ls _ ⟨c1, c2, ⟨lv, c3, c3l⟩, ⟨g2, c4⟩, c5, c6⟩)
  | aload_n i =>
    replace h : (match ee_la lo i.val with
      | some x => ee_nx len 1 [(pc + 1, lo, Value.ref x :: stk, w, iv, kc, ks, sv)]
      | none => none) = some sts := h
    cases hq : ee_la lo i.val with
    | none => rw [hq] at h; exact ee_no h
    | some x =>
      rw [hq] at h
      obtain ⟨rfl, rfl⟩ := ee_nx_some h
      obtain ⟨a, g1, g2⟩ := ee_la.ok c3 c3l hq
      exact lv_aload_n hx hb hd rfl g1 (k _ List.mem_cons_self ns as H lc ls _ ⟨c1, c2, ⟨lv, c3, c3l⟩, ⟨g2, c4⟩, c5, c6⟩)
  | lload i =>
    replace h : (match ee_ll lo i with
      | some x => ee_nx len 2 [(pc + 2, lo, x :: stk, w, iv, kc, ks, sv)]
      | none => none) = some sts := h
    cases hq : ee_ll lo i with
    | none => rw [hq] at h; exact ee_no h
    | some x =>
      rw [hq] at h
      obtain ⟨rfl, rfl⟩ := ee_nx_some h
      obtain ⟨z, g1, g2⟩ := ee_ll.ok c3 c3l hq
      exact lv_lload hx hb hd g1 (k _ List.mem_cons_self ns as H lc ls _ ⟨c1, c2, ⟨lv, c3, c3l⟩, ⟨g2, c4⟩, c5, c6⟩)
  | lload_n i =>
    replace h : (match ee_ll lo i.val with
      | some x => ee_nx len 1 [(pc + 1, lo, x :: stk, w, iv, kc, ks, sv)]
      | none => none) = some sts := h
    cases hq : ee_ll lo i.val with
    | none => rw [hq] at h; exact ee_no h
    | some x =>
      rw [hq] at h
      obtain ⟨rfl, rfl⟩ := ee_nx_some h
      obtain ⟨z, g1, g2⟩ := ee_ll.ok c3 c3l hq
      exact lv_lload_n hx hb hd rfl g1 (k _ List.mem_cons_self ns as H lc ls _ ⟨c1, c2, ⟨lv, c3, c3l⟩, ⟨g2, c4⟩, c5, c6⟩)
  | _ => exact ee_no h
def ee_sl (i : Nat) (x : Value) (lo : List (Nat × Value)) : List (Nat × Value) := (i, x) :: lo.filter (fun q => !(q.1 == i) && !(q.1 + 1 == i && ee_cat q.2 == 2))
theorem ee_sl.ok {ns : List Int32} {as : List Nat} {ex : Nat → Nat} {i : Nat} {x v : Value} {lo lv : List (Nat × Value)} (h : ee_all (ee_lr ns as ex) lo lv) (hv : ee_v ns as ex x v) : ee_all (ee_lr ns as ex) (ee_sl i x lo) ((i, v) :: lv.filter (fun q => !(q.1 == i) && !(q.1 + 1 == i && q.2.category == 2))) :=
  ⟨⟨rfl, hv⟩, h.filter (fun a b q => by rw [q.1, q.2.cat])⟩
def ee_sl2 (i : Nat) (x : Value) (lo : List (Nat × Value)) : List (Nat × Value) := (i, x) :: lo.filter (fun q => !(q.1 == i) && (!(q.1 == i + 1) && !(q.1 + 1 == i && ee_cat q.2 == 2)))
theorem ee_sl2.ok {ns : List Int32} {as : List Nat} {ex : Nat → Nat} {i : Nat} {x v : Value} {lo lv : List (Nat × Value)} (h : ee_all (ee_lr ns as ex) lo lv) (hv : ee_v ns as ex x v) : ee_all (ee_lr ns as ex) (ee_sl2 i x lo) ((i, v) :: lv.filter (fun q => !(q.1 == i) && (!(q.1 == i + 1) && !(q.1 + 1 == i && q.2.category == 2)))) :=
  ⟨⟨rfl, hv⟩, h.filter (fun a b q => by rw [q.1, q.2.cat])⟩
def ee_h4 : ee_H := fun nL _ _ e st => match st with
  | (pc, lo, x :: stk, w, iv, kc, ks, sv) => (match ee_it iv x with
    | some _ => (match e.2.1 with
      | .istore i => if i < nL then ee_nx e.2.2.1 2 [(pc + 2, ee_sl i x lo, stk, w, iv, kc, ks, sv)] else none
      | .istore_n i => if i.val < nL then ee_nx e.2.2.1 1 [(pc + 1, ee_sl i.val x lo, stk, w, iv, kc, ks, sv)] else none
      | _ => none)
    | none => none)
  | _ => none
set_option maxHeartbeats 2000000 in
theorem ee_h4.snd : ee_Snd ee_h4 := by
  intro X Y oc own cc ini dm bc bs Q e st sts F ho hi hd he hpc h k
  obtain ⟨p, l, en, R, s, m, args, below, meth, c⟩ := X
  obtain ⟨A, D, dA, ex, x0, a0, sv0, nL⟩ := Y
  obtain ⟨pc, lo, stk, w, iv, kc, ks, sv⟩ := st
  obtain ⟨pc', ins, len, hn, ea, eb, ez, qa, qb, qc⟩ := e
  obtain ⟨hx, hb, hml, hown, hts, hK, hA, hini, hR, hE⟩ := F
  have hpc : pc = pc' := hpc
  subst hpc
  have hd : decode cc pc = .ok (ins, len) := hd
  intro ns as H lc ls vs C
  obtain ⟨c1, c2, c3, c4, c5, c6⟩ := C
  show W p l en R s m args below meth c H lc kc ks Q (F0 m pc ls vs)
  obtain ⟨lv, c3, c3l⟩ := c3
  cases stk with
  | nil => exact ee_no h
  | cons x stk =>
    cases vs with
    | nil => exact c4.elim
    | cons v vs =>
      obtain ⟨c4v, c4⟩ := c4
      replace h : (match ee_it iv x with
        | some _ => (match (generalizing := false) ins with
          | .istore i => if i < nL then ee_nx len 2 [(pc + 2, ee_sl i x lo, stk, w, iv, kc, ks, sv)] else none
          | .istore_n i => if i.val < nL then ee_nx len 1 [(pc + 1, ee_sl i.val x lo, stk, w, iv, kc, ks, sv)] else none
          | _ => none)
        | none => none) = some sts := h
      cases hq : ee_it iv x with
      | none => rw [hq] at h; exact ee_no h
      | some q =>
        rw [hq] at h
        obtain ⟨z, rfl, -, -⟩ := ee_it.int c1 c4v hq
        cases ins with
        | istore i =>
          replace h : (if i < nL then ee_nx len 2 [(pc + 2, ee_sl i x lo, stk, w, iv, kc, ks, sv)] else none) = some sts := h
          by_cases hl : i < nL
          · rw [if_pos hl] at h
            obtain ⟨rfl, rfl⟩ := ee_nx_some h
            exact lv_istore hx hb hd c3 hl rfl (fun ls' hl' => k _ List.mem_cons_self ns as H lc ls' _ ⟨c1, c2, ⟨_, hl', ee_sl.ok c3l c4v⟩, c4, c5, c6⟩)
          · rw [if_neg hl] at h
            exact ee_no h
        | istore_n i =>
          replace h : (if i.val < nL then ee_nx len 1 [(pc + 1, ee_sl i.val x lo, stk, w, iv, kc, ks, sv)] else none) = some sts := h
          by_cases hl : i.val < nL
          · rw [if_pos hl] at h
            obtain ⟨rfl, rfl⟩ := ee_nx_some h
            exact lv_istore_n hx hb hd rfl c3 hl rfl (fun ls' hl' => k _ List.mem_cons_self ns as H lc ls' _ ⟨c1, c2, ⟨_, hl', ee_sl.ok c3l c4v⟩, c4, c5, c6⟩)
          · rw [if_neg hl] at h
            exact ee_no h
        | _ => exact ee_no h
def ee_h5 : ee_H := fun nL _ _ e st => match st with
  | (pc, lo, x :: stk, w, iv, kc, ks, sv) => (match e.2.1 with
      | .astore i => if ee_isr x = true ∧ i < nL then ee_nx e.2.2.1 2 [(pc + 2, ee_sl i x lo, stk, w, iv, kc, ks, sv)] else none
      | .astore_n i => if ee_isr x = true ∧ i.val < nL then ee_nx e.2.2.1 1 [(pc + 1, ee_sl i.val x lo, stk, w, iv, kc, ks, sv)] else none
      | .lstore i => if ee_isl x = true ∧ i + 1 < nL then ee_nx e.2.2.1 2 [(pc + 2, ee_sl2 i x lo, stk, w, iv, kc, ks, sv)] else none
      | .lstore_n i => if ee_isl x = true ∧ i.val + 1 < nL then ee_nx e.2.2.1 1 [(pc + 1, ee_sl2 i.val x lo, stk, w, iv, kc, ks, sv)] else none
      | _ => none)
  | _ => none
set_option maxHeartbeats 2000000 in
theorem ee_h5.snd : ee_Snd ee_h5 := by
  intro X Y oc own cc ini dm bc bs Q e st sts F ho hi hd he hpc h k
  obtain ⟨p, l, en, R, s, m, args, below, meth, c⟩ := X
  obtain ⟨A, D, dA, ex, x0, a0, sv0, nL⟩ := Y
  obtain ⟨pc, lo, stk, w, iv, kc, ks, sv⟩ := st
  obtain ⟨pc', ins, len, hn, ea, eb, ez, qa, qb, qc⟩ := e
  obtain ⟨hx, hb, hml, hown, hts, hK, hA, hini, hR, hE⟩ := F
  have hpc : pc = pc' := hpc
  subst hpc
  have hd : decode cc pc = .ok (ins, len) := hd
  intro ns as H lc ls vs C
  obtain ⟨c1, c2, c3, c4, c5, c6⟩ := C
  show W p l en R s m args below meth c H lc kc ks Q (F0 m pc ls vs)
  obtain ⟨lv, c3, c3l⟩ := c3
  cases stk with
  | nil => exact ee_no h
  | cons x stk =>
    cases vs with
    | nil => exact c4.elim
    | cons v vs =>
      obtain ⟨c4v, c4⟩ := c4
      cases ins with
      | astore i =>
        replace h : (if ee_isr x = true ∧ i < nL then ee_nx len 2 [(pc + 2, ee_sl i x lo, stk, w, iv, kc, ks, sv)] else none) = some sts := h
        by_cases hl : ee_isr x = true ∧ i < nL
        · rw [if_pos hl] at h
          obtain ⟨rfl, rfl⟩ := ee_nx_some h
          obtain ⟨a, rfl⟩ := ee_isr.ok c4v hl.1
          exact lv_astore hx hb hd c3 hl.2 rfl (fun ls' hl' => k _ List.mem_cons_self ns as H lc ls' _ ⟨c1, c2, ⟨_, hl', ee_sl.ok c3l c4v⟩, c4, c5, c6⟩)
        · rw [if_neg hl] at h
          exact ee_no h
      | astore_n i =>
        replace h : (if ee_isr x = true ∧ i.val < nL then ee_nx len 1 [(pc + 1, ee_sl i.val x lo, stk, w, iv, kc, ks, sv)] else none) = some sts := h
        by_cases hl : ee_isr x = true ∧ i.val < nL
        · rw [if_pos hl] at h
          obtain ⟨rfl, rfl⟩ := ee_nx_some h
          obtain ⟨a, rfl⟩ := ee_isr.ok c4v hl.1
          exact lv_astore_n hx hb hd rfl c3 hl.2 rfl (fun ls' hl' => k _ List.mem_cons_self ns as H lc ls' _ ⟨c1, c2, ⟨_, hl', ee_sl.ok c3l c4v⟩, c4, c5, c6⟩)
        · rw [if_neg hl] at h
          exact ee_no h
      | lstore i =>
        replace h : (if ee_isl x = true ∧ i + 1 < nL then ee_nx len 2 [(pc + 2, ee_sl2 i x lo, stk, w, iv, kc, ks, sv)] else none) = some sts := h
        by_cases hl : ee_isl x = true ∧ i + 1 < nL
        · rw [if_pos hl] at h
          obtain ⟨rfl, rfl⟩ := ee_nx_some h
          obtain ⟨z, rfl⟩ := ee_isl.ok c4v hl.1
          exact lv_lstore hx hb hd c3 hl.2 rfl (fun ls' hl' => k _ List.mem_cons_self ns as H lc ls' _ ⟨c1, c2, ⟨_, hl', ee_sl2.ok c3l c4v⟩, c4, c5, c6⟩)
        · rw [if_neg hl] at h
          exact ee_no h
      | lstore_n i =>
        replace h : (if ee_isl x = true ∧ i.val + 1 < nL then ee_nx len 1 [(pc + 1, ee_sl2 i.val x lo, stk, w, iv, kc, ks, sv)] else none) = some sts := h
        by_cases hl : ee_isl x = true ∧ i.val + 1 < nL
        · rw [if_pos hl] at h
          obtain ⟨rfl, rfl⟩ := ee_nx_some h
          obtain ⟨z, rfl⟩ := ee_isl.ok c4v hl.1
          exact lv_lstore_n hx hb hd rfl c3 hl.2 rfl (fun ls' hl' => k _ List.mem_cons_self ns as H lc ls' _ ⟨c1, c2, ⟨_, hl', ee_sl2.ok c3l c4v⟩, c4, c5, c6⟩)
        · rw [if_neg hl] at h
          exact ee_no h
      | _ => exact ee_no h
