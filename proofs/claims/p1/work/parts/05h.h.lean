/-! the handler of Object's constructor and of arraycopy -/
def ee_cpl (a b : Int) (ov : List (Nat × Value)) (sp dp : Nat) : Nat → Option (List (Nat × Value))
  | 0 => some []
  | n + 1 => match ee_rd a b ov (sp + n), ee_cpl a b ov sp dp n with
    | some x, some l => some ((dp + n, x) :: l)
    | _, _ => none
theorem ee_cpl.out {a b : Int} {ov : List (Nat × Value)} {sp dp : Nat} : ∀ {n : Nat} {l : List (Nat × Value)} {j : Nat}, ee_cpl a b ov sp dp n = some l → (j < dp ∨ dp + n ≤ j) → l.lookup j = none
  | 0, l, j, h, _ => by cases h; rfl
  | n + 1, l, j, h, hj => by
    unfold ee_cpl at h
    split at h
    · rename_i x l' h1 h2
      cases h
      rw [List.lookup_cons]
      have e : (j == dp + n) = false := by simp; omega
      rw [e]
      exact ee_cpl.out h2 (by omega)
    · cases h
theorem ee_cpl.in {a b : Int} {ov : List (Nat × Value)} {sp dp : Nat} : ∀ {n : Nat} {l : List (Nat × Value)} {j : Nat}, ee_cpl a b ov sp dp n = some l → dp ≤ j → j < dp + n → ∃ x, l.lookup j = some x ∧ ee_rd a b ov (sp + (j - dp)) = some x
  | 0, l, j, h, h1, h2 => by omega
  | n + 1, l, j, h, h3, h4 => by
    unfold ee_cpl at h
    split at h
    · rename_i x l' h1 h2
      cases h
      rw [List.lookup_cons]
      by_cases e : j = dp + n
      · subst e
        simp only [beq_self_eq_true]
        exact ⟨x, rfl, by rw [show dp + n - dp = n by omega]; exact h1⟩
      · have e' : (j == dp + n) = false := by simpa using e
        rw [e']
        exact ee_cpl.in h2 h3 (by omega)
    · cases h
theorem ee_lookup_app {α : Type} {l r : List (Nat × α)} {j : Nat} : (l ++ r).lookup j = match l.lookup j with
    | some x => some x
    | none => r.lookup j := by
  induction l with
  | nil => rfl
  | cons p l ih =>
    obtain ⟨i, x⟩ := p
    rw [List.cons_append, List.lookup_cons, List.lookup_cons]
    cases h : j == i with
    | true => rfl
    | false => exact ih
theorem ee_cpl.ok {ns : List Int32} {as : List Nat} {ex : Nat → Nat} {a b a2 b2 : Int} {ov ov2 l : List (Nat × Value)} {sp dp n n0 n1 : Nat} {f g : Nat → Int32} (h : ee_cpl a b ov sp dp n = some l) (hf : ∀ j, j < n0 → ee_el ns as ex a b ov j (f j)) (hg : ∀ j, j < n1 → ee_el ns as ex a2 b2 ov2 j (g j)) (h4 : sp + n ≤ n0) : ∀ j, j < n1 → ee_el ns as ex a2 b2 (l ++ ov2) j (va_cpy f g sp dp n j) := by
  intro j hj
  unfold ee_el
  rw [ee_lookup_app]
  by_cases hc : dp ≤ j ∧ j < dp + n
  · obtain ⟨x, e1, e2⟩ := ee_cpl.in h hc.1 hc.2
    rw [e1]
    simp only
    rw [pk_cpy_in hc.1 hc.2]
    exact ee_rd.ok (hf _ (by omega)) e2
  · rw [ee_cpl.out h (by omega)]
    simp only
    rw [pk_cpy_out (by omega)]
    exact hg j hj
def ee_a5 (stk : List Value) : Option (Value × Value × Nat × Value × Nat × List Value) := match stk with
  | n :: dp :: .ref b :: sp :: .ref a :: r => some (n, dp, b, sp, a, r)
  | _ => none
theorem ee_a5.ok {stk r : List Value} {n dp sp : Value} {a b : Nat} (h : ee_a5 stk = some (n, dp, b, sp, a, r)) : stk = n :: dp :: .ref b :: sp :: .ref a :: r := by
  unfold ee_a5 at h
  split at h
  · cases h
    rfl
  · cases h
theorem ee_all.cons {α β : Type} {R : α → β → Prop} {a : α} {l : List α} {k : List β} (h : ee_all R (a :: l) k) : ∃ b k', k = b :: k' ∧ R a b ∧ ee_all R l k' := by
  cases k with
  | nil => exact h.elim
  | cons b k => exact ⟨b, k, rfl, h.1, h.2⟩
def ee_h20 : ee_H := fun _ _ _ e st => match st with
  | (pc, lo, stk, w, iv, kc, ks, sv) => (match e.2.1 with
      | .invokespecial _ => (match stk with
        | .ref _ :: stk => if e.2.2.2.2.2.1 = 1 ∧ (stk.map ee_cat).sum ≤ 8 then ee_nx e.2.2.1 3 [(pc + 3, lo, stk, w, iv, kc, ks, sv)] else none
        | _ => none)
      | .invokestatic _ => (match ee_a5 stk with
        | some (n, dp, b, sp, a, stk) => if (e.2.2.2.2.2.1 = 2 ∧ (stk.map ee_cat).sum ≤ 8) ∧ a < 1000000 ∧ b < 1000000 then (match w[a]?, w[b]? with
          | some (.inr (t0, n0, a0, b0, ov0)), some (.inr (t1, n1, a1, b1, ov1)) => (match ee_ix iv n (n0 + 1), ee_ix iv sp (n0 + 1), ee_ix iv dp (n1 + 1) with
            | some cn, some cs, some cd => if (t0 = 0 ∧ t1 = 0) ∧ cs + cn ≤ n0 ∧ cd + cn ≤ n1 then (match ee_cpl a0 b0 ov0 cs cd cn with
              | some l => ee_nx e.2.2.1 3 [(pc + 3, lo, stk, w.set b (.inr (t1, n1, a1, b1, l ++ ov1)), iv, kc, ks, sv)]
              | none => none) else none
            | _, _, _ => none)
          | _, _ => none) else none
        | none => none)
      | _ => none)
theorem ee_cats {ns : List Int32} {as : List Nat} {ex : Nat → Nat} : ∀ {stk vs : List Value}, ee_all (ee_v ns as ex) stk vs → (vs.map fun v => v.category) = stk.map ee_cat
  | [], [], _ => rfl
  | x :: stk, v :: vs, h => by
    rw [List.map_cons, List.map_cons, ee_cats h.2, h.1.cat]
  | [], _ :: _, h => h.elim
  | _ :: _, [], h => h.elim
set_option maxHeartbeats 2000000 in
theorem ee_h20.snd : ee_Snd ee_h20 := by
  intro X Y oc own cc ini dm bc bs Q e st sts F ho hi hd he hpc h k
  obtain ⟨p, l, en, R, s, m, args, below, meth, c⟩ := X
  obtain ⟨A, D, dA, ex, x0, sv0, nL⟩ := Y
  obtain ⟨pc, lo, stk, w, iv, kc, ks, sv⟩ := st
  obtain ⟨pc', ins, len, hn, ea, eb, ez⟩ := e
  obtain ⟨hx, hb, hml, hown, hts, hK, hA, hini, hR, hE⟩ := F
  have hpc : pc = pc' := hpc
  subst hpc
  have hd : decode cc pc = .ok (ins, len) := hd
  intro ns as H lc ls vs C
  obtain ⟨c1, c2, c3, c4, c5, c6⟩ := C
  show W p l en R s m args below meth c H lc kc ks Q (F0 m pc ls vs)
  cases ins with
  | invokespecial i =>
    cases stk with
    | nil => exact ee_no h
    | cons x stk =>
      cases vs with
      | nil => exact c4.elim
      | cons v vs =>
        obtain ⟨c4v, c4⟩ := c4
        cases x with
        | ref j =>
          obtain ⟨a, rfl⟩ := ee_v.ref c4v
          replace h : (if eb = 1 ∧ (stk.map ee_cat).sum ≤ 8 then ee_nx len 3 [(pc + 3, lo, stk, w, iv, kc, ks, sv)] else none) = some sts := h
          have hee : (if eb = 0 then (match ee_CL[ea]? with
            | some q => decide (q.1 = oc) && (decide (q.2.1 = i) && decide (q.2.2.2.1 = 2))
            | none => false) else if eb = 1 then (match ee_OL[ea]? with
            | some q => decide (q.1 = oc) && decide (q.2.1 = i)
            | none => false) else true) = true := he
          by_cases hc : eb = 1 ∧ (stk.map ee_cat).sum ≤ 8
          · rw [if_pos hc] at h
            obtain ⟨rfl, rfl⟩ := ee_nx_some h
            rw [if_neg (by omega), if_pos hc.1] at hee
            cases hq : ee_OL[ea]? with
            | none => rw [hq] at hee; cases hee
            | some q =>
              rw [hq] at hee
              obtain ⟨e1, e2⟩ := ee_and hee
              have e1 := of_decide_eq_true e1
              have e2 := of_decide_eq_true e2
              have hm := ee_OLok q (List.mem_of_getElem? hq)
              rw [e1, ee_own_ow ho, e2] at hm
              obtain ⟨lv, c3, c3l⟩ := c3
              refine W.objInit hx hb hown (hts _ hm) (hts _ ee_obj.1) (hts _ ee_obj.2) rfl (by rw [hml]; exact c3.1) rfl hd (by omega) ?_ (k _ List.mem_cons_self ns as H lc ls _ ⟨c1, c2, ⟨lv, c3, c3l⟩, c4, c5, c6⟩)
              have hs := hc.2
              rw [← ee_cats c4] at hs
              have := lv_room (m := m) (pc := pc) (ls := ls) (rest := Value.ref a :: vs) hs
              omega
          · rw [if_neg hc] at h
            exact ee_no h
        | _ => exact ee_no h
  | invokestatic i =>
    replace h : (match ee_a5 stk with
        | some (n, dp, b, sp, a, stk) => if (eb = 2 ∧ (stk.map ee_cat).sum ≤ 8) ∧ a < 1000000 ∧ b < 1000000 then (match w[a]?, w[b]? with
          | some (.inr (t0, n0, a0, b0, ov0)), some (.inr (t1, n1, a1, b1, ov1)) => (match ee_ix iv n (n0 + 1), ee_ix iv sp (n0 + 1), ee_ix iv dp (n1 + 1) with
            | some cn, some cs, some cd => if (t0 = 0 ∧ t1 = 0) ∧ cs + cn ≤ n0 ∧ cd + cn ≤ n1 then (match ee_cpl a0 b0 ov0 cs cd cn with
              | some l => ee_nx len 3 [(pc + 3, lo, stk, w.set b (.inr (t1, n1, a1, b1, l ++ ov1)), iv, kc, ks, sv)]
              | none => none) else none
            | _, _, _ => none)
          | _, _ => none) else none
        | none => none) = some sts := h
    cases h5 : ee_a5 stk with
    | none => rw [h5] at h; exact ee_no h
    | some t5 =>
      obtain ⟨n, dp, b, sp, a, stk2⟩ := t5
      rw [h5] at h
      simp only at h
      have e5 := ee_a5.ok h5
      subst e5
      obtain ⟨vn, vs1, rfl, cn0, c4a⟩ := c4.cons
      obtain ⟨vd, vs2, rfl, cd0, c4b⟩ := c4a.cons
      obtain ⟨vb, vs3, rfl, cb0, c4c⟩ := c4b.cons
      obtain ⟨vsp, vs4, rfl, cs0, c4d⟩ := c4c.cons
      obtain ⟨va, vs, rfl, ca0, c4e⟩ := c4d.cons
      obtain ⟨ab, rfl⟩ := ee_v.ref cb0
      obtain ⟨aa, rfl⟩ := ee_v.ref ca0
      have hee : (if eb = 0 then (match ee_CL[ea]? with
        | some q => decide (q.1 = oc) && (decide (q.2.1 = i) && decide (q.2.2.2.1 = 1))
        | none => false) else if eb = 2 then (match ee_AL[ea]? with
        | some q => decide (q.1 = oc) && decide (q.2.1 = i)
        | none => false) else if eb = 3 ∨ eb = 4 then (match ee_XL[ea]? with
        | some q => decide (q.1 = oc) && (decide (q.2.1 = i) && decide (q.2.2.1 = eb))
        | none => false) else true) = true := he
      by_cases hc : (eb = 2 ∧ (stk2.map ee_cat).sum ≤ 8) ∧ a < 1000000 ∧ b < 1000000
      · rw [if_pos hc] at h
        obtain ⟨⟨hc1, hc2⟩, hc3, hc4⟩ := hc
        rw [if_neg (by omega), if_pos hc1] at hee
        cases hq : ee_AL[ea]? with
        | none => rw [hq] at hee; cases hee
        | some q =>
          rw [hq] at hee
          obtain ⟨e1, e2⟩ := ee_and hee
          have e1 := of_decide_eq_true e1
          have e2 := of_decide_eq_true e2
          have hm := ee_ALok q (List.mem_of_getElem? hq)
          rw [e1, ee_own_ow ho, e2] at hm
          split at h
          · rename_i t0 n0 a0 b0 ov0 t1 n1 a1 b1 ov1 hw0 hw1
            split at h
            · rename_i xn xs xd hn1 hn2 hn3
              by_cases hc5 : (t0 = 0 ∧ t1 = 0) ∧ xs + xn ≤ n0 ∧ xd + xn ≤ n1
              · rw [if_pos hc5] at h
                obtain ⟨⟨rfl, rfl⟩, g5, g6⟩ := hc5
                cases hl : ee_cpl a0 b0 ov0 xs xd xn with
                | none => rw [hl] at h; exact ee_no h
                | some l =>
                  rw [hl] at h
                  obtain ⟨rfl, rfl⟩ := ee_nx_some h
                  obtain ⟨zn, rfl, f1, f2, f3⟩ := ee_ix.ok c1 cn0 hn1
                  obtain ⟨zs, rfl, f4, f5, f6⟩ := ee_ix.ok c1 cs0 hn2
                  obtain ⟨zd, rfl, f7, f8, f9⟩ := ee_ix.ok c1 cd0 hn3
                  obtain ⟨lv, c3, c3l⟩ := c3
                  obtain ⟨ws, c6w, hP, hD, hS⟩ := c6
                  obtain ⟨ec0, p1, p2⟩ := c6w.at hw0 (ca0.at hc3)
                  obtain ⟨ec1, p3, p4⟩ := c6w.at hw1 (cb0.at hc4)
                  obtain ⟨f, rfl, p5⟩ := p2.ints (by omega)
                  obtain ⟨g, rfl, p6⟩ := p4.ints (by omega)
                  subst f1
                  subst f4
                  subst f7
                  refine va_copyi hx hb (by rw [hml]; exact c3.1.symm) hown (hts _ hm) (hts _ ee_cpy.1) (hts _ ee_cpy.2.1) (hts _ ee_cpy.2.2) hK hP hD hS a b 0 0 p1 p3 rfl rfl rfl (fun z => f6 (Or.inl z)) (fun z => f9 (Or.inl z)) (fun z => f3 (Or.inl z)) g5 g6 (fun _ _ => rfl) (by omega) ?_ hd (fun H1 lc1 hP1 hD1 hS1 => k _ List.mem_cons_self ns as H1 lc1 ls _ ⟨c1, c2, ⟨lv, c3, c3l⟩, c4e, c5, _, c6w.set p3 ⟨by omega, _, rfl, ee_cpl.ok hl p5 p6 g5⟩, hP1, hD1, hS1⟩)
                  rw [ee_cats c4e]
                  have : nativeFrameWords "java/lang/System" "arraycopy" 5 = 7 := by decide +kernel
                  omega
              · rw [if_neg hc5] at h
                exact ee_no h
            · exact ee_no h
          · exact ee_no h
      · rw [if_neg hc] at h
        exact ee_no h
  | _ => exact ee_no h
