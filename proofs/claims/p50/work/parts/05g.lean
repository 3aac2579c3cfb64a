/-! handlers: arrays written, cells made, statics read -/
theorem ee_lookup_filter {pk : Nat → Bool} {i : Nat} : ∀ {ov : List (Nat × Value)}, (ov.filter (fun q => pk q.1)).lookup i = if pk i = true then ov.lookup i else none
  | [] => by split <;> rfl
  | (a, x) :: l => by
    have ih := ee_lookup_filter (pk := pk) (i := i) (ov := l)
    by_cases ha : pk a = true
    · rw [List.filter_cons_of_pos (by exact ha), List.lookup_cons, List.lookup_cons, ih]
      cases hb : i == a with
      | true =>
        have : i = a := by simpa using hb
        subst this
        simp only [ha, if_true]
      | false => rfl
    · rw [List.filter_cons_of_neg (by exact ha), ih, List.lookup_cons]
      cases hb : i == a with
      | true =>
        have : i = a := by simpa using hb
        subst this
        simp only [ha, if_false]
        rfl
      | false => rfl
theorem ee_byte {x : Int32} (h1 : -128 ≤ x.toInt) (h2 : x.toInt ≤ 127) : vp_nar .byte x = x := by
  rw [vp_nar_byte]
  apply Int32.toInt_inj.mp
  rw [Int8.toInt_toInt32, Int32.toInt_toInt8]
  exact Int.bmod_eq_of_le (by omega) (by omega)
/-- a named element keeps its segment's bounds -/
def ee_ent (iv : ee_iv) (sg : List (Nat × Int × Int)) (P : Nat) (q : Nat × Value) : Bool := match ee_sg1 sg (ee_rj P q.1) with
  | some r => (match ee_it iv q.2 with
    | some s => decide (r.1 ≤ s.1) && decide (s.2 ≤ r.2)
    | none => false)
  | none => true
theorem ee_ent.ok {ns : List Int32} {as : List Nat} {ex : Nat → Nat} {iv : ee_iv} {sg : List (Nat × Int × Int)} {P j : Nat} {y : Value} {z : Int32} (hk : ee_ok ns iv) (h : ee_ent iv sg P (j, y) = true) (hv : ee_v ns as ex y (.int z)) : ee_sgp P sg j z := by
  rw [ee_sgp_eq]
  unfold ee_ent at h
  simp only at h
  cases hs : ee_sg1 sg (ee_rj P j) with
  | none => trivial
  | some r =>
    rw [hs] at h
    simp only at h
    cases ht : ee_it iv y with
    | none => rw [ht] at h; cases h
    | some s =>
      rw [ht] at h
      obtain ⟨e1, e2⟩ := ee_and h
      have e1 := of_decide_eq_true e1
      have e2 := of_decide_eq_true e2
      obtain ⟨u, g1, g2, g3⟩ := ee_it.int (a := s.1) (b := s.2) hk hv ht
      cases g1
      exact ⟨by omega, by omega⟩
def ee_ing (a b : Int) (j : Nat) : Bool := decide (a ≤ (j : Int)) && decide ((j : Int) ≤ b)
/-- an element written: the named elements then -/
def ee_wt (iv : ee_iv) (n P : Nat) (sg : List (Nat × Int × Int)) (ov : List (Nat × Value)) (i x : Value) : Option (List (Nat × Value)) := match ee_it iv x with
  | none => none
  | some (u, v) => (match ee_ix iv i n with
    | some j => some ((j, x) :: ov.filter (fun q => !Nat.beq q.1 j))
    | none => (match ee_it iv i with
      | some (a, b) => if (0 ≤ a ∧ b < (n : Int)) ∧ ee_wk sg 0 (ee_wh iv i P a b).1 (ee_wh iv i P a b).2 u v = true ∧ ov.all (fun q => !ee_ing a b q.1 || ee_ent iv sg P q) = true then some (ov.filter (fun q => !ee_ing a b q.1)) else none
      | none => none))
theorem ee_wt.ok {ns : List Int32} {as : List Nat} {ex : Nat → Nat} {iv : ee_iv} {n P : Nat} {sg : List (Nat × Int × Int)} {ov ov' : List (Nat × Value)} {i vi x vx : Value} {f : Nat → Int32} (hk : ee_ok ns iv) (hi : ee_v ns as ex i vi) (hx : ee_v ns as ex x vx) (hf : ∀ j, j < n → ee_el ns as ex P sg ov j (f j)) (h : ee_wt iv n P sg ov i x = some ov') :
    ∃ (q z : Int32), vi = .int q ∧ vx = .int z ∧ vp_in q n ∧ ∀ j, j < n → ee_el ns as ex P sg ov' j (upd f q.toNatClampNeg z j) := by
  unfold ee_wt at h
  cases hxt : ee_it iv x with
  | none => rw [hxt] at h; cases h
  | some r =>
    obtain ⟨u, v⟩ := r
    rw [hxt] at h
    simp only at h
    obtain ⟨z, rfl, z1, z2⟩ := ee_it.int hk hx hxt
    cases hxi : ee_ix iv i n with
    | some j =>
      rw [hxi] at h
      cases h
      obtain ⟨q, rfl, f1, f2, f3⟩ := ee_ix.ok hk hi hxi
      refine ⟨q, z, rfl, rfl, f3, fun k hk1 => ?_⟩
      rw [f1]
      unfold ee_el
      rw [List.lookup_cons]
      by_cases e : k = j
      · subst e
        simp only [beq_self_eq_true, upd, if_true]
        exact hx
      · have e' : (k == j) = false := by simpa using e
        have e2 : (!Nat.beq k j) = true := by
          cases hb : Nat.beq k j with
          | false => rfl
          | true => exact absurd (Nat.eq_of_beq_eq_true hb) e
        rw [e', ee_lookup_filter (pk := fun q => !Nat.beq q j)]
        simp only [e2, if_true, upd, e, if_false]
        exact hf k hk1
    | none =>
      rw [hxi] at h
      simp only at h
      cases hit : ee_it iv i with
      | none => rw [hit] at h; cases h
      | some r =>
        obtain ⟨a, b⟩ := r
        rw [hit] at h
        simp only at h
        by_cases hc : (0 ≤ a ∧ b < (n : Int)) ∧ ee_wk sg 0 (ee_wh iv i P a b).1 (ee_wh iv i P a b).2 u v = true ∧ ov.all (fun q => !ee_ing a b q.1 || ee_ent iv sg P q) = true
        · rw [if_pos hc] at h
          cases h
          obtain ⟨⟨hc1, hc2⟩, hc3, hc4⟩ := hc
          obtain ⟨q, rfl, q1, q2⟩ := ee_it.int hk hi hit
          refine ⟨q, z, rfl, rfl, vp_in_iff.mpr ⟨by omega, by omega⟩, fun k hk1 => ?_⟩
          have w := ee_wh.ok (P := P) hk hi (by omega) q1 q2
          have hq : q.toNatClampNeg = q.toInt.toNat := rfl
          rw [hq]
          unfold ee_el
          rw [ee_lookup_filter (pk := fun j => !ee_ing a b j)]
          by_cases e : k = q.toInt.toNat
          · subst e
            have hin : ee_ing a b q.toInt.toNat = true := by
              unfold ee_ing
              rw [decide_eq_true (show a ≤ ((q.toInt.toNat : Nat) : Int) by omega), decide_eq_true (show ((q.toInt.toNat : Nat) : Int) ≤ b by omega)]
              rfl
            simp only [hin, Bool.not_true, Bool.false_eq_true, if_false, upd, if_true]
            rw [ee_sgp_eq]
            exact ee_wk.ok w.1 w.2 z1 z2 (Nat.zero_le _) hc3
          · have hel := hf k hk1
            unfold ee_el at hel
            simp only [upd, e, if_false]
            cases hin : ee_ing a b k with
            | false =>
              simp only [Bool.not_false, if_true]
              exact hel
            | true =>
              simp only [Bool.not_true, Bool.false_eq_true, if_false]
              cases hl : ov.lookup k with
              | none => rw [hl] at hel; exact hel
              | some y =>
                rw [hl] at hel
                have hm := List.all_eq_true.mp hc4 (k, y) (ee_mem_lookup hl)
                rw [show ee_ing a b (k, y).1 = true from hin] at hm
                exact ee_ent.ok hk (by simpa using hm) hel
        · rw [if_neg hc] at h; cases h
def ee_h17 : ee_H := fun _ _ _ e st => match st with
  | (pc, lo, x :: i :: .ref k :: stk, w, iv, kc, ks, sv) => (match w[k]? with
      | some (.inr (t, n, P, sg, ov)) => if k < 1000000 then (match e.2.1 with
        | .iastore => (match ee_wt iv n P sg ov i x with
          | some ov' => if t = 0 then ee_nx e.2.2.1 1 [(pc + 1, lo, stk, w.set k (.inr (t, n, P, sg, ov')), iv, kc, ks, sv)] else none
          | none => none)
        | .bastore => (match ee_wt iv n P sg ov i x, ee_it iv x with
          | some ov', some (u, v) => if (t = 1 ∧ -128 ≤ u ∧ v ≤ 127) ∨ (t = 2 ∧ 0 ≤ u ∧ v ≤ 1) then ee_nx e.2.2.1 1 [(pc + 1, lo, stk, w.set k (.inr (t, n, P, sg, ov')), iv, kc, ks, sv)] else none
          | _, _ => none)
        | .lastore => if t = 3 ∧ ee_isl x = true ∧ ee_ib iv i n = true then ee_nx e.2.2.1 1 [(pc + 1, lo, stk, w, iv, kc, ks, sv)] else none
        | _ => none) else none
      | _ => none)
  | _ => none
set_option maxHeartbeats 2000000 in
theorem ee_h17.snd : ee_Snd ee_h17 := by
  intro X Y oc own cc ini dm bc bs Q e st sts F ho hi hd he hpc h k
  obtain ⟨p, l, en, R, s, m, args, below, meth, c⟩ := X
  obtain ⟨A, D, dA, ex, x0, a0, sv0, nL⟩ := Y
  obtain ⟨pc, lo, stk, w, iv, kc, ks, sv⟩ := st
  obtain ⟨pc', ins, len, hn, ea, eb, ez, qa, qb, qc⟩ := e
  obtain ⟨hx, hb, hml, hown, hts, hK, hA, hini, hR, hE⟩ := F
  have hpc : pc = pc' := hpc
  subst hpc
  have hd : decode cc pc = .ok (ins, len) := hd
  intro ns as H lc ls vs C
  obtain ⟨c1, c2, c3, c4, c5, c6⟩ := C
  show W p l en R s m args below meth c H lc kc ks Q (F0 m pc ls vs)
  match stk, vs, c4, h with
  | [], _, _, h => exact ee_no h
  | [_], _, _, h => exact ee_no h
  | [_, _], _, _, h => exact ee_no h
  | _ :: _ :: _ :: _, [], c4, h => exact c4.elim
  | _ :: _ :: _ :: _, [_], c4, h => exact c4.2.elim
  | _ :: _ :: _ :: _, [_, _], c4, h => exact c4.2.2.elim
  | x :: i :: y :: stk, vx :: vi :: vy :: vs, ⟨cx, ci, cy, c4⟩, h =>
    cases y with
    | ref j =>
      obtain ⟨a, rfl⟩ := ee_v.ref cy
      obtain ⟨ws, c6w, hP, hD, hS⟩ := c6
      replace h : (match w[j]? with
        | some (.inr (t, n, P, sg, ov)) => if j < 1000000 then (match (generalizing := false) ins with
          | .iastore => (match ee_wt iv n P sg ov i x with
            | some ov' => if t = 0 then ee_nx len 1 [(pc + 1, lo, stk, w.set j (.inr (t, n, P, sg, ov')), iv, kc, ks, sv)] else none
            | none => none)
          | .bastore => (match ee_wt iv n P sg ov i x, ee_it iv x with
            | some ov', some (u, v) => if (t = 1 ∧ -128 ≤ u ∧ v ≤ 127) ∨ (t = 2 ∧ 0 ≤ u ∧ v ≤ 1) then ee_nx len 1 [(pc + 1, lo, stk, w.set j (.inr (t, n, P, sg, ov')), iv, kc, ks, sv)] else none
            | _, _ => none)
          | .lastore => if t = 3 ∧ ee_isl x = true ∧ ee_ib iv i n = true then ee_nx len 1 [(pc + 1, lo, stk, w, iv, kc, ks, sv)] else none
          | _ => none) else none
        | _ => none) = some sts := h
      split at h
      · rename_i t n P1 sg ov hw
        by_cases h3 : j < 1000000
        · rw [if_pos h3] at h
          obtain ⟨ec, g1, g2⟩ := c6w.at hw (cy.at h3)
          cases ins with
          | iastore =>
            replace h : (match ee_wt iv n P1 sg ov i x with
              | some ov' => if t = 0 then ee_nx len 1 [(pc + 1, lo, stk, w.set j (.inr (t, n, P1, sg, ov')), iv, kc, ks, sv)] else none
              | none => none) = some sts := h
            cases hr : ee_wt iv n P1 sg ov i x with
            | none => rw [hr] at h; exact ee_no h
            | some ov' =>
              rw [hr] at h
              simp only at h
              by_cases hc : t = 0
              · rw [if_pos hc] at h
                obtain ⟨rfl, rfl⟩ := ee_nx_some h
                subst hc
                obtain ⟨f, rfl, g3⟩ := g2.ints (by omega)
                obtain ⟨q, z, rfl, rfl, f3, f4⟩ := ee_wt.ok c1 ci cx g3 hr
                exact va_iast hx hb hK hP hD hS j 0 g1 rfl f3 hd (fun H1 lc1 hP1 hD1 hS1 => k _ List.mem_cons_self ns as H1 lc1 ls _ ⟨c1, c2, c3, c4, c5, _, c6w.set g1 (ee_c.mk (by omega) f4), hP1, hD1, hS1⟩)
              · rw [if_neg hc] at h
                exact ee_no h
          | bastore =>
            replace h : (match ee_wt iv n P1 sg ov i x, ee_it iv x with
              | some ov', some (u, v) => if (t = 1 ∧ -128 ≤ u ∧ v ≤ 127) ∨ (t = 2 ∧ 0 ≤ u ∧ v ≤ 1) then ee_nx len 1 [(pc + 1, lo, stk, w.set j (.inr (t, n, P1, sg, ov')), iv, kc, ks, sv)] else none
              | _, _ => none) = some sts := h
            split at h
            · rename_i ov' u v hr hq
              by_cases hc : (t = 1 ∧ -128 ≤ u ∧ v ≤ 127) ∨ (t = 2 ∧ 0 ≤ u ∧ v ≤ 1)
              · rw [if_pos hc] at h
                obtain ⟨rfl, rfl⟩ := ee_nx_some h
                obtain ⟨f, rfl, g3⟩ := g2.ints (by omega)
                obtain ⟨q, z, rfl, rfl, f3, f4⟩ := ee_wt.ok c1 ci cx g3 hr
                obtain ⟨z', ez', x1, x2⟩ := ee_it.int c1 cx hq
                cases ez'
                rcases hc with ⟨rfl, hc⟩ | ⟨rfl, hc⟩
                · refine va_bast hx hb hK hP hD hS j 1 g1 rfl f3 hd (fun H1 lc1 hP1 hD1 hS1 => k _ List.mem_cons_self ns as H1 lc1 ls _ ⟨c1, c2, c3, c4, c5, _, c6w.set g1 ?_, hP1, hD1, hS1⟩)
                  rw [ee_byte (by omega) (by omega)]
                  exact ee_c.mk (by omega) f4
                · refine va_zast hx hb hK hP hD hS j 2 g1 rfl f3 hd (fun H1 lc1 hP1 hD1 hS1 => k _ List.mem_cons_self ns as H1 lc1 ls _ ⟨c1, c2, c3, c4, c5, _, c6w.set g1 ?_, hP1, hD1, hS1⟩)
                  have hb1 : vp_nar .boolean z = z := by
                    rcases ee_01 (z := z) (by omega) (by omega) with rfl | rfl <;> decide
                  rw [hb1]
                  exact ee_c.mk (by omega) f4
              · rw [if_neg hc] at h
                exact ee_no h
            · exact ee_no h
          | lastore =>
            replace h : (if t = 3 ∧ ee_isl x = true ∧ ee_ib iv i n = true then ee_nx len 1 [(pc + 1, lo, stk, w, iv, kc, ks, sv)] else none) = some sts := h
            by_cases hc : t = 3 ∧ ee_isl x = true ∧ ee_ib iv i n = true
            · rw [if_pos hc] at h
              obtain ⟨rfl, rfl⟩ := ee_nx_some h
              obtain ⟨rfl, hc1, hc2⟩ := hc
              obtain ⟨u, rfl⟩ := ee_isl.ok cx hc1
              obtain ⟨zi, rfl, f3⟩ := ee_ib.ok c1 ci hc2
              obtain ⟨f, rfl⟩ := g2.lngs
              refine va_last hx hb hK hP hD hS j 3 g1 rfl f3 hd (fun H1 lc1 hP1 hD1 hS1 => k _ List.mem_cons_self ns as H1 lc1 ls _ ⟨c1, c2, c3, c4, c5, _, ?_, hP1, hD1, hS1⟩)
              have := c6w.set g1 (ee_c.mkl (ns := ns) (as := as) (ex := ex) (dA := dA) (n := n) (P := P1) (sg := sg) (ov := ov) (f := vp_updL f zi.toNatClampNeg u))
              rwa [ee_set_self hw] at this
            · rw [if_neg hc] at h
              exact ee_no h
          | _ => exact ee_no h
        · rw [if_neg h3] at h
          exact ee_no h
      · exact ee_no h
    | _ => exact ee_no h
def ee_dv (o : Option FieldType) : Value := match o with
  | some ty => defaultValue ty
  | none => .null
def ee_df (r : vw_C) : List Value := (List.range r.2.2).map (fun j => ee_dv (parseFieldDescriptor (r.2.1 j).2.2.1))
def ee_dok (x : Value) : Bool := match x with
  | .int _ => true
  | .long _ => true
  | .null => true
  | _ => false
theorem ee_dok.all {ns : List Int32} {as : List Nat} {ex : Nat → Nat} : ∀ {l : List Value}, l.all ee_dok = true → ee_all (ee_v ns as ex) l l
  | [], _ => trivial
  | x :: l, h => by
    rw [List.all_cons] at h
    obtain ⟨h1, h2⟩ := ee_and h
    refine ⟨?_, ee_dok.all h2⟩
    cases x with
    | int c => rfl
    | long z => rfl
    | null => rfl
    | _ => cases h1
def ee_atp (t : ClassFile.ArrayType) : Nat := match t with
  | .int => 0
  | .byte => 1
  | .boolean => 2
  | .long => 3
  | _ => 9
def ee_h18 : ee_H := fun _ bc bs e st => match st with
  | (pc, lo, stk, w, iv, kc, ks, sv) => if w.length < 1000000 ∧ kc + 1 ≤ bc then (match e.2.1 with
      | .new _ => (match ee_NL[e.2.2.2.2.1]? with
        | some q => (match vwCl[q.2.2.1]? with
          | some r => if ks + r.2.2 ≤ bs ∧ (ee_df r).all ee_dok = true then ee_nx e.2.2.1 3 [(pc + 3, lo, .ref w.length :: stk, w ++ [.inl (q.2.2.1, ee_df r)], iv, kc + 1, ks + r.2.2, sv)] else none
          | none => none)
        | none => none)
      | .newarray at' => (match stk with
        | x :: stk => (match ee_cn iv x with
          | some z => if 0 ≤ z.toInt ∧ z.toInt ≤ 100000 ∧ ks + z.toInt.toNat ≤ bs ∧ ee_atp at' < 4 then ee_nx e.2.2.1 2 [(pc + 2, lo, .ref w.length :: stk, w ++ [.inr (ee_atp at', z.toInt.toNat, 0, [(z.toInt.toNat, 0, 0)], [])], iv, kc + 1, ks + z.toInt.toNat, sv)] else none
          | none => none)
        | [] => none)
      | _ => none) else none
theorem ee_one {s : State} {D : va_G} {dA : Nat → ClassId} {cA : ClassId} {ty : FieldType} {t : Nat} (h : va_K D vwCl (ee_tys dA ++ [(cA, ty)]) s) (ht : (ee_tys dA)[t]? = some (dA t, ty)) (hp : ∀ C, ty ≠ .object C) : cA = dA t := by
  have h1 := (h.2 4 (cA, ty) rfl).2
  have h2 := (h.2 t (dA t, ty) (ee_get_app ht)).2
  cases ty with
  | object C => exact absurd rfl (hp C)
  | _ =>
    have h1 : s.vm.findClass _ = some cA := h1
    have h2 : s.vm.findClass _ = some (dA t) := h2
    rw [h1] at h2
    exact Option.some.inj h2
theorem ee_el0 {ns : List Int32} {as : List Nat} {ex : Nat → Nat} {n : Nat} : ∀ j, j < n → ee_el ns as ex 0 [(n, 0, 0)] [] j ((fun _ => (0 : Int32)) j) := fun j hj => by
  show ee_sgp 0 [(n, 0, 0)] j 0
  rw [ee_sgp_eq, ee_sg1_cons, if_pos (show ee_rj 0 j < n from hj)]
  exact ⟨by decide, by decide⟩
set_option maxHeartbeats 2000000 in
theorem ee_h18.snd : ee_Snd ee_h18 := by
  intro X Y oc own cc ini dm bc bs Q e st sts F ho hi hd he hpc h k
  obtain ⟨p, l, en, R, s, m, args, below, meth, c⟩ := X
  obtain ⟨A, D, dA, ex, x0, a0, sv0, nL⟩ := Y
  obtain ⟨pc, lo, stk, w, iv, kc, ks, sv⟩ := st
  obtain ⟨pc', ins, len, hn, ea, eb, ez, qa, qb, qc⟩ := e
  obtain ⟨hx, hb, hml, hown, hts, hK, hA, hini, hR, hE⟩ := F
  have hpc : pc = pc' := hpc
  subst hpc
  have hd : decode cc pc = .ok (ins, len) := hd
  intro ns as H lc ls vs C
  obtain ⟨c1, c2, c3, c4, c5, c6⟩ := C
  show W p l en R s m args below meth c H lc kc ks Q (F0 m pc ls vs)
  replace h : (if w.length < 1000000 ∧ kc + 1 ≤ bc then (match (generalizing := false) ins with
      | .new _ => (match ee_NL[ea]? with
        | some q => (match vwCl[q.2.2.1]? with
          | some r => if ks + r.2.2 ≤ bs ∧ (ee_df r).all ee_dok = true then ee_nx len 3 [(pc + 3, lo, .ref w.length :: stk, w ++ [.inl (q.2.2.1, ee_df r)], iv, kc + 1, ks + r.2.2, sv)] else none
          | none => none)
        | none => none)
      | .newarray at' => (match (generalizing := false) stk with
        | x :: stk => (match ee_cn iv x with
          | some z => if 0 ≤ z.toInt ∧ z.toInt ≤ 100000 ∧ ks + z.toInt.toNat ≤ bs ∧ ee_atp at' < 4 then ee_nx len 2 [(pc + 2, lo, .ref w.length :: stk, w ++ [.inr (ee_atp at', z.toInt.toNat, 0, [(z.toInt.toNat, 0, 0)], [])], iv, kc + 1, ks + z.toInt.toNat, sv)] else none
          | none => none)
        | [] => none)
      | _ => none) else none) = some sts := h
  by_cases hc : w.length < 1000000 ∧ kc + 1 ≤ bc
  · rw [if_pos hc] at h
    obtain ⟨hwl, hkc⟩ := hc
    obtain ⟨ws, c6w, hP, hD, hS⟩ := c6
    cases ins with
    | new i =>
      replace h : (match ee_NL[ea]? with
        | some q => (match vwCl[q.2.2.1]? with
          | some r => if ks + r.2.2 ≤ bs ∧ (ee_df r).all ee_dok = true then ee_nx len 3 [(pc + 3, lo, Value.ref w.length :: stk, w ++ [.inl (q.2.2.1, ee_df r)], iv, kc + 1, ks + r.2.2, sv)] else none
          | none => none)
        | none => none) = some sts := h
      have hee : (match ee_NL[ea]? with
        | some q => decide (q.1 = oc) && (decide (q.2.1 = i) && decide (q.2.2.1 = qa))
        | none => false) = true := he
      cases hq : ee_NL[ea]? with
      | none => rw [hq] at hee; cases hee
      | some q =>
        rw [hq] at h hee
        simp only at h hee
        obtain ⟨e1, e2⟩ := ee_and hee
        obtain ⟨e2, -⟩ := ee_and e2
        have e1 := of_decide_eq_true e1
        have e2 := of_decide_eq_true e2
        obtain ⟨r, f1, f2, f3, f4⟩ := ee_NLok q (List.mem_of_getElem? hq)
        rw [e1, ee_own_ow ho, e2] at f2
        rw [f1] at h
        simp only at h
        by_cases hc2 : ks + r.2.2 ≤ bs ∧ (ee_df r).all ee_dok = true
        · rw [if_pos hc2] at h
          obtain ⟨rfl, rfl⟩ := ee_nx_some h
          obtain ⟨C, T, N⟩ := r
          obtain ⟨k1, k2, ty0, k3⟩ := ee_kd _ _ f1
          have hks : ks + N ≤ bs := hc2.1
          refine va_new (C := C) (T := T) (N := N) (fs := ee_df (C, T, N)) hx hb hts k1 ty0 (fun z hz => (k3 z hz).1) hown (hts _ f2) (hts _ f3) (hts _ f4) hK hP hD hS hA f1 (fun j hj => ?_) (Nat.le_trans hkc hR.2.2.1) (Nat.le_trans hks hR.2.2.2) hd (fun q9 H1 hP1 hD1 hS1 => ?_)
          · unfold vp_V ee_df
            rw [List.getD_eq_getElem?_getD, List.getElem?_map, List.getElem?_range hj]
            simp only [Option.map_some, Option.getD_some]
            have h3 := (k3 j hj).1
            rw [show parseFieldDescriptor (((C, T, N) : vw_C).2.1 j).2.2.1 = some (ty0 j) from h3]
            rfl
          · exact k _ List.mem_cons_self ns (as ++ [q9]) H1 lc ls _ (ee_Con.born c1 c2 c3 c4 c5 c6w ⟨_, rfl, ee_dok.all hc2.2⟩ hP1 hD1 hS1 hwl)
        · rw [if_neg hc2] at h
          exact ee_no h
    | newarray at' =>
      cases stk with
      | nil => exact ee_no h
      | cons x stk =>
        cases vs with
        | nil => exact c4.elim
        | cons v vs =>
          obtain ⟨c4v, c4⟩ := c4
          replace h : (match ee_cn iv x with
            | some z => if 0 ≤ z.toInt ∧ z.toInt ≤ 100000 ∧ ks + z.toInt.toNat ≤ bs ∧ ee_atp at' < 4 then ee_nx len 2 [(pc + 2, lo, Value.ref w.length :: stk, w ++ [.inr (ee_atp at', z.toInt.toNat, 0, [(z.toInt.toNat, 0, 0)], [])], iv, kc + 1, ks + z.toInt.toNat, sv)] else none
            | none => none) = some sts := h
          cases hq : ee_cn iv x with
          | none => rw [hq] at h; exact ee_no h
          | some z =>
            rw [hq] at h
            simp only at h
            have hv := ee_cn.int c1 c4v hq
            subst hv
            by_cases hc2 : 0 ≤ z.toInt ∧ z.toInt ≤ 100000 ∧ ks + z.toInt.toNat ≤ bs ∧ ee_atp at' < 4
            · rw [if_pos hc2] at h
              obtain ⟨rfl, rfl⟩ := ee_nx_some h
              obtain ⟨z1, z2, z3, z4⟩ := hc2
              have zn : ¬ z < 0 := fun q => by
                have := Int32.lt_iff_toInt_lt.mp q
                rw [Int32.toInt_zero] at this
                omega
              have zc : z.toNatClampNeg = z.toInt.toNat := rfl
              have hcl : kc + 1 ≤ R.cells := Nat.le_trans hkc hR.2.2.1
              have hsl : ks + z.toInt.toNat ≤ R.slots := Nat.le_trans z3 hR.2.2.2
              obtain ⟨a1, a2, a3, a4⟩ := ee_arr
              cases at' with
              | int =>
                refine va_newa (atype := .int) (ty := .int) (a0 := (z.toInt.toNat, .inl (fun _ => 0))) hx hb (hts _ a1) rfl hK hP hD hS hA (fun cA => rfl) zn zc (by show z.toInt.toNat * 4 ≤ _; omega) hcl hsl hd (fun q9 cA H1 hK1 hP1 hD1 hS1 => ?_)
                have hcA := ee_one hK1 (t := 0) rfl (fun _ q => by cases q)
                subst hcA
                exact k _ List.mem_cons_self ns (as ++ [q9]) H1 lc ls _ (ee_Con.born c1 c2 c3 c4 c5 c6w (ee_c.mk (by decide) ee_el0) hP1 hD1 hS1 hwl)
              | byte =>
                refine va_newa (atype := .byte) (ty := .byte) (a0 := (z.toInt.toNat, .inl (fun _ => 0))) hx hb (hts _ a2) rfl hK hP hD hS hA (fun cA => rfl) zn zc (by show z.toInt.toNat * 1 ≤ _; omega) hcl hsl hd (fun q9 cA H1 hK1 hP1 hD1 hS1 => ?_)
                have hcA := ee_one hK1 (t := 1) rfl (fun _ q => by cases q)
                subst hcA
                exact k _ List.mem_cons_self ns (as ++ [q9]) H1 lc ls _ (ee_Con.born c1 c2 c3 c4 c5 c6w (ee_c.mk (by decide) ee_el0) hP1 hD1 hS1 hwl)
              | boolean =>
                refine va_newa (atype := .boolean) (ty := .boolean) (a0 := (z.toInt.toNat, .inl (fun _ => 0))) hx hb (hts _ a3) rfl hK hP hD hS hA (fun cA => rfl) zn zc (by show z.toInt.toNat * 1 ≤ _; omega) hcl hsl hd (fun q9 cA H1 hK1 hP1 hD1 hS1 => ?_)
                have hcA := ee_one hK1 (t := 2) rfl (fun _ q => by cases q)
                subst hcA
                exact k _ List.mem_cons_self ns (as ++ [q9]) H1 lc ls _ (ee_Con.born c1 c2 c3 c4 c5 c6w (ee_c.mk (by decide) ee_el0) hP1 hD1 hS1 hwl)
              | long =>
                refine va_newa (atype := .long) (ty := .long) (a0 := (z.toInt.toNat, .inr (.inl (fun _ => 0)))) hx hb (hts _ a4) rfl hK hP hD hS hA (fun cA => rfl) zn zc (by show z.toInt.toNat * 8 ≤ _; omega) hcl hsl hd (fun q9 cA H1 hK1 hP1 hD1 hS1 => ?_)
                have hcA := ee_one hK1 (t := 3) rfl (fun _ q => by cases q)
                subst hcA
                exact k _ List.mem_cons_self ns (as ++ [q9]) H1 lc ls _ (ee_Con.born c1 c2 c3 c4 c5 c6w ee_c.mkl hP1 hD1 hS1 hwl)
              | _ => exact absurd z4 (by decide)
            · rw [if_neg hc2] at h
              exact ee_no h
    | _ => exact ee_no h
  · rw [if_neg hc] at h
    exact ee_no h
def ee_h19 : ee_H := fun _ _ _ e st => match st with
  | (pc, lo, stk, w, iv, kc, ks, sv) => (match e.2.1 with
      | .getstatic _ => if e.2.2.2.2.2.1 = 0 then (match ee_ZL[e.2.2.2.2.1]? with
        | some q => ee_nx e.2.2.1 3 [(pc + 3, lo, (if q.2.2.1 = 0 then .int 1 else .float 0) :: stk, w, iv, kc, ks, sv)]
        | none => none) else none
      | _ => none)
set_option maxHeartbeats 2000000 in
theorem ee_h19.snd : ee_Snd ee_h19 := by
  intro X Y oc own cc ini dm bc bs Q e st sts F ho hi hd he hpc h k
  obtain ⟨p, l, en, R, s, m, args, below, meth, c⟩ := X
  obtain ⟨A, D, dA, ex, x0, a0, sv0, nL⟩ := Y
  obtain ⟨pc, lo, stk, w, iv, kc, ks, sv⟩ := st
  obtain ⟨pc', ins, len, hn, ea, eb, ez, qa, qb, qc⟩ := e
  obtain ⟨hx, hb, hml, hown, hts, hK, hA, hini, hR, hE⟩ := F
  have hpc : pc = pc' := hpc
  subst hpc
  have hd : decode cc pc = .ok (ins, len) := hd
  intro ns as H lc ls vs C
  obtain ⟨c1, c2, c3, c4, c5, c6⟩ := C
  show W p l en R s m args below meth c H lc kc ks Q (F0 m pc ls vs)
  cases ins with
  | getstatic i =>
    replace h : (if eb = 0 then (match ee_ZL[ea]? with
        | some q => ee_nx len 3 [(pc + 3, lo, (if q.2.2.1 = 0 then .int 1 else .float 0) :: stk, w, iv, kc, ks, sv)]
        | none => none) else none) = some sts := h
    have hee : (if eb = 0 then (match ee_ZL[ea]? with
        | some q => decide (q.1 = oc) && (decide (q.2.1 = i) && decide (q.2.2.1 = qa))
        | none => false) else true) = true := he
    by_cases h0 : eb = 0
    · rw [if_pos h0] at h hee
      cases hq : ee_ZL[ea]? with
      | none => rw [hq] at hee; cases hee
      | some q =>
        rw [hq] at h hee
        simp only at h hee
        obtain ⟨e1, e2⟩ := ee_and hee
        obtain ⟨e2, -⟩ := ee_and e2
        have e1 := of_decide_eq_true e1
        have e2 := of_decide_eq_true e2
        have f3 := ee_ZLok q (List.mem_of_getElem? hq)
        rw [e1, ee_own_ow ho, e2] at f3
        obtain ⟨rfl, rfl⟩ := ee_nx_some h
        obtain ⟨ws, c6w, hP, hD, hS⟩ := c6
        by_cases hz : q.2.2.1 = 0
        · rw [if_pos hz] at k
          rw [hz] at f3
          exact va_gets hx hb hE.2.2.1 hS hown (hts _ f3) (fun _ z => z) hd (k _ List.mem_cons_self ns as H lc ls _ ⟨c1, c2, c3, ⟨rfl, c4⟩, c5, ws, c6w, hP, hD, hS⟩)
        · rw [if_neg hz] at k
          rw [show ee_zf q.2.2.1 = ("jdk/internal/util/Preconditions", "SIOOBE_FORMATTER", "Ljava/util/function/BiFunction;") by unfold ee_zf; rw [if_neg hz]] at f3
          rcases hE.2.2.2 with g | ⟨t, g⟩
          · exact va_gets hx hb g hS hown (hts _ f3) (fun _ z => z) hd (k _ List.mem_cons_self ns as H lc ls _ ⟨c1, c2, c3, ⟨Or.inl rfl, c4⟩, c5, ws, c6w, hP, hD, hS⟩)
          · exact va_gets hx hb g hS hown (hts _ f3) (fun _ z => z) hd (k _ List.mem_cons_self ns as H lc ls _ ⟨c1, c2, c3, ⟨Or.inr ⟨t, rfl⟩, c4⟩, c5, ws, c6w, hP, hD, hS⟩)
    · rw [if_neg h0] at h
      exact ee_no h
  | _ => exact ee_no h
