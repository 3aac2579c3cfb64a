/-! handlers: arrays read -/
def ee_h16 : ee_H := fun _ _ _ e st => match st with
  | (pc, lo, .ref k :: stk, w, iv, kc, ks, sv) => (match e.2.1 with
      | .arraylength => if k = 2000000 then ee_nx e.2.2.1 1 [(pc + 1, lo, .retAddr 6 :: stk, w, iv, kc, ks, sv)] else if 1000100 ≤ k ∧ k < 1000102 then ee_nx e.2.2.1 1 [(pc + 1, lo, .int (Int32.ofNat (ee_len.getD (k - 1000100) 0)) :: stk, w, iv, kc, ks, sv)] else (match w[k]? with
        | some (.inr (_, n, _, _, _)) => if k < 1000000 then ee_nx e.2.2.1 1 [(pc + 1, lo, .int (Int32.ofNat n) :: stk, w, iv, kc, ks, sv)] else none
        | _ => none)
      | _ => none)
  | _ => none
theorem ee_x0 {ns x0 : List Int32} {j : Nat} {z : Int32} (h : ∃ r, ns = x0 ++ r) (hz : x0[j]? = some z) : ns[j]? = some z := by
  obtain ⟨r, rfl⟩ := h
  exact ee_get_app hz
/-- an array's cell, whatever its kind -/
theorem ee_c.arr {ns : List Int32} {as : List Nat} {ex : Nat → Nat} {dA : Nat → ClassId} {t n : Nat} {a b : Int} {ov : List (Nat × Value)} {e : va_E} (h : ee_c ns as ex dA (.inr (t, n, a, b, ov)) e) : t < 4 ∧ ∃ y : vp_A, e = .inl (dA t, y) ∧ y.1 = n := by
  unfold ee_c at h
  by_cases ht : t = 3
  · simp only [ht, if_true] at h
    obtain ⟨f, rfl⟩ := h
    exact ⟨by omega, _, by rw [ht], rfl⟩
  · simp only [ht, if_false] at h
    obtain ⟨h0, f, rfl, -⟩ := h
    exact ⟨by omega, _, rfl, rfl⟩
theorem ee_c.ints {ns : List Int32} {as : List Nat} {ex : Nat → Nat} {dA : Nat → ClassId} {t n : Nat} {a b : Int} {ov : List (Nat × Value)} {e : va_E} (h : ee_c ns as ex dA (.inr (t, n, a, b, ov)) e) (ht : t < 3) : ∃ f : Nat → Int32, e = .inl (dA t, n, .inl f) ∧ ∀ j, j < n → ee_el ns as ex a b ov j (f j) := by
  unfold ee_c at h
  simp only [show ¬ t = 3 by omega, if_false] at h
  obtain ⟨-, f, h1, h2⟩ := h
  exact ⟨f, h1, h2⟩
theorem ee_tys_at {dA : Nat → ClassId} {t : Nat} (h : t < 4) : ∃ ty, (ee_tys dA)[t]? = some (dA t, ty) := by
  match t, h with
  | 0, _ => exact ⟨_, rfl⟩
  | 1, _ => exact ⟨_, rfl⟩
  | 2, _ => exact ⟨_, rfl⟩
  | 3, _ => exact ⟨_, rfl⟩
set_option maxHeartbeats 2000000 in
theorem ee_h16.snd : ee_Snd ee_h16 := by
  intro X Y oc own cc ini dm bc bs Q e st sts F ho hi hd he hpc h k
  obtain ⟨p, l, en, R, s, m, args, below, meth, c⟩ := X
  obtain ⟨A, D, dA, ex, x0, sv0, nL⟩ := Y
  obtain ⟨pc, lo, stk, w, iv, kc, ks, sv⟩ := st
  obtain ⟨pc', ins, len, hn, ea, eb, ez⟩ := e
  obtain ⟨hx, hb, hml, hown, hts, hK, hA, hini, hR, hE⟩ := F
  have hpc : pc = pc' := hpc
  subst hpc
  have hd : decode cc pc = .ok (ins, len) := hd
  intro ns as H lc ls vs C
  obtain ⟨c1, c2, c3, c4, c5, c6⟩ := C
  show W p l en R s m args below meth c H lc kc ks Q (F0 m pc ls vs)
  cases stk with
  | nil => exact ee_no h
  | cons x stk =>
    cases vs with
    | nil => exact c4.elim
    | cons v vs =>
      obtain ⟨c4v, c4⟩ := c4
      cases x with
      | ref j =>
        obtain ⟨a, rfl⟩ := ee_v.ref c4v
        cases ins with
        | arraylength =>
          replace h : (if j = 2000000 then ee_nx len 1 [(pc + 1, lo, .retAddr 6 :: stk, w, iv, kc, ks, sv)] else if 1000100 ≤ j ∧ j < 1000102 then ee_nx len 1 [(pc + 1, lo, .int (Int32.ofNat (ee_len.getD (j - 1000100) 0)) :: stk, w, iv, kc, ks, sv)] else (match w[j]? with
            | some (.inr (_, n, _, _, _)) => if j < 1000000 then ee_nx len 1 [(pc + 1, lo, .int (Int32.ofNat n) :: stk, w, iv, kc, ks, sv)] else none
            | _ => none)) = some sts := h
          obtain ⟨ws, c6w, hP, hD, hS⟩ := c6
          by_cases h1 : j = 2000000
          · rw [if_pos h1] at h
            obtain ⟨rfl, rfl⟩ := ee_nx_some h
            subst h1
            have ha := c4v.out (by decide)
            subst ha
            obtain ⟨L, xs, g1, g2, g3, g4, g5, g6⟩ := hE.2.2.2.2
            exact va_slen hx hb g1 g2 g3 hS hd (k _ List.mem_cons_self ns as H lc ls _ ⟨c1, c2, c3, ⟨⟨_, ee_x0 c2 g4, rfl⟩, c4⟩, c5, ws, c6w, hP, hD, hS⟩)
          · rw [if_neg h1] at h
            by_cases h2 : 1000100 ≤ j ∧ j < 1000102
            · rw [if_pos h2] at h
              obtain ⟨rfl, rfl⟩ := ee_nx_some h
              obtain ⟨h21, h22⟩ := h2
              have ha := c4v.out (Nat.not_lt.mpr (Nat.le_trans (by decide) h21))
              subst ha
              obtain ⟨i0, hi0, rfl⟩ : ∃ i0, i0 < 2 ∧ j = 1000100 + i0 := ⟨j - 1000100, Nat.sub_lt_left_of_lt_add h21 h22, (Nat.add_sub_of_le h21).symm⟩
              obtain ⟨-, -, -, g4⟩ := hE.1.1 i0 hi0
              rw [Nat.add_sub_cancel_left] at k
              exact va_tlen hx hb g4 hS rfl hd (k _ List.mem_cons_self ns as H lc ls _ ⟨c1, c2, c3, ⟨rfl, c4⟩, c5, ws, c6w, hP, hD, hS⟩)
            · rw [if_neg h2] at h
              split at h
              · rename_i t n a1 b1 ov hw
                by_cases h3 : j < 1000000
                · rw [if_pos h3] at h
                  obtain ⟨rfl, rfl⟩ := ee_nx_some h
                  obtain ⟨ec, g1, g2⟩ := c6w.at hw (c4v.at h3)
                  obtain ⟨t4, y, rfl, g3⟩ := g2.arr
                  obtain ⟨ty, hty⟩ := ee_tys_at (dA := dA) t4
                  exact va_alen hx hb hK hP j t g1 hty (by rw [g3]) hd (k _ List.mem_cons_self ns as H lc ls _ ⟨c1, c2, c3, ⟨rfl, c4⟩, c5, ws, c6w, hP, hD, hS⟩)
                · rw [if_neg h3] at h
                  exact ee_no h
              · exact ee_no h
        | _ => exact ee_no h
      | _ => exact ee_no h
def ee_h22 : ee_H := fun _ _ _ e st => match st with
  | (pc, lo, i :: .ref k :: stk, w, iv, kc, ks, sv) => (match e.2.1 with
      | .iaload => if k = 2000000 then (match ee_cn iv (.retAddr 6) with
          | some z => (match ee_ix iv i z.toInt.toNat with
            | some j => ee_nx e.2.2.1 1 [(pc + 1, lo, .retAddr j :: stk, w, iv, kc, ks, sv)]
            | none => none)
          | none => none) else (match w[k]? with
          | some (.inr (t, n, a, b, ov)) => if t = 0 ∧ k < 1000000 then (match ee_ix iv i n with
            | some j => (match ee_rd a b ov j with
              | some x => ee_nx e.2.2.1 1 [(pc + 1, lo, x :: stk, w, iv, kc, ks, sv)]
              | none => none)
            | none => if ee_sp iv i ≠ [] then some ((ee_sp iv i).map (fun iv' => (pc, lo, i :: .ref k :: stk, w, iv', kc, ks, sv))) else none) else none
          | _ => none)
      | .baload => if 1000100 ≤ k ∧ k < 1000102 then (match ee_ix iv i (ee_len.getD (k - 1000100) 0) with
          | some j => ee_nx e.2.2.1 1 [(pc + 1, lo, .int ((ee_byt.getD (k - 1000100) []).getD j 0) :: stk, w, iv, kc, ks, sv)]
          | none => none) else (match w[k]? with
          | some (.inr (t, n, a, b, ov)) => if (t = 1 ∨ t = 2) ∧ k < 1000000 then (match ee_ix iv i n with
            | some j => (match ee_rd a b ov j with
              | some x => ee_nx e.2.2.1 1 [(pc + 1, lo, x :: stk, w, iv, kc, ks, sv)]
              | none => none)
            | none => if ee_sp iv i ≠ [] then some ((ee_sp iv i).map (fun iv' => (pc, lo, i :: .ref k :: stk, w, iv', kc, ks, sv))) else none) else none
          | _ => none)
      | .laload => (match w[k]? with
          | some (.inr (t, n, _, _, _)) => if t = 3 ∧ k < 1000000 ∧ ee_ib iv i n = true then ee_nx e.2.2.1 1 [(pc + 1, lo, .long 0 :: stk, w, iv, kc, ks, sv)] else none
          | _ => none)
      | _ => none)
  | _ => none
set_option maxHeartbeats 2000000 in
theorem ee_h22.snd : ee_Snd ee_h22 := by
  intro X Y oc own cc ini dm bc bs Q e st sts F ho hi hd he hpc h k
  obtain ⟨p, l, en, R, s, m, args, below, meth, c⟩ := X
  obtain ⟨A, D, dA, ex, x0, sv0, nL⟩ := Y
  obtain ⟨pc, lo, stk, w, iv, kc, ks, sv⟩ := st
  obtain ⟨pc', ins, len, hn, ea, eb, ez⟩ := e
  obtain ⟨hx, hb, hml, hown, hts, hK, hA, hini, hR, hE⟩ := F
  have hpc : pc = pc' := hpc
  subst hpc
  have hd : decode cc pc = .ok (ins, len) := hd
  intro ns as H lc ls vs C
  obtain ⟨c1, c2, c3, c4, c5, c6⟩ := C
  show W p l en R s m args below meth c H lc kc ks Q (F0 m pc ls vs)
  match stk, vs, c4, h with
  | [], _, _, h => exact ee_no h
  | [_], _, _, h => exact ee_no h
  | y :: x :: stk, [], c4, h => exact c4.elim
  | y :: x :: stk, [_], c4, h => exact c4.2.elim
  | i :: y :: stk, vi :: vy :: vs, ⟨ci, cy, c4⟩, h =>
    cases y with
    | ref j =>
      obtain ⟨a, rfl⟩ := ee_v.ref cy
      obtain ⟨ws, c6w, hP, hD, hS⟩ := c6
      have halve : ee_sp iv i ≠ [] → sts = (ee_sp iv i).map (fun iv' => (pc, lo, i :: .ref j :: stk, w, iv', kc, ks, sv)) → W p l en R s m args below meth c H lc kc ks Q (F0 m pc ls (vi :: .ref a :: vs)) := fun hs hq => by
        obtain ⟨iv', g1, g2⟩ := ee_sp.ok c1 ci hs
        exact k (pc, lo, i :: .ref j :: stk, w, iv', kc, ks, sv) (by rw [hq]; exact List.mem_map.mpr ⟨iv', g1, rfl⟩) ns as H lc ls _ ⟨g2, c2, c3, ⟨ci, cy, c4⟩, c5, ws, c6w, hP, hD, hS⟩
      cases ins with
      | iaload =>
        replace h : (if j = 2000000 then (match ee_cn iv (.retAddr 6) with
          | some z => (match ee_ix iv i z.toInt.toNat with
            | some j => ee_nx len 1 [(pc + 1, lo, .retAddr j :: stk, w, iv, kc, ks, sv)]
            | none => none)
          | none => none) else (match w[j]? with
          | some (.inr (t, n, a, b, ov)) => if t = 0 ∧ j < 1000000 then (match ee_ix iv i n with
            | some z => (match ee_rd a b ov z with
              | some x => ee_nx len 1 [(pc + 1, lo, x :: stk, w, iv, kc, ks, sv)]
              | none => none)
            | none => if ee_sp iv i ≠ [] then some ((ee_sp iv i).map (fun iv' => (pc, lo, i :: .ref j :: stk, w, iv', kc, ks, sv))) else none) else none
          | _ => none)) = some sts := h
        by_cases h1 : j = 2000000
        · rw [if_pos h1] at h
          subst h1
          have ha := cy.out (by decide)
          subst ha
          obtain ⟨L, xs, g1, g2, g3, g4, g5, g6⟩ := hE.2.2.2.2
          cases hq : ee_cn iv (.retAddr 6) with
          | none => rw [hq] at h; exact ee_no h
          | some z =>
            rw [hq] at h
            simp only at h
            have hz0 : ee_v ns as ex (.retAddr 6) (.int (nI L)) := ⟨_, ee_x0 c2 g4, rfl⟩
            have hz : Value.int (nI L) = Value.int z := ee_cn.int c1 hz0 hq
            cases hz
            rw [nI_toInt (by omega), Int.toNat_natCast] at h
            cases hr : ee_ix iv i L with
            | none => rw [hr] at h; exact ee_no h
            | some j =>
              rw [hr] at h
              obtain ⟨rfl, rfl⟩ := ee_nx_some h
              obtain ⟨z, rfl, f1, f2, f3⟩ := ee_ix.ok c1 ci hr
              refine va_sld hx hb g1 g2 g3 hS f3 hd (k _ List.mem_cons_self ns as H lc ls _ ⟨c1, c2, c3, ⟨⟨_, ee_x0 c2 (g6 j f2), by rw [f1]⟩, c4⟩, c5, ws, c6w, hP, hD, hS⟩)
        · rw [if_neg h1] at h
          split at h
          · rename_i t n a1 b1 ov hw
            by_cases h2 : t = 0 ∧ j < 1000000
            · rw [if_pos h2] at h
              obtain ⟨rfl, h3⟩ := h2
              obtain ⟨ec, g1, g2⟩ := c6w.at hw (cy.at h3)
              obtain ⟨f, rfl, g3⟩ := g2.ints (by omega)
              cases hr : ee_ix iv i n with
              | none =>
                rw [hr] at h
                simp only at h
                by_cases hs : ee_sp iv i ≠ []
                · rw [if_pos hs] at h
                  cases h
                  exact halve hs rfl
                · rw [if_neg hs] at h
                  exact ee_no h
              | some z =>
                rw [hr] at h
                simp only at h
                cases hrd : ee_rd a1 b1 ov z with
                | none => rw [hrd] at h; exact ee_no h
                | some x =>
                  rw [hrd] at h
                  obtain ⟨rfl, rfl⟩ := ee_nx_some h
                  obtain ⟨q, rfl, f1, f2, f3⟩ := ee_ix.ok c1 ci hr
                  exact va_iald hx hb hK hP j 0 g1 rfl f3 hd (k _ List.mem_cons_self ns as H lc ls _ ⟨c1, c2, c3, ⟨by rw [f1]; exact ee_rd.ok (g3 z f2) hrd, c4⟩, c5, ws, c6w, hP, hD, hS⟩)
            · rw [if_neg h2] at h
              exact ee_no h
          · exact ee_no h
      | baload =>
        replace h : (if 1000100 ≤ j ∧ j < 1000102 then (match ee_ix iv i (ee_len.getD (j - 1000100) 0) with
          | some z => ee_nx len 1 [(pc + 1, lo, .int ((ee_byt.getD (j - 1000100) []).getD z 0) :: stk, w, iv, kc, ks, sv)]
          | none => none) else (match w[j]? with
          | some (.inr (t, n, a, b, ov)) => if (t = 1 ∨ t = 2) ∧ j < 1000000 then (match ee_ix iv i n with
            | some z => (match ee_rd a b ov z with
              | some x => ee_nx len 1 [(pc + 1, lo, x :: stk, w, iv, kc, ks, sv)]
              | none => none)
            | none => if ee_sp iv i ≠ [] then some ((ee_sp iv i).map (fun iv' => (pc, lo, i :: .ref j :: stk, w, iv', kc, ks, sv))) else none) else none
          | _ => none)) = some sts := h
        by_cases h1 : 1000100 ≤ j ∧ j < 1000102
        · rw [if_pos h1] at h
          obtain ⟨h21, h22⟩ := h1
          have ha := cy.out (Nat.not_lt.mpr (Nat.le_trans (by decide) h21))
          subst ha
          obtain ⟨i0, hi0, rfl⟩ : ∃ i0, i0 < 2 ∧ j = 1000100 + i0 := ⟨j - 1000100, Nat.sub_lt_left_of_lt_add h21 h22, (Nat.add_sub_of_le h21).symm⟩
          obtain ⟨-, -, -, g4⟩ := hE.1.1 i0 hi0
          rw [Nat.add_sub_cancel_left] at h
          cases hr : ee_ix iv i (ee_len.getD i0 0) with
          | none => rw [hr] at h; exact ee_no h
          | some z =>
            rw [hr] at h
            obtain ⟨rfl, rfl⟩ := ee_nx_some h
            obtain ⟨q, rfl, f1, f2, f3⟩ := ee_ix.ok c1 ci hr
            exact va_tb hx hb g4 hS f3 rfl hd (k _ List.mem_cons_self ns as H lc ls _ ⟨c1, c2, c3, ⟨by rw [f1]; rfl, c4⟩, c5, ws, c6w, hP, hD, hS⟩)
        · rw [if_neg h1] at h
          split at h
          · rename_i t n a1 b1 ov hw
            by_cases h2 : (t = 1 ∨ t = 2) ∧ j < 1000000
            · rw [if_pos h2] at h
              obtain ⟨ht, h3⟩ := h2
              obtain ⟨ec, g1, g2⟩ := c6w.at hw (cy.at h3)
              obtain ⟨f, rfl, g3⟩ := g2.ints (by omega)
              cases hr : ee_ix iv i n with
              | none =>
                rw [hr] at h
                simp only at h
                by_cases hs : ee_sp iv i ≠ []
                · rw [if_pos hs] at h
                  cases h
                  exact halve hs rfl
                · rw [if_neg hs] at h
                  exact ee_no h
              | some z =>
                rw [hr] at h
                simp only at h
                cases hrd : ee_rd a1 b1 ov z with
                | none => rw [hrd] at h; exact ee_no h
                | some x =>
                  rw [hrd] at h
                  obtain ⟨rfl, rfl⟩ := ee_nx_some h
                  obtain ⟨q, rfl, f1, f2, f3⟩ := ee_ix.ok c1 ci hr
                  have kk := k _ List.mem_cons_self ns as H lc ls (.int (f q.toNatClampNeg) :: vs) ⟨c1, c2, c3, ⟨by rw [f1]; exact ee_rd.ok (g3 z f2) hrd, c4⟩, c5, ws, c6w, hP, hD, hS⟩
                  rcases ht with rfl | rfl
                  · exact va_bald hx hb hK hP j 1 g1 rfl f3 hd kk
                  · exact va_zald hx hb hK hP j 2 g1 rfl f3 hd kk
            · rw [if_neg h2] at h
              exact ee_no h
          · exact ee_no h
      | laload =>
        replace h : (match w[j]? with
          | some (.inr (t, n, _, _, _)) => if t = 3 ∧ j < 1000000 ∧ ee_ib iv i n = true then ee_nx len 1 [(pc + 1, lo, .long 0 :: stk, w, iv, kc, ks, sv)] else none
          | _ => none) = some sts := h
        split at h
        · rename_i t n a1 b1 ov hw
          by_cases h2 : t = 3 ∧ j < 1000000 ∧ ee_ib iv i n = true
          · rw [if_pos h2] at h
            obtain ⟨rfl, rfl⟩ := ee_nx_some h
            obtain ⟨rfl, h3, h4⟩ := h2
            obtain ⟨ec, g1, g2⟩ := c6w.at hw (cy.at h3)
            unfold ee_c at g2
            simp only [if_true] at g2
            obtain ⟨f, rfl⟩ := g2
            obtain ⟨q, rfl, f3⟩ := ee_ib.ok c1 ci h4
            exact va_lald hx hb hK hP j 3 g1 rfl f3 hd (k _ List.mem_cons_self ns as H lc ls _ ⟨c1, c2, c3, ⟨⟨_, rfl⟩, c4⟩, c5, ws, c6w, hP, hD, hS⟩)
          · rw [if_neg h2] at h
            exact ee_no h
        · exact ee_no h
      | _ => exact ee_no h
    | _ => exact ee_no h
