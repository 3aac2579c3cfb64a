/-! handlers: arrays read -/
def ee_h16 : ee_H := fun _ _ _ e st => match st with
  | (pc, lo, .ref k :: stk, w, iv, kc, ks, sv) => (match e.2.1 with
      | .arraylength => if 1000100 ≤ k ∧ k < 1000102 then ee_nx e.2.2.1 1 [(pc + 1, lo, .int (Int32.ofNat (ee_len.getD (k - 1000100) 0)) :: stk, w, iv, kc, ks, sv)] else (match w[k]? with
        | some (.inr (_, n, _, _, _)) => if k < 1000000 then ee_nx e.2.2.1 1 [(pc + 1, lo, .int (Int32.ofNat n) :: stk, w, iv, kc, ks, sv)] else none
        | _ => none)
      | _ => none)
  | _ => none
/-- an array's cell, whatever its kind -/
theorem ee_c.arr {ns : List Int32} {as : List Nat} {ex : Nat → Nat} {dA : Nat → ClassId} {t n P : Nat} {sg : List (Nat × Int × Int)} {ov : List (Nat × Value)} {e : va_E} (h : ee_c ns as ex dA (.inr (t, n, P, sg, ov)) e) : ∃ t', t' < 4 ∧ ∃ y : vp_A, e = .inl (dA t', y) ∧ y.1 = n := by
  unfold ee_c at h
  by_cases ht : t = 3
  · simp only [ht, if_true] at h
    obtain ⟨f, rfl⟩ := h
    exact ⟨3, by omega, _, rfl, rfl⟩
  · simp only [ht, if_false] at h
    by_cases h4 : t = 4
    · simp only [h4, if_true] at h
      obtain ⟨f, rfl, -⟩ := h
      exact ⟨0, by omega, _, rfl, rfl⟩
    · simp only [h4, if_false] at h
      obtain ⟨h0, f, rfl, -⟩ := h
      exact ⟨t, by omega, _, rfl, rfl⟩
theorem ee_c.ints {ns : List Int32} {as : List Nat} {ex : Nat → Nat} {dA : Nat → ClassId} {t n P : Nat} {sg : List (Nat × Int × Int)} {ov : List (Nat × Value)} {e : va_E} (h : ee_c ns as ex dA (.inr (t, n, P, sg, ov)) e) (ht : t < 3) : ∃ f : Nat → Int32, e = .inl (dA t, n, .inl f) ∧ ∀ j, j < n → ee_el ns as ex P sg ov j (f j) := by
  unfold ee_c at h
  simp only [show ¬ t = 3 by omega, show ¬ t = 4 by omega, if_false] at h
  obtain ⟨-, f, h1, h2⟩ := h
  exact ⟨f, h1, h2⟩
theorem ee_c.mk {ns : List Int32} {as : List Nat} {ex : Nat → Nat} {dA : Nat → ClassId} {t n P : Nat} {sg : List (Nat × Int × Int)} {ov : List (Nat × Value)} {f : Nat → Int32} (ht : t < 3) (h : ∀ j, j < n → ee_el ns as ex P sg ov j (f j)) : ee_c ns as ex dA (.inr (t, n, P, sg, ov)) (.inl (dA t, n, .inl f)) := by
  unfold ee_c
  simp only [show ¬ t = 3 by omega, show ¬ t = 4 by omega, if_false]
  exact ⟨ht, f, rfl, h⟩
theorem ee_c.lngs {ns : List Int32} {as : List Nat} {ex : Nat → Nat} {dA : Nat → ClassId} {n P : Nat} {sg : List (Nat × Int × Int)} {ov : List (Nat × Value)} {e : va_E} (h : ee_c ns as ex dA (.inr (3, n, P, sg, ov)) e) : ∃ f : Nat → Int64, e = .inl (dA 3, n, .inr (.inl f)) := by
  unfold ee_c at h
  simp only [if_true] at h
  exact h
theorem ee_c.mkl {ns : List Int32} {as : List Nat} {ex : Nat → Nat} {dA : Nat → ClassId} {n P : Nat} {sg : List (Nat × Int × Int)} {ov : List (Nat × Value)} {f : Nat → Int64} : ee_c ns as ex dA (.inr (3, n, P, sg, ov)) (.inl (dA 3, n, .inr (.inl f))) := by
  unfold ee_c
  simp only [if_true]
  exact ⟨f, rfl⟩
theorem ee_tys_at {dA : Nat → ClassId} {t : Nat} (h : t < 4) : ∃ ty, (ee_tys dA)[t]? = some (dA t, ty) := by
  match t, h with
  | 0, _ => exact ⟨_, rfl⟩
  | 1, _ => exact ⟨_, rfl⟩
  | 2, _ => exact ⟨_, rfl⟩
  | 3, _ => exact ⟨_, rfl⟩
set_option maxHeartbeats 2000000 in
theorem ee_h16.snd : ee_Snd ee_h16 := by
  intro X Y oc own cc ini dm bc bs Q e st sts F ho hi hd he hpc h k
  obtain ⟨p, l, en, R, s, m, args, below, meth, c⟩ := X
  obtain ⟨A, D, dA, ex, x0, a0, sv0, nL⟩ := Y
  obtain ⟨pc, lo, stk, w, iv, kc, ks, sv⟩ := st
  obtain ⟨pc', ins, len, hn, ea, eb, ez, qa, qb, qc⟩ := e
  obtain ⟨hx, hb, hml, hown, hts, hK, hA, hini, hR, hE⟩ := F
  have hpc : pc = pc' := hpc
  subst hpc
  have hd : decode cc pc = .ok (ins, len) := hd
  intro ns as H lc ls vs C
  obtain ⟨c1, c2, c3, c4, c5, c6⟩ := C
  show W p l en R s m args below meth c H lc kc ks Q (F0 m pc ls vs)
  cases stk with
  | nil => exact ee_no h
  | cons x stk =>
    cases vs with
    | nil => exact c4.elim
    | cons v vs =>
      obtain ⟨c4v, c4⟩ := c4
      cases x with
      | ref j =>
        obtain ⟨a, rfl⟩ := ee_v.ref c4v
        cases ins with
        | arraylength =>
          replace h : (if 1000100 ≤ j ∧ j < 1000102 then ee_nx len 1 [(pc + 1, lo, .int (Int32.ofNat (ee_len.getD (j - 1000100) 0)) :: stk, w, iv, kc, ks, sv)] else (match w[j]? with
            | some (.inr (_, n, _, _, _)) => if j < 1000000 then ee_nx len 1 [(pc + 1, lo, .int (Int32.ofNat n) :: stk, w, iv, kc, ks, sv)] else none
            | _ => none)) = some sts := h
          obtain ⟨ws, c6w, hP, hD, hS⟩ := c6
          by_cases h2 : 1000100 ≤ j ∧ j < 1000102
          · rw [if_pos h2] at h
            obtain ⟨rfl, rfl⟩ := ee_nx_some h
            obtain ⟨h21, h22⟩ := h2
            have ha := c4v.out (Nat.not_lt.mpr (Nat.le_trans (by decide) h21))
            subst ha
            obtain ⟨i0, hi0, rfl⟩ : ∃ i0, i0 < 2 ∧ j = 1000100 + i0 := ⟨j - 1000100, Nat.sub_lt_left_of_lt_add h21 h22, (Nat.add_sub_of_le h21).symm⟩
            obtain ⟨-, -, -, g4⟩ := hE.1.1 i0 hi0
            rw [Nat.add_sub_cancel_left] at k
            exact va_tlen hx hb g4 hS rfl hd (k _ List.mem_cons_self ns as H lc ls _ ⟨c1, c2, c3, ⟨rfl, c4⟩, c5, ws, c6w, hP, hD, hS⟩)
          · rw [if_neg h2] at h
            split at h
            · rename_i t n a1 b1 ov hw
              by_cases h3 : j < 1000000
              · rw [if_pos h3] at h
                obtain ⟨rfl, rfl⟩ := ee_nx_some h
                obtain ⟨ec, g1, g2⟩ := c6w.at hw (c4v.at h3)
                obtain ⟨t', t4, y, rfl, g3⟩ := g2.arr
                obtain ⟨ty, hty⟩ := ee_tys_at (dA := dA) t4
                exact va_alen hx hb hK hP j t' g1 hty (by rw [g3]) hd (k _ List.mem_cons_self ns as H lc ls _ ⟨c1, c2, c3, ⟨rfl, c4⟩, c5, ws, c6w, hP, hD, hS⟩)
              · rw [if_neg h3] at h
                exact ee_no h
            · exact ee_no h
        | _ => exact ee_no h
      | _ => exact ee_no h
