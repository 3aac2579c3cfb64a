/-! handlers: fields put, arrays, new cells, statics -/
def ee_fit (tc : Nat) (iv : ee_iv) (x : Value) : Bool := match tc with
  | 0 => (ee_it iv x).isSome
  | 1 => (match ee_it iv x with
    | some (a, b) => decide (0 ≤ a) && decide (b ≤ 1)
    | none => false)
  | 2 => ee_isl x
  | 3 => (match x with
    | .ref _ => true
    | .null => true
    | _ => false)
  | _ => false
theorem ee_01 {z : Int32} (h1 : 0 ≤ z.toInt) (h2 : z.toInt ≤ 1) : z = 0 ∨ z = 1 := by
  by_cases h : z.toInt = 0
  · exact Or.inl (ee_zero (by omega) (by omega))
  · exact Or.inr (Int32.toInt_inj.mp (by rw [show (1 : Int32).toInt = 1 by decide]; omega))
theorem ee_fit.ok {ns : List Int32} {as : List Nat} {ex : Nat → Nat} {iv : ee_iv} {x v : Value} {tc : Nat} {ty : FieldType} (hk : ee_ok ns iv) (hx : ee_v ns as ex x v) (hf : ee_fit tc iv x = true) (ht : ee_tc ty = tc) : narrow ty v = v ∧ fits ty v = true := by
  subst ht
  cases ty with
  | int =>
    have hf : (ee_it iv x).isSome = true := hf
    obtain ⟨q, hq⟩ := Option.isSome_iff_exists.mp hf
    obtain ⟨z, rfl, -, -⟩ := ee_it.int hk hx hq
    exact ⟨rfl, rfl⟩
  | boolean =>
    have hf : (match ee_it iv x with
      | some (a, b) => decide (0 ≤ a) && decide (b ≤ 1)
      | none => false) = true := hf
    cases hq : ee_it iv x with
    | none => rw [hq] at hf; cases hf
    | some q =>
      obtain ⟨a, b⟩ := q
      rw [hq] at hf
      obtain ⟨e1, e2⟩ := ee_and hf
      have e1 := of_decide_eq_true e1
      have e2 := of_decide_eq_true e2
      obtain ⟨z, rfl, z1, z2⟩ := ee_it.int hk hx hq
      rcases ee_01 (z := z) (by omega) (by omega) with rfl | rfl <;> exact ⟨by decide, by decide⟩
  | long =>
    obtain ⟨z, rfl⟩ := ee_isl.ok hx hf
    exact ⟨rfl, rfl⟩
  | object n =>
    cases x with
    | ref j =>
      obtain ⟨a, rfl⟩ := ee_v.ref hx
      exact ⟨rfl, rfl⟩
    | null =>
      cases (show v = .null from hx)
      exact ⟨rfl, rfl⟩
    | _ => cases hf
  | array n =>
    cases x with
    | ref j =>
      obtain ⟨a, rfl⟩ := ee_v.ref hx
      exact ⟨rfl, rfl⟩
    | null =>
      cases (show v = .null from hx)
      exact ⟨rfl, rfl⟩
    | _ => cases hf
  | _ => cases hf
def ee_h15 : ee_H := fun _ _ _ e st => match st with
  | (pc, lo, x :: .ref k :: stk, w, iv, kc, ks, sv) => (match e with
    | (_, .putfield _, len, _, _, _, _, qa, qb, qc) => (match w[k]? with
          | some (.inl (ci, fs)) => if (k < 1000000 ∧ ci = qa) ∧ qb < fs.length ∧ ee_fit qc iv x = true then ee_nx len 3 [(pc + 3, lo, stk, w.set k (.inl (ci, fs.set qb x)), iv, kc, ks, sv)] else none
          | _ => none)
    | _ => none)
  | _ => none
set_option maxHeartbeats 2000000 in
theorem ee_h15.snd : ee_Snd ee_h15 := by
  intro X Y oc own cc ini dm bc bs Q e st sts F ho hi hd he hpc h k
  obtain ⟨p, l, en, R, s, m, args, below, meth, c⟩ := X
  obtain ⟨A, D, dA, ex, x0, a0, sv0, nL⟩ := Y
  obtain ⟨pc, lo, stk, w, iv, kc, ks, sv⟩ := st
  obtain ⟨pc', ins, len, hn, ea, eb, ez, qa, qb, qc⟩ := e
  obtain ⟨hx, hb, hml, hown, hts, hK, hA, hini, hR, hE⟩ := F
  have hpc : pc = pc' := hpc
  subst hpc
  have hd : decode cc pc = .ok (ins, len) := hd
  intro ns as H lc ls vs C
  obtain ⟨c1, c2, c3, c4, c5, c6⟩ := C
  show W p l en R s m args below meth c H lc kc ks Q (F0 m pc ls vs)
  match stk, vs, c4, h with
  | [], _, _, h => exact ee_no h
  | [_], _, _, h => exact ee_no h
  | y :: x :: stk, [], c4, h => exact c4.elim
  | y :: x :: stk, [_], c4, h => exact c4.2.elim
  | x :: y :: stk, vx :: vy :: vs, ⟨cx, cy, c4⟩, h =>
    cases y with
    | ref j =>
      obtain ⟨a, rfl⟩ := ee_v.ref cy
      cases ins with
      | putfield i =>
        replace h : (match w[j]? with
          | some (.inl (ci, fs)) => if (j < 1000000 ∧ ci = qa) ∧ qb < fs.length ∧ ee_fit qc iv x = true then ee_nx len 3 [(pc + 3, lo, stk, w.set j (.inl (ci, fs.set qb x)), iv, kc, ks, sv)] else none
          | _ => none) = some sts := h
        have hee : (match ee_FL[ea]? with
          | some q => decide (q.1 = oc) && (decide (q.2.1 = i) && ((decide (q.2.2.1 = qa) && (decide (q.2.2.2.1 = qb) && decide (q.2.2.2.2.2 = qc))) && (!ee_ini (pc, ClassFile.Instr.putfield i, len, hn, ea, eb, ez, qa, qb, qc) || decide (q.2.2.1 = oc))))
          | none => false) = true := he
        cases hq : ee_FL[ea]? with
        | none => rw [hq] at hee; cases hee
        | some q =>
          rw [hq] at hee
          simp only at hee
          obtain ⟨u1, u2⟩ := ee_and hee
          obtain ⟨u3, u4⟩ := ee_and u2
          obtain ⟨u5, e3⟩ := ee_and u4
          obtain ⟨u6, u7⟩ := ee_and u5
          obtain ⟨u8, u9⟩ := ee_and u7
          have e1 := of_decide_eq_true u1
          have e2 := of_decide_eq_true u3
          have eqa := of_decide_eq_true u6
          have eqb := of_decide_eq_true u8
          have eqc := of_decide_eq_true u9
          obtain ⟨r, f1, f2, f3, ty, f4, f5⟩ := ee_FLok q (List.mem_of_getElem? hq)
          rw [e1, ee_own_ow ho, e2] at f3
          rw [eqa] at f1
          rw [eqb] at f2 f3 f4
          rw [eqc] at f5
          split at h
          · rename_i ci fs hw
            by_cases hc : (j < 1000000 ∧ ci = qa) ∧ qb < fs.length ∧ ee_fit qc iv x = true
            · rw [if_pos hc] at h
              obtain ⟨rfl, rfl⟩ := ee_nx_some h
              obtain ⟨⟨hc1, hc2⟩, hc3, hc4⟩ := hc
              obtain ⟨ws, c6w, hP, hD, hS⟩ := c6
              obtain ⟨ec, g1, vs1, rfl, g3⟩ := c6w.at hw (cy.at hc1)
              subst hc2
              obtain ⟨n1, n2⟩ := ee_fit.ok c1 cx hc4 f5
              have hlen : qb < vs1.length := by rw [← g3.len]; exact hc3
              obtain ⟨C, T, N⟩ := r
              obtain ⟨k1, k2, ty0, k3⟩ := ee_kd _ _ f1
              have next : ∀ (H1 : Heap) (lc1 : List Loc), va_P D vwCl (ws.set j (a, .inr (ci, vs1.set qb vx))) H1 → va_D A (ws.set j (a, .inr (ci, vs1.set qb vx))) → va_S A s.heap H1 lc1 → W p l en R s m args below meth c H1 lc1 kc ks Q (F0 m (pc + 3) ls vs) := fun H1 lc1 hP1 hD1 hS1 =>
                k _ List.mem_cons_self ns as H1 lc1 ls _ ⟨c1, c2, c3, c4, c5, _, c6w.set g1 ⟨_, rfl, g3.set cx⟩, hP1, hD1, hS1⟩
              by_cases hf : (T qb).2.2.2 = true
              · have hi2 : ee_ini (pc, ClassFile.Instr.putfield i, 3, hn, ea, eb, ez, ci, qb, qc) = true := by
                  show (match ee_FL[ea]? with
                    | some q => (match vwCl[q.2.2.1]? with
                      | some r => (r.2.1 q.2.2.2.1).2.2.2
                      | none => false)
                    | none => false) = true
                  rw [hq]
                  simp only
                  rw [eqa, f1, eqb]
                  exact hf
                have hoc : ci = oc := by
                  rw [hi2] at e3
                  rw [← eqa]
                  exact of_decide_eq_true (by simpa using e3)
                have hdc : (T qb).1 = own := by
                  rw [(k3 _ f2).2]
                  have := ee_okn _ _ f1
                  rw [hoc, ho] at this
                  exact (Option.some.inj this).symm
                exact va_putF (C := C) (T := T) (N := N) hx hb hts k1 ty0 (fun z hz => (k3 z hz).1) k2 hown hK hP hD hS j g1 f1 qb f2 (hts _ f3) (fun _ z => z) hf (hini (hi hi2)) hdc f4 n1 n2 hlen hd next
              · exact va_put (C := C) (T := T) (N := N) hx hb hts k1 ty0 (fun z hz => (k3 z hz).1) k2 hown hK hP hD hS j g1 f1 qb f2 (hts _ f3) (fun _ z => z) (by simpa using hf) f4 n1 n2 hlen hd next
            · rw [if_neg hc] at h
              exact ee_no h
          · exact ee_no h
      | _ => exact ee_no h
    | _ => exact ee_no h
/-- an index that is known and in its row -/
def ee_ix (iv : ee_iv) (i : Value) (n : Nat) : Option Nat := match ee_cn iv i with
  | some z => if 0 ≤ z.toInt ∧ z.toInt < (n : Int) then some z.toInt.toNat else none
  | none => none
theorem ee_ix.ok {ns : List Int32} {as : List Nat} {ex : Nat → Nat} {iv : ee_iv} {i v : Value} {n j : Nat} (hk : ee_ok ns iv) (hv : ee_v ns as ex i v) (h : ee_ix iv i n = some j) : ∃ z : Int32, v = .int z ∧ z.toNatClampNeg = j ∧ j < n ∧ vp_in z n := by
  unfold ee_ix at h
  cases hq : ee_cn iv i with
  | none => rw [hq] at h; cases h
  | some z =>
    rw [hq] at h
    simp only at h
    by_cases hc : 0 ≤ z.toInt ∧ z.toInt < (n : Int)
    · rw [if_pos hc] at h
      cases h
      exact ⟨z, ee_cn.int hk hv hq, rfl, by omega, vp_in_iff.mpr hc⟩
    · rw [if_neg hc] at h
      cases h
/-- an index in its row -/
def ee_ib (iv : ee_iv) (i : Value) (n : Nat) : Bool := match ee_it iv i with
  | some (a, b) => decide (0 ≤ a) && decide (b < (n : Int))
  | none => false
theorem ee_ib.ok {ns : List Int32} {as : List Nat} {ex : Nat → Nat} {iv : ee_iv} {i v : Value} {n : Nat} (hk : ee_ok ns iv) (hv : ee_v ns as ex i v) (h : ee_ib iv i n = true) : ∃ z : Int32, v = .int z ∧ vp_in z n := by
  unfold ee_ib at h
  cases hq : ee_it iv i with
  | none => rw [hq] at h; cases h
  | some q =>
    obtain ⟨a, b⟩ := q
    rw [hq] at h
    obtain ⟨e1, e2⟩ := ee_and h
    have e1 := of_decide_eq_true e1
    have e2 := of_decide_eq_true e2
    obtain ⟨z, rfl, z1, z2⟩ := ee_it.int hk hv hq
    exact ⟨z, rfl, vp_in_iff.mpr ⟨by omega, by omega⟩⟩
