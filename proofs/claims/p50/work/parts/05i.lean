/-! the handler of Math.min and Math.max -/
def ee_mm (k : Nat) (x y : Int32) : Int32 := if k = 3 then (if y < x then y else x) else (if x < y then y else x)
def ee_mb (k : Nat) (a b d e : Int) : Int × Int := if k = 3 then (ee_mn a d, ee_mn b e) else (ee_mx a d, ee_mx b e)
theorem ee_mb.ok {k : Nat} {a b d e : Int} {x y : Int32} (h1 : a ≤ x.toInt) (h2 : x.toInt ≤ b) (h3 : d ≤ y.toInt) (h4 : y.toInt ≤ e) : (ee_mb k a b d e).1 ≤ (ee_mm k x y).toInt ∧ (ee_mm k x y).toInt ≤ (ee_mb k a b d e).2 := by
  unfold ee_mb ee_mm ee_mn ee_mx
  by_cases hk : k = 3
  · rw [if_pos hk, if_pos hk]
    by_cases hc : y < x
    · rw [if_pos hc]
      have := (ee_lt y x).mp hc
      refine ⟨?_, ?_⟩
      · show (if a ≤ d then a else d) ≤ y.toInt
        split <;> omega
      · show y.toInt ≤ (if b ≤ e then b else e)
        split <;> omega
    · rw [if_neg hc]
      have : ¬ y.toInt < x.toInt := fun q => hc ((ee_lt y x).mpr q)
      refine ⟨?_, ?_⟩
      · show (if a ≤ d then a else d) ≤ x.toInt
        split <;> omega
      · show x.toInt ≤ (if b ≤ e then b else e)
        split <;> omega
  · rw [if_neg hk, if_neg hk]
    by_cases hc : x < y
    · rw [if_pos hc]
      have := (ee_lt x y).mp hc
      refine ⟨?_, ?_⟩
      · show (if a ≤ d then d else a) ≤ y.toInt
        split <;> omega
      · show y.toInt ≤ (if b ≤ e then e else b)
        split <;> omega
    · rw [if_neg hc]
      have : ¬ x.toInt < y.toInt := fun q => hc ((ee_lt x y).mpr q)
      refine ⟨?_, ?_⟩
      · show (if a ≤ d then d else a) ≤ x.toInt
        split <;> omega
      · show x.toInt ≤ (if b ≤ e then e else b)
        split <;> omega
def ee_h24 : ee_H := fun _ bc bs e st => match st with
  | (pc, lo, y :: x :: stk, w, iv, kc, ks, sv) => (match e.2.1 with
      | .invokestatic _ => if ((e.2.2.2.2.2.1 = 3 ∨ e.2.2.2.2.2.1 = 4) ∧ (stk.map ee_cat).sum ≤ 8) ∧ kc ≤ bc ∧ ks ≤ bs then (match ee_cn iv x, ee_cn iv y with
        | some a, some b => ee_nx e.2.2.1 3 [(pc + 3, lo, .int (ee_mm e.2.2.2.2.2.1 a b) :: stk, w, iv, kc, ks, sv)]
        | _, _ => (match ee_it iv x, ee_it iv y with
          | some (a, b), some (d, u) => ee_nx e.2.2.1 3 [(pc + 3, lo, .retAddr iv.1 :: stk, w, ee_ps iv (ee_mb e.2.2.2.2.2.1 a b d u).1 (ee_mb e.2.2.2.2.2.1 a b d u).2 [], kc, ks, sv)]
          | _, _ => none)) else none
      | _ => none)
  | _ => none
set_option maxHeartbeats 2000000 in
theorem ee_h24.snd : ee_Snd ee_h24 := by
  intro X Y oc own cc ini dm bc bs Q e st sts F ho hi hd he hpc h k
  obtain ⟨p, l, en, R, s, m, args, below, meth, c⟩ := X
  obtain ⟨A, D, dA, ex, x0, a0, sv0, nL⟩ := Y
  obtain ⟨pc, lo, stk, w, iv, kc, ks, sv⟩ := st
  obtain ⟨pc', ins, len, hn, ea, eb, ez, qa, qb, qc⟩ := e
  obtain ⟨hx, hb, hml, hown, hts, hK, hA, hini, hR, hE⟩ := F
  have hpc : pc = pc' := hpc
  subst hpc
  have hd : decode cc pc = .ok (ins, len) := hd
  intro ns as H lc ls vs C
  obtain ⟨c1, c2, c3, c4, c5, c6⟩ := C
  show W p l en R s m args below meth c H lc kc ks Q (F0 m pc ls vs)
  match stk, vs, c4, h with
  | [], _, _, h => exact ee_no h
  | [_], _, _, h => exact ee_no h
  | y :: x :: stk, [], c4, h => exact c4.elim
  | y :: x :: stk, [_], c4, h => exact c4.2.elim
  | y :: x :: stk, vy :: vx :: vs, ⟨cy, cx, c4⟩, h =>
    cases ins with
    | invokestatic i =>
      replace h : (if ((eb = 3 ∨ eb = 4) ∧ (stk.map ee_cat).sum ≤ 8) ∧ kc ≤ bc ∧ ks ≤ bs then (match ee_cn iv x, ee_cn iv y with
        | some a, some b => ee_nx len 3 [(pc + 3, lo, .int (ee_mm eb a b) :: stk, w, iv, kc, ks, sv)]
        | _, _ => (match ee_it iv x, ee_it iv y with
          | some (a, b), some (d, u) => ee_nx len 3 [(pc + 3, lo, .retAddr iv.1 :: stk, w, ee_ps iv (ee_mb eb a b d u).1 (ee_mb eb a b d u).2 [], kc, ks, sv)]
          | _, _ => none)) else none) = some sts := h
      have hee : (if eb = 0 then (match ee_CL[ea]? with
        | some q => decide (q.1 = oc) && (decide (q.2.1 = i) && (decide (q.2.2.2.1 = 1) && (decide (q.2.2.1 = qa) && (decide (q.2.2.2.1 = qb) && decide (q.2.2.2.2.1 = qc)))))
        | none => false) else if eb = 2 then (match ee_AL[ea]? with
        | some q => decide (q.1 = oc) && decide (q.2.1 = i)
        | none => false) else if eb = 3 ∨ eb = 4 then (match ee_XL[ea]? with
        | some q => decide (q.1 = oc) && (decide (q.2.1 = i) && decide (q.2.2.1 = eb))
        | none => false) else true) = true := he
      by_cases hc : ((eb = 3 ∨ eb = 4) ∧ (stk.map ee_cat).sum ≤ 8) ∧ kc ≤ bc ∧ ks ≤ bs
      · rw [if_pos hc] at h
        obtain ⟨⟨hc1, hc2⟩, hc3, hc4⟩ := hc
        rw [if_neg (by omega), if_neg (by omega), if_pos hc1] at hee
        cases hq : ee_XL[ea]? with
        | none => rw [hq] at hee; cases hee
        | some q =>
          rw [hq] at hee
          obtain ⟨e1, e2⟩ := ee_and hee
          obtain ⟨e2, e3⟩ := ee_and e2
          have e1 := of_decide_eq_true e1
          have e2 := of_decide_eq_true e2
          have e3 := of_decide_eq_true e3
          have hm := ee_XLok q (List.mem_of_getElem? hq)
          rw [e1, ee_own_ow ho, e2, e3] at hm
          have key : len = 3 ∧ ∃ a b : Int32, vx = .int a ∧ vy = .int b ∧ W p l en R s m args below meth c H lc kc ks Q (F0 m (pc + 3) ls (.int (ee_mm eb a b) :: vs)) := by
            split at h
            · rename_i a b h1 h2
              obtain ⟨rfl, rfl⟩ := ee_nx_some h
              exact ⟨rfl, a, b, ee_cn.int c1 cx h1, ee_cn.int c1 cy h2, k _ List.mem_cons_self ns as H lc ls _ ⟨c1, c2, c3, ⟨rfl, c4⟩, c5, c6⟩⟩
            · split at h
              · rename_i a b d u h1 h2
                obtain ⟨rfl, rfl⟩ := ee_nx_some h
                obtain ⟨za, rfl, z1, z2⟩ := ee_it.int c1 cx h1
                obtain ⟨zb, rfl, z3, z4⟩ := ee_it.int c1 cy h2
                have g := ee_mb.ok (k := eb) z1 z2 z3 z4
                obtain ⟨d1, d2, d3, d4, d5, d6⟩ := ee_Con.grow (s := s) (A := A) (D := D) (dA := dA) (ex := ex) (x0 := x0) (a0 := a0) (sv0 := sv0) (nL := nL) (lo := lo) (ls := ls) ⟨c1, c2, c3, c4, c5, c6⟩ g.1 g.2 (fs := []) (fun _ q => by cases q)
                exact ⟨rfl, za, zb, rfl, rfl, k _ List.mem_cons_self _ as H lc ls _ ⟨d1, d2, d3, ⟨⟨_, c1.last _, rfl⟩, d4⟩, d5, d6⟩⟩
              · exact ee_no h
          obtain ⟨rfl, a, b, rfl, rfl, kk⟩ := key
          obtain ⟨lv, c3, c3l⟩ := c3
          have hl1 : (vs.map fun v => v.category).sum + 13 ≤ R.locals := by
            rw [ee_cats c4]
            omega
          rcases hc1 with rfl | rfl
          · exact va_mmin hx hb (by rw [hml]; exact c3.1.symm) hown (hts _ hm) (hts _ ee_math.1) (hts _ ee_math.2.2.2.2) (hts _ ee_math.2.1) (by omega) hl1 (Nat.le_trans hc3 hR.2.2.1) (Nat.le_trans hc4 hR.2.2.2) hd kk
          · exact va_mmax hx hb (by rw [hml]; exact c3.1.symm) hown (hts _ hm) (hts _ ee_math.2.2.1) (hts _ ee_math.2.2.2.2) (hts _ ee_math.2.2.2.1) (by omega) hl1 (Nat.le_trans hc3 hR.2.2.1) (Nat.le_trans hc4 hR.2.2.2) hd kk
      · rw [if_neg hc] at h
        exact ee_no h
    | _ => exact ee_no h
