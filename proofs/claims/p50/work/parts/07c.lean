/-! handlers: kept arrays read and written -/
/-- is an index the place of the element that is named? -/
def ee_s4x (iv : ee_iv) (i : Value) (d : Nat) (x : Value) : Bool := (match ee_cn iv i, ee_cn iv x with
  | some c, some c2 => decide (c.toInt = c2.toInt + (d : Int) - 1)
  | _, _ => false) || (match i, x with
  | .retAddr k, .retAddr k2 => Nat.beq (ee_rt iv k).1 (ee_rt iv k2).1 && decide ((ee_rt iv k).2 = (ee_rt iv k2).2 + (d : Int) - 1)
  | _, _ => false)
theorem ee_s4x.ok {ns : List Int32} {as : List Nat} {ex : Nat → Nat} {iv : ee_iv} {i x : Value} {d : Nat} {p q : Int32} (hk : ee_ok ns iv) (hi : ee_v ns as ex i (.int p)) (hx : ee_v ns as ex x (.int q)) (h : ee_s4x iv i d x = true) : p.toInt = q.toInt + (d : Int) - 1 := by
  unfold ee_s4x at h
  rcases ee_o2b h with h | h
  · split at h
    · rename_i c c2 h1 h2
      have h := of_decide_eq_true h
      cases ee_cn.int hk hi h1
      cases ee_cn.int hk hx h2
      exact h
    · cases h
  · split at h
    · rename_i k k2
      obtain ⟨h1, h2⟩ := ee_and h
      have h1 := Nat.eq_of_beq_eq_true h1
      have h2 := of_decide_eq_true h2
      obtain ⟨y, g1, g2⟩ := ee_rt.ok hk hi.sy
      obtain ⟨y2, g3, g4⟩ := ee_rt.ok hk hx.sy
      rw [h1, g3] at g1
      cases g1
      omega
    · cases h
def ee_r4 (iv : ee_iv) (ov : List (Nat × Value)) (i : Value) : Option Value := match ov with
  | [_, _, (d, x), (_, v)] => if ee_s4x iv i d x = true then some v else none
  | _ => none
theorem ee_r4.ok {ns : List Int32} {as : List Nat} {ex : Nat → Nat} {iv : ee_iv} {ov : List (Nat × Value)} {i v : Value} {p : Int32} {f : Nat → Int32} (hk : ee_ok ns iv) (hq : ee_rq ns as ex ov f) (hi : ee_v ns as ex i (.int p)) (h : ee_r4 iv ov i = some v) : ee_v ns as ex v (.int (f p.toInt.toNat)) := by
  unfold ee_r4 at h
  split at h
  · rename_i q0 q1 d x i3 v'
    by_cases hc : ee_s4x iv i d x = true
    · rw [if_pos hc] at h
      cases h
      obtain ⟨i0, x0⟩ := q0
      obtain ⟨z, y, g0, g1, g2, g3, g4⟩ := hq
      rw [ee_s4x.ok hk hi g0 hc, g3]
      exact g1
    · rw [if_neg hc] at h; cases h
  · cases h
theorem ee_c.cod {ns : List Int32} {as : List Nat} {ex : Nat → Nat} {dA : Nat → ClassId} {n P : Nat} {sg : List (Nat × Int × Int)} {ov : List (Nat × Value)} {e : va_E} (h : ee_c ns as ex dA (.inr (4, n, P, sg, ov)) e) : ∃ f : Nat → Int32, e = .inl (dA 0, n, .inl f) ∧ ee_rq ns as ex ov f := by
  unfold ee_c at h
  simp only [show ¬ (4 : Nat) = 3 by decide, if_false, if_true] at h
  exact h
theorem ee_c.mkc {ns : List Int32} {as : List Nat} {ex : Nat → Nat} {dA : Nat → ClassId} {n P : Nat} {sg : List (Nat × Int × Int)} {ov : List (Nat × Value)} {f : Nat → Int32} (h : ee_rq ns as ex ov f) : ee_c ns as ex dA (.inr (4, n, P, sg, ov)) (.inl (dA 0, n, .inl f)) := by
  unfold ee_c
  simp only [show ¬ (4 : Nat) = 3 by decide, if_false, if_true]
  exact ⟨f, rfl, h⟩
def ee_h22x : ee_H := fun nL bc bs e st => match st with
  | (pc, lo, i :: .ref k :: stk, w, iv, kc, ks, sv) => (match w[k]? with
    | some (.inr (t, n, _, _, ov)) => if t = 4 then (match e.2.1 with
      | .iaload => if k < 1000000 ∧ ee_ib iv i n = true then (match ee_r4 iv ov i with
        | some v => ee_nx e.2.2.1 1 [(pc + 1, lo, v :: stk, w, iv, kc, ks, sv)]
        | none => ee_nx e.2.2.1 1 [(pc + 1, lo, .retAddr iv.1 :: stk, w, ee_ps iv (-2147483648) 2147483647 [], kc, ks, sv)]) else none
      | _ => none) else ee_h22 nL bc bs e st
    | _ => ee_h22 nL bc bs e st)
  | _ => ee_h22 nL bc bs e st
set_option maxHeartbeats 2000000 in
theorem ee_h22x.snd : ee_Snd ee_h22x := by
  intro X Y oc own cc ini dm bc bs Q e st sts F ho hi hd he hpc h k
  have fall : ee_h22 Y.2.2.2.2.2.2.2 bc bs e st = some sts → ee_G X Y Q st := fun h => ee_h22.snd X Y oc own cc ini dm bc bs Q e st sts F ho hi hd he hpc h k
  obtain ⟨p, l, en, R, s, m, args, below, meth, c⟩ := X
  obtain ⟨A, D, dA, ex, x0, a0, sv0, nL⟩ := Y
  obtain ⟨pc, lo, stk, w, iv, kc, ks, sv⟩ := st
  obtain ⟨pc', ins, len, hn, ea, eb, ez, qa, qb, qc⟩ := e
  obtain ⟨hx, hb, hml, hown, hts, hK, hA, hini, hR, hE⟩ := F
  have hpc : pc = pc' := hpc
  subst hpc
  have hd : decode cc pc = .ok (ins, len) := hd
  cases stk with
  | nil => exact fall h
  | cons i stk =>
    cases stk with
    | nil => exact fall h
    | cons y stk =>
      cases y with
      | ref j =>
        have h9 : (match w[j]? with
          | some (.inr (t, n, _, _, ov)) => if t = 4 then (match (generalizing := false) ins with
            | .iaload => if j < 1000000 ∧ ee_ib iv i n = true then (match ee_r4 iv ov i with
              | some v => ee_nx len 1 [(pc + 1, lo, v :: stk, w, iv, kc, ks, sv)]
              | none => ee_nx len 1 [(pc + 1, lo, .retAddr iv.1 :: stk, w, ee_ps iv (-2147483648) 2147483647 [], kc, ks, sv)]) else none
            | _ => none) else ee_h22 nL bc bs (pc, ins, len, hn, ea, eb, ez, qa, qb, qc) (pc, lo, i :: .ref j :: stk, w, iv, kc, ks, sv)
          | _ => ee_h22 nL bc bs (pc, ins, len, hn, ea, eb, ez, qa, qb, qc) (pc, lo, i :: .ref j :: stk, w, iv, kc, ks, sv)) = some sts := h
        split at h9
        · rename_i t n P1 sg ov hw
          by_cases ht : t = 4
          · rw [if_pos ht] at h9
            subst ht
            cases ins with
            | iaload =>
              replace h9 : (if j < 1000000 ∧ ee_ib iv i n = true then (match ee_r4 iv ov i with
                | some v => ee_nx len 1 [(pc + 1, lo, v :: stk, w, iv, kc, ks, sv)]
                | none => ee_nx len 1 [(pc + 1, lo, .retAddr iv.1 :: stk, w, ee_ps iv (-2147483648) 2147483647 [], kc, ks, sv)]) else none) = some sts := h9
              by_cases hc : j < 1000000 ∧ ee_ib iv i n = true
              · rw [if_pos hc] at h9
                intro ns as H lc ls vs C
                obtain ⟨c1, c2, c3, c4, c5, ws, c6w, hP, hD, hS⟩ := C
                obtain ⟨vi, vs1, rfl, ci, c4a⟩ := c4.cons
                obtain ⟨vy, vs2, rfl, cy, c4b⟩ := c4a.cons
                obtain ⟨a, rfl⟩ := ee_v.ref cy
                obtain ⟨z, rfl, z2⟩ := ee_ib.ok c1 ci hc.2
                obtain ⟨ec, g1, g2⟩ := c6w.at hw (cy.at hc.1)
                obtain ⟨f, rfl, g3⟩ := g2.cod
                cases hr : ee_r4 iv ov i with
                | some v =>
                  rw [hr] at h9
                  obtain ⟨rfl, rfl⟩ := ee_nx_some h9
                  exact va_iald hx hb hK hP j 0 g1 rfl z2 hd (k _ List.mem_cons_self ns as H lc ls _ ⟨c1, c2, c3, ⟨ee_r4.ok c1 g3 ci hr, c4b⟩, c5, ws, c6w, hP, hD, hS⟩)
                | none =>
                  rw [hr] at h9
                  obtain ⟨rfl, rfl⟩ := ee_nx_some h9
                  obtain ⟨d1, d2, d3, d4, d5, d6⟩ := ee_Con.grow (s := s) (A := A) (D := D) (dA := dA) (ex := ex) (x0 := x0) (a0 := a0) (sv0 := sv0) (nL := nL) (lo := lo) (ls := ls) (z := f z.toNatClampNeg) (a := -2147483648) (b := 2147483647) (fs := []) ⟨c1, c2, c3, c4b, c5, ws, c6w, hP, hD, hS⟩ (ee_rng _).1 (ee_rng _).2 (fun _ q => by cases q)
                  exact va_iald hx hb hK hP j 0 g1 rfl z2 hd (k _ List.mem_cons_self _ as H lc ls _ ⟨d1, d2, d3, ⟨⟨_, c1.last _, rfl⟩, d4⟩, d5, d6⟩)
              · rw [if_neg hc] at h9
                exact ee_no h9
            | _ => exact ee_no h9
          · rw [if_neg ht] at h9
            exact fall h9
        · exact fall h9
      | _ => exact fall h
def ee_w4 (iv : ee_iv) (ov : List (Nat × Value)) (i x : Value) : Option (List (Nat × Value)) := match ov with
  | [(i0, _), _] => if (ee_it iv x).isSome = true then some [(i0, .null), (1, .null), (1, i), (0, x)] else none
  | _ => none
theorem ee_w4.ok {ns : List Int32} {as : List Nat} {ex : Nat → Nat} {iv : ee_iv} {ov ov' : List (Nat × Value)} {i x vx : Value} {p : Int32} {f : Nat → Int32} (hk : ee_ok ns iv) (hq : ee_rq ns as ex ov f) (hi : ee_v ns as ex i (.int p)) (hx : ee_v ns as ex x vx) (hp : 0 ≤ p.toInt) (h : ee_w4 iv ov i x = some ov') : ∃ z : Int32, vx = .int z ∧ ee_rq ns as ex ov' (upd f p.toNatClampNeg z) := by
  unfold ee_w4 at h
  split at h
  · rename_i i0 x0 q1
    by_cases hc : (ee_it iv x).isSome = true
    · rw [if_pos hc] at h
      cases h
      obtain ⟨q, hq1⟩ := Option.isSome_iff_exists.mp hc
      obtain ⟨z, rfl, -, -⟩ := ee_it.int (a := q.1) (b := q.2) hk hx hq1
      refine ⟨z, rfl, p, z, hi, hx, by omega, ?_, fun j hj hne => ?_⟩
      · have e : (p.toInt + ((1 : Nat) : Int) - 1).toNat = p.toNatClampNeg := by
          rw [show p.toInt + ((1 : Nat) : Int) - 1 = p.toInt by omega]; rfl
        rw [e]
        simp only [upd, if_true]
      · have e : (p.toInt + ((1 : Nat) : Int) - 1).toNat = p.toNatClampNeg := by
          rw [show p.toInt + ((1 : Nat) : Int) - 1 = p.toInt by omega]; rfl
        rw [e] at hne
        simp only [upd, hne, if_false]
        exact hq j hj
    · rw [if_neg hc] at h; cases h
  · cases h
def ee_h17x : ee_H := fun nL bc bs e st => match st with
  | (pc, lo, x :: i :: .ref k :: stk, w, iv, kc, ks, sv) => (match w[k]? with
    | some (.inr (t, n, P, sg, ov)) => if t = 4 then (match e.2.1 with
      | .iastore => if k < 1000000 ∧ ee_ib iv i n = true then (match ee_w4 iv ov i x with
        | some ov' => ee_nx e.2.2.1 1 [(pc + 1, lo, stk, w.set k (.inr (t, n, P, sg, ov')), iv, kc, ks, sv)]
        | none => none) else none
      | _ => none) else ee_h17 nL bc bs e st
    | _ => ee_h17 nL bc bs e st)
  | _ => ee_h17 nL bc bs e st
set_option maxHeartbeats 2000000 in
theorem ee_h17x.snd : ee_Snd ee_h17x := by
  intro X Y oc own cc ini dm bc bs Q e st sts F ho hi hd he hpc h k
  have fall : ee_h17 Y.2.2.2.2.2.2.2 bc bs e st = some sts → ee_G X Y Q st := fun h => ee_h17.snd X Y oc own cc ini dm bc bs Q e st sts F ho hi hd he hpc h k
  obtain ⟨p, l, en, R, s, m, args, below, meth, c⟩ := X
  obtain ⟨A, D, dA, ex, x0, a0, sv0, nL⟩ := Y
  obtain ⟨pc, lo, stk, w, iv, kc, ks, sv⟩ := st
  obtain ⟨pc', ins, len, hn, ea, eb, ez, qa, qb, qc⟩ := e
  obtain ⟨hx, hb, hml, hown, hts, hK, hA, hini, hR, hE⟩ := F
  have hpc : pc = pc' := hpc
  subst hpc
  have hd : decode cc pc = .ok (ins, len) := hd
  cases stk with
  | nil => exact fall h
  | cons x stk =>
    cases stk with
    | nil => exact fall h
    | cons i stk =>
      cases stk with
      | nil => exact fall h
      | cons y stk =>
        cases y with
        | ref j =>
          have h9 : (match w[j]? with
            | some (.inr (t, n, P, sg, ov)) => if t = 4 then (match (generalizing := false) ins with
              | .iastore => if j < 1000000 ∧ ee_ib iv i n = true then (match ee_w4 iv ov i x with
                | some ov' => ee_nx len 1 [(pc + 1, lo, stk, w.set j (.inr (t, n, P, sg, ov')), iv, kc, ks, sv)]
                | none => none) else none
              | _ => none) else ee_h17 nL bc bs (pc, ins, len, hn, ea, eb, ez, qa, qb, qc) (pc, lo, x :: i :: .ref j :: stk, w, iv, kc, ks, sv)
            | _ => ee_h17 nL bc bs (pc, ins, len, hn, ea, eb, ez, qa, qb, qc) (pc, lo, x :: i :: .ref j :: stk, w, iv, kc, ks, sv)) = some sts := h
          split at h9
          · rename_i t n P1 sg ov hw
            by_cases ht : t = 4
            · rw [if_pos ht] at h9
              subst ht
              cases ins with
              | iastore =>
                replace h9 : (if j < 1000000 ∧ ee_ib iv i n = true then (match ee_w4 iv ov i x with
                  | some ov' => ee_nx len 1 [(pc + 1, lo, stk, w.set j (.inr (4, n, P1, sg, ov')), iv, kc, ks, sv)]
                  | none => none) else none) = some sts := h9
                by_cases hc : j < 1000000 ∧ ee_ib iv i n = true
                · rw [if_pos hc] at h9
                  cases hr : ee_w4 iv ov i x with
                  | none => rw [hr] at h9; exact ee_no h9
                  | some ov' =>
                    rw [hr] at h9
                    obtain ⟨rfl, rfl⟩ := ee_nx_some h9
                    intro ns as H lc ls vs C
                    obtain ⟨c1, c2, c3, c4, c5, ws, c6w, hP, hD, hS⟩ := C
                    obtain ⟨vx, vs0, rfl, cx, c4a⟩ := c4.cons
                    obtain ⟨vi, vs1, rfl, ci, c4b⟩ := c4a.cons
                    obtain ⟨vy, vs2, rfl, cy, c4c⟩ := c4b.cons
                    obtain ⟨a, rfl⟩ := ee_v.ref cy
                    obtain ⟨z, rfl, z2⟩ := ee_ib.ok c1 ci hc.2
                    obtain ⟨ec, g1, g2⟩ := c6w.at hw (cy.at hc.1)
                    obtain ⟨f, rfl, g3⟩ := g2.cod
                    obtain ⟨u, rfl, g4⟩ := ee_w4.ok c1 g3 ci cx (vp_in_iff.mp z2).1 hr
                    exact va_iast hx hb hK hP hD hS j 0 g1 rfl z2 hd (fun H1 lc1 hP1 hD1 hS1 => k _ List.mem_cons_self ns as H1 lc1 ls _ ⟨c1, c2, c3, c4c, c5, _, c6w.set g1 (ee_c.mkc g4), hP1, hD1, hS1⟩)
                · rw [if_neg hc] at h9
                  exact ee_no h9
              | _ => exact ee_no h9
            · rw [if_neg ht] at h9
              exact fall h9
          · exact fall h9
        | _ => exact fall h
