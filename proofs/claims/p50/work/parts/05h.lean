/-! the handler of Object's constructor and of arraycopy -/
/-- which elements of the period n places from an index on may mean -/
def ee_wn (iv : ee_iv) (i : Value) (P : Nat) (a b n : Int) : Int × Int := if P = 0 then (a, b + n - 1) else (match ee_rs1 iv i P with
  | some r => if (r : Int) + n ≤ (P : Int) then ((r : Int), (r : Int) + n - 1) else (0, (P : Int) - 1)
  | none => (0, (P : Int) - 1))
theorem ee_wn.ok {ns : List Int32} {as : List Nat} {ex : Nat → Nat} {iv : ee_iv} {i : Value} {P : Nat} {a b n : Int} {z : Int32} {k : Nat} (hk : ee_ok ns iv) (hv : ee_v ns as ex i (.int z)) (hz : 0 ≤ z.toInt) (h1 : a ≤ z.toInt) (h2 : z.toInt ≤ b) (hkn : (k : Int) < n) : (ee_wn iv i P a b n).1 ≤ (ee_rj P (z.toInt.toNat + k) : Nat) ∧ ((ee_rj P (z.toInt.toNat + k) : Nat) : Int) ≤ (ee_wn iv i P a b n).2 := by
  unfold ee_wn ee_rj
  by_cases hP : P = 0
  · rw [if_pos hP, if_pos hP]
    exact ⟨by show a ≤ _; omega, by show _ ≤ b + n - 1; omega⟩
  · rw [if_neg hP, if_neg hP]
    have hm := Nat.mod_lt (z.toInt.toNat + k) (show 0 < P by omega)
    have all : (0 : Int) ≤ ((z.toInt.toNat + k) % P : Nat) ∧ (((z.toInt.toNat + k) % P : Nat) : Int) ≤ (P : Int) - 1 := ⟨by omega, by omega⟩
    cases hr : ee_rs1 iv i P with
    | none => exact all
    | some r =>
      simp only
      by_cases hc : (r : Int) + n ≤ (P : Int)
      · rw [if_pos hc]
        have e := ee_rs1.ok hk hv hz hr
        have e2 : (z.toInt.toNat + k) % P = r + k := by
          rw [Nat.add_mod, e, Nat.mod_eq_of_lt (show k < P by omega), Nat.mod_eq_of_lt (by omega)]
        rw [e2]
        exact ⟨by show (r : Int) ≤ _; omega, by show _ ≤ (r : Int) + n - 1; omega⟩
      · rw [if_neg hc]
        exact all
/-- bounds of the n elements from an index on -/
def ee_bds (iv : ee_iv) (P : Nat) (sg : List (Nat × Int × Int)) (ov : List (Nat × Value)) (i : Value) (a b n : Int) : Option (Int × Int) := match ee_jo iv a (b + n - 1) ov (ee_jn sg 0 (ee_wn iv i P a b n).1 (ee_wn iv i P a b n).2) with
  | some q => q
  | none => none
theorem ee_bds.ok {ns : List Int32} {as : List Nat} {ex : Nat → Nat} {iv : ee_iv} {n0 P : Nat} {sg : List (Nat × Int × Int)} {ov : List (Nat × Value)} {f : Nat → Int32} {q : Int × Int} {i : Value} {a b n : Int} {z : Int32} (hk : ee_ok ns iv) (hf : ∀ j, j < n0 → ee_el ns as ex P sg ov j (f j)) (hv : ee_v ns as ex i (.int z)) (hz : 0 ≤ z.toInt) (h1 : a ≤ z.toInt) (h2 : z.toInt ≤ b) (h : ee_bds iv P sg ov i a b n = some q) : ∀ k : Nat, (k : Int) < n → z.toInt.toNat + k < n0 → q.1 ≤ (f (z.toInt.toNat + k)).toInt ∧ (f (z.toInt.toNat + k)).toInt ≤ q.2 := by
  intro k hkn hj
  unfold ee_bds at h
  split at h
  · rename_i q1 hr
    subst h
    have hel := hf _ hj
    have w := ee_wn.ok (P := P) (k := k) hk hv hz h1 h2 hkn
    generalize hjj : z.toInt.toNat + k = j at hel w hj ⊢
    have key : ∃ r', some q = some r' ∧ r'.1 ≤ (f j).toInt ∧ (f j).toInt ≤ r'.2 := by
      refine ee_jo.ok hr ?_
      unfold ee_el at hel
      cases hl : ov.lookup j with
      | some y =>
        rw [hl] at hel
        have hm := ee_mem_lookup hl
        by_cases hyi : ∃ s, ee_it iv y = some s
        · obtain ⟨s, hs⟩ := hyi
          obtain ⟨u, e1, e2, e3⟩ := ee_it.int (a := s.1) (b := s.2) hk hel hs
          cases e1
          exact Or.inr ⟨_, y, s, hm, ⟨by omega, by omega⟩, hs, e2, e3⟩
        · exfalso
          have bad : ∀ {l : List (Nat × Value)} {q0 q1 : Option (Int × Int)}, ee_jo iv a (b + n - 1) l q0 = some q1 → (j, y) ∈ l → False := by
            intro l
            induction l with
            | nil => intro q0 q1 _ hm; cases hm
            | cons c l ih =>
              intro q0 q1 hj2 hm
              obtain ⟨j2, x⟩ := c
              unfold ee_jo at hj2
              cases h1 : ee_jo iv a (b + n - 1) l q0 with
              | none => rw [h1] at hj2; cases hj2
              | some q2 =>
                rcases List.mem_cons.mp hm with e | hm
                · cases e
                  rw [h1] at hj2
                  simp only at hj2
                  rw [if_pos ⟨by omega, by omega⟩] at hj2
                  cases hy2 : ee_it iv y with
                  | none => rw [hy2] at hj2; cases hj2
                  | some s => exact hyi ⟨s, hy2⟩
                · exact ih h1 hm
          exact bad hr hm
      | none =>
        rw [hl] at hel
        simp only at hel
        rw [ee_sgp_eq] at hel
        exact Or.inl (ee_jn.ok w.1 w.2 (ee_rng _) (Nat.zero_le _) hel)
    obtain ⟨r', e, e1, e2⟩ := key
    cases e
    exact ⟨e1, e2⟩
  · cases h
/-- may these elements of one be put there into the other one? -/
def ee_cp (iv : ee_iv) (n sp dp : Value) (P0 : Nat) (sg0 : List (Nat × Int × Int)) (ov0 : List (Nat × Value)) (P1 : Nat) (sg1 : List (Nat × Int × Int)) (ov1 : List (Nat × Value)) : Bool := match ee_it iv n, ee_it iv sp, ee_it iv dp with
  | some a, some b, some c => (match ee_bds iv P0 sg0 ov0 sp b.1 b.2 a.2 with
    | some q => ee_wk sg1 0 (ee_wn iv dp P1 c.1 c.2 a.2).1 (ee_wn iv dp P1 c.1 c.2 a.2).2 q.1 q.2 && ov1.all (ee_ent iv sg1 P1)
    | none => false)
  | _, _, _ => false
theorem ee_cp.ok {ns : List Int32} {as : List Nat} {ex : Nat → Nat} {iv : ee_iv} {n0 P0 n1 P1 : Nat} {sg0 sg1 : List (Nat × Int × Int)} {ov0 ov1 : List (Nat × Value)} {f g : Nat → Int32} {n sp dp : Value} {zn zs zd : Int32} (hk : ee_ok ns iv) (hvn : ee_v ns as ex n (.int zn)) (hvs : ee_v ns as ex sp (.int zs)) (hvd : ee_v ns as ex dp (.int zd)) (p0 : ¬ zs < 0 ∧ ¬ zd < 0 ∧ ¬ zn < 0) (hf : ∀ j, j < n0 → ee_el ns as ex P0 sg0 ov0 j (f j)) (hg : ∀ j, j < n1 → ee_el ns as ex P1 sg1 ov1 j (g j)) (h4 : zs.toNatClampNeg + zn.toNatClampNeg ≤ n0) (h : ee_cp iv n sp dp P0 sg0 ov0 P1 sg1 ov1 = true) : ∀ j, j < n1 → ee_el ns as ex P1 sg1 [] j (va_cpy f g zs.toNatClampNeg zd.toNatClampNeg zn.toNatClampNeg j) := by
  intro j hj
  have nn : ∀ z : Int32, ¬ z < 0 → 0 ≤ z.toInt := fun z hz => by
    by_cases q : 0 ≤ z.toInt
    · exact q
    · exact absurd (Int32.lt_iff_toInt_lt.mpr (by rw [Int32.toInt_zero]; omega)) hz
  have s0 := nn zs p0.1
  have d0 := nn zd p0.2.1
  have m0 := nn zn p0.2.2
  have es : zs.toNatClampNeg = zs.toInt.toNat := rfl
  have ed : zd.toNatClampNeg = zd.toInt.toNat := rfl
  have en : zn.toNatClampNeg = zn.toInt.toNat := rfl
  unfold ee_cp at h
  split at h
  · rename_i a b c ha hb hc
    obtain ⟨z1, e1, e2, e3⟩ := ee_it.int (a := a.1) (b := a.2) hk hvn ha
    cases e1
    obtain ⟨z2, e4, e5, e6⟩ := ee_it.int (a := b.1) (b := b.2) hk hvs hb
    cases e4
    obtain ⟨z3, e7, e8, e9⟩ := ee_it.int (a := c.1) (b := c.2) hk hvd hc
    cases e7
    split at h
    · rename_i q hq
      obtain ⟨h2, h3⟩ := ee_and h
      show ee_sgp P1 sg1 j _
      by_cases hc2 : zd.toNatClampNeg ≤ j ∧ j < zd.toNatClampNeg + zn.toNatClampNeg
      · rw [pk_cpy_in hc2.1 hc2.2, ee_sgp_eq]
        have b1 := ee_bds.ok hk hf hvs s0 e5 e6 hq (j - zd.toNatClampNeg) (by omega) (by omega)
        have w := ee_wn.ok (P := P1) (k := j - zd.toNatClampNeg) (n := a.2) hk hvd d0 e8 e9 (by omega)
        rw [show zd.toInt.toNat + (j - zd.toNatClampNeg) = j by omega] at w
        exact ee_wk.ok w.1 w.2 b1.1 b1.2 (Nat.zero_le _) h2
      · rw [pk_cpy_out (by omega)]
        have hel := hg j hj
        unfold ee_el at hel
        cases hl : ov1.lookup j with
        | none => rw [hl] at hel; exact hel
        | some y =>
          rw [hl] at hel
          exact ee_ent.ok hk (List.all_eq_true.mp h3 (j, y) (ee_mem_lookup hl)) hel
    · cases h
  · cases h
/-- n, sp, dp fit: bounds alone -/
def ee_cf (iv : ee_iv) (n sp dp : Value) (n0 n1 : Nat) : Bool := match ee_it iv n, ee_it iv sp, ee_it iv dp with
  | some a, some b, some c => (decide (0 ≤ a.1) && (decide (0 ≤ b.1) && decide (0 ≤ c.1))) && (decide (b.2 + a.2 ≤ (n0 : Int)) && decide (c.2 + a.2 ≤ (n1 : Int)))
  | _, _, _ => false
theorem ee_nn {z : Int32} (h : 0 ≤ z.toInt) : ¬ z < 0 ∧ (z.toNatClampNeg : Int) = z.toInt := by
  refine ⟨fun q => ?_, ?_⟩
  · have := Int32.lt_iff_toInt_lt.mp q
    rw [Int32.toInt_zero] at this
    omega
  · have : z.toNatClampNeg = z.toInt.toNat := rfl
    omega
theorem ee_cf.ok {ns : List Int32} {as : List Nat} {ex : Nat → Nat} {iv : ee_iv} {n sp dp vn vsp vd : Value} {n0 n1 : Nat} (hk : ee_ok ns iv) (hn : ee_v ns as ex n vn) (hs : ee_v ns as ex sp vsp) (hd : ee_v ns as ex dp vd) (h : ee_cf iv n sp dp n0 n1 = true) : ∃ zn zs zd : Int32, vn = .int zn ∧ vsp = .int zs ∧ vd = .int zd ∧ (¬ zs < 0 ∧ ¬ zd < 0 ∧ ¬ zn < 0) ∧ zs.toNatClampNeg + zn.toNatClampNeg ≤ n0 ∧ zd.toNatClampNeg + zn.toNatClampNeg ≤ n1 := by
  unfold ee_cf at h
  split at h
  · rename_i a b c h1 h2 h3
    obtain ⟨g1, g2⟩ := ee_and h
    obtain ⟨g1, g3⟩ := ee_and g1
    obtain ⟨g3, g4⟩ := ee_and g3
    obtain ⟨g2, g5⟩ := ee_and g2
    have g1 := of_decide_eq_true g1
    have g2 := of_decide_eq_true g2
    have g3 := of_decide_eq_true g3
    have g4 := of_decide_eq_true g4
    have g5 := of_decide_eq_true g5
    obtain ⟨zn, rfl, n1', n2'⟩ := ee_it.int (a := a.1) (b := a.2) hk hn h1
    obtain ⟨zs, rfl, s1, s2⟩ := ee_it.int (a := b.1) (b := b.2) hk hs h2
    obtain ⟨zd, rfl, d1, d2⟩ := ee_it.int (a := c.1) (b := c.2) hk hd h3
    have p1 := ee_nn (z := zn) (by omega)
    have p2 := ee_nn (z := zs) (by omega)
    have p3 := ee_nn (z := zd) (by omega)
    exact ⟨zn, zs, zd, rfl, rfl, rfl, ⟨p2.1, p3.1, p1.1⟩, by omega, by omega⟩
  · cases h
def ee_a5 (stk : List Value) : Option (Value × Value × Nat × Value × Nat × List Value) := match stk with
  | n :: dp :: .ref b :: sp :: .ref a :: r => some (n, dp, b, sp, a, r)
  | _ => none
theorem ee_a5.ok {stk r : List Value} {n dp sp : Value} {a b : Nat} (h : ee_a5 stk = some (n, dp, b, sp, a, r)) : stk = n :: dp :: .ref b :: sp :: .ref a :: r := by
  unfold ee_a5 at h
  split at h
  · cases h
    rfl
  · cases h
theorem ee_all.cons {α β : Type} {R : α → β → Prop} {a : α} {l : List α} {k : List β} (h : ee_all R (a :: l) k) : ∃ b k', k = b :: k' ∧ R a b ∧ ee_all R l k' := by
  cases k with
  | nil => exact h.elim
  | cons b k => exact ⟨b, k, rfl, h.1, h.2⟩
def ee_h20 : ee_H := fun _ _ _ e st => match st with
  | (pc, lo, stk, w, iv, kc, ks, sv) => (match e.2.1 with
      | .invokespecial _ => (match stk with
        | .ref _ :: stk => if e.2.2.2.2.2.1 = 1 ∧ (stk.map ee_cat).sum ≤ 8 then ee_nx e.2.2.1 3 [(pc + 3, lo, stk, w, iv, kc, ks, sv)] else none
        | _ => none)
      | .invokestatic _ => (match ee_a5 stk with
        | some (n, dp, b, sp, a, stk) => if (e.2.2.2.2.2.1 = 2 ∧ (stk.map ee_cat).sum ≤ 8) ∧ a < 1000000 ∧ b < 1000000 then (match w[a]?, w[b]? with
          | some (.inr (t0, n0, P0, sg0, ov0)), some (.inr (t1, n1, P1, sg1, ov1)) => if (t0 = 0 ∧ t1 = 0) ∧ ee_cf iv n sp dp n0 n1 = true ∧ ee_cp iv n sp dp P0 sg0 ov0 P1 sg1 ov1 = true then ee_nx e.2.2.1 3 [(pc + 3, lo, stk, w.set b (.inr (t1, n1, P1, sg1, [])), iv, kc, ks, sv)] else none
          | _, _ => none) else none
        | none => none)
      | _ => none)
theorem ee_cats {ns : List Int32} {as : List Nat} {ex : Nat → Nat} : ∀ {stk vs : List Value}, ee_all (ee_v ns as ex) stk vs → (vs.map fun v => v.category) = stk.map ee_cat
  | [], [], _ => rfl
  | x :: stk, v :: vs, h => by
    rw [List.map_cons, List.map_cons, ee_cats h.2, h.1.cat]
  | [], _ :: _, h => h.elim
  | _ :: _, [], h => h.elim
set_option maxHeartbeats 2000000 in
theorem ee_h20.snd : ee_Snd ee_h20 := by
  intro X Y oc own cc ini dm bc bs Q e st sts F ho hi hd he hpc h k
  obtain ⟨p, l, en, R, s, m, args, below, meth, c⟩ := X
  obtain ⟨A, D, dA, ex, x0, a0, sv0, nL⟩ := Y
  obtain ⟨pc, lo, stk, w, iv, kc, ks, sv⟩ := st
  obtain ⟨pc', ins, len, hn, ea, eb, ez, qa, qb, qc⟩ := e
  obtain ⟨hx, hb, hml, hown, hts, hK, hA, hini, hR, hE⟩ := F
  have hpc : pc = pc' := hpc
  subst hpc
  have hd : decode cc pc = .ok (ins, len) := hd
  intro ns as H lc ls vs C
  obtain ⟨c1, c2, c3, c4, c5, c6⟩ := C
  show W p l en R s m args below meth c H lc kc ks Q (F0 m pc ls vs)
  cases ins with
  | invokespecial i =>
    cases stk with
    | nil => exact ee_no h
    | cons x stk =>
      cases vs with
      | nil => exact c4.elim
      | cons v vs =>
        obtain ⟨c4v, c4⟩ := c4
        cases x with
        | ref j =>
          obtain ⟨a, rfl⟩ := ee_v.ref c4v
          replace h : (if eb = 1 ∧ (stk.map ee_cat).sum ≤ 8 then ee_nx len 3 [(pc + 3, lo, stk, w, iv, kc, ks, sv)] else none) = some sts := h
          have hee : (if eb = 0 then (match ee_CL[ea]? with
            | some q => decide (q.1 = oc) && (decide (q.2.1 = i) && (decide (q.2.2.2.1 = 2) && (decide (q.2.2.1 = qa) && (decide (q.2.2.2.1 = qb) && decide (q.2.2.2.2.1 = qc)))))
            | none => false) else if eb = 1 then (match ee_OL[ea]? with
            | some q => decide (q.1 = oc) && decide (q.2.1 = i)
            | none => false) else true) = true := he
          by_cases hc : eb = 1 ∧ (stk.map ee_cat).sum ≤ 8
          · rw [if_pos hc] at h
            obtain ⟨rfl, rfl⟩ := ee_nx_some h
            rw [if_neg (by omega), if_pos hc.1] at hee
            cases hq : ee_OL[ea]? with
            | none => rw [hq] at hee; cases hee
            | some q =>
              rw [hq] at hee
              obtain ⟨e1, e2⟩ := ee_and hee
              have e1 := of_decide_eq_true e1
              have e2 := of_decide_eq_true e2
              have hm := ee_OLok q (List.mem_of_getElem? hq)
              rw [e1, ee_own_ow ho, e2] at hm
              obtain ⟨lv, c3, c3l⟩ := c3
              refine W.objInit hx hb hown (hts _ hm) (hts _ ee_obj.1) (hts _ ee_obj.2) rfl (by rw [hml]; exact c3.1) rfl hd (by omega) ?_ (k _ List.mem_cons_self ns as H lc ls _ ⟨c1, c2, ⟨lv, c3, c3l⟩, c4, c5, c6⟩)
              have hs := hc.2
              rw [← ee_cats c4] at hs
              have := lv_room (m := m) (pc := pc) (ls := ls) (rest := Value.ref a :: vs) hs
              omega
          · rw [if_neg hc] at h
            exact ee_no h
        | _ => exact ee_no h
  | invokestatic i =>
    replace h : (match ee_a5 stk with
        | some (n, dp, b, sp, a, stk) => if (eb = 2 ∧ (stk.map ee_cat).sum ≤ 8) ∧ a < 1000000 ∧ b < 1000000 then (match w[a]?, w[b]? with
          | some (.inr (t0, n0, P0, sg0, ov0)), some (.inr (t1, n1, P1, sg1, ov1)) => if (t0 = 0 ∧ t1 = 0) ∧ ee_cf iv n sp dp n0 n1 = true ∧ ee_cp iv n sp dp P0 sg0 ov0 P1 sg1 ov1 = true then ee_nx len 3 [(pc + 3, lo, stk, w.set b (.inr (t1, n1, P1, sg1, [])), iv, kc, ks, sv)] else none
          | _, _ => none) else none
        | none => none) = some sts := h
    cases h5 : ee_a5 stk with
    | none => rw [h5] at h; exact ee_no h
    | some t5 =>
      obtain ⟨n, dp, b, sp, a, stk2⟩ := t5
      rw [h5] at h
      simp only at h
      have e5 := ee_a5.ok h5
      subst e5
      obtain ⟨vn, vs1, rfl, cn0, c4a⟩ := c4.cons
      obtain ⟨vd, vs2, rfl, cd0, c4b⟩ := c4a.cons
      obtain ⟨vb, vs3, rfl, cb0, c4c⟩ := c4b.cons
      obtain ⟨vsp, vs4, rfl, cs0, c4d⟩ := c4c.cons
      obtain ⟨va, vs, rfl, ca0, c4e⟩ := c4d.cons
      obtain ⟨ab, rfl⟩ := ee_v.ref cb0
      obtain ⟨aa, rfl⟩ := ee_v.ref ca0
      have hee : (if eb = 0 then (match ee_CL[ea]? with
        | some q => decide (q.1 = oc) && (decide (q.2.1 = i) && (decide (q.2.2.2.1 = 1) && (decide (q.2.2.1 = qa) && (decide (q.2.2.2.1 = qb) && decide (q.2.2.2.2.1 = qc)))))
        | none => false) else if eb = 2 then (match ee_AL[ea]? with
        | some q => decide (q.1 = oc) && decide (q.2.1 = i)
        | none => false) else if eb = 3 ∨ eb = 4 then (match ee_XL[ea]? with
        | some q => decide (q.1 = oc) && (decide (q.2.1 = i) && decide (q.2.2.1 = eb))
        | none => false) else true) = true := he
      by_cases hc : (eb = 2 ∧ (stk2.map ee_cat).sum ≤ 8) ∧ a < 1000000 ∧ b < 1000000
      · rw [if_pos hc] at h
        obtain ⟨⟨hc1, hc2⟩, hc3, hc4⟩ := hc
        rw [if_neg (by omega), if_pos hc1] at hee
        cases hq : ee_AL[ea]? with
        | none => rw [hq] at hee; cases hee
        | some q =>
          rw [hq] at hee
          obtain ⟨e1, e2⟩ := ee_and hee
          have e1 := of_decide_eq_true e1
          have e2 := of_decide_eq_true e2
          have hm := ee_ALok q (List.mem_of_getElem? hq)
          rw [e1, ee_own_ow ho, e2] at hm
          split at h
          · rename_i t0 n0 P0 sg0 ov0 t1 n1 P1 sg1 ov1 hw0 hw1
            by_cases hc5 : (t0 = 0 ∧ t1 = 0) ∧ ee_cf iv n sp dp n0 n1 = true ∧ ee_cp iv n sp dp P0 sg0 ov0 P1 sg1 ov1 = true
            · rw [if_pos hc5] at h
              obtain ⟨rfl, rfl⟩ := ee_nx_some h
              obtain ⟨⟨rfl, rfl⟩, g5, g6⟩ := hc5
              obtain ⟨zn, zs, zd, rfl, rfl, rfl, hnn, f4, f5⟩ := ee_cf.ok c1 cn0 cs0 cd0 g5
              obtain ⟨f1, f2, f3⟩ := id hnn
              obtain ⟨lv, c3, c3l⟩ := c3
              obtain ⟨ws, c6w, hP, hD, hS⟩ := c6
              obtain ⟨ec0, p1, p2⟩ := c6w.at hw0 (ca0.at hc3)
              obtain ⟨ec1, p3, p4⟩ := c6w.at hw1 (cb0.at hc4)
              obtain ⟨f, rfl, p5⟩ := p2.ints (by omega)
              obtain ⟨g, rfl, p6⟩ := p4.ints (by omega)
              refine va_copyi hx hb (by rw [hml]; exact c3.1.symm) hown (hts _ hm) (hts _ ee_cpy.1) (hts _ ee_cpy.2.1) (hts _ ee_cpy.2.2) hK hP hD hS a b 0 0 p1 p3 rfl rfl rfl f1 f2 f3 f4 f5 (fun _ _ => rfl) (by omega) ?_ hd (fun H1 lc1 hP1 hD1 hS1 => k _ List.mem_cons_self ns as H1 lc1 ls _ ⟨c1, c2, ⟨lv, c3, c3l⟩, c4e, c5, _, c6w.set p3 (ee_c.mk (by omega) (ee_cp.ok c1 cn0 cs0 cd0 hnn p5 p6 f4 g6)), hP1, hD1, hS1⟩)
              rw [ee_cats c4e]
              have : nativeFrameWords "java/lang/System" "arraycopy" 5 = 7 := by decide +kernel
              omega
            · rw [if_neg hc5] at h
              exact ee_no h
          · exact ee_no h
      · rw [if_neg hc] at h
        exact ee_no h
  | _ => exact ee_no h
