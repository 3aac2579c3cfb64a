/-! a contract out of a certificate: the walk from the start and from each place with a pattern -/
/-- is what a walk came to as it should be? -/
def ee_oo (N : ee_me) (c : ee_ct) (cuts : List ee_cu) (prev : Option ee_cu) (q : ee_st) : Bool := if cuts.any (fun t => Nat.beq t.1 q.1) = true then decide (q.2.2.2.2.2.1 = 0 ∧ q.2.2.2.2.2.2.1 = 0) && cuts.any (fun t => Nat.beq t.1 q.1 && (match ee_mat c.2.2.2.1.1 c.2.2.1.length t.2.1 t.2.2.1 t.2.2.2.1 t.2.2.2.2.1 q with
    | some σ => (match prev with
      | some u => ee_fal c.2.2.2.1.1 σ q.2.2.2.2.1 u.2.2.2.2.2.1 u.2.2.2.2.2.2 t.2.2.2.2.2.1 t.2.2.2.2.2.2
      | none => true)
    | none => false)) else ee_end N q && c.2.2.2.2.1.any (fun p => (ee_mat c.2.2.2.1.1 c.2.2.1.length [] p.1 p.2.1 p.2.2 q).isSome)
def ee_sg2 (mt : Nat → Option ee_me) (Γ : List ee_ct) (K : List (Nat × Nat × List Nat)) (S : List (Nat × Nat × Nat)) (f : Nat) (N : ee_me) (c : ee_ct) (cuts : List ee_cu) (t : ee_cu) : Bool := decide (c.2.2.2.1.1 ≤ t.2.2.2.2.1.1) && (t.2.2.2.2.2.2.all (fun z => decide (z.2 < t.2.2.2.2.1.1)) && (match ee_exec mt Γ K S f c.2.2.2.2.2 (cuts.map (fun t => t.1)) false ee_hs c.1 N (t.1, t.2.1, t.2.2.1, t.2.2.2.1, t.2.2.2.2.1, 0, 0, []) with
  | some outs => outs.all (ee_oo N c cuts (some t))
  | none => false))
def ee_st1 (mt : Nat → Option ee_me) (Γ : List ee_ct) (K : List (Nat × Nat × List Nat)) (S : List (Nat × Nat × Nat)) (f : Nat) (N : ee_me) (c : ee_ct) (cuts : List ee_cu) : Bool := match ee_exec mt Γ K S f c.2.2.2.2.2 (cuts.map (fun t => t.1)) true ee_hs c.1 N (0, ee_arg 0 c.2.1, [], c.2.2.1, c.2.2.2.1, 0, 0, []) with
  | some outs => outs.all (ee_oo N c cuts none)
  | none => false
def ee_hd (N : ee_me) (c : ee_ct) : Bool := plainName N.2.1.cls && (decide ((c.2.1.map ee_cat).sum ≤ N.2.2.2.1) && decide (N.2.2.2.2.2.2.1 = 0 ∧ N.2.2.2.2.2.2.2 = 0))
theorem ee_W.imp {p : Program} {l : Launch} {e : Env} {R : Room} {s : State} {m : MethodId} {args : Array Value} {below : List Frame} {meth : Method} {c : Code} {H : Heap} {lc : List Loc} {kc ks : Nat} {Q1 Q2 : State → Prop} {g : JFrame} (h : ∀ t, Q1 t → Q2 t) (w : W p l e R s m args below meth c H lc kc ks Q1 g) : W p l e R s m args below meth c H lc kc ks Q2 g := by
  intro T hT X
  obtain ⟨t, a, b⟩ := w T hT X
  exact ⟨t, a, h t b⟩
theorem ee_prefix {np : Nat} {n0 ns r : List Int32} {σ : List Value} (h : ns = n0 ++ r) (hl : n0.length = np) : ee_nT np ns σ = n0 ++ σ.map (ee_vl ns) := by
  unfold ee_nT
  rw [h, ← hl, List.take_left]
set_option maxHeartbeats 4000000 in
theorem ee_cert {mt : Nat → Option ee_me} {Γ : List ee_ct} {K : List (Nat × Nat × List Nat)} {S : List (Nat × Nat × Nat)} {f : Nat} {N : ee_me} {c : ee_ct} {cuts : List ee_cu} (hT : ee_Tb mt) (hΓ : ∀ c ∈ Γ, ee_Ct mt c) (hN : mt c.1 = some N) (hhd : ee_hd N c = true) (hst : ee_st1 mt Γ K S f N c cuts = true) (hsg : ∀ t ∈ cuts, ee_sg2 mt Γ K S f N c cuts t = true) : ee_Ct mt c := by
  intro N' hN' l D dA ex ns as ws sz av h1 h3 h5
  rw [hN] at hN'
  cases hN'
  obtain ⟨hpl, hhd⟩ := ee_and hhd
  obtain ⟨hcat, hmk⟩ := ee_and hhd
  have hcat := of_decide_eq_true hcat
  obtain ⟨hmc, hms⟩ := of_decide_eq_true hmk
  refine Met.ofW (cc := N.2.2.1) (maxL := N.2.2.2.1) (ret := N.2.2.2.2.1) hpl rfl ?_
  intro p e s m args below meth cd s₁ B hml hv
  obtain ⟨rfl, hsz, hP, hK, hD, hE⟩ := hv
  subst hsz
  have hN2 := (hT.1 c.1 N hN)
  have hts : ∀ w ∈ ee_tbl, w.before av.toArray s = true := fun w hw => atoms_spec (ws := Cond.code N.2.1 N.2.2.1 N.2.2.2.1 N.2.2.2.2.1 :: ee_tbl) B.pre w (List.mem_cons_of_mem _ hw)
  have hl := lv_entry av (n := N.2.2.2.1) (by rw [ee_cA_sum h3]; exact hcat)
  rw [lg_entry_eq]
  have hnp : c.2.2.2.1.1 = ns.length := h1.1
  have F : ∀ x0 a0, ee_F (p, l, e, (headSpec (Cond.code N.2.1 N.2.2.1 N.2.2.2.1 N.2.2.2.2.1 :: ee_tbl) (ee_rm c.2.2.2.2.2 0 0)).room, s, m, av.toArray, below, meth, cd) (va_A ws s.heap.size, D, dA, ex, x0, a0, [], N.2.2.2.1) N.2.1.cls N.2.2.1 ee_tbl (N.2.1.name = "<init>") (c.2.2.2.2.2 + 1) N.2.2.2.2.2.2.1 N.2.2.2.2.2.2.2 := fun x0 a0 =>
    ⟨B.exec, B.bytes, hml, findClass_of_methodNamed B.named, hts, hK, fun q hq => Or.inr hq, fun hi => (name_of_methodNamed B.named B.method).1.trans hi, ⟨Nat.le_refl _, Nat.le_refl _, by rw [hmc]; exact Nat.le_refl _, by rw [hms]; exact Nat.le_refl _⟩, hE⟩
  -- a return
  have ret : ∀ (x0 : List Int32) (a0 : List Nat) (q : ee_st), (∃ r, x0 = ns ++ r) → a0 = as → ee_end N q = true → c.2.2.2.2.1.any (fun p => (ee_mat c.2.2.2.1.1 c.2.2.1.length [] p.1 p.2.1 p.2.2 q).isSome) = true → ee_G (p, l, e, (headSpec (Cond.code N.2.1 N.2.2.1 N.2.2.2.1 N.2.2.2.2.1 :: ee_tbl) (ee_rm c.2.2.2.2.2 0 0)).room, s, m, av.toArray, below, meth, cd) (va_A ws s.heap.size, D, dA, ex, x0, a0, [], N.2.2.2.1) (MQ below (ee_Qc c.2.2.2.2.1 D dA ex ns as (va_A ws s.heap.size)) av.toArray s 0 0 (va_A ws s.heap.size)) q := by
    intro x0 a0 q hx0 ha0 hend hps
    have hg := ee_retG (p := p) (l := l) (en := e) (R := (headSpec (Cond.code N.2.1 N.2.2.1 N.2.2.2.1 N.2.2.2.2.1 :: ee_tbl) (ee_rm c.2.2.2.2.2 0 0)).room) (s := s) (m := m) (args := av.toArray) (below := below) (meth := meth) (c := cd) (A := va_A ws s.heap.size) (D := D) (dA := dA) (ex := ex) (x0 := x0) (a0 := a0) (sv0 := []) (nL := N.2.2.2.1) (N := N) (outs := [q]) (q := q) B.exec B.bytes B.returns B.notSynchronized (fun b hb z hz => (hN2.2 b hb z hz).1) List.mem_cons_self hend
    obtain ⟨pc, lo, stk, w, iv, kc, ks, sv⟩ := q
    intro n2 as2 H lc ls vs C
    have hw := hg n2 as2 H lc ls vs C
    rw [hmc, hms] at hw
    refine ee_W.imp (fun t ht => ?_) hw
    obtain ⟨o, t1, t2, t3, t4⟩ := ht
    refine ⟨o, t1, t2, ?_, t4⟩
    obtain ⟨⟨q', hq', n3, as3, ws3, v, e1, e2, e3, ⟨⟨r3, e4⟩, ⟨r4, e5⟩⟩, e6, e7, e8, e9⟩, hF⟩ := t3
    have hq' := List.mem_singleton.mp hq'
    subst hq'
    refine ⟨?_, hF⟩
    obtain ⟨pp, hpp, hm⟩ := List.any_eq_true.mp hps
    obtain ⟨σ, hσ⟩ := Option.isSome_iff_exists.mp hm
    obtain ⟨r0, hr0⟩ := hx0
    have hpre : n3 = ns ++ (r0 ++ r3) := by rw [e4, hr0, List.append_assoc]
    have hn3 : c.2.2.2.1.1 ≤ n3.length := by rw [hnp, hpre, List.length_append]; omega
    have e2 : ee_all (ee_v n3 as3 ex) stk v.toList := e2
    have e3 : ee_ok n3 iv := e3
    have e7 : ee_wr n3 as3 ex dA w ws3 := e7
    have M : as3.length = c.2.2.1.length ∧ ee_ok (ee_nT c.2.2.2.1.1 n3 σ) pp.2.2 ∧ ee_all (ee_v (ee_nT c.2.2.2.1.1 n3 σ) as3 ex) pp.1 v.toList ∧ ee_wr (ee_nT c.2.2.2.1.1 n3 σ) as3 ex dA pp.2.1 ws3 := by
      have hσ : ee_mat c.2.2.2.1.1 c.2.2.1.length [] pp.1 pp.2.1 pp.2.2 (pc, lo, stk, w, iv, kc, ks, sv) = some σ := hσ
      unfold ee_mat at hσ
      simp only [ee_mlo] at hσ
      cases h1 : ee_ms c.2.2.2.1.1 iv pp.1 stk ([], List.range c.2.2.1.length) with
      | none => rw [h1] at hσ; cases hσ
      | some m1 =>
        rw [h1] at hσ
        simp only at hσ
        cases h2 : ee_mw c.2.2.2.1.1 iv w pp.2.1 0 m1 with
        | none => rw [h2] at hσ; cases hσ
        | some m2 =>
          rw [h2] at hσ
          simp only at hσ
          by_cases hc : (decide (m2.2.length = c.2.2.1.length) && (decide (c.2.2.1.length = pp.2.1.length) && (decide (c.2.2.1.length = w.length) && ee_pk c.2.2.2.1.1 m2.1 iv pp.2.2))) = true
          · rw [if_pos hc] at hσ
            cases hσ
            obtain ⟨z1, z2⟩ := ee_and hc
            obtain ⟨z2, z3⟩ := ee_and z2
            obtain ⟨z3, z4⟩ := ee_and z3
            have z1 := of_decide_eq_true z1
            have z2 := of_decide_eq_true z2
            have z3 := of_decide_eq_true z3
            have hal : as3.length = c.2.2.1.length := by rw [e7.len]; exact z3.symm
            have hwl : ws3.length = c.2.2.1.length := by rw [← hal, e7.1, List.length_map]
            obtain ⟨g4, g5⟩ := ee_ms.ok (as := as3) (ex := ex) e3 hn3 h1
            obtain ⟨g6, -, -⟩ := ee_mw.ok (as := as3) (ex := ex) e3 hn3 e7 h2
            have hm2 : m2.2 = List.range c.2.2.1.length := by
              obtain ⟨s1, r1, e1⟩ := g4.tr g6
              have e2 : m2.2 = List.range c.2.2.1.length ++ r1 := by rw [e1]
              rw [e2, List.length_append, List.length_range] at z1
              have : r1 = [] := List.length_eq_zero_iff.mp (by omega)
              rw [e2, this, List.append_nil]
            obtain ⟨g7, -⟩ := ee_mw.all e3 hn3 e7 h2 (ee_ml.rf m2) (by rw [z1]; exact z2)
            have ea : ee_aT as3 m2.2 = as3 := by rw [hm2]; exact ee_range_aT hal
            have ew : ee_wT ws3 m2.2 = ws3 := by rw [hm2]; exact ee_range_wT hwl
            rw [ea, ew] at g7
            refine ⟨hal, ee_pk.ok e3 hn3 z4, (g5 _ e2).imp (fun x y z => ?_), g7⟩
            have := g6.v z
            rwa [ea] at this
          · rw [if_neg hc] at hσ; cases hσ
    obtain ⟨M1, M2, M3, M4⟩ := M
    have has : as3 = as := by
      rw [e5, ha0] at M1
      have hl0 : as.length = c.2.2.1.length := h5.len
      rw [List.length_append] at M1
      have : r4 = [] := List.length_eq_zero_iff.mp (by omega)
      rw [e5, this, List.append_nil, ha0]
    rw [ee_prefix hpre hnp.symm] at M2 M3 M4
    rw [has] at M3 M4
    exact ⟨pp, hpp, σ.map (ee_vl n3), ws3, v, e1, M3, M2, M4, e8, e9⟩
  -- from a place with a pattern
  have loop : ∀ (n : Nat) (t : ee_cu), t ∈ cuts → ∀ (n2 : List Int32) (H : Heap) (lc : List Loc) (ls : Array Slot) (vs : List Value), ee_Con s (va_A ws s.heap.size) D dA ex ns as [] N.2.2.2.1 t.2.1 t.2.2.1 t.2.2.2.1 t.2.2.2.2.1 [] n2 as H lc ls vs → (ee_mu n2 t.2.2.2.2.2.1 t.2.2.2.2.2.2).toNat < n → W p l e (headSpec (Cond.code N.2.1 N.2.2.1 N.2.2.2.1 N.2.2.2.2.1 :: ee_tbl) (ee_rm c.2.2.2.2.2 0 0)).room s m av.toArray below meth cd H lc 0 0 (MQ below (ee_Qc c.2.2.2.2.1 D dA ex ns as (va_A ws s.heap.size)) av.toArray s 0 0 (va_A ws s.heap.size)) (F0 m t.1 ls vs) := by
    intro n
    induction n with
    | zero => intro t _ n2 H lc ls vs _ hm; omega
    | succ n ih =>
      intro t ht n2 H lc ls vs C hm
      obtain ⟨s1, s2⟩ := ee_and (hsg t ht)
      obtain ⟨s2, s3⟩ := ee_and s2
      have s1 := of_decide_eq_true s1
      split at s3
      · rename_i outs hex
        have hmem : ∀ z ∈ t.2.2.2.2.2.2, z.2 < n2.length := fun z hz => by
          rw [← C.1.1]
          exact of_decide_eq_true (List.all_eq_true.mp s2 z hz)
        refine ee_sound (K := K) (S := S) hT hΓ f _ _ _ _ _ _ outs N (p, l, e, (headSpec (Cond.code N.2.1 N.2.2.1 N.2.2.2.1 N.2.2.2.2.1 :: ee_tbl) (ee_rm c.2.2.2.2.2 0 0)).room, s, m, av.toArray, below, meth, cd) (va_A ws s.heap.size, D, dA, ex, n2, as, [], N.2.2.2.1) _ hex hN (ee_hs.x _ _) (F n2 as) rfl (fun q hq => ?_) n2 as H lc ls vs ?_
        · have hoo := List.all_eq_true.mp s3 q hq
          unfold ee_oo at hoo
          by_cases hct : cuts.any (fun t => Nat.beq t.1 q.1) = true
          · rw [if_pos hct] at hoo
            obtain ⟨k1, k2⟩ := ee_and hoo
            obtain ⟨k1, k3⟩ := of_decide_eq_true k1
            obtain ⟨t2, ht2, k4⟩ := List.any_eq_true.mp k2
            obtain ⟨k4, k5⟩ := ee_and k4
            have k4 := Nat.eq_of_beq_eq_true k4
            split at k5
            · rename_i σ hσ
              have k5 : ee_fal c.2.2.2.1.1 σ q.2.2.2.2.1 t.2.2.2.2.2.1 t.2.2.2.2.2.2 t2.2.2.2.2.2.1 t2.2.2.2.2.2.2 = true := k5
              obtain ⟨pc, lo, stk, w, iv, kc, ks, sv⟩ := q
              have k1 : kc = 0 := k1
              have k3 : ks = 0 := k3
              subst k1
              subst k3
              intro n3 as3 H3 lc3 ls3 vs3 C3
              obtain ⟨⟨r3, e4⟩, ⟨r4, e5⟩⟩ := C3.2.1
              obtain ⟨⟨r0, hr0⟩, -⟩ := C.2.1
              have hpre : n3 = ns ++ (r0 ++ r3) := by rw [e4, hr0, List.append_assoc]
              have hn3 : c.2.2.2.1.1 ≤ n3.length := by rw [hnp, hpre, List.length_append]; omega
              obtain ⟨m1, m2, m3, m4, m5, m6⟩ := ee_mat.ok (q := (pc, lo, stk, w, iv, 0, 0, sv)) C3 hn3 hσ
              have has : as3 = as := by
                have hl0 : as.length = c.2.2.1.length := h5.len
                rw [e5, List.length_append] at m1
                have : r4 = [] := List.length_eq_zero_iff.mp (by omega)
                rw [e5, this, List.append_nil]
              subst has
              have hfal := ee_fal.ok (nb := n2) (r := r3) C3.1 hn3 e4 hmem k5
              have k4 : t2.1 = pc := k4
              show W p l e _ s m av.toArray below meth cd H3 lc3 0 0 _ (F0 m pc ls3 vs3)
              rw [← k4]
              refine ih t2 ht2 (ee_nT c.2.2.2.1.1 n3 σ) H3 lc3 ls3 vs3 ⟨m3, ⟨⟨_, ee_prefix hpre hnp.symm⟩, [], (List.append_nil _).symm⟩, m4, m5, trivial, m6⟩ (by omega)
            · cases k5
          · rw [if_neg hct] at hoo
            obtain ⟨k1, k2⟩ := ee_and hoo
            exact ret n2 as q C.2.1.1 rfl k1 k2
        · obtain ⟨c1, c2, c3, c4, c5, c6⟩ := C
          exact ⟨c1, ⟨⟨[], (List.append_nil _).symm⟩, [], (List.append_nil _).symm⟩, c3, c4, c5, c6⟩
      · cases s3
  -- from the start
  unfold ee_st1 at hst
  split at hst
  · rename_i outs hex
    refine ee_sound (K := K) (S := S) hT hΓ f _ _ _ _ _ _ outs N (p, l, e, (headSpec (Cond.code N.2.1 N.2.2.1 N.2.2.2.1 N.2.2.2.2.1 :: ee_tbl) (ee_rm c.2.2.2.2.2 0 0)).room, s, m, av.toArray, below, meth, cd) (va_A ws s.heap.size, D, dA, ex, ns, as, [], N.2.2.2.1) _ hex hN (ee_hs.x _ _) (F ns as) rfl (fun q hq => ?_) ns as s.heap [] _ [] ⟨h1, ⟨⟨[], (List.append_nil _).symm⟩, [], (List.append_nil _).symm⟩, ⟨_, hl, ee_arg.ok 0 h3⟩, trivial, trivial, ws, h5, hP, hD.self, va_S.rf⟩
    have hoo := List.all_eq_true.mp hst q hq
    unfold ee_oo at hoo
    by_cases hct : cuts.any (fun t => Nat.beq t.1 q.1) = true
    · rw [if_pos hct] at hoo
      obtain ⟨k1, k2⟩ := ee_and hoo
      obtain ⟨k1, k3⟩ := of_decide_eq_true k1
      obtain ⟨t2, ht2, k4⟩ := List.any_eq_true.mp k2
      obtain ⟨k4, k5⟩ := ee_and k4
      have k4 := Nat.eq_of_beq_eq_true k4
      split at k5
      · rename_i σ hσ
        obtain ⟨pc, lo, stk, w, iv, kc, ks, sv⟩ := q
        have k1 : kc = 0 := k1
        have k3 : ks = 0 := k3
        subst k1
        subst k3
        intro n3 as3 H3 lc3 ls3 vs3 C3
        obtain ⟨⟨r3, e4⟩, ⟨r4, e5⟩⟩ := C3.2.1
        have hn3 : c.2.2.2.1.1 ≤ n3.length := by rw [hnp, e4, List.length_append]; omega
        obtain ⟨m1, m2, m3, m4, m5, m6⟩ := ee_mat.ok (q := (pc, lo, stk, w, iv, 0, 0, sv)) C3 hn3 hσ
        have has : as3 = as := by
          have hl0 : as.length = c.2.2.1.length := h5.len
          rw [e5, List.length_append] at m1
          have : r4 = [] := List.length_eq_zero_iff.mp (by omega)
          rw [e5, this, List.append_nil]
        subst has
        have k4 : t2.1 = pc := k4
        show W p l e _ s m av.toArray below meth cd H3 lc3 0 0 _ (F0 m pc ls3 vs3)
        rw [← k4]
        exact loop _ t2 ht2 (ee_nT c.2.2.2.1.1 n3 σ) H3 lc3 ls3 vs3 ⟨m3, ⟨⟨_, ee_prefix e4 hnp.symm⟩, [], (List.append_nil _).symm⟩, m4, m5, trivial, m6⟩ (Nat.lt_succ_self _)
      · cases k5
    · rw [if_neg hct] at hoo
      obtain ⟨k1, k2⟩ := ee_and hoo
      exact ret ns as q ⟨[], (List.append_nil _).symm⟩ rfl k1 k2
  · cases hst
