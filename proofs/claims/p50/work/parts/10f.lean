/-! methods walked by hand: stretches between places, with the cells themselves in sight -/
theorem ee_met.imp {l : Launch} {y : MethodName} {ws : List Cond} {rm : Room} {Pc : Array Value → State → Prop} {Q1 Q2 : Array Value → State → Outcome → State → Prop} {mc ms : Nat} {free : Addr → Prop} (h : Met l y ws rm Pc Q1 mc ms free) (k : ∀ a st o t, Q1 a st o t → Q2 a st o t) : Met l y ws rm Pc Q2 mc ms free := by
  intro p0 en hadm hc hk s m args below hfr happ hP hK
  obtain ⟨n, o, q1, q2, q3, q4⟩ := h p0 en hadm hc hk s m args below hfr happ hP hK
  exact ⟨n, o, q1, q2, q3, k _ _ _ _ q4.1, q4.2⟩
def ee_QP (Φ : va_W → Option Value → Prop) (D : va_G) (A1 : Nat → Prop) : Array Value → State → Outcome → State → Prop := fun _ st oc t => (∃ (ws : va_W) (v : Option Value), oc = .returned v ∧ Φ ws v ∧ va_P D vwCl ws t.heap ∧ va_D A1 ws) ∧ va_F A1 st t
/-- the method that is walked -/
def ee_Mc (N : ee_me) (d : Nat) (D : va_G) (dA : Nat → ClassId) (A : Nat → Prop) (X : ee_cx) : Prop := match X with
  | (p, l, e, R, s, m, args, below, meth, c) => (∀ (ex : Nat → Nat) (x0 : List Int32) (a0 : List Nat), ee_Ext s A ex → ee_F (p, l, e, R, s, m, args, below, meth, c) (A, D, dA, ex, x0, a0, [], N.2.2.2.1) N.2.1.cls N.2.2.1 ee_tbl (N.2.1.name = "<init>") (d + 1) N.2.2.2.2.2.2.1 N.2.2.2.2.2.2.2) ∧ p.tables.exec = Jvm.exec ∧ c.code = N.2.2.1 ∧ meth.sig.returnType = N.2.2.2.2.1 ∧ meth.locks = false ∧ (∀ b ∈ N.2.2.2.2.2.1, ∀ e ∈ b.2, decode N.2.2.1 e.1 = .ok (e.2.1, e.2.2.1)) ∧ N.2.2.2.2.2.2.1 = 0 ∧ N.2.2.2.2.2.2.2 = 0
def ee_Wg (X : ee_cx) (D : va_G) (A : Nat → Prop) (Φ : va_W → Option Value → Prop) (H : Heap) (lc : List Loc) (pc : Nat) (ls : Array Slot) (vs : List Value) : Prop := match X with
  | (p, l, e, R, s, m, args, below, meth, c) => W p l e R s m args below meth c H lc 0 0 (MQ below (ee_QP Φ D A) args s 0 0 A) (F0 m pc ls vs)
def ee_Cx (X : ee_cx) (A : Nat → Prop) (D : va_G) (dA : Nat → ClassId) (ex : Nat → Nat) (as : List Nat) (nL : Nat) (lo : List (Nat × Value)) (stk : List Value) (w : ee_w) (iv : ee_iv) (ns : List Int32) (ws : va_W) (H : Heap) (lc : List Loc) (ls : Array Slot) (vs : List Value) : Prop :=
  ee_ok ns iv ∧ (∃ lv, lv_has ls nL lv ∧ ee_all (ee_lr ns as ex) lo lv) ∧ ee_all (ee_v ns as ex) stk vs ∧ ee_wr ns as ex dA w ws ∧ va_P D vwCl ws H ∧ va_D A ws ∧ va_S A X.2.2.2.2.1.heap H lc
set_option maxHeartbeats 1000000 in
theorem ee_open {mt : Nat → Option ee_me} {y d : Nat} {N : ee_me} (hT : ee_Tb mt) (hN : mt y = some N) (hpl : plainName N.2.1.cls = true) (hz : N.2.2.2.2.2.2.1 = 0 ∧ N.2.2.2.2.2.2.2 = 0) {l : Launch} {D : va_G} {dA : Nat → ClassId} {ex : Nat → Nat} {ns : List Int32} {as : List Nat} {ws : va_W} {sz : Nat} {A0 av : List Value} {w : ee_w} {iv : ee_iv} {Φ : va_W → Option Value → Prop} (hcat : (A0.map ee_cat).sum ≤ N.2.2.2.1) (h1 : ee_ok ns iv) (h3 : ee_all (ee_v ns as ex) A0 av) (h5 : ee_wr ns as ex dA w ws)
    (k : ∀ (X : ee_cx) (ls : Array Slot), ee_Mc N d D dA (va_A ws sz) X → ee_Ext X.2.2.2.2.1 (va_A ws sz) ex → ee_Cx X (va_A ws sz) D dA ex as N.2.2.2.1 (ee_arg 0 A0) [] w iv ns ws X.2.2.2.2.1.heap [] ls [] → ee_Wg X D (va_A ws sz) Φ X.2.2.2.2.1.heap [] 0 ls []) :
    Met l N.2.1 (Cond.code N.2.1 N.2.2.1 N.2.2.2.1 N.2.2.2.2.1 :: ee_tbl) (ee_rm d 0 0) (ee_Pc D dA ex av ws sz) (ee_QP Φ D (va_A ws sz)) 0 0 (va_A ws sz) := by
  refine Met.ofW (cc := N.2.2.1) (maxL := N.2.2.2.1) (ret := N.2.2.2.2.1) hpl rfl ?_
  intro p e s m args below meth c s₁ B hml hv
  obtain ⟨rfl, hsz, hP, hK, hD, hE⟩ := hv
  subst hsz
  have hN2 := (hT.1 y N hN)
  have hts : ∀ w ∈ ee_tbl, w.before av.toArray s = true := fun w hw => atoms_spec (ws := Cond.code N.2.1 N.2.2.1 N.2.2.2.1 N.2.2.2.2.1 :: ee_tbl) B.pre w (List.mem_cons_of_mem _ hw)
  have hl := lv_entry av (n := N.2.2.2.1) (by rw [ee_cA_sum h3]; exact hcat)
  rw [lg_entry_eq]
  refine k (p, l, e, (headSpec (Cond.code N.2.1 N.2.2.1 N.2.2.2.1 N.2.2.2.2.1 :: ee_tbl) (ee_rm d 0 0)).room, s, m, av.toArray, below, meth, c) _ ⟨fun ex' x0 a0 hE' => ?_, B.exec, B.bytes, B.returns, B.notSynchronized, fun b hb z hz => (hN2.2 b hb z hz).1, hz⟩ hE ⟨h1, ⟨_, hl, ee_arg.ok 0 h3⟩, trivial, h5, hP, hD.self, va_S.rf⟩
  exact ⟨B.exec, B.bytes, hml, findClass_of_methodNamed B.named, hts, hK, fun q hq => Or.inr hq, fun hi => (name_of_methodNamed B.named B.method).1.trans hi, ⟨Nat.le_refl _, Nat.le_refl _, by rw [hz.1]; exact Nat.le_refl _, by rw [hz.2]; exact Nat.le_refl _⟩, hE'⟩
/-- a stretch -/
theorem ee_go {mt : Nat → Option ee_me} {Γ : List ee_ct} {K : List (Nat × Nat × List Nat)} {S : List (Nat × Nat × Nat)} {f d : Nat} {y : Nat} {N : ee_me} {np n : Nat} {stops : List Nat} {ts : List ee_tg} {st : ee_tg} {X : ee_cx} {A : Nat → Prop} {D : va_G} {dA : Nat → ClassId} {ex : Nat → Nat} {x0 : List Int32} {as : List Nat} {Φ : va_W → Option Value → Prop} {H : Heap} {lc : List Loc} {ls : Array Slot} {vs : List Value} {ws : va_W}
    (hT : ee_Tb mt) (hΓ : ∀ c ∈ Γ, ee_Ct mt c) (hN : mt y = some N) (h : ee_rn mt Γ K S f d ee_hs y N np n stops ts st = true) (hnp : np = x0.length) (hw : as.length = n) (hM : ee_Mc N d D dA A X) (hE : ee_Ext X.2.2.2.2.1 A ex)
    (k : ∀ t ∈ ts, ∀ (r : List Int32) (ws : va_W) (H : Heap) (lc : List Loc) (ls : Array Slot) (vs : List Value), ee_Cx X A D dA ex as N.2.2.2.1 t.2.1 t.2.2.1 t.2.2.2.1 t.2.2.2.2 (x0 ++ r) ws H lc ls vs → ee_Wg X D A Φ H lc t.1 ls vs)
    (C : ee_Cx X A D dA ex as N.2.2.2.1 st.2.1 st.2.2.1 st.2.2.2.1 st.2.2.2.2 x0 ws H lc ls vs) : ee_Wg X D A Φ H lc st.1 ls vs := by
  obtain ⟨p, l, e, R, s, m, args, below, meth, c⟩ := X
  obtain ⟨c1, c3, c4, c6, hP, hD, hS⟩ := C
  refine ee_run (Γ := Γ) hT hΓ hN h hnp hw (ee_hs.x _ _) (hM.1 ex x0 as hE) (fun t ht r H lc ls vs C => ?_) ⟨c1, ⟨⟨[], (List.append_nil _).symm⟩, [], (List.append_nil _).symm⟩, c3, c4, trivial, ws, c6, hP, hD, hS⟩
  obtain ⟨d1, -, d3, d4, -, ws', d6, dP, dD, dS⟩ := C
  exact k t ht r ws' H lc ls vs ⟨d1, d3, d4, d6, dP, dD, dS⟩
/-- a return -/
theorem ee_fin {N : ee_me} {d : Nat} {X : ee_cx} {A : Nat → Prop} {D : va_G} {dA : Nat → ClassId} {ex : Nat → Nat} {as : List Nat} {Φ : va_W → Option Value → Prop} {pc : Nat} {lo : List (Nat × Value)} {stk : List Value} {w : ee_w} {iv : ee_iv} {ns : List Int32} {ws : va_W} {H : Heap} {lc : List Loc} {ls : Array Slot} {vs : List Value} (hM : ee_Mc N d D dA A X) (he : ee_end N (pc, lo, stk, w, iv, 0, 0, []) = true) (C : ee_Cx X A D dA ex as N.2.2.2.1 lo stk w iv ns ws H lc ls vs) (hΦ : ∀ v : Option Value, ee_all (ee_v ns as ex) stk v.toList → Φ ws v) : ee_Wg X D A Φ H lc pc ls vs := by
  obtain ⟨p, l, e, R, s, m, args, below, meth, c⟩ := X
  obtain ⟨-, hx, hb, hr, hlocks, hN, -⟩ := hM
  obtain ⟨c1, c3, c4, c6w, hP, hD, hS⟩ := C
  unfold ee_end at he
  cases hf : ee_find N pc with
  | none => rw [show ee_find N (pc, lo, stk, w, iv, 0, 0, ([] : List Value)).1 = none from hf] at he; cases he
  | some e =>
    rw [show ee_find N (pc, lo, stk, w, iv, 0, 0, ([] : List Value)).1 = some e from hf] at he
    obtain ⟨h1, -⟩ := ee_and he
    obtain ⟨b, g0, g1, g2⟩ := ee_find.ok hf
    have hd := hN b g0 e g1
    rw [g2] at hd
    show W p l _ R s m args below meth c H lc 0 0 (MQ below (ee_QP Φ D A) args s 0 0 A) (F0 m pc ls vs)
    have fin : ∀ v : Option Value, ee_all (ee_v ns as ex) stk v.toList → ∀ t : State, t.heap = H → s.WarmedH t.vm → ee_QP Φ D A args s (.returned v) t := fun v hv t ht _ =>
      ⟨⟨ws, v, rfl, hΦ v hv, by rw [ht]; exact hP, hD⟩, hS.F ht⟩
    have h1 : ee_rok N.2.2.2.2.1 e stk iv = true := h1
    obtain ⟨hlen, hcase⟩ := ee_rok.ok h1
    rcases hcase with ⟨o1, o2, o3⟩ | ⟨x, ty, o1, o2, o3, a, b, hq1, hnar⟩ | ⟨x, o1, o2, o3, hi⟩
    · rw [o2, hlen] at hd
      rw [o3] at c4 fin
      cases vs with
      | cons v vs => exact c4.elim
      | nil => exact W.vret hx hb (hr.trans o1) (fin none trivial) hS.2.2 hd hlocks
    · rw [o2, hlen] at hd
      rw [o3] at c4 fin
      obtain ⟨v, vs1, rfl, cv, c4a⟩ := c4.cons
      cases vs1 with
      | cons v vs => exact c4a.elim
      | nil =>
        obtain ⟨z, rfl, z1, z2⟩ := ee_it.int c1 cv hq1
        exact W.zret hx hb (hr.trans o1) (hnar z z1 z2) (fin (some (.int z)) ⟨cv, trivial⟩) hS.2.2 hd hlocks
    · rw [o2, hlen] at hd
      rw [o3] at c4 fin
      obtain ⟨v, vs1, rfl, cv, c4a⟩ := c4.cons
      cases vs1 with
      | cons v vs => exact c4a.elim
      | nil =>
        obtain ⟨z, rfl⟩ := ee_isl.ok cv hi
        exact W.lret hx hb (hr.trans o1) (fin (some (.long z)) ⟨cv, trivial⟩) hS.2.2 hd hlocks
/-- a call by a contract of its own; all cells are the callee's too -/
theorem ee_callP {mt : Nat → Option ee_me} (hT : ee_Tb mt) {M N : ee_me} {y d d' pc : Nat} {X : ee_cx} {A : Nat → Prop} {D : va_G} {dA : Nat → ClassId} {ex : Nat → Nat} {as : List Nat} {Φ Φ1 : va_W → Option Value → Prop} {lo : List (Nat × Value)} {stk : List Value} {w : ee_w} {iv : ee_iv} {ns : List Int32} {ws : va_W} {H : Heap} {lc : List Loc} {ls : Array Slot} {vs : List Value} {e : ee_en} (hY : mt y = some M) (hM : ee_Mc M (d + 1) D dA A X) (hE : ee_Ext X.2.2.2.2.1 A ex) (he : ee_find M pc = some e) (hN : mt e.2.2.2.2.2.2.2.1 = some N) (hcc : ee_cc M N e stk w 0 0 0 0 = true) (C : ee_Cx X A D dA ex as M.2.2.2.1 lo stk w iv ns ws H lc ls vs)
    (hmet : Met X.2.1 N.2.1 (Cond.code N.2.1 N.2.2.1 N.2.2.2.1 N.2.2.2.2.1 :: ee_tbl) (ee_rm d' 0 0) (ee_Pc D dA ex (vs.take (ee_na e)).reverse ws H.size) (ee_QP Φ1 D (va_A ws H.size)) 0 0 (va_A ws H.size)) (hd' : d' ≤ d)
    (k : ∀ (ws1 : va_W) (v : Option Value) (H1 : Heap) (lc1 : List Loc), Φ1 ws1 v → va_P D vwCl ws1 H1 → va_D A ws1 → va_S A X.2.2.2.2.1.heap H1 lc1 → ee_Wg X D A Φ H1 lc1 (pc + 3) ls (v.toList ++ vs.drop (ee_na e))) : ee_Wg X D A Φ H lc pc ls vs := by
  obtain ⟨p, l, en, R, s, m, args, below, meth, c⟩ := X
  have F := hM.1 ex [] [] hE
  have F0' := F
  obtain ⟨hx, hb, hml, hown, hts, hK, hA, hini, hR, hE2⟩ := F0'
  obtain ⟨c1, ⟨lv, c3, c3l⟩, c4, c6w, hP, hD, hS⟩ := C
  have hS : va_S A s.heap H lc := hS
  obtain ⟨bl, m0, m1, m2⟩ := ee_find.ok he
  obtain ⟨o1, o2⟩ := hT.1 y M hY
  obtain ⟨hd, hk, hi⟩ := o2 bl m0 e m1
  have hFc : ∀ q, va_A ws H.size q → A q := by
    intro q h
    rcases h with ⟨k, e, h⟩ | h
    · exact hD.2 k (q, e) h
    · exact hA q (Nat.le_trans hS.1 h)
  have hpre : ∀ U : State, U.heap = H → s.WarmedH U.vm → ee_Pc D dA ex (vs.take (ee_na e)).reverse ws H.size (vs.take (ee_na e)).reverse.toArray U := fun U hU hW =>
    ⟨rfl, by rw [hU], by rw [hU]; exact hP, va_K.moved hW.alike hK, hD.weaken (fun _ _ _ _ => trivial), hE2.call hS hU hW hFc⟩
  obtain ⟨a, hrun⟩ := ee_runC hT F rfl rfl hY hd hk hN hcc c3 c4 c6w hP hS hmet hd' ee_Pc.blind hpre
  rw [m2] at hrun
  show W p l en R s m args below meth c H lc 0 0 (MQ below (ee_QP Φ D A) args s 0 0 A) (F0 m pc ls vs)
  intro T hT' X
  obtain ⟨v, st₀, t, T', L, h0, X', hL, e1, e2, ⟨⟨ws1, v', hv, g1, g6, g7⟩, hz, hk'⟩, st⟩ := hrun T hT' X
  cases hv
  rw [h0] at hz hk'
  have kk := k ws1 v T'.heap (lc ++ L) g1 (by rw [e1]; exact g6) (g7.weaken (fun _ _ _ h => hFc _ h))
    ⟨Nat.le_trans hS.1 (by rw [e1]; exact hz), fun q h1 h2 => by rw [e1, hk' q (Nat.lt_of_lt_of_le h1 hS.1) (fun z => h2 (hFc q z))]; exact hS.2.1 q h1 h2, fun q hq => by
      rcases List.mem_append.mp hq with h | h
      · exact hS.2.2 q h
      · exact hFc _ (hL q h)⟩
  have kk : W p l en R s m args below meth c T'.heap (lc ++ L) 0 0 (MQ below (ee_QP Φ D A) args s 0 0 A) (F0 m (pc + 3) ls (v.toList ++ vs.drop (ee_na e))) := kk
  obtain ⟨t2, a1, b1⟩ := kk T' rfl X'
  exact ⟨t2, st t2 a1, b1⟩
/-- another pattern for the same cells -/
theorem ee_Cx.mat {X : ee_cx} {A : Nat → Prop} {D : va_G} {dA : Nat → ClassId} {ex : Nat → Nat} {as : List Nat} {nL n : Nat} {lo : List (Nat × Value)} {stk : List Value} {w : ee_w} {iv : ee_iv} {ns : List Int32} {ws : va_W} {H : Heap} {lc : List Loc} {ls : Array Slot} {vs : List Value} {tlo : List (Nat × Value)} {tw : ee_w} {tiv : ee_iv} {σ : List Value} {np : Nat} {n0 r : List Int32} (C : ee_Cx X A D dA ex as nL lo stk w iv ns ws H lc ls vs) (hns : ns = n0 ++ r) (hl : n0.length = np) (h : ee_mat np n tlo [] tw tiv (0, lo, [], w, iv, 0, 0, []) = some σ) {stk' : List Value} (hs : ee_all (ee_v (n0 ++ σ.map (ee_vl ns)) as ex) stk' vs) : ee_Cx X A D dA ex as nL tlo stk' tw tiv (n0 ++ σ.map (ee_vl ns)) ws H lc ls vs := by
  obtain ⟨c1, ⟨lv, c3, c3l⟩, c4, c6w, hP, hD, hS⟩ := C
  have hn : np ≤ ns.length := by rw [hns, List.length_append, hl]; omega
  have hnT : ∀ s : List Value, ee_nT np ns s = n0 ++ s.map (ee_vl ns) := fun s => ee_prefix hns hl
  unfold ee_mat at h
  simp only at h
  cases h0 : ee_mlo np iv lo tlo ([], List.range n) with
  | none => rw [h0] at h; cases h
  | some m0 =>
    rw [h0] at h
    simp only at h
    cases h1 : ee_ms np iv [] [] m0 with
    | none => rw [h1] at h; cases h
    | some m1 =>
      rw [h1] at h
      simp only at h
      cases h2 : ee_mw np iv w tw 0 m1 with
      | none => rw [h2] at h; cases h
      | some m2 =>
        rw [h2] at h
        simp only at h
        by_cases hc : (decide (m2.2.length = n) && (decide (n = tw.length) && (decide (n = w.length) && ee_pk np m2.1 iv tiv))) = true
        · rw [if_pos hc] at h
          cases h
          obtain ⟨z1, z2⟩ := ee_and hc
          obtain ⟨z2, z3⟩ := ee_and z2
          obtain ⟨z3, z4⟩ := ee_and z3
          have z1 := of_decide_eq_true z1
          have z2 := of_decide_eq_true z2
          have z3 := of_decide_eq_true z3
          have hal : as.length = n := by rw [c6w.len]; exact z3.symm
          have hwl : ws.length = n := by rw [← hal, c6w.1, List.length_map]
          obtain ⟨g1, lv', g2, g3⟩ := ee_mlo.ok (as := as) (ex := ex) c1 hn c3 c3l h0
          obtain ⟨g4, -⟩ := ee_ms.ok (as := as) (ex := ex) c1 hn h1
          obtain ⟨g6, -, -⟩ := ee_mw.ok (as := as) (ex := ex) c1 hn c6w h2
          have hm2 : m2.2 = List.range n := by
            obtain ⟨s1, r1, e1⟩ := (g1.tr g4).tr g6
            have e2 : m2.2 = List.range n ++ r1 := by rw [e1]
            rw [e2, List.length_append, List.length_range] at z1
            have : r1 = [] := List.length_eq_zero_iff.mp (by omega)
            rw [e2, this, List.append_nil]
          obtain ⟨g7, -⟩ := ee_mw.all c1 hn c6w h2 (ee_ml.rf m2) (by rw [z1]; exact z2)
          have ea : ee_aT as m2.2 = as := by rw [hm2]; exact ee_range_aT hal
          have ew : ee_wT ws m2.2 = ws := by rw [hm2]; exact ee_range_wT hwl
          rw [ea, ew, hnT] at g7
          have z5 := ee_pk.ok c1 hn z4
          rw [hnT] at z5
          refine ⟨z5, ⟨lv', g2, g3.imp (fun x y z => ⟨z.1, ?_⟩)⟩, hs, g7, hP, hD, hS⟩
          have := (g4.tr g6).v z.2
          rwa [ea, hnT] at this
        · rw [if_neg hc] at h; cases h
/-- one more number -/
theorem ee_Cx.push {X : ee_cx} {A : Nat → Prop} {D : va_G} {dA : Nat → ClassId} {ex : Nat → Nat} {as : List Nat} {nL : Nat} {lo : List (Nat × Value)} {stk : List Value} {w : ee_w} {iv : ee_iv} {ns : List Int32} {ws : va_W} {H : Heap} {lc : List Loc} {ls : Array Slot} {vs : List Value} (C : ee_Cx X A D dA ex as nL lo stk w iv ns ws H lc ls vs) {z : Int32} {a b : Int} (h1 : a ≤ z.toInt) (h2 : z.toInt ≤ b) : ee_Cx X A D dA ex as nL lo stk w (ee_ps iv a b []) (ns ++ [z]) ws H lc ls vs := by
  obtain ⟨c1, ⟨lv, c3, c3l⟩, c4, c6w, hP, hD, hS⟩ := C
  have mv : ∀ x v, ee_v ns as ex x v → ee_v (ns ++ [z]) as ex x v := fun x v q => by simpa using ee_v.mono [z] [] q
  exact ⟨c1.push h1 h2 (fun f hf => by cases hf), ⟨lv, c3, c3l.imp (fun a b q => ⟨q.1, mv _ _ q.2⟩)⟩, c4.imp mv, ⟨c6w.1, c6w.2.imp (fun x q g => by simpa using ee_c.mono [z] [] g)⟩, hP, hD, hS⟩
/-- closer bounds of a number -/
theorem ee_Cx.nar {X : ee_cx} {A : Nat → Prop} {D : va_G} {dA : Nat → ClassId} {ex : Nat → Nat} {as : List Nat} {nL : Nat} {lo : List (Nat × Value)} {stk : List Value} {w : ee_w} {iv : ee_iv} {ns : List Int32} {ws : va_W} {H : Heap} {lc : List Loc} {ls : Array Slot} {vs : List Value} (C : ee_Cx X A D dA ex as nL lo stk w iv ns ws H lc ls vs) {k : Nat} {z : Int32} {a b : Int} (hk : ns[k]? = some z) (h1 : a ≤ z.toInt) (h2 : z.toInt ≤ b) : ee_Cx X A D dA ex as nL lo stk w (iv.1, (k, a, b, []) :: iv.2) ns ws H lc ls vs := by
  obtain ⟨c1, c⟩ := C
  refine ⟨⟨c1.1, fun q hq => ?_⟩, c⟩
  rcases List.mem_cons.mp hq with rfl | hq
  · exact ⟨z, hk, h1, h2, fun f hf => by cases hf⟩
  · exact c1.2 q hq
theorem ee_Cx.getl {X : ee_cx} {A : Nat → Prop} {D : va_G} {dA : Nat → ClassId} {ex : Nat → Nat} {as : List Nat} {nL : Nat} {lo : List (Nat × Value)} {stk : List Value} {w : ee_w} {iv : ee_iv} {ns : List Int32} {ws : va_W} {H : Heap} {lc : List Loc} {ls : Array Slot} {vs : List Value} (C : ee_Cx X A D dA ex as nL lo stk w iv ns ws H lc ls vs) {i : Nat} {x : Value} (hx : lo.lookup i = some x) : ∃ v, (∃ lv, lv_has ls nL lv ∧ (i, v) ∈ lv) ∧ ee_v ns as ex x v := by
  obtain ⟨c1, ⟨lv, c3, c3l⟩, -⟩ := C
  obtain ⟨v, h1, h2⟩ := ee_look c3l hx
  exact ⟨v, ⟨lv, c3, h1⟩, h2⟩
theorem ee_Cx.addl {X : ee_cx} {A : Nat → Prop} {D : va_G} {dA : Nat → ClassId} {ex : Nat → Nat} {as : List Nat} {nL : Nat} {lo : List (Nat × Value)} {stk : List Value} {w : ee_w} {iv : ee_iv} {ns : List Int32} {ws : va_W} {H : Heap} {lc : List Loc} {ls : Array Slot} {vs : List Value} (C : ee_Cx X A D dA ex as nL lo stk w iv ns ws H lc ls vs) {i : Nat} {v x : Value} (hi : ∃ lv, lv_has ls nL lv ∧ (i, v) ∈ lv) (hx : ee_v ns as ex x v) : ee_Cx X A D dA ex as nL ((i, x) :: lo) stk w iv ns ws H lc ls vs := by
  obtain ⟨c1, ⟨lv, c3, c3l⟩, c⟩ := C
  obtain ⟨lv2, h1, h2⟩ := hi
  refine ⟨c1, ⟨(i, v) :: lv, ⟨c3.1, c3.2.1, fun q hq => ?_⟩, ⟨⟨rfl, hx⟩, c3l⟩⟩, c⟩
  rcases List.mem_cons.mp hq with rfl | hq
  · exact h1.2.2 _ h2
  · exact c3.2.2 q hq
theorem ee_Cx.stk {X : ee_cx} {A : Nat → Prop} {D : va_G} {dA : Nat → ClassId} {ex : Nat → Nat} {as : List Nat} {nL : Nat} {lo : List (Nat × Value)} {stk : List Value} {w : ee_w} {iv : ee_iv} {ns : List Int32} {ws : va_W} {H : Heap} {lc : List Loc} {ls : Array Slot} {vs : List Value} (C : ee_Cx X A D dA ex as nL lo stk w iv ns ws H lc ls vs) {stk' : List Value} (hs : ee_all (ee_v ns as ex) stk' vs) : ee_Cx X A D dA ex as nL lo stk' w iv ns ws H lc ls vs := by
  obtain ⟨c1, c2, -, c⟩ := C
  exact ⟨c1, c2, hs, c⟩
/-! the cells themselves -/
def ee_fld (ws : va_W) (k : Nat) : Int32 := match (ws[0]? : Option (Nat × va_E)) with
  | some (_, Sum.inr (_, vs)) => (match vs[k]? with
    | some (.int z) => z
    | _ => 0)
  | _ => 0
theorem ee_fld.at {ns : List Int32} {as : List Nat} {ex : Nat → Nat} {dA : Nat → ClassId} {w : ee_w} {ws : va_W} {ci k : Nat} {fs : List Value} {x : Value} (h : ee_wr ns as ex dA w ws) (h0 : w[0]? = some (.inl (ci, fs))) (hk : fs[k]? = some x) (hx : ∀ v, ee_v ns as ex x v → ∃ z, v = .int z) : ee_v ns as ex x (.int (ee_fld ws k)) := by
  obtain ⟨⟨a, e⟩, h1, h2⟩ := h.2.get h0
  obtain ⟨vs, e1, e2⟩ := h2
  have e1 : e = .inr (ci, vs) := e1
  subst e1
  obtain ⟨v, g1, g2⟩ := e2.get hk
  obtain ⟨z, rfl⟩ := hx v g2
  have : ee_fld ws k = z := by
    unfold ee_fld
    rw [h1]
    simp only [g1]
  rw [this]
  exact g2
theorem ee_fld.sym {ns : List Int32} {as : List Nat} {ex : Nat → Nat} {dA : Nat → ClassId} {w : ee_w} {ws : va_W} {ci k j : Nat} {fs : List Value} (h : ee_wr ns as ex dA w ws) (h0 : w[0]? = some (.inl (ci, fs))) (hk : fs[k]? = some (.retAddr j)) : ns[j]? = some (ee_fld ws k) :=
  (ee_fld.at h h0 hk (fun v hv => by obtain ⟨z, -, g⟩ := hv; exact ⟨z, g⟩)).sy
theorem ee_fld.num {ns : List Int32} {as : List Nat} {ex : Nat → Nat} {dA : Nat → ClassId} {w : ee_w} {ws : va_W} {ci k : Nat} {c : Int32} {fs : List Value} (h : ee_wr ns as ex dA w ws) (h0 : w[0]? = some (.inl (ci, fs))) (hk : fs[k]? = some (.int c)) : ee_fld ws k = c := by
  have := ee_fld.at h h0 hk (fun v hv => ⟨c, hv⟩)
  cases (show Value.int (ee_fld ws k) = Value.int c from this)
  rfl
def ee_arf (ws : va_W) (i : Nat) : Nat → Int32 := match (ws[i]? : Option (Nat × va_E)) with
  | some (_, Sum.inl (_, _, .inl f)) => f
  | _ => fun _ => 0
theorem ee_arf.ok {ns : List Int32} {as : List Nat} {ex : Nat → Nat} {dA : Nat → ClassId} {w : ee_w} {ws : va_W} {i n P : Nat} {sg : List (Nat × Int × Int)} {ov : List (Nat × Value)} (h : ee_wr ns as ex dA w ws) (hi : w[i]? = some (.inr (4, n, P, sg, ov))) : (∃ a, ws[i]? = some (a, .inl (dA 0, n, .inl (ee_arf ws i)))) ∧ ee_rq ns as ex ov (ee_arf ws i) := by
  obtain ⟨⟨a, e⟩, h1, h2⟩ := h.2.get hi
  obtain ⟨f, e1, h3⟩ := ee_c.cod h2
  have e1 : e = .inl (dA 0, n, .inl f) := e1
  subst e1
  have : ee_arf ws i = f := by
    unfold ee_arf
    rw [h1]
  rw [this]
  exact ⟨⟨a, h1⟩, h3⟩
theorem ee_Cx.cell {X : ee_cx} {A : Nat → Prop} {D : va_G} {dA : Nat → ClassId} {ex : Nat → Nat} {as : List Nat} {nL : Nat} {lo : List (Nat × Value)} {stk : List Value} {w : ee_w} {iv : ee_iv} {ns : List Int32} {ws : va_W} {H : Heap} {lc : List Loc} {ls : Array Slot} {vs : List Value} (C : ee_Cx X A D dA ex as nL lo stk w iv ns ws H lc ls vs) {i n P : Nat} {sg : List (Nat × Int × Int)} {ov : List (Nat × Value)} (hi : w[i]? = some (.inr (4, n, P, sg, ov))) {ov' : List (Nat × Value)} (hq : ee_rq ns as ex ov' (ee_arf ws i)) : ee_Cx X A D dA ex as nL lo stk (w.set i (.inr (4, n, P, sg, ov'))) iv ns ws H lc ls vs := by
  obtain ⟨c1, c2, c3, c6w, c⟩ := C
  obtain ⟨⟨a, h1⟩, -⟩ := ee_arf.ok c6w hi
  exact ⟨c1, c2, c3, c6w.same h1 (ee_c.mkc hq), c⟩
/-! contents named outside -/
def ee_exf (ex : Nat → Nat) (F : Nat → Nat → Int32) : Nat → Nat := fun n => if n < 5000000 then ex n else (F ((n - 5000000) / 2000) ((n - 5000000) % 2000)).toBitVec.toNat
theorem ee_exf.lt {ex : Nat → Nat} {F : Nat → Nat → Int32} {n : Nat} (h : n < 5000000) : ee_exf ex F n = ex n := if_pos h
theorem ee_exf.fz {ex : Nat → Nat} {F : Nat → Nat → Int32} (i : Nat) {j : Nat} (hj : j < 2000) : ee_fz (ee_exf ex F) i j = F i j := by
  have key : ∀ K : Nat, ¬ K + 2000 * i + j < K ∧ (K + 2000 * i + j - K) / 2000 = i ∧ (K + 2000 * i + j - K) % 2000 = j := fun K => ⟨by omega, by omega, by omega⟩
  obtain ⟨k1, k2, k3⟩ := key 5000000
  unfold ee_fz ee_exf
  rw [if_neg k1, k2, k3, Int32.ofNat_bitVecToNat]
  rfl
def ee_nf (x : Value) : Bool := match x with
  | .double k => decide (k.toNat < 1000)
  | .ref k => decide (k < 5000000)
  | _ => true
theorem ee_nf.ok {ns : List Int32} {as : List Nat} {ex : Nat → Nat} {F : Nat → Nat → Int32} {x v : Value} (h : ee_nf x = true) : ee_v ns as ex x v ↔ ee_v ns as (ee_exf ex F) x v := by
  cases x with
  | ref k =>
    have hn : k < 5000000 := of_decide_eq_true h
    have e : ee_exf ex F k = ex k := ee_exf.lt hn
    unfold ee_v
    by_cases hk : k < 1000000
    · simp only [hk, if_true]
    · simp only [hk, if_false, e]
  | double k =>
    have hn : k.toNat < 1000 := of_decide_eq_true h
    have e : ee_exf ex F (3000000 + k.toNat) = ex (3000000 + k.toNat) := ee_exf.lt (Nat.lt_of_lt_of_le (Nat.add_lt_add_left hn 3000000) (by decide))
    unfold ee_v
    by_cases hk : k = 0
    · simp only [hk, if_true]
    · simp only [hk, if_false, e]
  | int c => exact Iff.rfl
  | retAddr c => exact Iff.rfl
  | null => exact Iff.rfl
  | long c => exact Iff.rfl
  | float c => exact Iff.rfl
def ee_nfc (x : ee_cell) : Bool := match x with
  | .inl q => q.2.all ee_nf
  | .inr (t, _, _, _, ov) => (!Nat.beq t 4 || (Nat.beq ov.length 8 || Nat.beq ov.length 0)) && ov.all (fun z => ee_nf z.2)
theorem ee_nfc.ok {ns : List Int32} {as : List Nat} {ex ex2 : Nat → Nat} {dA : Nat → ClassId} {x : ee_cell} {e : va_E} (R : ∀ (x v : Value), ee_nf x = true → ee_v ns as ex x v → ee_v ns as ex2 x v) (h : ee_nfc x = true) (hc : ee_c ns as ex dA x e) : ee_c ns as ex2 dA x e := by
  match x, h, hc with
  | .inl (ci, fs), h, ⟨vs, h1, h2⟩ => exact ⟨vs, h1, h2.impm (fun x hx v q => R x v (List.all_eq_true.mp h x hx) q)⟩
  | .inr (t, n, P, sg, ov), h, hc =>
    obtain ⟨hl0, hA0⟩ := ee_and h
    have hA : ∀ q ∈ ov, ee_nf q.2 = true := List.all_eq_true.mp hA0
    unfold ee_c at hc ⊢
    simp only at hc ⊢
    by_cases h3 : t = 3
    · rw [if_pos h3] at hc ⊢; exact hc
    · rw [if_neg h3] at hc ⊢
      by_cases h4 : t = 4
      · rw [if_pos h4] at hc ⊢
        subst h4
        obtain ⟨f, h1, h2⟩ := hc
        refine ⟨f, h1, ?_⟩
        have hl : (Nat.beq ov.length 8 || Nat.beq ov.length 0) = true := by simpa using hl0
        unfold ee_rq at h2 ⊢
        split at h2
        · obtain ⟨y1, y2, x0, c0, d0, x1, c1, d1, g0, g1, ⟨g2, g3, g4⟩, ⟨g5, g6, g7⟩, g8⟩ := h2
          exact ⟨y1, y2, x0, c0, d0, x1, c1, d1, R _ _ (hA _ List.mem_cons_self) g0, R _ _ (hA _ (List.mem_cons_of_mem _ List.mem_cons_self)) g1, ⟨R _ _ (hA _ (List.mem_cons_of_mem _ (List.mem_cons_of_mem _ List.mem_cons_self))) g2, R _ _ (hA _ (List.mem_cons_of_mem _ (List.mem_cons_of_mem _ (List.mem_cons_of_mem _ List.mem_cons_self)))) g3, R _ _ (hA _ (List.mem_cons_of_mem _ (List.mem_cons_of_mem _ (List.mem_cons_of_mem _ (List.mem_cons_of_mem _ List.mem_cons_self))))) g4⟩, ⟨R _ _ (hA _ (List.mem_cons_of_mem _ (List.mem_cons_of_mem _ (List.mem_cons_of_mem _ (List.mem_cons_of_mem _ (List.mem_cons_of_mem _ List.mem_cons_self)))))) g5, R _ _ (hA _ (List.mem_cons_of_mem _ (List.mem_cons_of_mem _ (List.mem_cons_of_mem _ (List.mem_cons_of_mem _ (List.mem_cons_of_mem _ (List.mem_cons_of_mem _ List.mem_cons_self))))))) g6, R _ _ (hA _ (List.mem_cons_of_mem _ (List.mem_cons_of_mem _ (List.mem_cons_of_mem _ (List.mem_cons_of_mem _ (List.mem_cons_of_mem _ (List.mem_cons_of_mem _ (List.mem_cons_of_mem _ List.mem_cons_self)))))))) g7⟩, g8⟩
        · cases hl
        · cases hl
        · trivial
      · rw [if_neg h4] at hc ⊢
        obtain ⟨h0, f, h1, h2⟩ := hc
        refine ⟨h0, f, h1, fun j hj => ?_⟩
        have h5 := h2 j hj
        unfold ee_el at h5 ⊢
        cases hl2 : ov.lookup j with
        | none => rw [hl2] at h5; exact h5
        | some y => rw [hl2] at h5; exact R _ _ (hA (j, y) (ee_mem_lookup hl2)) h5
theorem ee_exf.out {ex : Nat → Nat} {F : Nat → Nat → Int32} {s : State} {A : Nat → Prop} (h : ee_Ext s A ex) : ee_Ext s A (ee_exf ex F) := by
  have E1 : ∀ i, i < 2 → ee_exf ex F (1000000 + i) = ex (1000000 + i) := fun i hi => match i, hi with
    | 0, _ => ee_exf.lt (by decide)
    | 1, _ => ee_exf.lt (by decide)
    | n + 2, h => absurd h (by omega)
  have E2 : ∀ i, i < 2 → ee_exf ex F (1000100 + i) = ex (1000100 + i) := fun i hi => match i, hi with
    | 0, _ => ee_exf.lt (by decide)
    | 1, _ => ee_exf.lt (by decide)
    | n + 2, h => absurd h (by omega)
  obtain ⟨h1, h2, h3, h4⟩ := h
  refine ⟨⟨fun i hi => ?_, fun i j hi hj q => ?_⟩, fun i hi => ?_, h3, h4⟩
  · simp only [E1 i hi, E2 i hi]
    exact h1.1 i hi
  · simp only [E1 i hi, E1 j hj] at q
    exact h1.2 i j hi hj q
  · rw [E1 i hi]
    exact h2 i hi
theorem ee_wr.frz {ns : List Int32} {as : List Nat} {ex : Nat → Nat} {dA : Nat → ClassId} {w : ee_w} {ws : va_W} {F : Nat → Nat → Int32} (h : ee_wr ns as ex dA w ws) (hw : w.all ee_nfc = true) : ee_wr ns as (ee_exf ex F) dA w ws :=
  ⟨h.1, h.2.impm (fun x hx q c => ee_nfc.ok (fun x v g => (ee_nf.ok g).mp) (List.all_eq_true.mp hw x hx) c)⟩
theorem ee_wr.unf {ns : List Int32} {as : List Nat} {ex : Nat → Nat} {dA : Nat → ClassId} {w : ee_w} {ws : va_W} {F : Nat → Nat → Int32} (h : ee_wr ns as (ee_exf ex F) dA w ws) (hw : w.all ee_nfc = true) : ee_wr ns as ex dA w ws :=
  ⟨h.1, h.2.impm (fun x hx q c => ee_nfc.ok (fun x v g => (ee_nf.ok g).mpr) (List.all_eq_true.mp hw x hx) c)⟩
def ee_nfl (lo : List (Nat × Value)) (stk : List Value) (w : ee_w) : Bool := lo.all (fun q => ee_nf q.2) && (stk.all ee_nf && w.all ee_nfc)
theorem ee_Cx.frz {X : ee_cx} {A : Nat → Prop} {D : va_G} {dA : Nat → ClassId} {ex : Nat → Nat} {as : List Nat} {nL : Nat} {lo : List (Nat × Value)} {stk : List Value} {w : ee_w} {iv : ee_iv} {ns : List Int32} {ws : va_W} {H : Heap} {lc : List Loc} {ls : Array Slot} {vs : List Value} (F : Nat → Nat → Int32) (C : ee_Cx X A D dA ex as nL lo stk w iv ns ws H lc ls vs) (h : ee_nfl lo stk w = true) : ee_Cx X A D dA (ee_exf ex F) as nL lo stk w iv ns ws H lc ls vs := by
  obtain ⟨hl, h⟩ := ee_and h
  obtain ⟨hs, hw⟩ := ee_and h
  obtain ⟨c1, ⟨lv, c3, c3l⟩, c4, c6w, c⟩ := C
  exact ⟨c1, ⟨lv, c3, c3l.impm (fun x hx q g => ⟨g.1, (ee_nf.ok (List.all_eq_true.mp hl x hx)).mp g.2⟩)⟩, c4.impm (fun x hx v q => (ee_nf.ok (List.all_eq_true.mp hs x hx)).mp q), c6w.frz hw, c⟩
theorem ee_Cx.unf {X : ee_cx} {A : Nat → Prop} {D : va_G} {dA : Nat → ClassId} {ex : Nat → Nat} {as : List Nat} {nL : Nat} {lo : List (Nat × Value)} {stk : List Value} {w : ee_w} {iv : ee_iv} {ns : List Int32} {ws : va_W} {H : Heap} {lc : List Loc} {ls : Array Slot} {vs : List Value} {F : Nat → Nat → Int32} (C : ee_Cx X A D dA (ee_exf ex F) as nL lo stk w iv ns ws H lc ls vs) (h : ee_nfl lo stk w = true) : ee_Cx X A D dA ex as nL lo stk w iv ns ws H lc ls vs := by
  obtain ⟨hl, h⟩ := ee_and h
  obtain ⟨hs, hw⟩ := ee_and h
  obtain ⟨c1, ⟨lv, c3, c3l⟩, c4, c6w, c⟩ := C
  exact ⟨c1, ⟨lv, c3, c3l.impm (fun x hx q g => ⟨g.1, (ee_nf.ok (List.all_eq_true.mp hl x hx)).mpr g.2⟩)⟩, c4.impm (fun x hx v q => (ee_nf.ok (List.all_eq_true.mp hs x hx)).mpr q), c6w.unf hw, c⟩
