/-! the walk is sound -/
def ee_Sf (mt : Nat → Option ee_me) (Γ : List ee_ct) (K : List (Nat × Nat × List Nat)) (S : List (Nat × Nat × Nat)) (f : Nat) : Prop := ∀ (d : Nat) (stops : List Nat) (b : Bool) (hs : List ee_H) (y : Nat) (st : ee_st) (outs : List ee_st) (M : ee_me) (X : ee_cx) (Y : ee_cy) (Q : State → Prop), ee_exec mt Γ K S f d stops b hs y M st = some outs → mt y = some M → (∀ h ∈ hs, ee_SndX X Y h) → ee_F X Y M.2.1.cls M.2.2.1 ee_tbl (M.2.1.name = "<init>") (d + 1) M.2.2.2.2.2.2.1 M.2.2.2.2.2.2.2 → Y.2.2.2.2.2.2.2 = M.2.2.2.1 → (∀ q ∈ outs, ee_G X Y Q q) → ee_G X Y Q st
set_option maxHeartbeats 2000000 in
theorem ee_met {mt : Nat → Option ee_me} {Γ : List ee_ct} {K : List (Nat × Nat × List Nat)} {S : List (Nat × Nat × Nat)} (hT : ee_Tb mt) {f : Nat} (IH : ee_Sf mt Γ K S f) {d y : Nat} {N : ee_me} {A0 : List Value} {w : ee_w} {iv : ee_iv} {sv : List Value} {outs : List ee_st} (hex : ee_exec mt Γ K S f d [] true ee_hs y N (0, ee_arg 0 A0, [], w, iv, 0, 0, sv) = some outs) (hN : mt y = some N) (hend : outs.all (ee_end N) = true) (hpl : plainName N.2.1.cls = true) (hcat : (A0.map ee_cat).sum ≤ N.2.2.2.1)
    (l : Launch) (D : va_G) (dA : Nat → ClassId) (ex : Nat → Nat) (x0 : List Int32) (a0 : List Nat) (sv0 : List Value) {ns : List Int32} {as : List Nat} {ws : va_W} (sz : Nat) {av : List Value} (h1 : ee_ok ns iv) (h2 : (∃ r, ns = x0 ++ r) ∧ ∃ r, as = a0 ++ r) (h3 : ee_all (ee_v ns as ex) A0 av) (h4 : ee_all (ee_v ns as ex) sv sv0) (h5 : ee_wr ns as ex dA w ws) :
    Met l N.2.1 (Cond.code N.2.1 N.2.2.1 N.2.2.2.1 N.2.2.2.2.1 :: ee_tbl) (ee_rm d N.2.2.2.2.2.2.1 N.2.2.2.2.2.2.2) (ee_Pc D dA ex av ws sz) (ee_Q outs D dA ex x0 a0 sv0 (va_A ws sz)) N.2.2.2.2.2.2.1 N.2.2.2.2.2.2.2 (va_A ws sz) := by
  refine Met.ofW (cc := N.2.2.1) (maxL := N.2.2.2.1) (ret := N.2.2.2.2.1) hpl rfl ?_
  intro p e s m args below meth c s₁ B hml hv
  obtain ⟨rfl, hsz, hP, hK, hD, hE⟩ := hv
  subst hsz
  have hN2 := (hT.1 y N hN)
  have hts : ∀ w ∈ ee_tbl, w.before av.toArray s = true := fun w hw => atoms_spec (ws := Cond.code N.2.1 N.2.2.1 N.2.2.2.1 N.2.2.2.2.1 :: ee_tbl) B.pre w (List.mem_cons_of_mem _ hw)
  have hl := lv_entry av (n := N.2.2.2.1) (by rw [ee_cA_sum h3]; exact hcat)
  rw [lg_entry_eq]
  refine IH d [] true ee_hs y (0, ee_arg 0 A0, [], w, iv, 0, 0, sv) outs N (p, l, e, (headSpec (Cond.code N.2.1 N.2.2.1 N.2.2.2.1 N.2.2.2.2.1 :: ee_tbl) (ee_rm d N.2.2.2.2.2.2.1 N.2.2.2.2.2.2.2)).room, s, m, av.toArray, below, meth, c) (va_A ws s.heap.size, D, dA, ex, x0, a0, sv0, N.2.2.2.1) _ hex hN (ee_hs.x _ _) ?_ rfl ?_ ns as s.heap [] _ [] ⟨h1, h2, ⟨_, hl, ee_arg.ok 0 h3⟩, trivial, h4, ws, h5, hP, hD.self, va_S.rf⟩
  · exact ⟨B.exec, B.bytes, hml, findClass_of_methodNamed B.named, hts, hK, fun q hq => Or.inr hq, fun hi => (name_of_methodNamed B.named B.method).1.trans hi, ⟨Nat.le_refl _, Nat.le_refl _, Nat.le_refl _, Nat.le_refl _⟩, hE⟩
  · intro q hq
    exact ee_retG B.exec B.bytes B.returns B.notSynchronized (fun b hb z hz => (hN2.2 b hb z hz).1) hq (List.all_eq_true.mp hend q hq)
/-- a contract found -/
theorem ee_try.ok {Γ : List ee_ct} {y d : Nat} {A : List Value} {w : ee_w} {iv : ee_iv} : ∀ {l : List Nat} {r : List (List Value × ee_w × ee_iv)}, ee_try Γ y d A w iv l = some r → ∃ c ∈ Γ, c.1 = y ∧ c.2.2.2.2.2 ≤ d ∧ ee_app c A w iv = some r
  | [], r, h => by cases h
  | k :: l, r, h => by
    unfold ee_try at h
    cases hk : Γ[k]? with
    | none => rw [hk] at h; cases h
    | some c =>
      rw [hk] at h
      simp only at h
      by_cases hc : c.1 = y ∧ c.2.2.2.2.2 ≤ d
      · rw [if_pos hc] at h
        cases ha : ee_app c A w iv with
        | some q =>
          rw [ha] at h
          cases h
          exact ⟨c, List.mem_of_getElem? hk, hc.1, hc.2, ha⟩
        | none =>
          rw [ha] at h
          exact ee_try.ok h
      · rw [if_neg hc] at h; cases h
theorem ee_app.ok {c : ee_ct} {A : List Value} {w : ee_w} {iv : ee_iv} {r : List (List Value × ee_w × ee_iv)} (h : ee_app c A w iv = some r) : ∃ m1 m2, ee_ms 0 iv c.2.1 A ([], []) = some m1 ∧ ee_mw 0 iv w c.2.2.1 0 m1 = some m2 ∧ m2.2.length = c.2.2.1.length ∧ ee_pk 0 m2.1 iv c.2.2.2.1 = true ∧ (∀ j ∈ m2.2, j < 1000000) ∧ (∀ v ∈ m2.1, (ee_it iv v).isSome = true) ∧ r = c.2.2.2.2.1.map (fun p => (p.1.map (ee_sx m2.1 m2.2 iv.1), ee_ups m2.2 (p.2.1.map (ee_sc m2.1 m2.2 iv.1)) w, ee_si m2.1 iv p.2.2)) := by
  unfold ee_app at h
  cases h1 : ee_ms 0 iv c.2.1 A ([], []) with
  | none => rw [h1] at h; cases h
  | some m1 =>
    rw [h1] at h
    simp only at h
    cases h2 : ee_mw 0 iv w c.2.2.1 0 m1 with
    | none => rw [h2] at h; cases h
    | some m2 =>
      rw [h2] at h
      simp only at h
      by_cases hc : (decide (m2.2.length = c.2.2.1.length) && (ee_pk 0 m2.1 iv c.2.2.2.1 && (va_nd m2.2 && (m2.2.all (fun j => decide (j < 1000000)) && m2.1.all (fun v => (ee_it iv v).isSome))))) = true
      · rw [if_pos hc] at h
        cases h
        obtain ⟨g1, g2⟩ := ee_and hc
        obtain ⟨g2, g3⟩ := ee_and g2
        obtain ⟨g3, g4⟩ := ee_and g3
        obtain ⟨g4, g5⟩ := ee_and g4
        exact ⟨m1, m2, rfl, h2, of_decide_eq_true g1, g2, fun j hj => of_decide_eq_true (List.all_eq_true.mp g4 j hj), fun v hv => List.all_eq_true.mp g5 v hv, rfl⟩
      · rw [if_neg hc] at h; cases h
/-- a call met by a contract -/
theorem ee_callK {p : Program} {l : Launch} {en : Env} {R : Room} {s : State} {m : MethodId} {args : Array Value} {below : List Frame} {meth : Method} {c : Code} {A : Nat → Prop} {D : va_G} {dA : Nat → ClassId} {ex : Nat → Nat} {x0 : List Int32} {a0 : List Nat} {sv0 : List Value} {nL : Nat} {Q : State → Prop} {pc na kc ks : Nat} {lo : List (Nat × Value)} {stk sv : List Value} {w : ee_w} {iv : ee_iv} {H : Heap} {lc : List Loc} {ls : Array Slot} {vs : List Value} {ns : List Int32} {as : List Nat} {ct : ee_ct} {a : Array Value} {m2 : ee_mq} {ws : va_W}
    (c1 : ee_ok ns iv) (c2 : (∃ r, ns = x0 ++ r) ∧ ∃ r, as = a0 ++ r) (c3 : ∃ lv, lv_has ls nL lv ∧ ee_all (ee_lr ns as ex) lo lv) (c4 : ee_all (ee_v ns as ex) (stk.drop na) (vs.drop na)) (c5 : ee_all (ee_v ns as ex) sv sv0) (c6w : ee_wr ns as ex dA w ws) (hP : va_P D vwCl ws H) (hD : va_D A ws) (hS : va_S A s.heap H lc) (hA : ∀ q, s.heap.size ≤ q → A q)
    (hj : ∀ j ∈ m2.2, j < 1000000) (hjl : ∀ j ∈ m2.2, j < ws.length) (hv : ∀ v ∈ m2.1, (ee_it iv v).isSome = true)
    (hr : va_Run p l en R s m args below meth c H lc kc ks 0 0 (F0 m pc ls vs) (vs.drop na) (ee_Qc ct.2.2.2.2.1 D dA ex (m2.1.map (ee_vl ns)) (ee_aT as m2.2) (va_A (ee_wT ws m2.2) H.size) a) (va_A (ee_wT ws m2.2) H.size))
    (k : ∀ q ∈ ct.2.2.2.2.1.map (fun p => (p.1.map (ee_sx m2.1 m2.2 iv.1), ee_ups m2.2 (p.2.1.map (ee_sc m2.1 m2.2 iv.1)) w, ee_si m2.1 iv p.2.2)), ee_G (p, l, en, R, s, m, args, below, meth, c) (A, D, dA, ex, x0, a0, sv0, nL) Q (pc + 3, lo, q.1 ++ stk.drop na, q.2.1, q.2.2, kc, ks, sv)) : W p l en R s m args below meth c H lc kc ks Q (F0 m pc ls vs) := by
  have hl : as.length = ws.length := by rw [c6w.1, List.length_map]
  have hg : ee_gd ns as ex m2.1 m2.2 := ⟨fun v hm => by
    obtain ⟨q, hq⟩ := Option.isSome_iff_exists.mp (hv v hm)
    exact ee_it.ex c1 hq, fun j hm => ⟨hj j hm, by rw [hl]; exact hjl j hm⟩⟩
  have hFc : ∀ q, va_A (ee_wT ws m2.2) H.size q → A q := by
    intro q h
    rcases h with ⟨i, e, h⟩ | h
    · unfold ee_wT at h
      rw [List.getElem?_map] at h
      cases hi : m2.2[i]? with
      | none => rw [hi] at h; cases h
      | some j =>
        rw [hi] at h
        have hjm := hjl j (List.mem_of_getElem? hi)
        have h : some (ws.getD j ee_wd0) = some (q, e) := h
        rw [List.getD_eq_getElem?_getD, List.getElem?_eq_getElem hjm] at h
        exact hD.2 j (q, e) (by rw [List.getElem?_eq_getElem hjm]; exact h)
    · exact hA q (Nat.le_trans hS.1 h)
  refine ee_backC hr hS (fun q _ h => hFc q h) hFc (fun q hq r ws2 v H1 lc1 g1 g2 g5 g6 g7 hS1 hkeep => ?_)
  have kk := k _ (List.mem_map.mpr ⟨q, hq, rfl⟩)
  have hfst : ws2.map (fun q => q.1) = (ee_wT ws m2.2).map (fun q => q.1) := by
    rw [← g5.1, c6w.1]
    unfold ee_aT ee_wT
    rw [List.map_map]
    apply List.map_congr_left
    intro j hjm
    have := hjl j hjm
    show (ws.map (fun q => q.1)).getD j 0 = (ws.getD j ee_wd0).1
    rw [List.getD_eq_getElem?_getD, List.getD_eq_getElem?_getD, List.getElem?_map, List.getElem?_eq_getElem this]
    rfl
  obtain ⟨f1, f2, f3⟩ := ee_frame hP hD hjl rfl hfst hkeep g6
  have mv : ∀ x v, ee_v ns as ex x v → ee_v (ns ++ r) as ex x v := fun x v q => by simpa using ee_v.mono r [] q
  obtain ⟨lv, c3, c3l⟩ := c3
  obtain ⟨⟨r0, hr0⟩, ha0⟩ := c2
  have kk2 := kk (ns ++ r) as H1 lc1 ls (v.toList ++ vs.drop na)
  refine kk2 ⟨ee_si.ok hg c1 g2, ⟨⟨r0 ++ r, by rw [hr0, List.append_assoc]⟩, ha0⟩, ⟨lv, c3, c3l.imp (fun a b q => ⟨q.1, mv _ _ q.2⟩)⟩, ?_, c5.imp mv, ee_ups m2.2 ws2 ws, ⟨?_, ?_⟩, f1, f2, hS1⟩
  · refine ee_all.app ?_ (c4.imp mv)
    rw [c1.1]
    exact g1.map2 (fun x v q => ee_sx.ok hg q)
  · rw [f3]; exact c6w.1
  · refine ee_ups.all ?_ (c6w.2.imp (fun x q g => by simpa using ee_c.mono r [] g))
    rw [c1.1]
    exact ee_all.map2 (R := fun (x : ee_cell) (q : Nat × va_E) => ee_c (m2.1.map (ee_vl ns) ++ r) (ee_aT as m2.2) ex dA x q.2) (fun x q g => ee_sc.ok hg g) g5.2
