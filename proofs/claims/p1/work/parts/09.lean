/-! a callee's contract out of its walk; the walk's soundness -/
def ee_rm (d mc ms : Nat) : Room := { frames := d + 1, cells := mc, slots := ms, locals := 64 * (d + 1) }
set_option maxHeartbeats 2000000 in
theorem ee_met {f : Nat} (IH : ee_Sf f) {d y : Nat} {N : ee_me} {A0 : List Value} {w : ee_w} {iv : ee_iv} {sv : List Value} {outs : List ee_st} (hex : ee_exec f d 1000000 y (0, ee_arg 0 A0, [], w, iv, 0, 0, sv) = some outs) (hN : ee_MT[y]? = some N) (hend : outs.all (ee_end N) = true) (hpl : plainName N.2.1.cls = true) (hcat : (A0.map ee_cat).sum ≤ N.2.2.2.1)
    (l : Launch) (D : va_G) (dA : Nat → ClassId) (ex : Nat → Nat) (x0 : List Int32) (sv0 : List Value) {ns : List Int32} {as : List Nat} {ws : va_W} (sz : Nat) {av : List Value} (h1 : ee_ok ns iv) (h2 : ∃ r, ns = x0 ++ r) (h3 : ee_all (ee_v ns as ex) A0 av) (h4 : ee_all (ee_v ns as ex) sv sv0) (h5 : ee_wr ns as ex dA w ws) :
    Met l N.2.1 (Cond.code N.2.1 N.2.2.1 N.2.2.2.1 N.2.2.2.2.1 :: ee_tbl) (ee_rm d N.2.2.2.2.2.2.1 N.2.2.2.2.2.2.2) (ee_Pc D dA ex x0 av ws sz) (ee_Q outs D dA ex x0 sv0 (va_A ws sz)) N.2.2.2.2.2.2.1 N.2.2.2.2.2.2.2 (va_A ws sz) := by
  refine Met.ofW (cc := N.2.2.1) (maxL := N.2.2.2.1) (ret := N.2.2.2.2.1) hpl rfl ?_
  intro p e s m args below meth c s₁ B hml hv
  obtain ⟨rfl, hsz, hP, hK, hD, hE⟩ := hv
  subst hsz
  have hN2 := (ee_MTok y N hN)
  have hts : ∀ w ∈ ee_tbl, w.before av.toArray s = true := fun w hw => atoms_spec (ws := Cond.code N.2.1 N.2.2.1 N.2.2.2.1 N.2.2.2.2.1 :: ee_tbl) B.pre w (List.mem_cons_of_mem _ hw)
  have hl := lv_entry av (n := N.2.2.2.1) (by rw [ee_cA_sum h3]; exact hcat)
  rw [lg_entry_eq]
  refine IH d 1000000 y (0, ee_arg 0 A0, [], w, iv, 0, 0, sv) outs N (p, l, e, (headSpec (Cond.code N.2.1 N.2.2.1 N.2.2.2.1 N.2.2.2.2.1 :: ee_tbl) (ee_rm d N.2.2.2.2.2.2.1 N.2.2.2.2.2.2.2)).room, s, m, av.toArray, below, meth, c) (va_A ws s.heap.size, D, dA, ex, x0, sv0, N.2.2.2.1) _ hex hN ?_ rfl ?_ ns as s.heap [] _ [] ⟨h1, h2, ⟨_, hl, ee_arg.ok 0 h3⟩, trivial, h4, ws, h5, hP, hD.self, va_S.rf⟩
  · exact ⟨B.exec, B.bytes, hml, findClass_of_methodNamed B.named, hts, hK, fun q hq => Or.inr hq, fun hi => (name_of_methodNamed B.named B.method).1.trans hi, ⟨Nat.le_refl _, Nat.le_refl _, Nat.le_refl _, Nat.le_refl _⟩, hE⟩
  · intro q hq
    exact ee_retG B.exec B.bytes B.returns B.notSynchronized (fun z hz => (hN2.2 z hz).1) hq (List.all_eq_true.mp hend q hq)
/-- behind a call, whatever it answers -/
theorem ee_back {p : Program} {l : Launch} {e : Env} {R : Room} {s : State} {m : MethodId} {args : Array Value} {below : List Frame} {meth : Method} {c : Code} {H : Heap} {lc : List Loc} {cells slots : Nat} {Q : State → Prop} {pc : Nat} {ls : Array Slot} {rest st0 : List Value} {a : Array Value} {A0 A1 : Nat → Prop} {H0 : Heap} {mc ms : Nat} {free : Addr → Prop} {outs : List ee_st} {D : va_G} {dA : Nat → ClassId} {ex : Nat → Nat} {x0 : List Int32} {sv0 : List Value}
    (hr : va_Run p l e R s m args below meth c H lc cells slots mc ms (F0 m pc ls st0) rest (ee_Q outs D dA ex x0 sv0 A1 a) free) (hS : va_S A0 H0 H lc) (hA : ∀ q, q < H.size → A1 q → A0 q) (hf : ∀ q, free q → A0 q)
    (kk : ∀ q ∈ outs, ∀ (ns : List Int32) (as : List Nat) (ws : va_W) (v : Option Value) (H1 : Heap) (lc1 : List Loc), ee_all (ee_v ns as ex) q.2.2.1 v.toList → ee_ok ns q.2.2.2.2.1 → (∃ r, ns = x0 ++ r) → ee_all (ee_v ns as ex) q.2.2.2.2.2.2.2 sv0 → ee_wr ns as ex dA q.2.2.2.1 ws → va_P D vwCl ws H1 → va_D A1 ws → va_S A0 H0 H1 lc1 → W p l e R s m args below meth c H1 lc1 (cells + mc) (slots + ms) Q (F0 m (pc + 3) ls (v.toList ++ rest))) : W p l e R s m args below meth c H lc cells slots Q (F0 m pc ls st0) := by
  intro T hT X
  obtain ⟨v, st₀, t, T', L, h0, X', hL, e1, e2, ⟨⟨q, hq, ns, as, ws, v', hv, g1, g2, g3, g4, g5, g6, g7⟩, hz, hk⟩, st⟩ := hr T hT X
  cases hv
  rw [h0] at hz hk
  obtain ⟨t2, a1, b1⟩ := kk q hq ns as ws v T'.heap (lc ++ L) g1 g2 g3 g4 g5 (by rw [e1]; exact g6) g7
    ⟨Nat.le_trans hS.1 (by rw [e1]; exact hz), fun q h1 h2 => by rw [e1, hk q (Nat.lt_of_lt_of_le h1 hS.1) (fun z => h2 (hA q (Nat.lt_of_lt_of_le h1 hS.1) z))]; exact hS.2.1 q h1 h2, fun q hq => by
      rcases List.mem_append.mp hq with h | h
      · exact hS.2.2 q h
      · exact hf _ (hL q h)⟩ T' rfl X'
  exact ⟨t2, st t2 a1, b1⟩
theorem ee_zip {ns : List Int32} {as : List Nat} {ex : Nat → Nat} : ∀ {l : List Value} {lv : List (Nat × Value)}, ee_all (ee_v ns as ex) l (lv.map (fun z => z.2)) → ee_all (ee_lr ns as ex) ((lv.map (fun z => z.1)).zip l) lv
  | [], [], _ => trivial
  | x :: l, (i, v) :: lv, h => ⟨⟨rfl, h.1⟩, ee_zip h.2⟩
  | [], _ :: _, h => h.elim
  | _ :: _, [], h => h.elim
theorem ee_keys {ns : List Int32} {as : List Nat} {ex : Nat → Nat} : ∀ {lo lv : List (Nat × Value)}, ee_all (ee_lr ns as ex) lo lv → lo.map (fun z => z.1) = lv.map (fun z => z.1) ∧ ee_all (ee_v ns as ex) (lo.map (fun z => z.2)) (lv.map (fun z => z.2))
  | [], [], _ => ⟨rfl, trivial⟩
  | (i, x) :: lo, (j, v) :: lv, h => by
    obtain ⟨h1, h2⟩ := ee_keys h.2
    exact ⟨by rw [List.map_cons, List.map_cons, h1, show i = j from h.1.1], ⟨h.1.2, h2⟩⟩
  | [], _ :: _, h => h.elim
  | _ :: _, [], h => h.elim
theorem ee_all.parts {α β : Type} {R : α → β → Prop} {l : List α} {k : List β} (n : Nat) (h : ee_all R l k) : ee_all R (l.take n) (k.take n) ∧ ee_all R (l.drop n) (k.drop n) := by
  induction n generalizing l k with
  | zero => exact ⟨by simp [ee_all], by simpa using h⟩
  | succ n ih =>
    match l, k, h with
    | [], [], _ => exact ⟨trivial, trivial⟩
    | a :: l, b :: k, h =>
      obtain ⟨h1, h2⟩ := ih h.2
      exact ⟨⟨h.1, h1⟩, h2⟩
/-- the words of a call -/
theorem ee_goodIn {N : ee_me} (h : Cond.code N.2.1 N.2.2.1 N.2.2.2.1 N.2.2.2.2.1 ∈ ee_tbl) : GoodIn ee_tbl (Cond.code N.2.1 N.2.2.1 N.2.2.2.1 N.2.2.2.2.1 :: ee_tbl) := by
  intro w hw
  have hm : w ∈ ee_tbl := by
    rcases List.mem_cons.mp hw with rfl | hw
    · exact h
    · exact hw
  exact ⟨hm, good_of_word (ee_tbl_good w hm)⟩
/-- a call, once its run is known -/
theorem ee_callG {p : Program} {l : Launch} {en : Env} {R : Room} {s : State} {m : MethodId} {args : Array Value} {below : List Frame} {meth : Method} {c : Code} {A : Nat → Prop} {D : va_G} {dA : Nat → ClassId} {ex : Nat → Nat} {x0 : List Int32} {sv0 : List Value} {nL : Nat} {Q : State → Prop} {pc na kc ks mc ms : Nat} {lo : List (Nat × Value)} {stk : List Value} {H : Heap} {lc : List Loc} {ls : Array Slot} {vs : List Value} {lv : List (Nat × Value)} {ns : List Int32} {as : List Nat} {ws : va_W} {outs : List ee_st} {a : Array Value}
    (c3 : lv_has ls nL lv) (c3l : ee_all (ee_lr ns as ex) lo lv) (c4 : ee_all (ee_v ns as ex) stk vs) (hA : ∀ q, s.heap.size ≤ q → A q) (hD : va_D A ws) (hS : va_S A s.heap H lc)
    (hr : va_Run p l en R s m args below meth c H lc kc ks mc ms (F0 m pc ls vs) (vs.drop na) (ee_Q outs D dA ex x0 (lv.map (fun z => z.2) ++ (vs.drop na ++ sv0)) (va_A ws H.size) a) (va_A ws H.size))
    (k : ∀ q ∈ outs, ee_G (p, l, en, R, s, m, args, below, meth, c) (A, D, dA, ex, x0, sv0, nL) Q (ee_next pc (lo.map (fun z => z.1)) (stk.length - na) (kc + mc) (ks + ms) q)) : W p l en R s m args below meth c H lc kc ks Q (F0 m pc ls vs) := by
  have hFc : ∀ q, va_A ws H.size q → A q := by
    intro q h
    rcases h with ⟨k, e, h⟩ | h
    · exact hD.2 k (q, e) h
    · exact hA q (Nat.le_trans hS.1 h)
  refine ee_back hr hS (fun q _ h => hFc q h) hFc (fun q hq ns2 as2 ws2 v H1 lc1 g1 g2 g3 g4 g5 g6 g7 hS1 => ?_)
  obtain ⟨pc2, lo2, stk2, w2, iv2, kc2, ks2, sv2⟩ := q
  have g1 : ee_all (ee_v ns2 as2 ex) stk2 v.toList := g1
  have g4 : ee_all (ee_v ns2 as2 ex) sv2 (lv.map (fun z => z.2) ++ (vs.drop na ++ sv0)) := g4
  have hk := (ee_keys c3l).1
  have hlen : (lo.map (fun z => z.1)).length = (lv.map (fun z => z.2)).length := by rw [hk, List.length_map, List.length_map]
  have hnr : stk.length - na = (vs.drop na).length := by rw [List.length_drop, c4.len]
  obtain ⟨p1, p2⟩ := g4.split2
  obtain ⟨p3, p4⟩ := p2.split2
  have key := k _ hq ns2 as2 H1 lc1 ls (v.toList ++ vs.drop na)
  refine key ⟨g2, g3, ⟨lv, c3, ?_⟩, ?_, ?_, ws2, g5, g6, g7.weaken (fun _ _ _ h => hFc _ h), hS1⟩
  · rw [hlen, hk]
    exact ee_zip p1
  · rw [hlen, hnr]
    exact g1.app p3
  · rw [hlen, hnr]
    exact p4
set_option maxHeartbeats 4000000 in
theorem ee_sound : ∀ f, ee_Sf f := by
  intro f
  induction f with
  | zero =>
    intro d stop y st outs M X Y Q h
    exact ee_no h
  | succ f IH =>
    intro d stop y st outs M X Y Q h hM F hnL k
    unfold ee_exec at h
    by_cases hs : st.1 = stop
    · rw [if_pos hs] at h
      cases h
      exact k _ List.mem_cons_self
    · rw [if_neg hs, hM] at h
      simp only at h
      cases he : ee_find M st.1 with
      | none => rw [he] at h; exact ee_no h
      | some e =>
        rw [he] at h
        simp only at h
        obtain ⟨m1, m2⟩ := ee_find.ok he
        obtain ⟨o1, o2⟩ := ee_MTok y M hM
        obtain ⟨hd, hk, hi⟩ := o2 e m1
        by_cases h21 : e.2.2.2.1 = 21
        · rw [if_pos h21] at h
          cases h
          exact k _ List.mem_cons_self
        · rw [if_neg h21] at h
          by_cases h23 : e.2.2.2.1 = 23
          · rw [if_pos h23] at h
            cases d with
            | zero => exact ee_no h
            | succ d =>
              simp only at h
              cases hq : ee_CL[e.2.2.2.2.1]? with
              | none => rw [hq] at h; exact ee_no h
              | some q =>
                rw [hq] at h
                simp only at h
                cases hN : ee_MT[q.2.2.1]? with
                | none => rw [hN] at h; exact ee_no h
                | some N =>
                  rw [hN] at h
                  simp only at h
                  cases hp : ee_pre q M N e st with
                  | none => rw [hp] at h; exact ee_no h
                  | some st0 =>
                    rw [hp] at h
                    simp only at h
                    cases hex : ee_exec f d 1000000 q.2.2.1 st0 with
                    | none => rw [hex] at h; exact ee_no h
                    | some os =>
                      rw [hex] at h
                      simp only at h
                      by_cases hend : os.all (ee_end N) = true
                      · rw [if_pos hend] at h
                        obtain ⟨⟨t1, t2, t3⟩, ⟨t4, t5⟩, t6, t7, t8, t9⟩ := ee_CLok q N (List.mem_of_getElem? hq) hN
                        obtain ⟨p, l, en, R, s, m, args, below, meth, c⟩ := X
                        obtain ⟨A, D, dA, ex, x0, sv0, nL⟩ := Y
                        obtain ⟨pc, lo, stk, w, iv, kc, ks, sv⟩ := st
                        obtain ⟨pc', ins, len, hn, ea, eb, ez⟩ := e
                        have F0' := F
                        obtain ⟨hx, hb, hml, hown, hts, hK, hA, hini, hR, hE⟩ := F0'
                        have hpc : pc' = pc := m2
                        subst hpc
                        have hd : decode M.2.2.1 pc' = .ok (ins, len) := hd
                        intro ns as H lc ls vs C
                        obtain ⟨c1, c2, ⟨lv, c3, c3l⟩, c4, c5, ws, c6w, hP, hD, hS⟩ := C
                        show W p l en R s m args below meth c H lc kc ks Q (F0 m pc' ls vs)
                        replace hp : (if ee_cc q M N (pc', ins, len, hn, ea, eb, ez) stk w kc ks = true then some (0, ee_arg 0 (stk.take (ee_na q)).reverse, [], w, iv, 0, 0, lo.map (fun z => z.2) ++ (stk.drop (ee_na q) ++ sv)) else none) = some st0 := hp
                        replace h : ee_bind (ee_exec f (d + 1) stop y) (os.map (ee_next pc' (lo.map (fun z => z.1)) (stk.length - ee_na q) (kc + N.2.2.2.2.2.2.1) (ks + N.2.2.2.2.2.2.2))) = some outs := h
                        by_cases hcc : ee_cc q M N (pc', ins, len, hn, ea, eb, ez) stk w kc ks = true
                        · rw [if_pos hcc] at hp
                          cases hp
                          have hc := of_decide_eq_true hcc
                          have hna0 : ee_na q = q.2.2.2.2.1 + (if q.2.2.2.1 = 1 then 0 else 1) := rfl
                          generalize ee_na q = na at hc hex h hna0
                          have hna := hna0.symm
                          obtain ⟨⟨⟨u1, u2⟩, u3⟩, ⟨⟨⟨u4, u5⟩, u9⟩, u6, u7⟩, u8⟩ := hc
                          have hFc : ∀ q, va_A ws H.size q → A q := by
                            intro q h
                            rcases h with ⟨k, e, h⟩ | h
                            · exact hD.2 k (q, e) h
                            · exact hA q (Nat.le_trans hS.1 h)
                          have next : ∀ z ∈ os, ee_G (p, l, en, R, s, m, args, below, meth, c) (A, D, dA, ex, x0, sv0, nL) Q (ee_next pc' (lo.map (fun z => z.1)) (stk.length - na) (kc + N.2.2.2.2.2.2.1) (ks + N.2.2.2.2.2.2.2) z) := by
                            intro z hz
                            obtain ⟨r, r1, r2⟩ := ee_bind.ok h _ (List.mem_map.mpr ⟨z, hz, rfl⟩)
                            exact IH (d + 1) stop y _ r M _ _ Q r1 hM F hnL (fun x hx => k x (r2 x hx))
                          obtain ⟨a1, a2⟩ := c4.parts na
                          have hmet := ee_met IH hex hN hend t1 u3 l D dA ex x0 (lv.map (fun z => z.2) ++ (vs.drop na ++ sv0)) H.size c1 c2 a1.rev ((ee_keys c3l).2.app (a2.app c5)) c6w
                          have hpre : ∀ U : State, U.heap = H → s.WarmedH U.vm → ee_Pc D dA ex x0 (vs.take na).reverse ws H.size (vs.take na).reverse.toArray U := fun U hU hW =>
                            ⟨rfl, by rw [hU], by rw [hU]; exact hP, va_K.moved hW.alike hK, hD.weaken (fun _ _ _ _ => trivial), hE.call hS hU hW hFc⟩
                          have hroom : (ee_rm d N.2.2.2.2.2.2.1 N.2.2.2.2.2.2.2).frames + 1 ≤ R.frames ∧ 8 + (N.2.2.2.1 + 11) + (ee_rm d N.2.2.2.2.2.2.1 N.2.2.2.2.2.2.2).locals ≤ R.locals := by
                            have r1 := hR.1
                            have r2 := hR.2.1
                            show d + 1 + 1 ≤ R.frames ∧ 8 + (N.2.2.2.1 + 11) + 64 * (d + 1) ≤ R.locals
                            omega
                          have hcells : kc + N.2.2.2.2.2.2.1 ≤ R.cells ∧ ks + N.2.2.2.2.2.2.2 ≤ R.slots := ⟨Nat.le_trans u6 hR.2.2.1, Nat.le_trans u7 hR.2.2.2⟩
                          have hwords : (((vs.drop na).map fun v => v.category)).sum ≤ 8 := by
                            rw [ee_cats a2]
                            exact u2
                          have hsplit : vs.take na ++ vs.drop na = vs := List.take_append_drop _ _
                          have hlen : (vs.take na).length = na := by
                            rw [List.length_take, ← c4.len]
                            exact Nat.min_eq_left u1
                          have u4 : len = 3 := u4
                          have u5 : eb = 0 := u5
                          subst u4
                          subst u5
                          have hk : ee_eok M.1 (pc', ins, 3, hn, ea, 0, ez) = true := hk
                          have hq : ee_CL[ea]? = some q := hq
                          have hini2 := hts _ t5
                          have u9 : ee_inv q.2.2.2.1 ins = true := u9
                          have hN1 := (ee_MTok q.2.2.1 N hN).1
                          have hlk : ∀ i kd : Nat, (match ee_CL[ea]? with
                            | some q => decide (q.1 = M.1) && (decide (q.2.1 = i) && decide (q.2.2.2.1 = kd))
                            | none => false) = true → Cond.methodLink M.2.1.cls i N.2.1 ∈ ee_tbl ∧ q.2.2.2.1 = kd := fun i kd z => by
                            rw [hq] at z
                            obtain ⟨z1, z2⟩ := ee_and z
                            obtain ⟨z2, z3⟩ := ee_and z2
                            have z1 := of_decide_eq_true z1
                            have z2 := of_decide_eq_true z2
                            rw [z1, ee_own_ow o1, z2] at t4
                            exact ⟨t4, of_decide_eq_true z3⟩
                          cases ins with
                          | invokevirtual i =>
                            obtain ⟨hl1, hkd⟩ := hlk i 0 hk
                            rw [if_pos hkd] at u8
                            rw [hkd, if_neg (by decide)] at hna
                            rw [hna] at u8
                            have ar := a1.rev
                            cases hA0 : (stk.take na).reverse with
                            | nil => rw [hA0] at u8; cases u8
                            | cons x A1 =>
                              rw [hA0] at ar u8
                              obtain ⟨v0, As, hav, cx, cAs⟩ := ar.cons
                              have u8 : ee_rcv N.1 w x = true := u8
                              cases x with
                              | ref j =>
                                obtain ⟨b, rfl⟩ := ee_v.ref cx
                                rw [hav] at hmet hpre
                                have htk : vs.take na = As.reverse ++ [Value.ref b] := by rw [← List.reverse_reverse (vs.take na), hav, List.reverse_cons]
                                have hstack : vs = As.reverse ++ Value.ref b :: vs.drop na := by
                                  have := hsplit.symm
                                  rw [htk] at this
                                  simpa using this
                                have hnA : As.length = q.2.2.2.2.1 := by
                                  have : (vs.take na).reverse.length = (Value.ref b :: As).length := by rw [hav]
                                  rw [List.length_reverse, hlen, List.length_cons] at this
                                  omega
                                have hrecv : ∃ cell : Cell, H[b]? = some cell ∧ cell.vm.isStatics = false ∧ s.vm.findClass N.2.1.cls = some cell.cls := by
                                  unfold ee_rcv at u8
                                  simp only at u8
                                  by_cases hj : j < 1000000
                                  · rw [if_pos hj] at u8
                                    split at u8
                                    · rename_i ci fs hw
                                      have hci := of_decide_eq_true u8
                                      obtain ⟨ec, g1, vs1, rfl, g3⟩ := c6w.at hw (cx.at hj)
                                      obtain ⟨r, hr1, -⟩ := hP j _ g1
                                      have hr2 := ee_okn ci r hr1
                                      rw [hci, hN1] at hr2
                                      rw [Option.some.inj hr2]
                                      exact va_recv hK hP hr1 g1
                                    · cases u8
                                  · rw [if_neg hj] at u8
                                    obtain ⟨z1, z2⟩ := ee_and u8
                                    have z1 := of_decide_eq_true z1
                                    have z2 := of_decide_eq_true z2
                                    rw [z2] at hN1
                                    rw [← Option.some.inj ((show ee_own[ee_sox]? = some "java/lang/String" from rfl).symm.trans hN1)]
                                    have hb1 := cx.out hj
                                    have hj1 : 1000000 ≤ j := Nat.not_lt.mp hj
                                    obtain ⟨i0, hi0, rfl⟩ : ∃ i0, i0 < 2 ∧ j = 1000000 + i0 := ⟨j - 1000000, Nat.sub_lt_left_of_lt_add hj1 z1, (Nat.add_sub_of_le hj1).symm⟩
                                    rw [hb1]
                                    exact vk_recv hE.1 (i := i0) hi0 hS
                                exact ee_callG c3 c3l c4 hA hD hS (va_runV (As := As) (rest := vs.drop na) ⟨hx, hb, hml, hown, hts⟩ hmet ⟨callB_of q.2.2.2.2.1 hts (ee_goodIn t2) rfl rfl rfl hini2 (hts _ hl1) t6 hroom, hts _ (t7 hkd).1, hts _ (t7 hkd).2⟩ ⟨ee_Pc.blind, hrecv, hpre⟩ rfl hnA c3.1 hstack (lv_room hwords) hd hcells) next
                              | _ => cases u8
                          | invokestatic i =>
                            obtain ⟨hl1, hkd⟩ := hlk i 1 hk
                            rw [hkd, if_pos rfl] at hna
                            have hstack : vs = (vs.take na).reverse.reverse ++ vs.drop na := by rw [List.reverse_reverse, hsplit]
                            have hnA : (vs.take na).reverse.length = q.2.2.2.2.1 := by
                              rw [List.length_reverse, hlen]
                              omega
                            exact ee_callG c3 c3l c4 hA hD hS (va_runS (As := (vs.take na).reverse) (rest := vs.drop na) ⟨hx, hb, hml, hown, hts⟩ hmet ⟨callB_of q.2.2.2.2.1 hts (ee_goodIn t2) rfl rfl rfl hini2 (hts _ hl1) t6 hroom, hts _ (t8 hkd)⟩ ⟨ee_Pc.blind, hpre⟩ rfl hnA c3.1 hstack (lv_room hwords) hd hcells) next
                          | invokespecial i =>
                            obtain ⟨hl1, hkd⟩ := hlk i 2 hk
                            rw [if_neg (by omega), if_pos hkd] at u8
                            rw [hkd, if_neg (by decide)] at hna
                            rw [hna] at u8
                            have ar := a1.rev
                            cases hA0 : (stk.take na).reverse with
                            | nil => rw [hA0] at u8; cases u8
                            | cons x A1 =>
                              rw [hA0] at ar u8
                              obtain ⟨v0, As, hav, cx, cAs⟩ := ar.cons
                              have u8 : ee_isr x = true := u8
                              cases x with
                              | ref j =>
                                obtain ⟨b, rfl⟩ := ee_v.ref cx
                                rw [hav] at hmet hpre
                                have htk : vs.take na = As.reverse ++ [Value.ref b] := by rw [← List.reverse_reverse (vs.take na), hav, List.reverse_cons]
                                have hstack : vs = As.reverse ++ Value.ref b :: vs.drop na := by
                                  have := hsplit.symm
                                  rw [htk] at this
                                  simpa using this
                                have hnA : As.length = q.2.2.2.2.1 := by
                                  have : (vs.take na).reverse.length = (Value.ref b :: As).length := by rw [hav]
                                  rw [List.length_reverse, hlen, List.length_cons] at this
                                  omega
                                obtain ⟨v1, v2, v3⟩ := t9 hkd
                                rw [v3] at hmet t2
                                exact ee_callG c3 c3l c4 hA hD hS (va_runI (As := As) (rest := vs.drop na) (bytes := N.2.2.1) (maxL := N.2.2.2.1) ⟨hx, hb, hml, hown, hts⟩ hmet ⟨callB_of q.2.2.2.2.1 hts (by have := ee_goodIn (N := (N.1, N.2.1, N.2.2.1, N.2.2.2.1, none, N.2.2.2.2.2)) t2; exact this) rfl rfl rfl hini2 (hts _ hl1) t6 hroom, v2, hts _ v1⟩ ⟨ee_Pc.blind, hpre⟩ rfl hnA c3.1 hstack (lv_room hwords) hd hcells) next
                              | _ => cases u8
                          | _ => cases u9
                        · rw [if_neg hcc] at hp
                          exact ee_no hp
                      · rw [if_neg hend] at h
                        exact ee_no h
          · rw [if_neg h23] at h
            cases hh : ee_hs[e.2.2.2.1]? with
            | none => rw [hh] at h; exact ee_no h
            | some g =>
              rw [hh] at h
              simp only at h
              cases hg : g M.2.2.2.1 M.2.2.2.2.2.2.1 M.2.2.2.2.2.2.2 e st with
              | none => rw [hg] at h; exact ee_no h
              | some sts =>
                rw [hg] at h
                simp only at h
                refine ee_hs.snd g (List.mem_of_getElem? hh) X Y M.1 M.2.1.cls M.2.2.1 (M.2.1.name = "<init>") d M.2.2.2.2.2.2.1 M.2.2.2.2.2.2.2 Q e st sts F o1 hi hd hk m2.symm (by rw [hnL]; exact hg) (fun q hq => ?_)
                obtain ⟨a, a1, a2⟩ := ee_bind.ok h q hq
                exact IH d stop y q a M X Y Q a1 hM F hnL (fun x hx => k x (a2 x hx))
