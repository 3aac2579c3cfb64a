/-! the walk's soundness -/
theorem ee_spl.ok {S : List (Nat × Nat × Nat)} {y : Nat} {st : ee_st} {sts : List ee_st} {X : ee_cx} {Y : ee_cy} {Q : State → Prop} (h : ee_spl S y st = some sts) (k : ∀ q ∈ sts, ee_G X Y Q q) : ee_G X Y Q st := by
  obtain ⟨p, l, en, R, s, m, args, below, meth, c⟩ := X
  obtain ⟨A, D, dA, ex, x0, a0, sv0, nL⟩ := Y
  obtain ⟨pc, lo, stk, w, iv, kc, ks, sv⟩ := st
  unfold ee_spl at h
  split at h
  · cases h
  · rename_i q hq
    split at h
    · cases h
    · rename_i v hv
      split at h
      · cases h
      · rename_i l1 hl1
        cases h
        intro ns as H lc ls vs C
        obtain ⟨c1, c2, ⟨lv, c3, c3l⟩, c4, c5, c6⟩ := C
        have hex : ∃ vv, ee_v ns as ex v vv := by
          by_cases hc : q.2.2 < 100
          · rw [if_pos hc] at hv
            obtain ⟨vv, -, g⟩ := ee_look c3l (show lo.lookup q.2.2 = some v from hv)
            exact ⟨vv, g⟩
          · rw [if_neg hc] at hv
            by_cases hc2 : q.2.2 < 200
            · rw [if_pos hc2] at hv
              obtain ⟨vv, -, g⟩ := c4.get (show stk[q.2.2 - 100]? = some v from hv)
              exact ⟨vv, g⟩
            · rw [if_neg hc2] at hv
              obtain ⟨vv, -, g⟩ := ee_look c3l (show lo.lookup (q.2.2 - 200) = some v from hv)
              exact ⟨vv, g⟩
        obtain ⟨vv, hvv⟩ := hex
        have hsp : ∃ iv', iv' ∈ (if q.2.2 < 200 then ee_sp iv v else ee_sg3 iv v) ∧ ee_ok ns iv' := by
          by_cases hc2 : q.2.2 < 200
          · rw [if_pos hc2] at hl1 ⊢
            exact ee_sp.ok c1 hvv hl1
          · rw [if_neg hc2] at hl1 ⊢
            exact ee_sg3.ok c1 hvv hl1
        obtain ⟨iv', g1, g2⟩ := hsp
        exact k _ (List.mem_map.mpr ⟨iv', g1, rfl⟩) ns as H lc ls vs ⟨g2, c2, ⟨lv, c3, c3l⟩, c4, c5, c6⟩
set_option maxHeartbeats 4000000 in
theorem ee_sound {mt : Nat → Option ee_me} {Γ : List ee_ct} {K : List (Nat × Nat × List Nat)} {S : List (Nat × Nat × Nat)} (hT : ee_Tb mt) (hΓ : ∀ c ∈ Γ, ee_Ct mt c) : ∀ f, ee_Sf mt Γ K S f := by
  intro f
  induction f with
  | zero =>
    intro d stops b hs y st outs M X Y Q h
    exact ee_no h
  | succ f IH =>
    intro d stops b hs y st outs M X Y Q h hM hH F hnL k
    unfold ee_exec at h
    by_cases hs0 : (b && stops.any (fun k => Nat.beq k st.1)) = true
    · rw [if_pos hs0] at h
      cases h
      exact k _ List.mem_cons_self
    · rw [if_neg hs0] at h
      cases he : ee_find M st.1 with
      | none => rw [he] at h; exact ee_no h
      | some e =>
        rw [he] at h
        simp only at h
        obtain ⟨bl, m0, m1, m2⟩ := ee_find.ok he
        obtain ⟨o1, o2⟩ := hT.1 y M hM
        obtain ⟨hd, hk, hi⟩ := o2 bl m0 e m1
        cases hsp : ee_spl S y st with
        | some sts =>
          rw [hsp] at h
          simp only at h
          refine ee_spl.ok hsp (fun q hq => ?_)
          obtain ⟨a, a1, a2⟩ := ee_bind.ok h q hq
          exact IH d stops b hs y q a M X Y Q a1 hM hH F hnL (fun x hx => k x (a2 x hx))
        | none =>
          rw [hsp] at h
          simp only at h
          by_cases h21 : e.2.2.2.1 = 21
          · rw [if_pos h21] at h
            cases h
            exact k _ List.mem_cons_self
          · rw [if_neg h21] at h
            by_cases h23 : e.2.2.2.1 = 23
            · rw [if_pos h23] at h
              cases d with
              | zero => exact ee_no h
              | succ d =>
                simp only at h
                cases hN : mt e.2.2.2.2.2.2.2.1 with
                | none => rw [hN] at h; exact ee_no h
                | some N =>
                  rw [hN] at h
                  obtain ⟨p, l, en, R, s, m, args, below, meth, c⟩ := X
                  obtain ⟨A, D, dA, ex, x0, a0, sv0, nL⟩ := Y
                  obtain ⟨pc, lo, stk, w, iv, kc, ks, sv⟩ := st
                  simp only at h
                  have hpc : e.1 = pc := m2
                  have F0' := F
                  obtain ⟨hx, hb, hml, hown, hts, hK, hA, hini, hR, hE⟩ := F0'
                  intro ns as H lc ls vs C
                  obtain ⟨c1, c2, ⟨lv, c3, c3l⟩, c4, c5, ws, c6w, hP, hD, hS⟩ := C
                  show W p l en R s m args below meth c H lc kc ks Q (F0 m pc ls vs)
                  obtain ⟨a1, a2⟩ := c4.parts (ee_na e)
                  cases hkf : ee_kf K y pc with
                  | some cs =>
                    rw [hkf] at h
                    simp only at h
                    by_cases hcc : ee_cc M N e stk w kc ks 0 0 = true
                    · rw [if_pos hcc] at h
                      cases htr : ee_try Γ e.2.2.2.2.2.2.2.1 d (stk.take (ee_na e)).reverse w iv cs with
                      | none => rw [htr] at h; exact ee_no h
                      | some ps =>
                        rw [htr] at h
                        simp only at h
                        obtain ⟨ct, hct, ct1, ct2, hap⟩ := ee_try.ok htr
                        obtain ⟨n1, n2, g1, g2, g3, g4, g5, g6, rfl⟩ := ee_app.ok hap
                        obtain ⟨q1, q2⟩ := ee_ms.ok (as := as) (ex := ex) c1 (Nat.zero_le _) g1
                        obtain ⟨q3, -, -⟩ := ee_mw.ok (as := as) (ex := ex) c1 (Nat.zero_le _) c6w g2
                        obtain ⟨q4, q5⟩ := ee_mw.all c1 (Nat.zero_le _) c6w g2 (ee_ml.rf n2) g3
                        have hn0 : ee_nT 0 ns n2.1 = n2.1.map (ee_vl ns) := by unfold ee_nT; simp
                        have hpk := ee_pk.ok c1 (Nat.zero_le _) g4
                        rw [hn0] at q4 hpk
                        have hargs : ee_all (ee_v (n2.1.map (ee_vl ns)) (ee_aT as n2.2) ex) ct.2.1 (vs.take (ee_na e)).reverse := by
                          have := q2 _ a1.rev
                          refine this.imp (fun x v z => ?_)
                          have := q3.v z
                          rw [hn0] at this
                          exact this
                        have hmet := hΓ ct hct N (by rw [ct1]; exact hN) l D dA ex (n2.1.map (ee_vl ns)) (ee_aT as n2.2) (ee_wT ws n2.2) H.size (vs.take (ee_na e)).reverse hpk hargs q4
                        have hFc : ∀ q, va_A (ee_wT ws n2.2) H.size q → A q := by
                          intro q h
                          rcases h with ⟨i, e, h⟩ | h
                          · unfold ee_wT at h
                            rw [List.getElem?_map] at h
                            cases hi : n2.2[i]? with
                            | none => rw [hi] at h; cases h
                            | some j =>
                              rw [hi] at h
                              have hjm := q5 j (List.mem_of_getElem? hi)
                              have h : some (ws.getD j ee_wd0) = some (q, e) := h
                              rw [List.getD_eq_getElem?_getD, List.getElem?_eq_getElem hjm] at h
                              exact hD.2 j (q, e) (by rw [List.getElem?_eq_getElem hjm]; exact h)
                          · exact hA q (Nat.le_trans hS.1 h)
                        have hPc : va_P D vwCl (ee_wT ws n2.2) H := by
                          intro i q hq
                          unfold ee_wT at hq
                          rw [List.getElem?_map] at hq
                          cases hi : n2.2[i]? with
                          | none => rw [hi] at hq; cases hq
                          | some j =>
                            rw [hi] at hq
                            have hjm := q5 j (List.mem_of_getElem? hi)
                            have hq : some (ws.getD j ee_wd0) = some q := hq
                            rw [List.getD_eq_getElem?_getD, List.getElem?_eq_getElem hjm] at hq
                            exact hP j q (by rw [List.getElem?_eq_getElem hjm]; exact hq)
                        have hnd : va_nd n2.2 = true := by
                          unfold ee_app at hap
                          rw [g1] at hap
                          simp only at hap
                          rw [g2] at hap
                          simp only at hap
                          by_cases hc : (decide (n2.2.length = ct.2.2.1.length) && (ee_pk 0 n2.1 iv ct.2.2.2.1 && (va_nd n2.2 && (n2.2.all (fun j => decide (j < 1000000)) && n2.1.all (fun v => (ee_it iv v).isSome))))) = true
                          · obtain ⟨z1, z2⟩ := ee_and hc
                            obtain ⟨z2, z3⟩ := ee_and z2
                            exact (ee_and z3).1
                          · rw [if_neg hc] at hap; cases hap
                        have hDc : va_D A (ee_wT ws n2.2) := by
                          refine hD.sub n2.2 hnd ?_
                          unfold ee_wT
                          rw [List.map_map]
                          apply List.map_congr_left
                          intro j hj
                          have := q5 j hj
                          show ws[j]? = some (ws.getD j ee_wd0)
                          rw [List.getD_eq_getElem?_getD, List.getElem?_eq_getElem this]
                          rfl
                        have hpre : ∀ U : State, U.heap = H → s.WarmedH U.vm → ee_Pc D dA ex (vs.take (ee_na e)).reverse (ee_wT ws n2.2) H.size (vs.take (ee_na e)).reverse.toArray U := fun U hU hW =>
                          ⟨rfl, by rw [hU], by rw [hU]; exact hPc, va_K.moved hW.alike hK, hDc.weaken (fun _ _ _ _ => trivial), hE.call hS hU hW hFc⟩
                        obtain ⟨a, hrun⟩ := ee_runC hT F rfl rfl hM hd hk hN hcc c3 c4 c6w hP hS hmet ct2 ee_Pc.blind hpre
                        rw [hpc] at hrun
                        refine ee_callK c1 c2 ⟨lv, c3, c3l⟩ a2 c5 c6w hP hD hS hA g5 q5 g6 hrun (fun q hq => ?_)
                        obtain ⟨r, r1, r2⟩ := ee_bind.ok h _ (List.mem_map.mpr ⟨q, hq, rfl⟩)
                        exact IH (d + 1) stops true hs y _ r M _ _ Q r1 hM hH F hnL (fun x hx => k x (r2 x hx))
                    · rw [if_neg hcc] at h
                      exact ee_no h
                  | none =>
                    rw [hkf] at h
                    simp only at h
                    by_cases hcc : ee_cc M N e stk w kc ks N.2.2.2.2.2.2.1 N.2.2.2.2.2.2.2 = true
                    · rw [if_pos hcc] at h
                      cases hex : ee_exec mt Γ K S f d [] true ee_hs e.2.2.2.2.2.2.2.1 N (0, ee_arg 0 (stk.take (ee_na e)).reverse, [], w, iv, 0, 0, lo.map (fun z => z.2) ++ (stk.drop (ee_na e) ++ sv)) with
                      | none => rw [hex] at h; exact ee_no h
                      | some os =>
                        rw [hex] at h
                        simp only at h
                        by_cases hend : os.all (ee_end N) = true
                        · rw [if_pos hend] at h
                          have next : ∀ z ∈ os, ee_G (p, l, en, R, s, m, args, below, meth, c) (A, D, dA, ex, x0, a0, sv0, nL) Q (ee_next pc (lo.map (fun z => z.1)) (stk.length - ee_na e) (kc + N.2.2.2.2.2.2.1) (ks + N.2.2.2.2.2.2.2) z) := by
                            intro z hz
                            obtain ⟨r, r1, r2⟩ := ee_bind.ok h _ (List.mem_map.mpr ⟨z, hz, rfl⟩)
                            exact IH (d + 1) stops true hs y _ r M _ _ Q r1 hM hH F hnL (fun x hx => k x (r2 x hx))
                          have hFc : ∀ q, va_A ws H.size q → A q := by
                            intro q h
                            rcases h with ⟨k, e, h⟩ | h
                            · exact hD.2 k (q, e) h
                            · exact hA q (Nat.le_trans hS.1 h)
                          have hcc2 := hcc
                          obtain ⟨pc', ins, len, hn, ea, eb, ez, qa, qb, qc⟩ := e
                          obtain ⟨v1, v2⟩ := ee_and hcc2
                          obtain ⟨v2, v3⟩ := ee_and v2
                          obtain ⟨u9, u8⟩ := ee_and v3
                          obtain ⟨⟨u1, u2⟩, u3⟩ := of_decide_eq_true v1
                          obtain ⟨⟨u4, u5⟩, u6, u7⟩ := of_decide_eq_true v2
                          have hpl : plainName N.2.1.cls = true := by
                            have u5 : eb = 0 := u5
                            subst u5
                            cases hq : ee_CL[ea]? with
                            | none =>
                              cases ins <;> first | (cases u9; done) | (unfold ee_eok at hk; simp only at hk; rw [if_pos trivial, hq] at hk; cases hk)
                            | some q =>
                              have hqa : q.2.2.1 = qa := by
                                cases ins <;> first | (cases u9; done) | (unfold ee_eok at hk; simp only at hk; rw [if_pos trivial, hq] at hk; simp only [Bool.and_eq_true, decide_eq_true_eq] at hk; exact hk.2.2.2.1)
                              exact (hT.2 q N (List.mem_of_getElem? hq) (by rw [hqa]; exact hN)).1.1
                          have hmet := ee_met hT IH hex hN hend hpl u3 l D dA ex x0 a0 (lv.map (fun z => z.2) ++ (vs.drop (ee_na (pc', ins, len, hn, ea, eb, ez, qa, qb, qc)) ++ sv0)) H.size c1 c2 a1.rev ((ee_keys c3l).2.app (a2.app c5)) c6w
                          have hpre : ∀ U : State, U.heap = H → s.WarmedH U.vm → ee_Pc D dA ex (vs.take (ee_na (pc', ins, len, hn, ea, eb, ez, qa, qb, qc))).reverse ws H.size (vs.take (ee_na (pc', ins, len, hn, ea, eb, ez, qa, qb, qc))).reverse.toArray U := fun U hU hW =>
                            ⟨rfl, by rw [hU], by rw [hU]; exact hP, va_K.moved hW.alike hK, hD.weaken (fun _ _ _ _ => trivial), hE.call hS hU hW hFc⟩
                          obtain ⟨a, hrun⟩ := ee_runC hT F rfl rfl hM hd hk hN hcc c3 c4 c6w hP hS hmet (Nat.le_refl _) ee_Pc.blind hpre
                          have hpc : pc' = pc := hpc
                          subst hpc
                          exact ee_callG c3 c3l c4 hA hD hS hrun next
                        · rw [if_neg hend] at h
                          exact ee_no h
                    · rw [if_neg hcc] at h
                      exact ee_no h
            · rw [if_neg h23] at h
              cases hh : hs[e.2.2.2.1]? with
              | none => rw [hh] at h; exact ee_no h
              | some g =>
                rw [hh] at h
                simp only at h
                cases hg : g M.2.2.2.1 M.2.2.2.2.2.2.1 M.2.2.2.2.2.2.2 e st with
                | none => rw [hg] at h; exact ee_no h
                | some sts =>
                  rw [hg] at h
                  simp only at h
                  refine hH g (List.mem_of_getElem? hh) M.1 M.2.1.cls M.2.2.1 (M.2.1.name = "<init>") d M.2.2.2.2.2.2.1 M.2.2.2.2.2.2.2 Q e st sts F o1 hi hd hk m2.symm (by rw [hnL]; exact hg) (fun q hq => ?_)
                  obtain ⟨a, a1, a2⟩ := ee_bind.ok h q hq
                  exact IH d stops true hs y q a M X Y Q a1 hM hH F hnL (fun x hx => k x (a2 x hx))
