set_option maxHeartbeats 8000000 in
theorem ee_h289 : ee_Ct ee_mt ee_k289 := by
  intro N hN l D dA ex ns as ws sz av h1 h3 h5
  have hN0 : ee_mt 181 = some ee_me181 := rfl
  have hNe : ee_me181 = N := Option.some.inj (hN0.symm.trans hN)
  subst hNe
  have hn0 : ns.length = 31 := h1.1.symm
  have has : as.length = 40 := h5.len
  obtain ⟨-, hrq⟩ := ee_arf.ok (i := 20) h5 rfl
  obtain ⟨y1, y2, x0, c0, d0, x1, c1, d1, v1, v2, ⟨vx0, vc0, vd0⟩, ⟨vx1, vc1, vd1⟩, q0, q1⟩ := hrq
  have e1 : y1 = 0 := by
    cases (show Value.int y1 = Value.int 0 from v1)
    rfl
  have e2 : y2 = 0 := by
    cases (show Value.int y2 = Value.int 0 from v2)
    rfl
  have hw := ((ee_wr.cell (i := 20) (ov' := []) h5 rfl trivial).t04 (i := 22) rfl).t04 (i := 23) rfl
  obtain ⟨k1, k2⟩ := ee_wr.mat (n := 40) (np := 0) (n0 := []) (tw := ee_ew1) (tiv := ee_ei1) (σ := [.retAddr 0, .retAddr 1, .retAddr 2, .retAddr 3, .retAddr 4, .retAddr 5, .retAddr 6, .int 560, .retAddr 7, .retAddr 8, .int 0, .retAddr 9, .retAddr 10, .retAddr 11, .retAddr 12, .retAddr 13, .retAddr 14, .retAddr 15, .retAddr 16, .retAddr 17, .retAddr 18, .retAddr 19, .retAddr 20, .retAddr 21, .retAddr 22, .retAddr 23, .retAddr 24, .retAddr 25, .retAddr 26, .int 7, .retAddr 27, .retAddr 28, .retAddr 29, .retAddr 30]) h1 hw rfl rfl (by decide +kernel)
  rw [List.nil_append] at k1 k2
  have hC0 : (ee_fld ws 35).toInt = 560 * ((1 : Nat) : Int) := by
    rw [ee_fld.num (k := 35) h5 rfl rfl]; decide
  have hU0 : (ee_fld ws 38).toInt = 0 := by
    rw [ee_fld.num (k := 38) h5 rfl rfl]; decide
  have h3' : ∀ n2 : List Int32, ee_all (ee_v n2 as ex) [.ref 0] av := fun n2 => ee_all.impm (R := ee_v ns as ex) (fun x hx v q => by
    have := List.mem_singleton.mp hx
    subst this
    unfold ee_v at q ⊢
    exact q) h3
  refine ee_met.imp (ee_em1 k1 (h3' _) k2 hC0 hU0) (fun a st o t q => ?_)
  obtain ⟨⟨ws', v, rfl, ⟨rfl, hcase⟩, hP', hD'⟩, hF⟩ := q
  have oth : ∀ (C : Int) (f' : Nat → Int32), ee_EU 1 (ee_arf ws 20) C f' → (d0.toInt % 2 = 1 → ee_rp f' x0 c0 ∧ c0.toInt ≤ 560) := fun C f' hE hd => by
    obtain ⟨g1, g2⟩ := q0 (Or.inl e1) hd
    have g3 := g1.1
    have g4 := g1.2.2.1
    exact ⟨g1.cong (fun j j1 j2 => hE.2.2 j (by omega) (by omega)), g2⟩
  rcases hcase with ⟨⟨t2, j1, j2⟩, hEU⟩ | ⟨⟨t2, j1, j2⟩, hED⟩
  · obtain ⟨m1, m2⟩ := ee_wr.sub h1 has (by decide +kernel) j1 j2
    have hb1 := hEU.1
    have hb2 := hEU.2.1
    have m3 := ee_oknr (k := 37) (a := 560) (b := 840) m1 (ee_fld.sym (k := 35) m2 rfl rfl) (by omega) (by omega)
    have hmat : (ee_mat 31 40 [] [] (((ee_k289.2.2.2.2.1.getD 1 ([], [], (0, []))).2.1.set 20 (.inr (4, 1120, 0, [], []))).set 22 (.inr (4, 90, 0, [], [])) |>.set 23 (.inr (4, 90, 0, [], []))) (ee_k289.2.2.2.2.1.getD 1 ([], [], (0, []))).2.2 (0, [], [], ee_bw1.map (ee_sc [.retAddr 0, .retAddr 1, .retAddr 2, .retAddr 3, .retAddr 4, .retAddr 5, .retAddr 6, .int 560, .retAddr 7, .retAddr 8, .int 0, .retAddr 9, .retAddr 10, .retAddr 11, .retAddr 12, .retAddr 13, .retAddr 14, .retAddr 15, .retAddr 16, .retAddr 17, .retAddr 18, .retAddr 19, .retAddr 20, .retAddr 21, .retAddr 22, .retAddr 23, .retAddr 24, .retAddr 25, .retAddr 26, .int 7, .retAddr 27, .retAddr 28, .retAddr 29, .retAddr 30] (List.range 40) ee_k289.2.2.2.1.1), ((31 + (ee_bi1.1 - 34), (37, 560, 840, []) :: (ee_si [.retAddr 0, .retAddr 1, .retAddr 2, .retAddr 3, .retAddr 4, .retAddr 5, .retAddr 6, .int 560, .retAddr 7, .retAddr 8, .int 0, .retAddr 9, .retAddr 10, .retAddr 11, .retAddr 12, .retAddr 13, .retAddr 14, .retAddr 15, .retAddr 16, .retAddr 17, .retAddr 18, .retAddr 19, .retAddr 20, .retAddr 21, .retAddr 22, .retAddr 23, .retAddr 24, .retAddr 25, .retAddr 26, .int 7, .retAddr 27, .retAddr 28, .retAddr 29, .retAddr 30] ee_k289.2.2.2.1 ee_bi1).2)), 0, 0, [])).isSome = true := by decide +kernel
    obtain ⟨σ2, hσ2⟩ := Option.isSome_iff_exists.mp hmat
    obtain ⟨p1, p2⟩ := ee_wr.mat (n0 := ns) (r := t2) m3 m2 rfl hn0 hσ2
    have p3 := (p2.t40 (i := 22) rfl).t40 (i := 23) rfl
    have hC := ee_fld.sym (k := 35) p2 rfl rfl
    refine ⟨⟨_, List.mem_cons_of_mem _ List.mem_cons_self, _, ws', none, rfl, trivial, p1, ?_, hP', hD'⟩, hF⟩
    exact p3.cell (i := 20) (ov' := [(0, .int 0), (1, .int 0), (2, .retAddr 27), (3, .retAddr 29), (4, .retAddr 26), (5, .retAddr 28), (6, .retAddr 30), (7, .int 7)]) rfl ⟨y1, y2, x0, c0, d0, x1, c1, d1, (by simpa using v1.mono _ []), (by simpa using v2.mono _ []), ⟨(by simpa using vx0.mono _ []), (by simpa using vc0.mono _ []), (by simpa using vd0.mono _ [])⟩, ⟨(by simpa using vx1.mono _ []), (by simpa using vc1.mono _ []), (by simpa using vd1.mono _ [])⟩, fun _ hd => oth _ _ hEU hd, fun o _ => o.elim (fun o => absurd (e1.symm.trans o) (by decide)) (fun o => absurd (e2.symm.trans o) (by decide))⟩
  · obtain ⟨m1, m2⟩ := ee_wr.sub h1 has (by decide +kernel) j1 j2
    obtain ⟨z0, hEU, hh, hrw⟩ := hED
    have hb1 := hEU.1
    have hb2 := hEU.2.1
    have m3 := ee_oknr (k := 35) (a := 560) (b := 840) m1 (ee_fld.sym (k := 35) m2 rfl rfl) (by omega) (by omega)
    have hmat : (ee_mat 31 40 [] [] (((ee_k289.2.2.2.2.1.getD 0 ([], [], (0, []))).2.1.set 20 (.inr (4, 1120, 0, [], []))).set 22 (.inr (4, 90, 0, [], [])) |>.set 23 (.inr (4, 90, 0, [], []))) (ee_k289.2.2.2.2.1.getD 0 ([], [], (0, []))).2.2 (0, [], [], ee_lw1.map (ee_sc [.retAddr 0, .retAddr 1, .retAddr 2, .retAddr 3, .retAddr 4, .retAddr 5, .retAddr 6, .int 560, .retAddr 7, .retAddr 8, .int 0, .retAddr 9, .retAddr 10, .retAddr 11, .retAddr 12, .retAddr 13, .retAddr 14, .retAddr 15, .retAddr 16, .retAddr 17, .retAddr 18, .retAddr 19, .retAddr 20, .retAddr 21, .retAddr 22, .retAddr 23, .retAddr 24, .retAddr 25, .retAddr 26, .int 7, .retAddr 27, .retAddr 28, .retAddr 29, .retAddr 30] (List.range 40) ee_k289.2.2.2.1.1), ((31 + (ee_li1.1 - 34), (35, 560, 840, []) :: (ee_si [.retAddr 0, .retAddr 1, .retAddr 2, .retAddr 3, .retAddr 4, .retAddr 5, .retAddr 6, .int 560, .retAddr 7, .retAddr 8, .int 0, .retAddr 9, .retAddr 10, .retAddr 11, .retAddr 12, .retAddr 13, .retAddr 14, .retAddr 15, .retAddr 16, .retAddr 17, .retAddr 18, .retAddr 19, .retAddr 20, .retAddr 21, .retAddr 22, .retAddr 23, .retAddr 24, .retAddr 25, .retAddr 26, .int 7, .retAddr 27, .retAddr 28, .retAddr 29, .retAddr 30] ee_k289.2.2.2.1 ee_li1).2)), 0, 0, [])).isSome = true := by decide +kernel
    obtain ⟨σ2, hσ2⟩ := Option.isSome_iff_exists.mp hmat
    obtain ⟨p1, p2⟩ := ee_wr.mat (n0 := ns) (r := t2) m3 m2 rfl hn0 hσ2
    have p3 := (p2.t40 (i := 22) rfl).t40 (i := 23) rfl
    have hC := ee_fld.sym (k := 35) p2 rfl rfl
    refine ⟨⟨_, List.mem_cons_self, _, ws', none, rfl, trivial, p1, ?_, hP', hD'⟩, hF⟩
    have own : ee_rp (ee_arf ws' 20) 560 (ee_fld ws' 35) ∧ 560 ≤ (560 : Int32).toInt := by
      have eb : (560 : Int32).toInt = 560 := by decide
      refine ⟨⟨by rw [eb]; omega, by rw [eb]; omega, by omega, hh, ?_⟩, by decide⟩
      rw [eb]
      exact hrw
    exact p3.cell (i := 20) (ov' := [(0, .int 0), (1, .int 1), (2, .retAddr 27), (3, .retAddr 29), (4, .retAddr 26), (5, .int 560), (6, .retAddr 36), (7, .int 7)]) rfl ⟨y1, 1, x0, c0, d0, 560, ee_fld ws' 35, 7, (by simpa using v1.mono _ []), rfl, ⟨(by simpa using vx0.mono _ []), (by simpa using vc0.mono _ []), (by simpa using vd0.mono _ [])⟩, ⟨rfl, ⟨_, hC, rfl⟩, rfl⟩, fun _ hd => oth _ _ hEU hd, fun _ _ => own⟩
