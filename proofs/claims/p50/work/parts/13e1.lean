set_option maxHeartbeats 16000000 in
theorem ee_bu1 {l : Launch} {D : va_G} {dA : Nat → ClassId} {ex : Nat → Nat} {u : List Int32} {as : List Nat} {ws : va_W} {sz : Nat} {av : List Value} {c0 : Nat → Int32} (h1 : ee_ok u ee_ei1) (h3 : ee_all (ee_v u as ex) [.ref 0] av) (h5 : ee_wr u as ex dA ee_ew1 ws) (hI : ee_EW 1 false c0 ws) : Met l ee_me165.2.1 (Cond.code ee_me165.2.1 ee_me165.2.2.1 ee_me165.2.2.2.1 ee_me165.2.2.2.2.1 :: ee_tbl) (ee_rm 3 0 0) (ee_Pc D dA ex av ws sz) (ee_QP (ee_PB 1 ee_lw1 ee_li1 ee_bw1 ee_bi1 u as ex dA c0 (ee_fld ws 37).toInt (ee_fld ws 38).toInt) D (va_A ws sz)) 0 0 (va_A ws sz) := by
  have hN0 : ee_mt 165 = some ee_me165 := rfl
  have hu : u.length = 34 := h1.1.symm
  have has : as.length = 40 := h5.len
  refine ee_open (d := 3) (A0 := [.ref 0]) (w := ee_ew1) (iv := ee_ei1) ee_Tbok hN0 (by decide +kernel) ⟨rfl, rfl⟩ (by decide +kernel) h1 h3 h5 (fun X ls hM hE C => ?_)
  have C : ee_Cx X (va_A ws sz) D dA ex as ee_me165.2.2.2.1 [(0, .ref 0)] [] ee_ew1 ee_ei1 u ws X.2.2.2.2.1.heap [] ls [] := C
  have shut : ∀ (t : List Int32) (ws1 : va_W) (H1 : Heap) (lc1 : List Loc) (ls1 : Array Slot), ee_Cx X (va_A ws sz) D dA ex as ee_me165.2.2.2.1 [(0, .ref 0)] [] ee_lw1 ee_li1 (u ++ t) ws1 H1 lc1 ls1 [] → ee_EW 1 false c0 ws1 → (ee_fld ws1 38).toInt = (ee_fld ws 38).toInt → (ee_fld ws1 37).toInt < (ee_fld ws 37).toInt → ee_Wg X D (va_A ws sz) (ee_PB 1 ee_lw1 ee_li1 ee_bw1 ee_bi1 u as ex dA c0 (ee_fld ws 37).toInt (ee_fld ws 38).toInt) H1 lc1 181 ls1 [] := by
    intro t ws1 H1 lc1 ls1 C1 hI1 hU hP
    have hB := ee_EI.bnd hI1
    have hl : (u ++ t).length = 42 := C1.1.1.symm
    have s38 := ee_fld.sym (k := 35) C1.2.2.2.1 rfl rfl
    have s40 := ee_fld.sym (k := 37) C1.2.2.2.1 rfl rfl
    have e0 : (ee_fld ws1 37).toInt + ((0 : Nat) : Int) - 1 = (ee_fld ws1 37).toInt - 1 := by omega
    have D2 := C1.ext (e := []) (iv' := ee_zb1G_s.2.2.2.2) (ee_ok.ext C1.1 rfl (L := []) (fun _ h => by cases h) (by decide +kernel))
    rw [List.append_nil] at D2
    have D3 := (((D2.frz (ee_F3 ws1) (by decide +kernel)).cell (i := 20) (ov' := [(1, .null), (1, .null)]) rfl (ee_mk2 (fun j hj => rfl))).cell (i := 22) (ov' := [(2, .null), (1, .null)]) rfl (ee_mk2 (fun j hj => rfl))).cell (i := 23) (ov' := [(3, .null), (1, .null)]) rfl (ee_mk2 (fun j hj => rfl))
    refine ee_go (st := ee_zb1G_s) (x0 := (u ++ t)) ee_Tbok ee_zb1Gg hN0 ee_zb1G hl.symm has hM (ee_exf.out hE) (fun t' ht r ws2 H2 lc2 ls2 vs2 C5 => ?_) D3
    rcases List.mem_cons.mp ht with rfl | ht
    · have f35 : ee_fld ws2 35 = ee_fld ws1 35 := ee_fsame (k := 35) D3.2.2.2.1 C5.2.2.2.1 rfl rfl rfl rfl
      have a20 : ∀ j, j < 2000 → ee_arf ws2 20 j = ee_arf ws1 20 j := ee_k2 (F := ee_F3 ws1) (i := 1) (ee_arf.ok (i := 20) C5.2.2.2.1 rfl).2
      obtain ⟨t3, C6⟩ := ee_toP (tw := ee_bw1) (tiv := ee_bi1) hu ⟨_, by simp only [List.append_assoc]; rfl⟩ C5 (by decide +kernel) (by decide +kernel)
      exact ee_fin hM (by decide +kernel) C5 (fun v hv => Or.inl ⟨0, ee_v1 hv, by decide, by decide, ⟨t3, C6.1, C6.2.2.2.1⟩, by rw [f35]; exact (ee_EI.un hI1).cong a20⟩)
    · have ht := List.mem_singleton.mp ht
      subst ht
      have f35 : ee_fld ws2 35 = ee_fld ws1 35 := ee_fsame (k := 35) D3.2.2.2.1 C5.2.2.2.1 rfl rfl rfl rfl
      have f36 : ee_fld ws2 36 = ee_fld ws1 36 := ee_fsame (k := 36) D3.2.2.2.1 C5.2.2.2.1 rfl rfl rfl rfl
      have f37 : ee_fld ws2 37 = ee_fld ws1 37 := ee_fsame (k := 37) D3.2.2.2.1 C5.2.2.2.1 rfl rfl rfl rfl
      have f38 : ee_fld ws2 38 = ee_fld ws1 38 := ee_fsame (k := 38) D3.2.2.2.1 C5.2.2.2.1 rfl rfl rfl rfl
      have a20 : ∀ j, j < 2000 → ee_arf ws2 20 j = ee_arf ws1 20 j := ee_k2 (F := ee_F3 ws1) (i := 1) (ee_arf.ok (i := 20) C5.2.2.2.1 rfl).2
      have a22 : ∀ j, j < 2000 → ee_arf ws2 22 j = ee_arf ws1 22 j := ee_k2 (F := ee_F3 ws1) (i := 2) (ee_arf.ok (i := 22) C5.2.2.2.1 rfl).2
      have a23 : ∀ j, j < 2000 → ee_arf ws2 23 j = ee_arf ws1 23 j := ee_k2 (F := ee_F3 ws1) (i := 3) (ee_arf.ok (i := 23) C5.2.2.2.1 rfl).2
      obtain ⟨t3, C6⟩ := ee_toP (tw := ee_lw1) (tiv := ee_li1) hu ⟨_, by simp only [List.append_assoc]; rfl⟩ C5 (by decide +kernel) (by decide +kernel)
      exact ee_fin hM (by decide +kernel) C5 (fun v hv => Or.inr ⟨⟨t3, C6.1, C6.2.2.2.1⟩, by rw [f38]; exact hU, Or.inr ⟨ee_v1 hv, by rw [f37]; exact hP, Or.inl (by unfold ee_EW; rw [f35, f36, f37, f38]; exact hI1.cong (by decide) a22 a23 a20)⟩⟩)
  have push : ∀ (t : List Int32) (ws1 : va_W) (H1 : Heap) (lc1 : List Loc) (ls1 : Array Slot), ee_Cx X (va_A ws sz) D dA ex as ee_me165.2.2.2.1 [(0, .ref 0)] [] ee_lw1 ee_li1 (u ++ t) ws1 H1 lc1 ls1 [] → ee_EW 1 true c0 ws1 → (ee_fld ws1 38).toInt = (ee_fld ws 38).toInt → ee_Wg X D (va_A ws sz) (ee_PB 1 ee_lw1 ee_li1 ee_bw1 ee_bi1 u as ex dA c0 (ee_fld ws 37).toInt (ee_fld ws 38).toInt) H1 lc1 141 ls1 [] := by
    intro t ws1 H1 lc1 ls1 C1 hI1 hU
    have hl : (u ++ t).length = 42 := C1.1.1.symm
    have D2 := C1.ext (e := []) (iv' := ee_zb1E_s.2.2.2.2) (ee_ok.ext C1.1 rfl (L := []) (fun _ h => by cases h) (by decide +kernel))
    rw [List.append_nil] at D2
    have D3 := (((D2.frz (ee_F3 ws1) (by decide +kernel)).cell (i := 20) (ov' := [(1, .null), (1, .null)]) rfl (ee_mk2 (fun j hj => rfl))).cell (i := 22) (ov' := [(2, .null), (1, .null)]) rfl (ee_mk2 (fun j hj => rfl))).cell (i := 23) (ov' := [(3, .null), (1, .null)]) rfl (ee_mk2 (fun j hj => rfl))
    refine ee_go (st := ee_zb1E_s) (x0 := (u ++ t)) ee_Tbok ee_zb1Eg hN0 ee_zb1E hl.symm has hM (ee_exf.out hE) (fun t' ht r ws2 H2 lc2 ls2 vs2 C5 => ?_) D3
    have ht := List.mem_singleton.mp ht
    subst ht
    have f35 : ee_fld ws2 35 = ee_fld ws1 35 := ee_fsame (k := 35) D3.2.2.2.1 C5.2.2.2.1 rfl rfl rfl rfl
    have f36 : ee_fld ws2 36 = ee_fld ws1 36 := ee_fsame (k := 36) D3.2.2.2.1 C5.2.2.2.1 rfl rfl rfl rfl
    have f37 : ee_fld ws2 37 = ee_fld ws1 37 := ee_fsame (k := 37) D3.2.2.2.1 C5.2.2.2.1 rfl rfl rfl rfl
    have f38 : ee_fld ws2 38 = ee_fld ws1 38 := ee_fsame (k := 38) D3.2.2.2.1 C5.2.2.2.1 rfl rfl rfl rfl
    have a20 : ∀ j, j < 2000 → ee_arf ws2 20 j = ee_arf ws1 20 j := ee_k2 (F := ee_F3 ws1) (i := 1) (ee_arf.ok (i := 20) C5.2.2.2.1 rfl).2
    have a22 : ∀ j, j < 2000 → ee_arf ws2 22 j = ee_arf ws1 22 j := ee_k2 (F := ee_F3 ws1) (i := 2) (ee_arf.ok (i := 22) C5.2.2.2.1 rfl).2
    have a23 : ∀ j, j < 2000 → ee_arf ws2 23 j = ee_arf ws1 23 j := ee_k2 (F := ee_F3 ws1) (i := 3) (ee_arf.ok (i := 23) C5.2.2.2.1 rfl).2
    obtain ⟨t3, C6⟩ := ee_toP (tw := ee_lw1) (tiv := ee_li1) hu ⟨_, by simp only [List.append_assoc]; rfl⟩ C5 (by decide +kernel) (by decide +kernel)
    exact ee_fin hM (by decide +kernel) C5 (fun v hv => Or.inr ⟨⟨t3, C6.1, C6.2.2.2.1⟩, by rw [f38]; exact hU, Or.inl ⟨ee_v1 hv, by unfold ee_EW; rw [f35, f36, f37, f38]; exact hI1.cong (by decide) a22 a23 a20⟩⟩)
  have bin : ∀ (rk s1 : Int32) (t : List Int32) (ws1 : va_W) (H1 : Heap) (lc1 : List Loc) (ls1 : Array Slot) (r0 : Value), 1 ≤ rk.toInt → rk.toInt ≤ 6 → rk.toInt ≠ 3 → ee_Cx X (va_A ws sz) D dA ex as ee_me165.2.2.2.1 [(0, .ref 0)] [] ee_lw1 ee_li1 (u ++ t) ws1 H1 lc1 ls1 [] → ee_EW 1 false c0 ws1 → (ee_fld ws1 38).toInt = (ee_fld ws 38).toInt → ee_v ([] : List Int32) as ex (.ref 0) r0 → ee_Wg X D (va_A ws sz) (ee_PB 1 ee_lw1 ee_li1 ee_bw1 ee_bi1 u as ex dA c0 (ee_fld ws 37).toInt (ee_fld ws 38).toInt) H1 lc1 138 ls1 [.int s1, .int rk, r0] := by
    intro rk s1 t ws1 H1 lc1 ls1 r0 hr0 hr6 hr3 C1 hI1 hU hr
    have hB := ee_EI.bnd hI1
    have hl : (u ++ t).length = 42 := C1.1.1.symm
    have s40 := ee_fld.sym (k := 37) C1.2.2.2.1 rfl rfl
    have D2 := C1.ext (e := [rk, s1]) (iv' := ee_zb1D_s.2.2.2.2) (ee_ok.ext C1.1 rfl (L := [(40, 1, 40, []), (42, 1, 6, []), (43, -2147483648, 2147483647, [])]) (List.forall_mem_cons.mpr ⟨ee_tr.mk (ee_get_app s40) (by omega) (by omega), (List.forall_mem_cons.mpr ⟨ee_tr.mk (ee_at0 hl) (by omega) (by omega), (List.forall_mem_cons.mpr ⟨ee_tr.mk (ee_at1' hl) ((ee_rng _).1) ((ee_rng _).2), (fun _ h => by cases h)⟩)⟩)⟩) (by decide +kernel))
    have D3 := (((D2.frz (ee_F3 ws1) (by decide +kernel)).cell (i := 20) (ov' := [(1, .null), (1, .null)]) rfl (ee_mk2 (fun j hj => rfl))).cell (i := 22) (ov' := [(2, .null), (1, .null)]) rfl (ee_mk2 (fun j hj => rfl))).cell (i := 23) (ov' := [(3, .null), (1, .null)]) rfl (ee_mk2 (fun j hj => rfl))
    obtain ⟨v0, l0, ev0⟩ := D3.getl (i := 0) rfl
    have D4 := D3.nol.addl l0 ev0
    have D5 := D4.restk (stk' := [.retAddr 43, .retAddr 42, .ref 0]) (vs' := [.int s1, .int rk, r0]) ⟨⟨_, ee_at1' hl, rfl⟩, ⟨_, ee_at0 hl, rfl⟩, (ee_nf.ok (by decide)).mp (by simpa using hr.mono ((u ++ t) ++ [rk, s1]) []), trivial⟩
    refine ee_go (st := ee_zb1D_s) (x0 := (u ++ t) ++ [rk, s1]) ee_Tbok ee_zb1Dg hN0 ee_zb1D (by rw [List.length_append, hl]; rfl) has hM (ee_exf.out hE) (fun t' ht r ws2 H2 lc2 ls2 vs2 C5 => ?_) D5
    have ht := List.mem_singleton.mp ht
    subst ht
    have f35 : ee_fld ws2 35 = ee_fld ws1 35 := ee_fsame (k := 35) D5.2.2.2.1 C5.2.2.2.1 rfl rfl rfl rfl
    have f36 : ee_fld ws2 36 = ee_fld ws1 36 := ee_fsame (k := 36) D5.2.2.2.1 C5.2.2.2.1 rfl rfl rfl rfl
    have f38 : ee_fld ws2 38 = ee_fld ws1 38 := ee_fsame (k := 38) D5.2.2.2.1 C5.2.2.2.1 rfl rfl rfl rfl
    have f37 := ee_ffact (k := 37) D5.2.2.2.1 C5.2.2.2.1 C5.1 rfl rfl rfl rfl rfl
    have a20 : ∀ j, j < 2000 → ee_arf ws2 20 j = ee_arf ws1 20 j := ee_k2 (F := ee_F3 ws1) (i := 1) (ee_arf.ok (i := 20) C5.2.2.2.1 rfl).2
    have e1 : ((ee_fld ws1 37).toInt + ((1 : Nat) : Int) - 1).toNat = (ee_fld ws1 37).toInt.toNat := by omega
    have a22 := ee_k4 (F := ee_F3 ws1) (i := 2) (ee_arf.ok (i := 22) C5.2.2.2.1 rfl).2 (p := ee_fld ws1 37) (q := rk) ⟨_, ee_get_app (ee_get_app s40), rfl⟩ ⟨_, ee_get_app (ee_at0 hl), rfl⟩
    rw [e1] at a22
    have a23 := ee_k4 (F := ee_F3 ws1) (i := 3) (ee_arf.ok (i := 23) C5.2.2.2.1 rfl).2 (p := ee_fld ws1 37) (q := s1) ⟨_, ee_get_app (ee_get_app s40), rfl⟩ ⟨_, ee_get_app (ee_at1' hl), rfl⟩
    rw [e1] at a23
    have hI2 : ee_EW 1 true c0 ws2 := by
      refine ee_EI.cong (w := ee_arf ws2 22) (g := ee_arf ws2 23) (c := ee_arf ws1 20) ?_ (by decide) (fun j hj => rfl) (fun j hj => rfl) a20
      refine ee_EI.bin (P := (ee_fld ws1 37).toInt) (w := ee_arf ws1 22) (g := ee_arf ws1 23) (x := rk) ?_ (fun e => hr3 (by rw [e]; decide)) (fun e => by rw [e] at hr6; exact absurd hr6 (by decide)) (by omega) a22.1 a22.2 a23.2
      rw [f35, f36, f38]
      exact hI1
    have hB2 := ee_EI.bnd hI2
    have C5n := C5.nar (k := 44) (ee_fld.sym (k := 37) C5.2.2.2.1 rfl rfl) (a := 0) (b := 40) (by omega) (by omega)
    obtain ⟨t3, C6⟩ := ee_toP (tw := ee_lw1) (tiv := ee_li1) hu ⟨_, by simp only [List.append_assoc]; rfl⟩ C5n (by decide +kernel) (by decide +kernel)
    have hvs := ee_vs0 C5.2.2.1
    subst hvs
    exact push t3 ws2 H2 lc2 ls2 C6 hI2 (by rw [f38]; exact hU)
  have exit : ∀ (rk : Int32) (t : List Int32) (ws1 : va_W) (H1 : Heap) (lc1 : List Loc) (ls1 : Array Slot), 0 ≤ rk.toInt → rk.toInt ≤ 6 → rk.toInt ≠ 3 → ee_Cx X (va_A ws sz) D dA ex as ee_me165.2.2.2.1 [(0, .ref 0)] [] ee_lw1 ee_li1 (u ++ t) ws1 H1 lc1 ls1 [] → (∃ lv, lv_has ls1 ee_me165.2.2.2.1 lv ∧ (1, Value.int rk) ∈ lv) → ee_EW 1 false c0 ws1 → (ee_fld ws1 38).toInt = (ee_fld ws 38).toInt → (ee_fld ws1 37).toInt ≤ (ee_fld ws 37).toInt → (rk.toInt = 0 → (ee_arf ws1 22 ((ee_fld ws1 37).toInt - 1).toNat) ≠ 3) → ee_Wg X D (va_A ws sz) (ee_PB 1 ee_lw1 ee_li1 ee_bw1 ee_bi1 u as ex dA c0 (ee_fld ws 37).toInt (ee_fld ws 38).toInt) H1 lc1 104 ls1 [] := by
    intro rk t ws1 H1 lc1 ls1 hr0 hr6 hr3 C1 l1 hI1 hU hP hT3
    have hB := ee_EI.bnd hI1
    have hl : (u ++ t).length = 42 := C1.1.1.symm
    have s38 := ee_fld.sym (k := 35) C1.2.2.2.1 rfl rfl
    have s40 := ee_fld.sym (k := 37) C1.2.2.2.1 rfl rfl
    have e0 : (ee_fld ws1 37).toInt + ((0 : Nat) : Int) - 1 = (ee_fld ws1 37).toInt - 1 := by omega
    by_cases hrk : rk.toInt = 0
    · have hT3 := hT3 hrk
      by_cases hT : (ee_arf ws1 22 ((ee_fld ws1 37).toInt - 1).toNat).toInt ≤ 6
      · skip
        have D2 := C1.ext (e := [rk, (ee_arf ws1 22 ((ee_fld ws1 37).toInt - 1).toNat)]) (iv' := ee_zb1Fa_s.2.2.2.2) (ee_ok.ext C1.1 rfl (L := [(40, 1, 40, []), (42, 0, 0, []), (43, -2147483648, 6, [])]) (List.forall_mem_cons.mpr ⟨ee_tr.mk (ee_get_app s40) (by omega) (by omega), (List.forall_mem_cons.mpr ⟨ee_tr.mk (ee_at0 hl) (by omega) (by omega), (List.forall_mem_cons.mpr ⟨ee_tr.mk (ee_at1' hl) ((ee_rng _).1) (hT), (fun _ h => by cases h)⟩)⟩)⟩) (by decide +kernel))
        have D3 := (((D2.frz (ee_F3 ws1) (by decide +kernel)).cell (i := 20) (ov' := [(1, .null), (1, .null)]) rfl (ee_mk2 (fun j hj => rfl))).cell (i := 22) (ov' := [(2, .null), (1, .null), (0, .retAddr 40), (0, .retAddr 43)]) rfl (ee_mk4 (p := ee_fld ws1 37) ⟨_, ee_get_app s40, rfl⟩ (by omega) (by rw [e0]; exact ⟨_, ee_at1' hl, rfl⟩) (fun j hj => rfl))).cell (i := 23) (ov' := [(3, .null), (1, .null)]) rfl (ee_mk2 (fun j hj => rfl))
        obtain ⟨v0, l0, ev0⟩ := D3.getl (i := 0) rfl
        have D4 := (D3.nol.addl l1 (x := .retAddr 42) ⟨_, ee_at0 hl, rfl⟩).addl l0 ev0
        refine ee_go (st := ee_zb1Fa_s) (x0 := (u ++ t) ++ [rk, (ee_arf ws1 22 ((ee_fld ws1 37).toInt - 1).toNat)]) ee_Tbok ee_zb1Fag hN0 ee_zb1Fa (by rw [List.length_append, hl]; rfl) has hM (ee_exf.out hE) (fun t' ht r ws2 H2 lc2 ls2 vs2 C5 => ?_) D4
        have ht := List.mem_singleton.mp ht
        subst ht
        have f35 : ee_fld ws2 35 = ee_fld ws1 35 := ee_fsame (k := 35) D4.2.2.2.1 C5.2.2.2.1 rfl rfl rfl rfl
        have f38 : ee_fld ws2 38 = ee_fld ws1 38 := ee_fsame (k := 38) D4.2.2.2.1 C5.2.2.2.1 rfl rfl rfl rfl
        have f37 := ee_ffact (k := 37) D4.2.2.2.1 C5.2.2.2.1 C5.1 rfl rfl rfl rfl rfl
        have a20 : ∀ j, j < 2000 → ee_arf ws2 20 j = ee_arf ws1 20 j := ee_k2 (F := ee_F3 ws1) (i := 1) (ee_arf.ok (i := 20) C5.2.2.2.1 rfl).2
        have a22 : ∀ j, j < 2000 → ee_arf ws2 22 j = ee_arf ws1 22 j := ee_k4s (F := ee_F3 ws1) (i := 2) (ee_arf.ok (i := 22) C5.2.2.2.1 rfl).2 (p := ee_fld ws1 37) ⟨_, ee_get_app (ee_get_app s40), rfl⟩ (by rw [e0]; exact ⟨_, ee_get_app (ee_at1' hl), rfl⟩)
        have a23 : ∀ j, j < 2000 → ee_arf ws2 23 j = ee_arf ws1 23 j := ee_k2 (F := ee_F3 ws1) (i := 3) (ee_arf.ok (i := 23) C5.2.2.2.1 rfl).2
        have f36 : ee_fld ws2 36 = ee_fld ws1 36 := ee_fsame (k := 36) D4.2.2.2.1 C5.2.2.2.1 rfl rfl rfl rfl
        obtain ⟨t3, C6⟩ := ee_toP (tw := ee_lw1) (tiv := ee_li1) hu ⟨_, by simp only [List.append_assoc]; rfl⟩ C5 (by decide +kernel) (by decide +kernel)
        refine ee_fin hM (by decide +kernel) C5 (fun v hv => Or.inr ⟨⟨t3, C6.1, C6.2.2.2.1⟩, by rw [f38]; exact hU, Or.inr ⟨ee_v1 hv, by omega, ?_⟩⟩)
        by_cases hP1 : 2 ≤ (ee_fld ws1 37).toInt
        · refine Or.inl (ee_EI.cong ?_ (by decide) a22 a23 a20)
          refine ee_EI.drop (P := (ee_fld ws1 37).toInt) (wi := (ee_fld ws1 36).toInt) ?_ rfl hT3 (by omega) ?_ hP1
          · rw [f35, f38]; exact hI1
          · rw [if_neg (fun e => by rw [e] at hT; exact absurd hT (by decide)), f36]
        · refine Or.inr ⟨by omega, by rw [f35]; exact (ee_EI.un hI1).cong a20, ?_⟩
          obtain ⟨-, -, ⟨hh, -, r3⟩, -⟩ := hI1
          refine ⟨hh, ?_⟩
          rw [f35, ee_rw.cong (f := ee_arf ws1 20) (fun j j1 j2 => a20 j (by omega))]
          exact r3
      · by_cases hT7 : (ee_arf ws1 22 ((ee_fld ws1 37).toInt - 1).toNat) = 7
        · have e7 : (7 : Int32).toInt = 7 := by decide
          have D2 := C1.ext (e := [rk, (ee_arf ws1 22 ((ee_fld ws1 37).toInt - 1).toNat)]) (iv' := ee_zb1Fb_s.2.2.2.2) (ee_ok.ext C1.1 rfl (L := [(40, 1, 40, []), (42, 0, 0, []), (43, 7, 7, [])]) (List.forall_mem_cons.mpr ⟨ee_tr.mk (ee_get_app s40) (by omega) (by omega), (List.forall_mem_cons.mpr ⟨ee_tr.mk (ee_at0 hl) (by omega) (by omega), (List.forall_mem_cons.mpr ⟨ee_tr.mk (ee_at1' hl) (by rw [hT7, e7]; omega) (by rw [hT7, e7]; omega), (fun _ h => by cases h)⟩)⟩)⟩) (by decide +kernel))
          have D3 := (((D2.frz (ee_F3 ws1) (by decide +kernel)).cell (i := 20) (ov' := [(1, .null), (1, .null)]) rfl (ee_mk2 (fun j hj => rfl))).cell (i := 22) (ov' := [(2, .null), (1, .null), (0, .retAddr 40), (0, .retAddr 43)]) rfl (ee_mk4 (p := ee_fld ws1 37) ⟨_, ee_get_app s40, rfl⟩ (by omega) (by rw [e0]; exact ⟨_, ee_at1' hl, rfl⟩) (fun j hj => rfl))).cell (i := 23) (ov' := [(3, .null), (1, .null)]) rfl (ee_mk2 (fun j hj => rfl))
          obtain ⟨v0, l0, ev0⟩ := D3.getl (i := 0) rfl
          have D4 := (D3.nol.addl l1 (x := .retAddr 42) ⟨_, ee_at0 hl, rfl⟩).addl l0 ev0
          refine ee_go (st := ee_zb1Fb_s) (x0 := (u ++ t) ++ [rk, (ee_arf ws1 22 ((ee_fld ws1 37).toInt - 1).toNat)]) ee_Tbok ee_zb1Fbg hN0 ee_zb1Fb (by rw [List.length_append, hl]; rfl) has hM (ee_exf.out hE) (fun t' ht r ws2 H2 lc2 ls2 vs2 C5 => ?_) D4
          have ht := List.mem_singleton.mp ht
          subst ht
          have f35 : ee_fld ws2 35 = ee_fld ws1 35 := ee_fsame (k := 35) D4.2.2.2.1 C5.2.2.2.1 rfl rfl rfl rfl
          have f38 : ee_fld ws2 38 = ee_fld ws1 38 := ee_fsame (k := 38) D4.2.2.2.1 C5.2.2.2.1 rfl rfl rfl rfl
          have f37 := ee_ffact (k := 37) D4.2.2.2.1 C5.2.2.2.1 C5.1 rfl rfl rfl rfl rfl
          have a20 : ∀ j, j < 2000 → ee_arf ws2 20 j = ee_arf ws1 20 j := ee_k2 (F := ee_F3 ws1) (i := 1) (ee_arf.ok (i := 20) C5.2.2.2.1 rfl).2
          have a22 : ∀ j, j < 2000 → ee_arf ws2 22 j = ee_arf ws1 22 j := ee_k4s (F := ee_F3 ws1) (i := 2) (ee_arf.ok (i := 22) C5.2.2.2.1 rfl).2 (p := ee_fld ws1 37) ⟨_, ee_get_app (ee_get_app s40), rfl⟩ (by rw [e0]; exact ⟨_, ee_get_app (ee_at1' hl), rfl⟩)
          have a23 : ∀ j, j < 2000 → ee_arf ws2 23 j = ee_arf ws1 23 j := ee_k2 (F := ee_F3 ws1) (i := 3) (ee_arf.ok (i := 23) C5.2.2.2.1 rfl).2
          have f36 := ee_ffact (k := 36) D4.2.2.2.1 C5.2.2.2.1 C5.1 rfl rfl rfl rfl rfl
          have hP1 : 2 ≤ (ee_fld ws1 37).toInt := by
            by_cases hc : (ee_fld ws1 37).toInt = 1
            · exfalso
              have hw0 := hI1.1.2.1
              rw [hc] at hT7
              have hT7 : ee_arf ws1 22 0 = 7 := hT7
              rw [hw0] at hT7
              exact absurd hT7 (by decide)
            · omega
          have hI2 : ee_EW 1 false c0 ws2 := by
            refine ee_EI.cong ?_ (by decide) a22 a23 a20
            refine ee_EI.drop (P := (ee_fld ws1 37).toInt) (wi := (ee_fld ws1 36).toInt) ?_ rfl hT3 (by omega) ?_ hP1
            · rw [f35, f38]; exact hI1
            · rw [if_pos hT7]; omega
          have hB2 := ee_EI.bnd hI2
          have C5n := C5.nar (k := 44) (ee_fld.sym (k := 36) C5.2.2.2.1 rfl rfl) (a := 0) (b := 7) (by omega) (by omega)
          obtain ⟨t3, C6⟩ := ee_toP (tw := ee_lw1) (tiv := ee_li1) hu ⟨_, by simp only [List.append_assoc]; rfl⟩ C5n (by decide +kernel) (by decide +kernel)
          have hvs := ee_vs0 C5.2.2.1
          subst hvs
          exact shut t3 ws2 H2 lc2 ls2 C6 hI2 (by rw [f38]; exact hU) (by omega)
        · have hT8 : 8 ≤ (ee_arf ws1 22 ((ee_fld ws1 37).toInt - 1).toNat).toInt := by
            have e7 : (7 : Int32).toInt = 7 := by decide
            have : (ee_arf ws1 22 ((ee_fld ws1 37).toInt - 1).toNat).toInt ≠ 7 := fun e => hT7 (ee_int_inj (e.trans e7.symm))
            omega
          have D2 := C1.ext (e := [rk, (ee_arf ws1 22 ((ee_fld ws1 37).toInt - 1).toNat)]) (iv' := ee_zb1Fc_s.2.2.2.2) (ee_ok.ext C1.1 rfl (L := [(40, 1, 40, []), (42, 0, 0, []), (43, 8, 2147483647, [])]) (List.forall_mem_cons.mpr ⟨ee_tr.mk (ee_get_app s40) (by omega) (by omega), (List.forall_mem_cons.mpr ⟨ee_tr.mk (ee_at0 hl) (by omega) (by omega), (List.forall_mem_cons.mpr ⟨ee_tr.mk (ee_at1' hl) (hT8) ((ee_rng _).2), (fun _ h => by cases h)⟩)⟩)⟩) (by decide +kernel))
          have D3 := (((D2.frz (ee_F3 ws1) (by decide +kernel)).cell (i := 20) (ov' := [(1, .null), (1, .null)]) rfl (ee_mk2 (fun j hj => rfl))).cell (i := 22) (ov' := [(2, .null), (1, .null), (0, .retAddr 40), (0, .retAddr 43)]) rfl (ee_mk4 (p := ee_fld ws1 37) ⟨_, ee_get_app s40, rfl⟩ (by omega) (by rw [e0]; exact ⟨_, ee_at1' hl, rfl⟩) (fun j hj => rfl))).cell (i := 23) (ov' := [(3, .null), (1, .null)]) rfl (ee_mk2 (fun j hj => rfl))
          obtain ⟨v0, l0, ev0⟩ := D3.getl (i := 0) rfl
          have D4 := (D3.nol.addl l1 (x := .retAddr 42) ⟨_, ee_at0 hl, rfl⟩).addl l0 ev0
          refine ee_go (st := ee_zb1Fc_s) (x0 := (u ++ t) ++ [rk, (ee_arf ws1 22 ((ee_fld ws1 37).toInt - 1).toNat)]) ee_Tbok ee_zb1Fcg hN0 ee_zb1Fc (by rw [List.length_append, hl]; rfl) has hM (ee_exf.out hE) (fun t' ht r ws2 H2 lc2 ls2 vs2 C5 => ?_) D4
          have ht := List.mem_singleton.mp ht
          subst ht
          have f35 : ee_fld ws2 35 = ee_fld ws1 35 := ee_fsame (k := 35) D4.2.2.2.1 C5.2.2.2.1 rfl rfl rfl rfl
          have f38 : ee_fld ws2 38 = ee_fld ws1 38 := ee_fsame (k := 38) D4.2.2.2.1 C5.2.2.2.1 rfl rfl rfl rfl
          have f37 := ee_ffact (k := 37) D4.2.2.2.1 C5.2.2.2.1 C5.1 rfl rfl rfl rfl rfl
          have a20 : ∀ j, j < 2000 → ee_arf ws2 20 j = ee_arf ws1 20 j := ee_k2 (F := ee_F3 ws1) (i := 1) (ee_arf.ok (i := 20) C5.2.2.2.1 rfl).2
          have a22 : ∀ j, j < 2000 → ee_arf ws2 22 j = ee_arf ws1 22 j := ee_k4s (F := ee_F3 ws1) (i := 2) (ee_arf.ok (i := 22) C5.2.2.2.1 rfl).2 (p := ee_fld ws1 37) ⟨_, ee_get_app (ee_get_app s40), rfl⟩ (by rw [e0]; exact ⟨_, ee_get_app (ee_at1' hl), rfl⟩)
          have a23 : ∀ j, j < 2000 → ee_arf ws2 23 j = ee_arf ws1 23 j := ee_k2 (F := ee_F3 ws1) (i := 3) (ee_arf.ok (i := 23) C5.2.2.2.1 rfl).2
          have f36 : ee_fld ws2 36 = ee_fld ws1 36 := ee_fsame (k := 36) D4.2.2.2.1 C5.2.2.2.1 rfl rfl rfl rfl
          obtain ⟨t3, C6⟩ := ee_toP (tw := ee_lw1) (tiv := ee_li1) hu ⟨_, by simp only [List.append_assoc]; rfl⟩ C5 (by decide +kernel) (by decide +kernel)
          refine ee_fin hM (by decide +kernel) C5 (fun v hv => Or.inr ⟨⟨t3, C6.1, C6.2.2.2.1⟩, by rw [f38]; exact hU, Or.inr ⟨ee_v1 hv, by omega, ?_⟩⟩)
          by_cases hP1 : 2 ≤ (ee_fld ws1 37).toInt
          · refine Or.inl (ee_EI.cong ?_ (by decide) a22 a23 a20)
            refine ee_EI.drop (P := (ee_fld ws1 37).toInt) (wi := (ee_fld ws1 36).toInt) ?_ rfl hT3 (by omega) ?_ hP1
            · rw [f35, f38]; exact hI1
            · rw [if_neg hT7, f36]
          · refine Or.inr ⟨by omega, by rw [f35]; exact (ee_EI.un hI1).cong a20, ?_⟩
            obtain ⟨-, -, ⟨hh, -, r3⟩, -⟩ := hI1
            refine ⟨hh, ?_⟩
            rw [f35, ee_rw.cong (f := ee_arf ws1 20) (fun j j1 j2 => a20 j (by omega))]
            exact r3
    · skip
      have D2 := C1.ext (e := [rk]) (iv' := ee_zb1C_s.2.2.2.2) (ee_ok.ext C1.1 rfl (L := [(40, 1, 40, []), (42, 1, 6, [])]) (List.forall_mem_cons.mpr ⟨ee_tr.mk (ee_get_app s40) (by omega) (by omega), (List.forall_mem_cons.mpr ⟨ee_tr.mk (ee_at0 hl) (by omega) (by omega), (fun _ h => by cases h)⟩)⟩) (by decide +kernel))
      have D3 := (((D2.frz (ee_F3 ws1) (by decide +kernel)).cell (i := 20) (ov' := [(1, .null), (1, .null)]) rfl (ee_mk2 (fun j hj => rfl))).cell (i := 22) (ov' := [(2, .null), (1, .null)]) rfl (ee_mk2 (fun j hj => rfl))).cell (i := 23) (ov' := [(3, .null), (1, .null)]) rfl (ee_mk2 (fun j hj => rfl))
      obtain ⟨v0, l0, ev0⟩ := D3.getl (i := 0) rfl
      have D4 := (D3.nol.addl l1 (x := .retAddr 42) ⟨_, ee_at0 hl, rfl⟩).addl l0 ev0
      refine ee_go (st := ee_zb1C_s) (x0 := (u ++ t) ++ [rk]) ee_Tbok ee_zb1Cg hN0 ee_zb1C (by rw [List.length_append, hl]; rfl) has hM (ee_exf.out hE) (fun t' ht r ws2 H2 lc2 ls2 vs2 C5 => ?_) D4
      have ht := List.mem_singleton.mp ht
      subst ht
      have f35 : ee_fld ws2 35 = ee_fld ws1 35 := ee_fsame (k := 35) D4.2.2.2.1 C5.2.2.2.1 rfl rfl rfl rfl
      have f36 : ee_fld ws2 36 = ee_fld ws1 36 := ee_fsame (k := 36) D4.2.2.2.1 C5.2.2.2.1 rfl rfl rfl rfl
      have f37 : ee_fld ws2 37 = ee_fld ws1 37 := ee_fsame (k := 37) D4.2.2.2.1 C5.2.2.2.1 rfl rfl rfl rfl
      have f38 : ee_fld ws2 38 = ee_fld ws1 38 := ee_fsame (k := 38) D4.2.2.2.1 C5.2.2.2.1 rfl rfl rfl rfl
      have a20 : ∀ j, j < 2000 → ee_arf ws2 20 j = ee_arf ws1 20 j := ee_k2 (F := ee_F3 ws1) (i := 1) (ee_arf.ok (i := 20) C5.2.2.2.1 rfl).2
      have a22 : ∀ j, j < 2000 → ee_arf ws2 22 j = ee_arf ws1 22 j := ee_k2 (F := ee_F3 ws1) (i := 2) (ee_arf.ok (i := 22) C5.2.2.2.1 rfl).2
      have a23 : ∀ j, j < 2000 → ee_arf ws2 23 j = ee_arf ws1 23 j := ee_k2 (F := ee_F3 ws1) (i := 3) (ee_arf.ok (i := 23) C5.2.2.2.1 rfl).2
      obtain ⟨t3, C6⟩ := ee_toP (tw := ee_lw1) (tiv := ee_li1) hu ⟨_, by simp only [List.append_assoc]; rfl⟩ C5 (by decide +kernel) (by decide +kernel)
      obtain ⟨w1, vs3, rfl, c1, c4a⟩ := C5.2.2.1.cons
      obtain ⟨w2, vs4, rfl, c2, c4b⟩ := c4a.cons
      obtain ⟨w3, vs5, rfl, c3, c4c⟩ := c4b.cons
      have hvs := ee_vs0 c4c
      subst hvs
      obtain ⟨s1, c1, rfl⟩ := c1
      obtain ⟨z2, c2, rfl⟩ := c2
      rw [ee_get_app (ee_at0 hl)] at c2
      cases c2
      have hI2 : ee_EW 1 false c0 ws2 := by unfold ee_EW; rw [f35, f36, f37, f38]; exact hI1.cong (by decide) a22 a23 a20
      clear a20 a22 a23
      refine bin rk s1 t3 ws2 H2 lc2 ls2 w3 (by omega) hr6 hr3 C6 hI2 (by rw [f38]; exact hU) ?_
      have c3 := (ee_nf.ok (F := ee_F3 ws1) (x := .ref 0) (by decide)).mpr c3
      obtain ⟨a, rfl⟩ := ee_v.ref c3
      exact ee_v.inw (by decide) (c3.at (by decide))
  have loop : ∀ (n : Nat) (rk : Int32) (t : List Int32) (ws1 : va_W) (H1 : Heap) (lc1 : List Loc) (ls1 : Array Slot), (ee_fld ws1 37).toInt.toNat ≤ n → 0 ≤ rk.toInt → rk.toInt ≤ 6 → rk.toInt ≠ 3 → ee_Cx X (va_A ws sz) D dA ex as ee_me165.2.2.2.1 [(0, .ref 0)] [] ee_lw1 ee_li1 (u ++ t) ws1 H1 lc1 ls1 [] → (∃ lv, lv_has ls1 ee_me165.2.2.2.1 lv ∧ (1, Value.int rk) ∈ lv) → ee_EW 1 false c0 ws1 → (ee_fld ws1 38).toInt = (ee_fld ws 38).toInt → (ee_fld ws1 37).toInt ≤ (ee_fld ws 37).toInt → ee_Wg X D (va_A ws sz) (ee_PB 1 ee_lw1 ee_li1 ee_bw1 ee_bi1 u as ex dA c0 (ee_fld ws 37).toInt (ee_fld ws 38).toInt) H1 lc1 23 ls1 [] := by
    intro n
    induction n with
    | zero =>
      intro rk t ws1 H1 lc1 ls1 hn hr0 hr6 hr3 C1 l1 hI1 hU hP
      have hB := ee_EI.bnd hI1
      omega
    | succ n ih =>
      intro rk t ws1 H1 lc1 ls1 hn hr0 hr6 hr3 C1 l1 hI1 hU hP
      have hB := ee_EI.bnd hI1
      have hl : (u ++ t).length = 42 := C1.1.1.symm
      have s38 := ee_fld.sym (k := 35) C1.2.2.2.1 rfl rfl
      have s40 := ee_fld.sym (k := 37) C1.2.2.2.1 rfl rfl
      have e0 : (ee_fld ws1 37).toInt + ((0 : Nat) : Int) - 1 = (ee_fld ws1 37).toInt - 1 := by omega
      have e3 : (3 : Int32).toInt = 3 := by decide
      by_cases hTa : (ee_arf ws1 22 ((ee_fld ws1 37).toInt - 1).toNat).toInt ≤ 2
      · skip
        have D2 := C1.ext (e := [rk, (ee_arf ws1 22 ((ee_fld ws1 37).toInt - 1).toNat), (ee_arf ws1 23 ((ee_fld ws1 37).toInt - 1).toNat)]) (iv' := ee_zb1Ba_s.2.2.2.2) (ee_ok.ext C1.1 rfl (L := [(40, 1, 40, []), (42, 0, 6, []), (43, -2147483648, 2, []), (44, -2147483648, 2147483647, [])]) (List.forall_mem_cons.mpr ⟨ee_tr.mk (ee_get_app s40) (by omega) (by omega), (List.forall_mem_cons.mpr ⟨ee_tr.mk (ee_at0 hl) (hr0) (hr6), (List.forall_mem_cons.mpr ⟨ee_tr.mk (ee_at1' hl) ((ee_rng _).1) (hTa), (List.forall_mem_cons.mpr ⟨ee_tr.mk (ee_at2 hl) ((ee_rng _).1) ((ee_rng _).2), (fun _ h => by cases h)⟩)⟩)⟩)⟩) (by decide +kernel))
        have D3 := (((D2.frz (ee_F3 ws1) (by decide +kernel)).cell (i := 20) (ov' := [(1, .null), (1, .null)]) rfl (ee_mk2 (fun j hj => rfl))).cell (i := 22) (ov' := [(2, .null), (1, .null), (0, .retAddr 40), (0, .retAddr 43)]) rfl (ee_mk4 (p := ee_fld ws1 37) ⟨_, ee_get_app s40, rfl⟩ (by omega) (by rw [e0]; exact ⟨_, ee_at1' hl, rfl⟩) (fun j hj => rfl))).cell (i := 23) (ov' := [(3, .null), (1, .null), (0, .retAddr 40), (0, .retAddr 44)]) rfl (ee_mk4 (p := ee_fld ws1 37) ⟨_, ee_get_app s40, rfl⟩ (by omega) (by rw [e0]; exact ⟨_, ee_at2 hl, rfl⟩) (fun j hj => rfl))
        obtain ⟨v0, l0, ev0⟩ := D3.getl (i := 0) rfl
        have D4 := (D3.nol.addl l1 (x := .retAddr 42) ⟨_, ee_at0 hl, rfl⟩).addl l0 ev0
        refine ee_go (st := ee_zb1Ba_s) (x0 := (u ++ t) ++ [rk, (ee_arf ws1 22 ((ee_fld ws1 37).toInt - 1).toNat), (ee_arf ws1 23 ((ee_fld ws1 37).toInt - 1).toNat)]) ee_Tbok ee_zb1Bag hN0 ee_zb1Ba (by rw [List.length_append, hl]; rfl) has hM (ee_exf.out hE) (fun t' ht r ws2 H2 lc2 ls2 vs2 C5 => ?_) D4
        rcases List.mem_cons.mp ht with rfl | ht
        · skip
          have f35 : ee_fld ws2 35 = ee_fld ws1 35 := ee_fsame (k := 35) D4.2.2.2.1 C5.2.2.2.1 rfl rfl rfl rfl
          have f36 : ee_fld ws2 36 = ee_fld ws1 36 := ee_fsame (k := 36) D4.2.2.2.1 C5.2.2.2.1 rfl rfl rfl rfl
          have f37 : ee_fld ws2 37 = ee_fld ws1 37 := ee_fsame (k := 37) D4.2.2.2.1 C5.2.2.2.1 rfl rfl rfl rfl
          have f38 : ee_fld ws2 38 = ee_fld ws1 38 := ee_fsame (k := 38) D4.2.2.2.1 C5.2.2.2.1 rfl rfl rfl rfl
          have a20 : ∀ j, j < 2000 → ee_arf ws2 20 j = ee_arf ws1 20 j := ee_k2 (F := ee_F3 ws1) (i := 1) (ee_arf.ok (i := 20) C5.2.2.2.1 rfl).2
          have a22 : ∀ j, j < 2000 → ee_arf ws2 22 j = ee_arf ws1 22 j := ee_k4s (F := ee_F3 ws1) (i := 2) (ee_arf.ok (i := 22) C5.2.2.2.1 rfl).2 (p := ee_fld ws1 37) ⟨_, ee_get_app (ee_get_app s40), rfl⟩ (by rw [e0]; exact ⟨_, ee_get_app (ee_at1' hl), rfl⟩)
          have a23 : ∀ j, j < 2000 → ee_arf ws2 23 j = ee_arf ws1 23 j := ee_k4s (F := ee_F3 ws1) (i := 3) (ee_arf.ok (i := 23) C5.2.2.2.1 rfl).2 (p := ee_fld ws1 37) ⟨_, ee_get_app (ee_get_app s40), rfl⟩ (by rw [e0]; exact ⟨_, ee_get_app (ee_at2 hl), rfl⟩)
          obtain ⟨u1, m1, g1⟩ := C5.getl (i := 1) (x := .retAddr 42) rfl
          obtain ⟨z1, g1, rfl⟩ := g1
          rw [ee_get_app (ee_at0 hl)] at g1
          cases g1
          obtain ⟨t3, C6⟩ := ee_toP (tw := ee_lw1) (tiv := ee_li1) hu ⟨_, by simp only [List.append_assoc]; rfl⟩ C5 (by decide +kernel) (by decide +kernel)
          have hvs := ee_vs0 C5.2.2.1
          subst hvs
          refine exit rk t3 ws2 H2 lc2 ls2 hr0 hr6 hr3 C6 m1 (by unfold ee_EW; rw [f35, f36, f37, f38]; exact hI1.cong (by decide) a22 a23 a20) (by rw [f38]; exact hU) (by rw [f37]; exact hP) (fun hz => ?_)
          rw [f37, a22 _ (by omega)]
          intro e
          rw [e] at hTa
          exact absurd hTa (by decide)
        · have ht := List.mem_singleton.mp ht
          subst ht
          have f38 : ee_fld ws2 38 = ee_fld ws1 38 := ee_fsame (k := 38) D4.2.2.2.1 C5.2.2.2.1 rfl rfl rfl rfl
          have f35 := ee_ffact (k := 35) D4.2.2.2.1 C5.2.2.2.1 C5.1 rfl rfl rfl rfl rfl
          have f37 := ee_ffact (k := 37) D4.2.2.2.1 C5.2.2.2.1 C5.1 rfl rfl rfl rfl rfl
          have f36 : ee_fld ws2 36 = ee_fld ws1 36 := ee_fsame (k := 36) D4.2.2.2.1 C5.2.2.2.1 rfl rfl rfl rfl
          have a22 : ∀ j, j < 2000 → ee_arf ws2 22 j = ee_arf ws1 22 j := ee_k4s (F := ee_F3 ws1) (i := 2) (ee_arf.ok (i := 22) C5.2.2.2.1 rfl).2 (p := ee_fld ws1 37) ⟨_, ee_get_app (ee_get_app s40), rfl⟩ (by rw [e0]; exact ⟨_, ee_get_app (ee_at1' hl), rfl⟩)
          have a23 : ∀ j, j < 2000 → ee_arf ws2 23 j = ee_arf ws1 23 j := ee_k4s (F := ee_F3 ws1) (i := 3) (ee_arf.ok (i := 23) C5.2.2.2.1 rfl).2 (p := ee_fld ws1 37) ⟨_, ee_get_app (ee_get_app s40), rfl⟩ (by rw [e0]; exact ⟨_, ee_get_app (ee_at2 hl), rfl⟩)
          have e1 : ((ee_fld ws1 35).toInt + ((1 : Nat) : Int) - 1).toNat = (ee_fld ws1 35).toInt.toNat := by omega
          have a20 := ee_k4 (F := ee_F3 ws1) (i := 1) (ee_arf.ok (i := 20) C5.2.2.2.1 rfl).2 (p := ee_fld ws1 35) (q := (ee_arf ws1 23 ((ee_fld ws1 37).toInt - 1).toNat)) ⟨_, ee_get_app (ee_get_app s38), rfl⟩ ⟨_, ee_get_app (ee_at2 hl), rfl⟩
          rw [e1] at a20
          have hI2 : ee_EW 1 false c0 ws2 := by
            refine ee_EI.cong (w := ee_arf ws1 22) (g := ee_arf ws1 23) (c := ee_arf ws2 20) ?_ (by decide) a22 a23 (fun j hj => rfl)
            refine ee_EI.pop (P := (ee_fld ws1 37).toInt) (C := (ee_fld ws1 35).toInt) (wi := (ee_fld ws1 36).toInt) (c := ee_arf ws1 20) ?_ (by decide) (T := (ee_arf ws1 22 ((ee_fld ws1 37).toInt - 1).toNat)) (S := (ee_arf ws1 23 ((ee_fld ws1 37).toInt - 1).toNat)) rfl (by omega) rfl (by omega) (by omega) ?_ a20.1 a20.2
            · rw [f38]; exact hI1
            · rw [if_neg (fun e => by rw [e] at hTa; exact absurd hTa (by decide)), f36]
          have hB2 := ee_EI.bnd hI2
          have C5n := C5.nar (k := 45) (ee_fld.sym (k := 35) C5.2.2.2.1 rfl rfl) (a := 0) (b := 1119) (by omega) (by omega)
          obtain ⟨u1, m1, g1⟩ := C5.getl (i := 1) (x := .retAddr 42) rfl
          obtain ⟨z1, g1, rfl⟩ := g1
          rw [ee_get_app (ee_at0 hl)] at g1
          cases g1
          obtain ⟨t3, C6⟩ := ee_toP (tw := ee_lw1) (tiv := ee_li1) hu ⟨_, by simp only [List.append_assoc]; rfl⟩ C5n (by decide +kernel) (by decide +kernel)
          have hvs := ee_vs0 C5.2.2.1
          subst hvs
          exact ih rk t3 ws2 H2 lc2 ls2 (by omega) hr0 hr6 hr3 C6 m1 hI2 (by rw [f38]; exact hU) (by omega)
      · by_cases hT3 : (ee_arf ws1 22 ((ee_fld ws1 37).toInt - 1).toNat) = 3
        · skip
          have D2 := C1.ext (e := [rk, (ee_arf ws1 22 ((ee_fld ws1 37).toInt - 1).toNat), (ee_arf ws1 23 ((ee_fld ws1 37).toInt - 1).toNat)]) (iv' := ee_zb1Bb_s.2.2.2.2) (ee_ok.ext C1.1 rfl (L := [(40, 1, 40, []), (42, 0, 6, []), (43, 3, 3, []), (44, -2147483648, 2147483647, [])]) (List.forall_mem_cons.mpr ⟨ee_tr.mk (ee_get_app s40) (by omega) (by omega), (List.forall_mem_cons.mpr ⟨ee_tr.mk (ee_at0 hl) (hr0) (hr6), (List.forall_mem_cons.mpr ⟨ee_tr.mk (ee_at1' hl) (by rw [hT3, e3]; omega) (by rw [hT3, e3]; omega), (List.forall_mem_cons.mpr ⟨ee_tr.mk (ee_at2 hl) ((ee_rng _).1) ((ee_rng _).2), (fun _ h => by cases h)⟩)⟩)⟩)⟩) (by decide +kernel))
          have D3 := (((D2.frz (ee_F3 ws1) (by decide +kernel)).cell (i := 20) (ov' := [(1, .null), (1, .null)]) rfl (ee_mk2 (fun j hj => rfl))).cell (i := 22) (ov' := [(2, .null), (1, .null), (0, .retAddr 40), (0, .retAddr 43)]) rfl (ee_mk4 (p := ee_fld ws1 37) ⟨_, ee_get_app s40, rfl⟩ (by omega) (by rw [e0]; exact ⟨_, ee_at1' hl, rfl⟩) (fun j hj => rfl))).cell (i := 23) (ov' := [(3, .null), (1, .null), (0, .retAddr 40), (0, .retAddr 44)]) rfl (ee_mk4 (p := ee_fld ws1 37) ⟨_, ee_get_app s40, rfl⟩ (by omega) (by rw [e0]; exact ⟨_, ee_at2 hl, rfl⟩) (fun j hj => rfl))
          obtain ⟨v0, l0, ev0⟩ := D3.getl (i := 0) rfl
          have D4 := (D3.nol.addl l1 (x := .retAddr 42) ⟨_, ee_at0 hl, rfl⟩).addl l0 ev0
          refine ee_go (st := ee_zb1Bb_s) (x0 := (u ++ t) ++ [rk, (ee_arf ws1 22 ((ee_fld ws1 37).toInt - 1).toNat), (ee_arf ws1 23 ((ee_fld ws1 37).toInt - 1).toNat)]) ee_Tbok ee_zb1Bbg hN0 ee_zb1Bb (by rw [List.length_append, hl]; rfl) has hM (ee_exf.out hE) (fun t' ht r ws2 H2 lc2 ls2 vs2 C5 => ?_) D4
          rcases List.mem_cons.mp ht with rfl | ht
          · skip
            have f35 : ee_fld ws2 35 = ee_fld ws1 35 := ee_fsame (k := 35) D4.2.2.2.1 C5.2.2.2.1 rfl rfl rfl rfl
            have f36 : ee_fld ws2 36 = ee_fld ws1 36 := ee_fsame (k := 36) D4.2.2.2.1 C5.2.2.2.1 rfl rfl rfl rfl
            have f37 : ee_fld ws2 37 = ee_fld ws1 37 := ee_fsame (k := 37) D4.2.2.2.1 C5.2.2.2.1 rfl rfl rfl rfl
            have f38 : ee_fld ws2 38 = ee_fld ws1 38 := ee_fsame (k := 38) D4.2.2.2.1 C5.2.2.2.1 rfl rfl rfl rfl
            have a20 : ∀ j, j < 2000 → ee_arf ws2 20 j = ee_arf ws1 20 j := ee_k2 (F := ee_F3 ws1) (i := 1) (ee_arf.ok (i := 20) C5.2.2.2.1 rfl).2
            have a22 : ∀ j, j < 2000 → ee_arf ws2 22 j = ee_arf ws1 22 j := ee_k4s (F := ee_F3 ws1) (i := 2) (ee_arf.ok (i := 22) C5.2.2.2.1 rfl).2 (p := ee_fld ws1 37) ⟨_, ee_get_app (ee_get_app s40), rfl⟩ (by rw [e0]; exact ⟨_, ee_get_app (ee_at1' hl), rfl⟩)
            have a23 : ∀ j, j < 2000 → ee_arf ws2 23 j = ee_arf ws1 23 j := ee_k4s (F := ee_F3 ws1) (i := 3) (ee_arf.ok (i := 23) C5.2.2.2.1 rfl).2 (p := ee_fld ws1 37) ⟨_, ee_get_app (ee_get_app s40), rfl⟩ (by rw [e0]; exact ⟨_, ee_get_app (ee_at2 hl), rfl⟩)
            obtain ⟨u1, m1, g1⟩ := C5.getl (i := 1) (x := .retAddr 42) rfl
            obtain ⟨z1, g1, rfl⟩ := g1
            rw [ee_get_app (ee_at0 hl)] at g1
            cases g1
            obtain ⟨t3, C6⟩ := ee_toP (tw := ee_lw1) (tiv := ee_li1) hu ⟨_, by simp only [List.append_assoc]; rfl⟩ C5 (by decide +kernel) (by decide +kernel)
            have hvs := ee_vs0 C5.2.2.1
            subst hvs
            refine exit rk t3 ws2 H2 lc2 ls2 hr0 hr6 hr3 C6 m1 (by unfold ee_EW; rw [f35, f36, f37, f38]; exact hI1.cong (by decide) a22 a23 a20) (by rw [f38]; exact hU) (by rw [f37]; exact hP) (fun hz => ?_)
            rw [f37, a22 _ (by omega)]
            obtain ⟨z9, y1, y2, -, -⟩ := ee_at1.ok (k := 42) (q := (42, 4, 6, [])) C5.1 rfl
            rw [ee_get_app (ee_at0 hl)] at y1
            cases y1
            have y2 : (4 : Int) ≤ rk.toInt := y2
            omega
          · have ht := List.mem_singleton.mp ht
            subst ht
            have f38 : ee_fld ws2 38 = ee_fld ws1 38 := ee_fsame (k := 38) D4.2.2.2.1 C5.2.2.2.1 rfl rfl rfl rfl
            have f35 := ee_ffact (k := 35) D4.2.2.2.1 C5.2.2.2.1 C5.1 rfl rfl rfl rfl rfl
            have f37 := ee_ffact (k := 37) D4.2.2.2.1 C5.2.2.2.1 C5.1 rfl rfl rfl rfl rfl
            have f36 := ee_ffact (k := 36) D4.2.2.2.1 C5.2.2.2.1 C5.1 rfl rfl rfl rfl rfl
            have a22 : ∀ j, j < 2000 → ee_arf ws2 22 j = ee_arf ws1 22 j := ee_k4s (F := ee_F3 ws1) (i := 2) (ee_arf.ok (i := 22) C5.2.2.2.1 rfl).2 (p := ee_fld ws1 37) ⟨_, ee_get_app (ee_get_app s40), rfl⟩ (by rw [e0]; exact ⟨_, ee_get_app (ee_at1' hl), rfl⟩)
            have a23 : ∀ j, j < 2000 → ee_arf ws2 23 j = ee_arf ws1 23 j := ee_k4s (F := ee_F3 ws1) (i := 3) (ee_arf.ok (i := 23) C5.2.2.2.1 rfl).2 (p := ee_fld ws1 37) ⟨_, ee_get_app (ee_get_app s40), rfl⟩ (by rw [e0]; exact ⟨_, ee_get_app (ee_at2 hl), rfl⟩)
            have e1 : ((ee_fld ws1 35).toInt + ((1 : Nat) : Int) - 1).toNat = (ee_fld ws1 35).toInt.toNat := by omega
            have a20 := ee_k4 (F := ee_F3 ws1) (i := 1) (ee_arf.ok (i := 20) C5.2.2.2.1 rfl).2 (p := ee_fld ws1 35) (q := (ee_arf ws1 23 ((ee_fld ws1 37).toInt - 1).toNat)) ⟨_, ee_get_app (ee_get_app s38), rfl⟩ ⟨_, ee_get_app (ee_at2 hl), rfl⟩
            rw [e1] at a20
            have hI2 : ee_EW 1 false c0 ws2 := by
              refine ee_EI.cong (w := ee_arf ws1 22) (g := ee_arf ws1 23) (c := ee_arf ws2 20) ?_ (by decide) a22 a23 (fun j hj => rfl)
              refine ee_EI.pop (P := (ee_fld ws1 37).toInt) (C := (ee_fld ws1 35).toInt) (wi := (ee_fld ws1 36).toInt) (c := ee_arf ws1 20) ?_ (by decide) (T := (ee_arf ws1 22 ((ee_fld ws1 37).toInt - 1).toNat)) (S := (ee_arf ws1 23 ((ee_fld ws1 37).toInt - 1).toNat)) rfl (by rw [hT3, e3]; omega) rfl (by omega) (by omega) ?_ a20.1 a20.2
              · rw [f38]; exact hI1
              · rw [if_pos hT3]; omega
            have hB2 := ee_EI.bnd hI2
            have C5n := C5.nar (k := 45) (ee_fld.sym (k := 35) C5.2.2.2.1 rfl rfl) (a := 0) (b := 1119) (by omega) (by omega)
            have C5n := C5n.nar (k := 46) (ee_fld.sym (k := 36) C5.2.2.2.1 rfl rfl) (a := 0) (b := 7) (by omega) (by omega)
            obtain ⟨u1, m1, g1⟩ := C5.getl (i := 1) (x := .retAddr 42) rfl
            obtain ⟨z1, g1, rfl⟩ := g1
            rw [ee_get_app (ee_at0 hl)] at g1
            cases g1
            obtain ⟨t3, C6⟩ := ee_toP (tw := ee_lw1) (tiv := ee_li1) hu ⟨_, by simp only [List.append_assoc]; rfl⟩ C5n (by decide +kernel) (by decide +kernel)
            have hvs := ee_vs0 C5.2.2.1
            subst hvs
            exact ih rk t3 ws2 H2 lc2 ls2 (by omega) hr0 hr6 hr3 C6 m1 hI2 (by rw [f38]; exact hU) (by omega)
        · have hTn : (ee_arf ws1 22 ((ee_fld ws1 37).toInt - 1).toNat).toInt ≠ 3 := fun e => hT3 (ee_int_inj (e.trans e3.symm))
          by_cases hTc : (ee_arf ws1 22 ((ee_fld ws1 37).toInt - 1).toNat).toInt ≤ 6
          · skip
            have D2 := C1.ext (e := [rk, (ee_arf ws1 22 ((ee_fld ws1 37).toInt - 1).toNat), (ee_arf ws1 23 ((ee_fld ws1 37).toInt - 1).toNat)]) (iv' := ee_zb1Bc_s.2.2.2.2) (ee_ok.ext C1.1 rfl (L := [(40, 1, 40, []), (42, 0, 6, []), (43, 4, 6, []), (44, -2147483648, 2147483647, [])]) (List.forall_mem_cons.mpr ⟨ee_tr.mk (ee_get_app s40) (by omega) (by omega), (List.forall_mem_cons.mpr ⟨ee_tr.mk (ee_at0 hl) (hr0) (hr6), (List.forall_mem_cons.mpr ⟨ee_tr.mk (ee_at1' hl) (by omega) (hTc), (List.forall_mem_cons.mpr ⟨ee_tr.mk (ee_at2 hl) ((ee_rng _).1) ((ee_rng _).2), (fun _ h => by cases h)⟩)⟩)⟩)⟩) (by decide +kernel))
            have D3 := (((D2.frz (ee_F3 ws1) (by decide +kernel)).cell (i := 20) (ov' := [(1, .null), (1, .null)]) rfl (ee_mk2 (fun j hj => rfl))).cell (i := 22) (ov' := [(2, .null), (1, .null), (0, .retAddr 40), (0, .retAddr 43)]) rfl (ee_mk4 (p := ee_fld ws1 37) ⟨_, ee_get_app s40, rfl⟩ (by omega) (by rw [e0]; exact ⟨_, ee_at1' hl, rfl⟩) (fun j hj => rfl))).cell (i := 23) (ov' := [(3, .null), (1, .null), (0, .retAddr 40), (0, .retAddr 44)]) rfl (ee_mk4 (p := ee_fld ws1 37) ⟨_, ee_get_app s40, rfl⟩ (by omega) (by rw [e0]; exact ⟨_, ee_at2 hl, rfl⟩) (fun j hj => rfl))
            obtain ⟨v0, l0, ev0⟩ := D3.getl (i := 0) rfl
            have D4 := (D3.nol.addl l1 (x := .retAddr 42) ⟨_, ee_at0 hl, rfl⟩).addl l0 ev0
            refine ee_go (st := ee_zb1Bc_s) (x0 := (u ++ t) ++ [rk, (ee_arf ws1 22 ((ee_fld ws1 37).toInt - 1).toNat), (ee_arf ws1 23 ((ee_fld ws1 37).toInt - 1).toNat)]) ee_Tbok ee_zb1Bcg hN0 ee_zb1Bc (by rw [List.length_append, hl]; rfl) has hM (ee_exf.out hE) (fun t' ht r ws2 H2 lc2 ls2 vs2 C5 => ?_) D4
            rcases List.mem_cons.mp ht with rfl | ht
            · skip
              have f35 : ee_fld ws2 35 = ee_fld ws1 35 := ee_fsame (k := 35) D4.2.2.2.1 C5.2.2.2.1 rfl rfl rfl rfl
              have f36 : ee_fld ws2 36 = ee_fld ws1 36 := ee_fsame (k := 36) D4.2.2.2.1 C5.2.2.2.1 rfl rfl rfl rfl
              have f37 : ee_fld ws2 37 = ee_fld ws1 37 := ee_fsame (k := 37) D4.2.2.2.1 C5.2.2.2.1 rfl rfl rfl rfl
              have f38 : ee_fld ws2 38 = ee_fld ws1 38 := ee_fsame (k := 38) D4.2.2.2.1 C5.2.2.2.1 rfl rfl rfl rfl
              have a20 : ∀ j, j < 2000 → ee_arf ws2 20 j = ee_arf ws1 20 j := ee_k2 (F := ee_F3 ws1) (i := 1) (ee_arf.ok (i := 20) C5.2.2.2.1 rfl).2
              have a22 : ∀ j, j < 2000 → ee_arf ws2 22 j = ee_arf ws1 22 j := ee_k4s (F := ee_F3 ws1) (i := 2) (ee_arf.ok (i := 22) C5.2.2.2.1 rfl).2 (p := ee_fld ws1 37) ⟨_, ee_get_app (ee_get_app s40), rfl⟩ (by rw [e0]; exact ⟨_, ee_get_app (ee_at1' hl), rfl⟩)
              have a23 : ∀ j, j < 2000 → ee_arf ws2 23 j = ee_arf ws1 23 j := ee_k4s (F := ee_F3 ws1) (i := 3) (ee_arf.ok (i := 23) C5.2.2.2.1 rfl).2 (p := ee_fld ws1 37) ⟨_, ee_get_app (ee_get_app s40), rfl⟩ (by rw [e0]; exact ⟨_, ee_get_app (ee_at2 hl), rfl⟩)
              obtain ⟨u1, m1, g1⟩ := C5.getl (i := 1) (x := .retAddr 42) rfl
              obtain ⟨z1, g1, rfl⟩ := g1
              rw [ee_get_app (ee_at0 hl)] at g1
              cases g1
              obtain ⟨t3, C6⟩ := ee_toP (tw := ee_lw1) (tiv := ee_li1) hu ⟨_, by simp only [List.append_assoc]; rfl⟩ C5 (by decide +kernel) (by decide +kernel)
              have hvs := ee_vs0 C5.2.2.1
              subst hvs
              refine exit rk t3 ws2 H2 lc2 ls2 hr0 hr6 hr3 C6 m1 (by unfold ee_EW; rw [f35, f36, f37, f38]; exact hI1.cong (by decide) a22 a23 a20) (by rw [f38]; exact hU) (by rw [f37]; exact hP) (fun hz => ?_)
              rw [f37, a22 _ (by omega)]
              exact hT3
            · have ht := List.mem_singleton.mp ht
              subst ht
              have f38 : ee_fld ws2 38 = ee_fld ws1 38 := ee_fsame (k := 38) D4.2.2.2.1 C5.2.2.2.1 rfl rfl rfl rfl
              have f35 := ee_ffact (k := 35) D4.2.2.2.1 C5.2.2.2.1 C5.1 rfl rfl rfl rfl rfl
              have f37 := ee_ffact (k := 37) D4.2.2.2.1 C5.2.2.2.1 C5.1 rfl rfl rfl rfl rfl
              have f36 : ee_fld ws2 36 = ee_fld ws1 36 := ee_fsame (k := 36) D4.2.2.2.1 C5.2.2.2.1 rfl rfl rfl rfl
              have a22 : ∀ j, j < 2000 → ee_arf ws2 22 j = ee_arf ws1 22 j := ee_k4s (F := ee_F3 ws1) (i := 2) (ee_arf.ok (i := 22) C5.2.2.2.1 rfl).2 (p := ee_fld ws1 37) ⟨_, ee_get_app (ee_get_app s40), rfl⟩ (by rw [e0]; exact ⟨_, ee_get_app (ee_at1' hl), rfl⟩)
              have a23 : ∀ j, j < 2000 → ee_arf ws2 23 j = ee_arf ws1 23 j := ee_k4s (F := ee_F3 ws1) (i := 3) (ee_arf.ok (i := 23) C5.2.2.2.1 rfl).2 (p := ee_fld ws1 37) ⟨_, ee_get_app (ee_get_app s40), rfl⟩ (by rw [e0]; exact ⟨_, ee_get_app (ee_at2 hl), rfl⟩)
              have e1 : ((ee_fld ws1 35).toInt + ((1 : Nat) : Int) - 1).toNat = (ee_fld ws1 35).toInt.toNat := by omega
              have a20 := ee_k4 (F := ee_F3 ws1) (i := 1) (ee_arf.ok (i := 20) C5.2.2.2.1 rfl).2 (p := ee_fld ws1 35) (q := (ee_arf ws1 23 ((ee_fld ws1 37).toInt - 1).toNat)) ⟨_, ee_get_app (ee_get_app s38), rfl⟩ ⟨_, ee_get_app (ee_at2 hl), rfl⟩
              rw [e1] at a20
              have hI2 : ee_EW 1 false c0 ws2 := by
                refine ee_EI.cong (w := ee_arf ws1 22) (g := ee_arf ws1 23) (c := ee_arf ws2 20) ?_ (by decide) a22 a23 (fun j hj => rfl)
                refine ee_EI.pop (P := (ee_fld ws1 37).toInt) (C := (ee_fld ws1 35).toInt) (wi := (ee_fld ws1 36).toInt) (c := ee_arf ws1 20) ?_ (by decide) (T := (ee_arf ws1 22 ((ee_fld ws1 37).toInt - 1).toNat)) (S := (ee_arf ws1 23 ((ee_fld ws1 37).toInt - 1).toNat)) rfl (by omega) rfl (by omega) (by omega) ?_ a20.1 a20.2
                · rw [f38]; exact hI1
                · rw [if_neg hT3, f36]
              have hB2 := ee_EI.bnd hI2
              have C5n := C5.nar (k := 45) (ee_fld.sym (k := 35) C5.2.2.2.1 rfl rfl) (a := 0) (b := 1119) (by omega) (by omega)
              obtain ⟨u1, m1, g1⟩ := C5.getl (i := 1) (x := .retAddr 42) rfl
              obtain ⟨z1, g1, rfl⟩ := g1
              rw [ee_get_app (ee_at0 hl)] at g1
              cases g1
              obtain ⟨t3, C6⟩ := ee_toP (tw := ee_lw1) (tiv := ee_li1) hu ⟨_, by simp only [List.append_assoc]; rfl⟩ C5n (by decide +kernel) (by decide +kernel)
              have hvs := ee_vs0 C5.2.2.1
              subst hvs
              exact ih rk t3 ws2 H2 lc2 ls2 (by omega) hr0 hr6 hr3 C6 m1 hI2 (by rw [f38]; exact hU) (by omega)
          · have hTd : 7 ≤ (ee_arf ws1 22 ((ee_fld ws1 37).toInt - 1).toNat).toInt := by omega
            have D2 := C1.ext (e := [rk, (ee_arf ws1 22 ((ee_fld ws1 37).toInt - 1).toNat), (ee_arf ws1 23 ((ee_fld ws1 37).toInt - 1).toNat)]) (iv' := ee_zb1Bd_s.2.2.2.2) (ee_ok.ext C1.1 rfl (L := [(40, 1, 40, []), (42, 0, 6, []), (43, 7, 2147483647, []), (44, -2147483648, 2147483647, [])]) (List.forall_mem_cons.mpr ⟨ee_tr.mk (ee_get_app s40) (by omega) (by omega), (List.forall_mem_cons.mpr ⟨ee_tr.mk (ee_at0 hl) (hr0) (hr6), (List.forall_mem_cons.mpr ⟨ee_tr.mk (ee_at1' hl) (hTd) ((ee_rng _).2), (List.forall_mem_cons.mpr ⟨ee_tr.mk (ee_at2 hl) ((ee_rng _).1) ((ee_rng _).2), (fun _ h => by cases h)⟩)⟩)⟩)⟩) (by decide +kernel))
            have D3 := (((D2.frz (ee_F3 ws1) (by decide +kernel)).cell (i := 20) (ov' := [(1, .null), (1, .null)]) rfl (ee_mk2 (fun j hj => rfl))).cell (i := 22) (ov' := [(2, .null), (1, .null), (0, .retAddr 40), (0, .retAddr 43)]) rfl (ee_mk4 (p := ee_fld ws1 37) ⟨_, ee_get_app s40, rfl⟩ (by omega) (by rw [e0]; exact ⟨_, ee_at1' hl, rfl⟩) (fun j hj => rfl))).cell (i := 23) (ov' := [(3, .null), (1, .null), (0, .retAddr 40), (0, .retAddr 44)]) rfl (ee_mk4 (p := ee_fld ws1 37) ⟨_, ee_get_app s40, rfl⟩ (by omega) (by rw [e0]; exact ⟨_, ee_at2 hl, rfl⟩) (fun j hj => rfl))
            obtain ⟨v0, l0, ev0⟩ := D3.getl (i := 0) rfl
            have D4 := (D3.nol.addl l1 (x := .retAddr 42) ⟨_, ee_at0 hl, rfl⟩).addl l0 ev0
            refine ee_go (st := ee_zb1Bd_s) (x0 := (u ++ t) ++ [rk, (ee_arf ws1 22 ((ee_fld ws1 37).toInt - 1).toNat), (ee_arf ws1 23 ((ee_fld ws1 37).toInt - 1).toNat)]) ee_Tbok ee_zb1Bdg hN0 ee_zb1Bd (by rw [List.length_append, hl]; rfl) has hM (ee_exf.out hE) (fun t' ht r ws2 H2 lc2 ls2 vs2 C5 => ?_) D4
            have ht := List.mem_singleton.mp ht
            subst ht
            have f35 : ee_fld ws2 35 = ee_fld ws1 35 := ee_fsame (k := 35) D4.2.2.2.1 C5.2.2.2.1 rfl rfl rfl rfl
            have f36 : ee_fld ws2 36 = ee_fld ws1 36 := ee_fsame (k := 36) D4.2.2.2.1 C5.2.2.2.1 rfl rfl rfl rfl
            have f37 : ee_fld ws2 37 = ee_fld ws1 37 := ee_fsame (k := 37) D4.2.2.2.1 C5.2.2.2.1 rfl rfl rfl rfl
            have f38 : ee_fld ws2 38 = ee_fld ws1 38 := ee_fsame (k := 38) D4.2.2.2.1 C5.2.2.2.1 rfl rfl rfl rfl
            have a20 : ∀ j, j < 2000 → ee_arf ws2 20 j = ee_arf ws1 20 j := ee_k2 (F := ee_F3 ws1) (i := 1) (ee_arf.ok (i := 20) C5.2.2.2.1 rfl).2
            have a22 : ∀ j, j < 2000 → ee_arf ws2 22 j = ee_arf ws1 22 j := ee_k4s (F := ee_F3 ws1) (i := 2) (ee_arf.ok (i := 22) C5.2.2.2.1 rfl).2 (p := ee_fld ws1 37) ⟨_, ee_get_app (ee_get_app s40), rfl⟩ (by rw [e0]; exact ⟨_, ee_get_app (ee_at1' hl), rfl⟩)
            have a23 : ∀ j, j < 2000 → ee_arf ws2 23 j = ee_arf ws1 23 j := ee_k4s (F := ee_F3 ws1) (i := 3) (ee_arf.ok (i := 23) C5.2.2.2.1 rfl).2 (p := ee_fld ws1 37) ⟨_, ee_get_app (ee_get_app s40), rfl⟩ (by rw [e0]; exact ⟨_, ee_get_app (ee_at2 hl), rfl⟩)
            obtain ⟨u1, m1, g1⟩ := C5.getl (i := 1) (x := .retAddr 42) rfl
            obtain ⟨z1, g1, rfl⟩ := g1
            rw [ee_get_app (ee_at0 hl)] at g1
            cases g1
            obtain ⟨t3, C6⟩ := ee_toP (tw := ee_lw1) (tiv := ee_li1) hu ⟨_, by simp only [List.append_assoc]; rfl⟩ C5 (by decide +kernel) (by decide +kernel)
            have hvs := ee_vs0 C5.2.2.1
            subst hvs
            refine exit rk t3 ws2 H2 lc2 ls2 hr0 hr6 hr3 C6 m1 (by unfold ee_EW; rw [f35, f36, f37, f38]; exact hI1.cong (by decide) a22 a23 a20) (by rw [f38]; exact hU) (by rw [f37]; exact hP) (fun hz => ?_)
            rw [f37, a22 _ (by omega)]
            intro e
            rw [e] at hTd
            exact absurd hTd (by decide)
  have hB := ee_EI.bnd hI
  have hw0 : ee_arf ws 22 0 = 8 := hI.1.2.1
  have C1 := (((C.nar (k := 10) (ee_fld.sym (k := 38) h5 rfl rfl) (a := 0) (b := 30) (by omega) (by omega)).nar (k := 9) (ee_fld.sym (k := 37) h5 rfl rfl) (a := 0) (b := 40) (by omega) (by omega)).nar (k := 8) (ee_fld.sym (k := 36) h5 rfl rfl) (a := 0) (b := 7) (by omega) (by omega)).nar (k := 7) (ee_fld.sym (k := 35) h5 rfl rfl) (a := 0) (b := 1119) (by omega) (by omega)
  obtain ⟨t, C1⟩ := ee_toP (tw := ee_lw1) (tiv := ee_li1) hu ⟨[], (List.append_nil _).symm⟩ (C1.frz (ee_F3 ws) (by decide +kernel)) (by decide +kernel) (by decide +kernel)
  have hl : (u ++ t).length = 42 := C1.1.1.symm
  have s40 := ee_fld.sym (k := 37) C1.2.2.2.1 rfl rfl
  have D2 := C1.ext (e := []) (iv' := ee_zb1A_s.2.2.2.2) (ee_ok.ext C1.1 rfl (L := [(40, 1, 40, [])]) (List.forall_mem_cons.mpr ⟨ee_tr.mk (ee_get_app s40) (by omega) (by omega), (fun _ h => by cases h)⟩) (by decide +kernel))
  rw [List.append_nil] at D2
  have D3 := (((D2.frz (ee_F3 ws) (by decide +kernel)).cell (i := 20) (ov' := [(1, .null), (1, .null)]) rfl (ee_mk2 (fun j hj => rfl))).cell (i := 22) (ov' := [(2, .null), (1, .null), (1, .int 0), (0, .int 8)]) rfl (ee_mk4 (p := 0) rfl (by decide) (by show Value.int (ee_arf ws 22 0) = Value.int 8; rw [hw0]) (fun j hj => rfl))).cell (i := 23) (ov' := [(3, .null), (1, .null)]) rfl (ee_mk2 (fun j hj => rfl))
  refine ee_go (st := ee_zb1A_s) (x0 := (u ++ t)) ee_Tbok ee_zb1Ag hN0 ee_zb1A hl.symm has hM (ee_exf.out hE) (fun t' ht r ws2 H2 lc2 ls2 vs2 C5 => ?_) D3
  rcases List.mem_cons.mp ht with rfl | ht
  · skip
    have f35 : ee_fld ws2 35 = ee_fld ws 35 := ee_fsame (k := 35) D3.2.2.2.1 C5.2.2.2.1 rfl rfl rfl rfl
    have a20 : ∀ j, j < 2000 → ee_arf ws2 20 j = ee_arf ws 20 j := ee_k2 (F := ee_F3 ws) (i := 1) (ee_arf.ok (i := 20) C5.2.2.2.1 rfl).2
    obtain ⟨t3, C6⟩ := ee_toP (tw := ee_bw1) (tiv := ee_bi1) hu ⟨_, by simp only [List.append_assoc]; rfl⟩ C5 (by decide +kernel) (by decide +kernel)
    exact ee_fin hM (by decide +kernel) C5 (fun v hv => Or.inl ⟨1, ee_v1 hv, by decide, by decide, ⟨t3, C6.1, C6.2.2.2.1⟩, by rw [f35]; exact (ee_EI.un hI).cong a20⟩)
  · rcases List.mem_cons.mp ht with rfl | ht
    · skip
      have f35 : ee_fld ws2 35 = ee_fld ws 35 := ee_fsame (k := 35) D3.2.2.2.1 C5.2.2.2.1 rfl rfl rfl rfl
      have f36 : ee_fld ws2 36 = ee_fld ws 36 := ee_fsame (k := 36) D3.2.2.2.1 C5.2.2.2.1 rfl rfl rfl rfl
      have f37 : ee_fld ws2 37 = ee_fld ws 37 := ee_fsame (k := 37) D3.2.2.2.1 C5.2.2.2.1 rfl rfl rfl rfl
      have f38 : ee_fld ws2 38 = ee_fld ws 38 := ee_fsame (k := 38) D3.2.2.2.1 C5.2.2.2.1 rfl rfl rfl rfl
      have a20 : ∀ j, j < 2000 → ee_arf ws2 20 j = ee_arf ws 20 j := ee_k2 (F := ee_F3 ws) (i := 1) (ee_arf.ok (i := 20) C5.2.2.2.1 rfl).2
      have a22 : ∀ j, j < 2000 → ee_arf ws2 22 j = ee_arf ws 22 j := ee_k4s (F := ee_F3 ws) (i := 2) (ee_arf.ok (i := 22) C5.2.2.2.1 rfl).2 (p := 0) rfl (by show Value.int (ee_arf ws 22 0) = Value.int 8; rw [hw0])
      have a23 : ∀ j, j < 2000 → ee_arf ws2 23 j = ee_arf ws 23 j := ee_k2 (F := ee_F3 ws) (i := 3) (ee_arf.ok (i := 23) C5.2.2.2.1 rfl).2
      obtain ⟨u1, m1, g1⟩ := C5.getl (i := 1) (x := .retAddr 42) rfl
      obtain ⟨z1, g1, rfl⟩ := g1
      obtain ⟨z2, y1, y2, y3, -⟩ := ee_at1.ok (k := 42) (q := (42, 0, 2, [])) C5.1 rfl
      rw [g1] at y1
      cases y1
      have y2 : (0 : Int) ≤ z1.toInt := y2
      have y3 : z1.toInt ≤ 2 := y3
      obtain ⟨t3, C6⟩ := ee_toP (tw := ee_lw1) (tiv := ee_li1) hu ⟨_, by simp only [List.append_assoc]; rfl⟩ C5 (by decide +kernel) (by decide +kernel)
      have hvs := ee_vs0 C5.2.2.1
      subst hvs
      exact loop _ z1 t3 ws2 H2 lc2 ls2 (Nat.le_refl _) (by omega) (by omega) (by omega) C6 m1 (by unfold ee_EW; rw [f35, f36, f37, f38]; exact ee_EI.cong hI (by decide) a22 a23 a20) (by rw [f38]) (by rw [f37]; omega)
    · have ht := List.mem_singleton.mp ht
      subst ht
      have f35 : ee_fld ws2 35 = ee_fld ws 35 := ee_fsame (k := 35) D3.2.2.2.1 C5.2.2.2.1 rfl rfl rfl rfl
      have f36 : ee_fld ws2 36 = ee_fld ws 36 := ee_fsame (k := 36) D3.2.2.2.1 C5.2.2.2.1 rfl rfl rfl rfl
      have f37 : ee_fld ws2 37 = ee_fld ws 37 := ee_fsame (k := 37) D3.2.2.2.1 C5.2.2.2.1 rfl rfl rfl rfl
      have f38 : ee_fld ws2 38 = ee_fld ws 38 := ee_fsame (k := 38) D3.2.2.2.1 C5.2.2.2.1 rfl rfl rfl rfl
      have a20 : ∀ j, j < 2000 → ee_arf ws2 20 j = ee_arf ws 20 j := ee_k2 (F := ee_F3 ws) (i := 1) (ee_arf.ok (i := 20) C5.2.2.2.1 rfl).2
      have a22 : ∀ j, j < 2000 → ee_arf ws2 22 j = ee_arf ws 22 j := ee_k4s (F := ee_F3 ws) (i := 2) (ee_arf.ok (i := 22) C5.2.2.2.1 rfl).2 (p := 0) rfl (by show Value.int (ee_arf ws 22 0) = Value.int 8; rw [hw0])
      have a23 : ∀ j, j < 2000 → ee_arf ws2 23 j = ee_arf ws 23 j := ee_k2 (F := ee_F3 ws) (i := 3) (ee_arf.ok (i := 23) C5.2.2.2.1 rfl).2
      obtain ⟨u1, m1, g1⟩ := C5.getl (i := 1) (x := .retAddr 42) rfl
      obtain ⟨z1, g1, rfl⟩ := g1
      obtain ⟨z2, y1, y2, y3, -⟩ := ee_at1.ok (k := 42) (q := (42, 4, 6, [])) C5.1 rfl
      rw [g1] at y1
      cases y1
      have y2 : (4 : Int) ≤ z1.toInt := y2
      have y3 : z1.toInt ≤ 6 := y3
      obtain ⟨t3, C6⟩ := ee_toP (tw := ee_lw1) (tiv := ee_li1) hu ⟨_, by simp only [List.append_assoc]; rfl⟩ C5 (by decide +kernel) (by decide +kernel)
      have hvs := ee_vs0 C5.2.2.1
      subst hvs
      exact loop _ z1 t3 ws2 H2 lc2 ls2 (Nat.le_refl _) (by omega) (by omega) (by omega) C6 m1 (by unfold ee_EW; rw [f35, f36, f37, f38]; exact ee_EI.cong hI (by decide) a22 a23 a20) (by rw [f38]) (by rw [f37]; omega)
