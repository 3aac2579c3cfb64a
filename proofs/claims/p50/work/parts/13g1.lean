set_option maxHeartbeats 16000000 in
theorem ee_em1 {l : Launch} {D : va_G} {dA : Nat → ClassId} {ex : Nat → Nat} {u : List Int32} {as : List Nat} {ws : va_W} {sz : Nat} {av : List Value} (h1 : ee_ok u ee_ei1) (h3 : ee_all (ee_v u as ex) [.ref 0] av) (h5 : ee_wr u as ex dA ee_ew1 ws) (hC0 : (ee_fld ws 35).toInt = 560 * ((1 : Nat) : Int)) (hU0 : (ee_fld ws 38).toInt = 0) : Met l ee_me181.2.1 (Cond.code ee_me181.2.1 ee_me181.2.2.1 ee_me181.2.2.2.1 ee_me181.2.2.2.2.1 :: ee_tbl) (ee_rm 4 0 0) (ee_Pc D dA ex av ws sz) (ee_QP (ee_PE 1 ee_lw1 ee_li1 ee_bw1 ee_bi1 u as ex dA (ee_arf ws 20)) D (va_A ws sz)) 0 0 (va_A ws sz) := by
  have hN0 : ee_mt 181 = some ee_me181 := rfl
  have hu : u.length = 34 := h1.1.symm
  have has : as.length = 40 := h5.len
  refine ee_open (d := 4) (A0 := [.ref 0]) (w := ee_ew1) (iv := ee_ei1) ee_Tbok hN0 (by decide +kernel) ⟨rfl, rfl⟩ (by decide +kernel) h1 h3 h5 (fun X ls hM hE C => ?_)
  have C : ee_Cx X (va_A ws sz) D dA ex as ee_me181.2.2.2.1 [(0, .ref 0)] [] ee_ew1 ee_ei1 u ws X.2.2.2.2.1.heap [] ls [] := C
  have badx : ∀ (t : List Int32) (ws1 : va_W) (H1 : Heap) (lc1 : List Loc) (ls1 : Array Slot), ee_Cx X (va_A ws sz) D dA ex as ee_me181.2.2.2.1 [(0, .ref 0)] [] ee_bw1 ee_bi1 (u ++ t) ws1 H1 lc1 ls1 [] → ee_EU 1 (ee_arf ws 20) (ee_fld ws1 35).toInt (ee_arf ws1 20) → ee_Wg X D (va_A ws sz) (ee_PE 1 ee_lw1 ee_li1 ee_bw1 ee_bi1 u as ex dA (ee_arf ws 20)) H1 lc1 19 ls1 [] := by
    intro t ws1 H1 lc1 ls1 C1 hI1
    have hl : (u ++ t).length = 44 := C1.1.1.symm
    have D2 := C1.ext (e := []) (iv' := ee_ze1F_s.2.2.2.2) (ee_ok.ext C1.1 rfl (L := []) (fun _ h => by cases h) (by decide +kernel))
    rw [List.append_nil] at D2
    have D3 := (((D2.frz (ee_F3 ws1) (by decide +kernel)).cell (i := 20) (ov' := [(1, .null), (1, .null)]) rfl (ee_mk2 (fun j hj => rfl))).cell (i := 22) (ov' := [(2, .null), (1, .null)]) rfl (ee_mk2 (fun j hj => rfl))).cell (i := 23) (ov' := [(3, .null), (1, .null)]) rfl (ee_mk2 (fun j hj => rfl))
    refine ee_go (st := ee_ze1F_s) (x0 := (u ++ t)) ee_Tbok ee_ze1Fg hN0 ee_ze1F hl.symm has hM (ee_exf.out hE) (fun t' ht r ws2 H2 lc2 ls2 vs2 C5 => ?_) D3
    have ht := List.mem_singleton.mp ht
    subst ht
    have f35 : ee_fld ws2 35 = ee_fld ws1 35 := ee_fsame (k := 35) D3.2.2.2.1 C5.2.2.2.1 rfl rfl rfl rfl
    have a20 : ∀ j, j < 2000 → ee_arf ws2 20 j = ee_arf ws1 20 j := ee_k2 (F := ee_F3 ws1) (i := 1) (ee_arf.ok (i := 20) C5.2.2.2.1 rfl).2
    obtain ⟨t3, C6⟩ := ee_toP (tw := ee_bw1) (tiv := ee_bi1) hu ⟨_, by simp only [List.append_assoc]; rfl⟩ C5 (by decide +kernel) (by decide +kernel)
    exact ee_fin hM (by decide +kernel) C5 (fun v hv => ⟨ee_v0 hv, Or.inl ⟨⟨t3, C6.1, C6.2.2.2.1⟩, by rw [f35]; exact hI1.cong a20⟩⟩)
  have badb : ∀ (z : Int32) (t : List Int32) (ws1 : va_W) (H1 : Heap) (lc1 : List Loc) (ls1 : Array Slot), 0 ≤ z.toInt → z.toInt ≤ 1 → ee_Cx X (va_A ws sz) D dA ex as ee_me181.2.2.2.1 [(0, .ref 0)] [] ee_bw1 ee_bi1 (u ++ t) ws1 H1 lc1 ls1 [] → ee_EU 1 (ee_arf ws 20) (ee_fld ws1 35).toInt (ee_arf ws1 20) → ee_Wg X D (va_A ws sz) (ee_PE 1 ee_lw1 ee_li1 ee_bw1 ee_bi1 u as ex dA (ee_arf ws 20)) H1 lc1 48 ls1 [.int z] := by
    intro z t ws1 H1 lc1 ls1 hz0 hz1 C1 hI1
    have hl : (u ++ t).length = 44 := C1.1.1.symm
    have D2 := C1.ext (e := [z]) (iv' := ee_ze1Db_s.2.2.2.2) (ee_ok.ext C1.1 rfl (L := [(44, 0, 1, [])]) (List.forall_mem_cons.mpr ⟨ee_tr.mk (ee_at0 hl) (hz0) (hz1), (fun _ h => by cases h)⟩) (by decide +kernel))
    have D3 := (((D2.frz (ee_F3 ws1) (by decide +kernel)).cell (i := 20) (ov' := [(1, .null), (1, .null)]) rfl (ee_mk2 (fun j hj => rfl))).cell (i := 22) (ov' := [(2, .null), (1, .null)]) rfl (ee_mk2 (fun j hj => rfl))).cell (i := 23) (ov' := [(3, .null), (1, .null)]) rfl (ee_mk2 (fun j hj => rfl))
    obtain ⟨v0, l0, ev0⟩ := D3.getl (i := 0) rfl
    have D4 := D3.nol.addl l0 ev0
    have D5 := D4.restk (stk' := [.retAddr 44]) (vs' := [.int z]) ⟨⟨_, ee_at0 hl, rfl⟩, trivial⟩
    refine ee_go (st := ee_ze1Db_s) (x0 := (u ++ t) ++ [z]) ee_Tbok ee_ze1Dbg hN0 ee_ze1Db (by rw [List.length_append, hl]; rfl) has hM (ee_exf.out hE) (fun t' ht r ws2 H2 lc2 ls2 vs2 C5 => ?_) D5
    have ht := List.mem_singleton.mp ht
    subst ht
    have f35 : ee_fld ws2 35 = ee_fld ws1 35 := ee_fsame (k := 35) D5.2.2.2.1 C5.2.2.2.1 rfl rfl rfl rfl
    have a20 : ∀ j, j < 2000 → ee_arf ws2 20 j = ee_arf ws1 20 j := ee_k2 (F := ee_F3 ws1) (i := 1) (ee_arf.ok (i := 20) C5.2.2.2.1 rfl).2
    obtain ⟨t3, C6⟩ := ee_toP (tw := ee_bw1) (tiv := ee_bi1) hu ⟨_, by simp only [List.append_assoc]; rfl⟩ C5 (by decide +kernel) (by decide +kernel)
    exact ee_fin hM (by decide +kernel) C5 (fun v hv => ⟨ee_v0 hv, Or.inl ⟨⟨t3, C6.1, C6.2.2.2.1⟩, by rw [f35]; exact hI1.cong a20⟩⟩)
  have done : ∀ (t : List Int32) (ws1 : va_W) (H1 : Heap) (lc1 : List Loc) (ls1 : Array Slot), ee_Cx X (va_A ws sz) D dA ex as ee_me181.2.2.2.1 [(0, .ref 0)] [] ee_lw1 ee_li1 (u ++ t) ws1 H1 lc1 ls1 [] → ee_ED 1 (ee_arf ws 20) ws1 → ee_Wg X D (va_A ws sz) (ee_PE 1 ee_lw1 ee_li1 ee_bw1 ee_bi1 u as ex dA (ee_arf ws 20)) H1 lc1 19 ls1 [] := by
    intro t ws1 H1 lc1 ls1 C1 hI1
    have hl : (u ++ t).length = 42 := C1.1.1.symm
    have s40 := ee_fld.sym (k := 37) C1.2.2.2.1 rfl rfl
    have hz := hI1.1
    have D2 := C1.ext (e := []) (iv' := ee_ze1G_s.2.2.2.2) (ee_ok.ext C1.1 rfl (L := [(40, 0, 0, [])]) (List.forall_mem_cons.mpr ⟨ee_tr.mk (ee_get_app s40) (by omega) (by omega), (fun _ h => by cases h)⟩) (by decide +kernel))
    rw [List.append_nil] at D2
    have D3 := (((D2.frz (ee_F3 ws1) (by decide +kernel)).cell (i := 20) (ov' := [(1, .null), (1, .null)]) rfl (ee_mk2 (fun j hj => rfl))).cell (i := 22) (ov' := [(2, .null), (1, .null)]) rfl (ee_mk2 (fun j hj => rfl))).cell (i := 23) (ov' := [(3, .null), (1, .null)]) rfl (ee_mk2 (fun j hj => rfl))
    refine ee_go (st := ee_ze1G_s) (x0 := (u ++ t)) ee_Tbok ee_ze1Gg hN0 ee_ze1G hl.symm has hM (ee_exf.out hE) (fun t' ht r ws2 H2 lc2 ls2 vs2 C5 => ?_) D3
    have ht := List.mem_singleton.mp ht
    subst ht
    have f35 : ee_fld ws2 35 = ee_fld ws1 35 := ee_fsame (k := 35) D3.2.2.2.1 C5.2.2.2.1 rfl rfl rfl rfl
    have f37 : ee_fld ws2 37 = ee_fld ws1 37 := ee_fsame (k := 37) D3.2.2.2.1 C5.2.2.2.1 rfl rfl rfl rfl
    have a20 : ∀ j, j < 2000 → ee_arf ws2 20 j = ee_arf ws1 20 j := ee_k2 (F := ee_F3 ws1) (i := 1) (ee_arf.ok (i := 20) C5.2.2.2.1 rfl).2
    obtain ⟨t3, C6⟩ := ee_toP (tw := ee_lw1) (tiv := ee_li1) hu ⟨_, by simp only [List.append_assoc]; rfl⟩ C5 (by decide +kernel) (by decide +kernel)
    obtain ⟨-, i1, hh, i2⟩ := hI1
    have i1' := i1.1
    have i1'' := i1.2.1
    refine ee_fin hM (by decide +kernel) C5 (fun v hv => ⟨ee_v0 hv, Or.inr ⟨⟨t3, C6.1, C6.2.2.2.1⟩, by rw [f37]; exact hz, by rw [f35]; exact i1.cong a20, hh, ?_⟩⟩)
    rw [f35, ee_rw.cong (f := ee_arf ws1 20) (fun j j1 j2 => a20 j (by omega))]
    exact i2
  have bk0 : ∀ (t : List Int32) (ws1 : va_W) (H1 : Heap) (lc1 : List Loc) (ls1 : Array Slot), ee_Cx X (va_A ws sz) D dA ex as ee_me181.2.2.2.1 [(0, .ref 0)] [] ee_lw1 ee_li1 (u ++ t) ws1 H1 lc1 ls1 [] → (∀ (t2 : List Int32) (ws2 : va_W) (H2 : Heap) (lc2 : List Loc) (ls2 : Array Slot), ee_Cx X (va_A ws sz) D dA ex as ee_me181.2.2.2.1 [(0, .ref 0)] [] ee_lw1 ee_li1 (u ++ t2) ws2 H2 lc2 ls2 [] → (∃ lv, lv_has ls2 ee_me181.2.2.2.1 lv ∧ (1, Value.int 0) ∈ lv) → (∀ k, k = 35 ∨ k = 36 ∨ k = 37 ∨ k = 38 → ee_fld ws2 k = ee_fld ws1 k) → (∀ j, j < 2000 → ee_arf ws2 20 j = ee_arf ws1 20 j) → (∀ j, j < 2000 → ee_arf ws2 22 j = ee_arf ws1 22 j) → (∀ j, j < 2000 → ee_arf ws2 23 j = ee_arf ws1 23 j) → ee_Wg X D (va_A ws sz) (ee_PE 1 ee_lw1 ee_li1 ee_bw1 ee_bi1 u as ex dA (ee_arf ws 20)) H2 lc2 19 ls2 []) → ee_Wg X D (va_A ws sz) (ee_PE 1 ee_lw1 ee_li1 ee_bw1 ee_bi1 u as ex dA (ee_arf ws 20)) H1 lc1 48 ls1 [.int 0] := by
    intro t ws1 H1 lc1 ls1 C1 k
    have hl : (u ++ t).length = 42 := C1.1.1.symm
    have D2 := C1.ext (e := []) (iv' := ee_ze1D0_s.2.2.2.2) (ee_ok.ext C1.1 rfl (L := []) (fun _ h => by cases h) (by decide +kernel))
    rw [List.append_nil] at D2
    have D3 := (((D2.frz (ee_F3 ws1) (by decide +kernel)).cell (i := 20) (ov' := [(1, .null), (1, .null)]) rfl (ee_mk2 (fun j hj => rfl))).cell (i := 22) (ov' := [(2, .null), (1, .null)]) rfl (ee_mk2 (fun j hj => rfl))).cell (i := 23) (ov' := [(3, .null), (1, .null)]) rfl (ee_mk2 (fun j hj => rfl))
    obtain ⟨v0, l0, ev0⟩ := D3.getl (i := 0) rfl
    have D4 := D3.nol.addl l0 ev0
    have D5 := D4.restk (stk' := [.int 0]) (vs' := [.int 0]) ⟨rfl, trivial⟩
    refine ee_go (st := ee_ze1D0_s) (x0 := (u ++ t)) ee_Tbok ee_ze1D0g hN0 ee_ze1D0 hl.symm has hM (ee_exf.out hE) (fun t' ht r ws2 H2 lc2 ls2 vs2 C5 => ?_) D5
    have ht := List.mem_singleton.mp ht
    subst ht
    have f35 : ee_fld ws2 35 = ee_fld ws1 35 := ee_fsame (k := 35) D5.2.2.2.1 C5.2.2.2.1 rfl rfl rfl rfl
    have f36 : ee_fld ws2 36 = ee_fld ws1 36 := ee_fsame (k := 36) D5.2.2.2.1 C5.2.2.2.1 rfl rfl rfl rfl
    have f37 : ee_fld ws2 37 = ee_fld ws1 37 := ee_fsame (k := 37) D5.2.2.2.1 C5.2.2.2.1 rfl rfl rfl rfl
    have f38 : ee_fld ws2 38 = ee_fld ws1 38 := ee_fsame (k := 38) D5.2.2.2.1 C5.2.2.2.1 rfl rfl rfl rfl
    have a20 : ∀ j, j < 2000 → ee_arf ws2 20 j = ee_arf ws1 20 j := ee_k2 (F := ee_F3 ws1) (i := 1) (ee_arf.ok (i := 20) C5.2.2.2.1 rfl).2
    have a22 : ∀ j, j < 2000 → ee_arf ws2 22 j = ee_arf ws1 22 j := ee_k2 (F := ee_F3 ws1) (i := 2) (ee_arf.ok (i := 22) C5.2.2.2.1 rfl).2
    have a23 : ∀ j, j < 2000 → ee_arf ws2 23 j = ee_arf ws1 23 j := ee_k2 (F := ee_F3 ws1) (i := 3) (ee_arf.ok (i := 23) C5.2.2.2.1 rfl).2
    obtain ⟨t3, C6⟩ := ee_toP (tw := ee_lw1) (tiv := ee_li1) hu ⟨_, by simp only [List.append_assoc]; rfl⟩ C5 (by decide +kernel) (by decide +kernel)
    obtain ⟨u1, m1, g1⟩ := C5.getl (i := 1) (x := .int 0) rfl
    have g1 : u1 = .int 0 := g1
    subst g1
    have hvs := ee_vs0 C5.2.2.1
    subst hvs
    refine k t3 ws2 H2 lc2 ls2 C6 m1 (fun k hk => ?_) a20 a22 a23
    rcases hk with rfl | rfl | rfl | rfl
    · exact f35
    · exact f36
    · exact f37
    · exact f38
  have bk1 : ∀ (t : List Int32) (ws1 : va_W) (H1 : Heap) (lc1 : List Loc) (ls1 : Array Slot), ee_Cx X (va_A ws sz) D dA ex as ee_me181.2.2.2.1 [(0, .ref 0)] [] ee_lw1 ee_li1 (u ++ t) ws1 H1 lc1 ls1 [] → (∀ (t2 : List Int32) (ws2 : va_W) (H2 : Heap) (lc2 : List Loc) (ls2 : Array Slot), ee_Cx X (va_A ws sz) D dA ex as ee_me181.2.2.2.1 [(0, .ref 0)] [] ee_lw1 ee_li1 (u ++ t2) ws2 H2 lc2 ls2 [] → (∃ lv, lv_has ls2 ee_me181.2.2.2.1 lv ∧ (1, Value.int 1) ∈ lv) → (∀ k, k = 35 ∨ k = 36 ∨ k = 37 ∨ k = 38 → ee_fld ws2 k = ee_fld ws1 k) → (∀ j, j < 2000 → ee_arf ws2 20 j = ee_arf ws1 20 j) → (∀ j, j < 2000 → ee_arf ws2 22 j = ee_arf ws1 22 j) → (∀ j, j < 2000 → ee_arf ws2 23 j = ee_arf ws1 23 j) → ee_Wg X D (va_A ws sz) (ee_PE 1 ee_lw1 ee_li1 ee_bw1 ee_bi1 u as ex dA (ee_arf ws 20)) H2 lc2 19 ls2 []) → ee_Wg X D (va_A ws sz) (ee_PE 1 ee_lw1 ee_li1 ee_bw1 ee_bi1 u as ex dA (ee_arf ws 20)) H1 lc1 48 ls1 [.int 1] := by
    intro t ws1 H1 lc1 ls1 C1 k
    have hl : (u ++ t).length = 42 := C1.1.1.symm
    have D2 := C1.ext (e := []) (iv' := ee_ze1D1_s.2.2.2.2) (ee_ok.ext C1.1 rfl (L := []) (fun _ h => by cases h) (by decide +kernel))
    rw [List.append_nil] at D2
    have D3 := (((D2.frz (ee_F3 ws1) (by decide +kernel)).cell (i := 20) (ov' := [(1, .null), (1, .null)]) rfl (ee_mk2 (fun j hj => rfl))).cell (i := 22) (ov' := [(2, .null), (1, .null)]) rfl (ee_mk2 (fun j hj => rfl))).cell (i := 23) (ov' := [(3, .null), (1, .null)]) rfl (ee_mk2 (fun j hj => rfl))
    obtain ⟨v0, l0, ev0⟩ := D3.getl (i := 0) rfl
    have D4 := D3.nol.addl l0 ev0
    have D5 := D4.restk (stk' := [.int 1]) (vs' := [.int 1]) ⟨rfl, trivial⟩
    refine ee_go (st := ee_ze1D1_s) (x0 := (u ++ t)) ee_Tbok ee_ze1D1g hN0 ee_ze1D1 hl.symm has hM (ee_exf.out hE) (fun t' ht r ws2 H2 lc2 ls2 vs2 C5 => ?_) D5
    have ht := List.mem_singleton.mp ht
    subst ht
    have f35 : ee_fld ws2 35 = ee_fld ws1 35 := ee_fsame (k := 35) D5.2.2.2.1 C5.2.2.2.1 rfl rfl rfl rfl
    have f36 : ee_fld ws2 36 = ee_fld ws1 36 := ee_fsame (k := 36) D5.2.2.2.1 C5.2.2.2.1 rfl rfl rfl rfl
    have f37 : ee_fld ws2 37 = ee_fld ws1 37 := ee_fsame (k := 37) D5.2.2.2.1 C5.2.2.2.1 rfl rfl rfl rfl
    have f38 : ee_fld ws2 38 = ee_fld ws1 38 := ee_fsame (k := 38) D5.2.2.2.1 C5.2.2.2.1 rfl rfl rfl rfl
    have a20 : ∀ j, j < 2000 → ee_arf ws2 20 j = ee_arf ws1 20 j := ee_k2 (F := ee_F3 ws1) (i := 1) (ee_arf.ok (i := 20) C5.2.2.2.1 rfl).2
    have a22 : ∀ j, j < 2000 → ee_arf ws2 22 j = ee_arf ws1 22 j := ee_k2 (F := ee_F3 ws1) (i := 2) (ee_arf.ok (i := 22) C5.2.2.2.1 rfl).2
    have a23 : ∀ j, j < 2000 → ee_arf ws2 23 j = ee_arf ws1 23 j := ee_k2 (F := ee_F3 ws1) (i := 3) (ee_arf.ok (i := 23) C5.2.2.2.1 rfl).2
    obtain ⟨t3, C6⟩ := ee_toP (tw := ee_lw1) (tiv := ee_li1) hu ⟨_, by simp only [List.append_assoc]; rfl⟩ C5 (by decide +kernel) (by decide +kernel)
    obtain ⟨u1, m1, g1⟩ := C5.getl (i := 1) (x := .int 1) rfl
    have g1 : u1 = .int 1 := g1
    subst g1
    have hvs := ee_vs0 C5.2.2.1
    subst hvs
    refine k t3 ws2 H2 lc2 ls2 C6 m1 (fun k hk => ?_) a20 a22 a23
    rcases hk with rfl | rfl | rfl | rfl
    · exact f35
    · exact f36
    · exact f37
    · exact f38
  have loop : ∀ (n : Nat) (wn : Bool) (t : List Int32) (ws1 : va_W) (H1 : Heap) (lc1 : List Loc) (ls1 : Array Slot), (ee_mz wn ws1).toNat ≤ n → ee_Cx X (va_A ws sz) D dA ex as ee_me181.2.2.2.1 [(0, .ref 0)] [] ee_lw1 ee_li1 (u ++ t) ws1 H1 lc1 ls1 [] → (∃ lv, lv_has ls1 ee_me181.2.2.2.1 lv ∧ (1, Value.int (if wn = true then 1 else 0)) ∈ lv) → ee_EW 1 wn (ee_arf ws 20) ws1 → ee_Wg X D (va_A ws sz) (ee_PE 1 ee_lw1 ee_li1 ee_bw1 ee_bi1 u as ex dA (ee_arf ws 20)) H1 lc1 19 ls1 [] := by
    intro n
    induction n with
    | zero =>
      intro wn t ws1 H1 lc1 ls1 hn C1 l1 hI1
      have hB := ee_EI.bnd hI1
      exfalso
      unfold ee_mz at hn
      cases wn <;> simp only [if_true, if_false, Bool.false_eq_true] at hn <;> omega
    | succ n ih =>
      intro wn t ws1 H1 lc1 ls1 hn C1 l1 hI1
      have hB := ee_EI.bnd hI1
      have hl : (u ++ t).length = 42 := C1.1.1.symm
      have s38 := ee_fld.sym (k := 35) C1.2.2.2.1 rfl rfl
      have s40 := ee_fld.sym (k := 37) C1.2.2.2.1 rfl rfl
      unfold ee_mz at hn
      cases wn with
      | true =>
        simp only [if_true] at hn l1
        have D2 := C1.ext (e := []) (iv' := ee_ze1B_s.2.2.2.2) (ee_ok.ext C1.1 rfl (L := [(40, 1, 40, [])]) (List.forall_mem_cons.mpr ⟨ee_tr.mk (ee_get_app s40) (by omega) (by omega), (fun _ h => by cases h)⟩) (by decide +kernel))
        rw [List.append_nil] at D2
        have D3 := (((D2.frz (ee_F3 ws1) (by decide +kernel)).cell (i := 20) (ov' := [(1, .null), (1, .null)]) rfl (ee_mk2 (fun j hj => rfl))).cell (i := 22) (ov' := [(2, .null), (1, .null)]) rfl (ee_mk2 (fun j hj => rfl))).cell (i := 23) (ov' := [(3, .null), (1, .null)]) rfl (ee_mk2 (fun j hj => rfl))
        obtain ⟨v0, l0, ev0⟩ := D3.getl (i := 0) rfl
        have D4 := (D3.nol.addl l1 (x := .int 1) rfl).addl l0 ev0
        refine ee_go (st := ee_ze1B_s) (x0 := (u ++ t)) ee_Tbok ee_ze1Bg hN0 ee_ze1B hl.symm has hM (ee_exf.out hE) (fun t' ht r ws2 H2 lc2 ls2 vs2 C5 => ?_) D4
        have e1 : ((ee_fld ws1 35).toInt + ((1 : Nat) : Int) - 1).toNat = (ee_fld ws1 35).toInt.toNat := by omega
        have e2 : ((ee_fld ws1 37).toInt + ((1 : Nat) : Int) - 1).toNat = (ee_fld ws1 37).toInt.toNat := by omega
        rcases List.mem_cons.mp ht with rfl | ht
        · skip
          have f36 : ee_fld ws2 36 = ee_fld ws1 36 := ee_fsame (k := 36) D4.2.2.2.1 C5.2.2.2.1 rfl rfl rfl rfl
          have f37 : ee_fld ws2 37 = ee_fld ws1 37 := ee_fsame (k := 37) D4.2.2.2.1 C5.2.2.2.1 rfl rfl rfl rfl
          have f35 := ee_ffact (k := 35) D4.2.2.2.1 C5.2.2.2.1 C5.1 rfl rfl rfl rfl rfl
          have f38 := ee_ffact (k := 38) D4.2.2.2.1 C5.2.2.2.1 C5.1 rfl rfl rfl rfl rfl
          have a22 : ∀ j, j < 2000 → ee_arf ws2 22 j = ee_arf ws1 22 j := ee_k2 (F := ee_F3 ws1) (i := 2) (ee_arf.ok (i := 22) C5.2.2.2.1 rfl).2
          have a23 : ∀ j, j < 2000 → ee_arf ws2 23 j = ee_arf ws1 23 j := ee_k2 (F := ee_F3 ws1) (i := 3) (ee_arf.ok (i := 23) C5.2.2.2.1 rfl).2
          have a20 := ee_k4 (F := ee_F3 ws1) (i := 1) (ee_arf.ok (i := 20) C5.2.2.2.1 rfl).2 (p := ee_fld ws1 35) (q := 103) ⟨_, ee_get_app s38, rfl⟩ rfl
          rw [e1] at a20
          have hI2 : ee_EW 1 false (ee_arf ws 20) ws2 := by
            refine ee_EI.cong (w := ee_arf ws1 22) (g := ee_arf ws1 23) (c := ee_arf ws2 20) ?_ (by decide) a22 a23 (fun j hj => rfl)
            refine ee_EI.letter (C := (ee_fld ws1 35).toInt) (U := (ee_fld ws1 38).toInt) (c := ee_arf ws1 20) (x := 103) ?_ (by decide) (by decide) (by omega) (by omega) (by omega) a20.1 a20.2
            rw [f36, f37]
            exact hI1
          have hB2 := ee_EI.bnd hI2
          have C5n := C5.nar (k := 46) (ee_fld.sym (k := 35) C5.2.2.2.1 rfl rfl) (a := 0) (b := 1119) (by omega) (by omega)
          obtain ⟨t3, C6⟩ := ee_toP (tw := ee_lw1) (tiv := ee_li1) hu ⟨_, by simp only [List.append_assoc]; rfl⟩ C5n (by decide +kernel) (by decide +kernel)
          obtain ⟨u1, m1, g1⟩ := C5.getl (i := 1) (x := .int 0) rfl
          have g1 : u1 = .int 0 := g1
          subst g1
          have hvs := ee_vs0 C5.2.2.1
          subst hvs
          refine ih false t3 ws2 H2 lc2 ls2 ?_ C6 m1 hI2
          unfold ee_mz
          simp only [Bool.false_eq_true, if_false]
          omega
        rcases List.mem_cons.mp ht with rfl | ht
        · skip
          have f36 : ee_fld ws2 36 = ee_fld ws1 36 := ee_fsame (k := 36) D4.2.2.2.1 C5.2.2.2.1 rfl rfl rfl rfl
          have f37 : ee_fld ws2 37 = ee_fld ws1 37 := ee_fsame (k := 37) D4.2.2.2.1 C5.2.2.2.1 rfl rfl rfl rfl
          have f35 := ee_ffact (k := 35) D4.2.2.2.1 C5.2.2.2.1 C5.1 rfl rfl rfl rfl rfl
          have f38 := ee_ffact (k := 38) D4.2.2.2.1 C5.2.2.2.1 C5.1 rfl rfl rfl rfl rfl
          have a22 : ∀ j, j < 2000 → ee_arf ws2 22 j = ee_arf ws1 22 j := ee_k2 (F := ee_F3 ws1) (i := 2) (ee_arf.ok (i := 22) C5.2.2.2.1 rfl).2
          have a23 : ∀ j, j < 2000 → ee_arf ws2 23 j = ee_arf ws1 23 j := ee_k2 (F := ee_F3 ws1) (i := 3) (ee_arf.ok (i := 23) C5.2.2.2.1 rfl).2
          have a20 := ee_k4 (F := ee_F3 ws1) (i := 1) (ee_arf.ok (i := 20) C5.2.2.2.1 rfl).2 (p := ee_fld ws1 35) (q := 104) ⟨_, ee_get_app s38, rfl⟩ rfl
          rw [e1] at a20
          have hI2 : ee_EW 1 false (ee_arf ws 20) ws2 := by
            refine ee_EI.cong (w := ee_arf ws1 22) (g := ee_arf ws1 23) (c := ee_arf ws2 20) ?_ (by decide) a22 a23 (fun j hj => rfl)
            refine ee_EI.letter (C := (ee_fld ws1 35).toInt) (U := (ee_fld ws1 38).toInt) (c := ee_arf ws1 20) (x := 104) ?_ (by decide) (by decide) (by omega) (by omega) (by omega) a20.1 a20.2
            rw [f36, f37]
            exact hI1
          have hB2 := ee_EI.bnd hI2
          have C5n := C5.nar (k := 46) (ee_fld.sym (k := 35) C5.2.2.2.1 rfl rfl) (a := 0) (b := 1119) (by omega) (by omega)
          obtain ⟨t3, C6⟩ := ee_toP (tw := ee_lw1) (tiv := ee_li1) hu ⟨_, by simp only [List.append_assoc]; rfl⟩ C5n (by decide +kernel) (by decide +kernel)
          obtain ⟨u1, m1, g1⟩ := C5.getl (i := 1) (x := .int 0) rfl
          have g1 : u1 = .int 0 := g1
          subst g1
          have hvs := ee_vs0 C5.2.2.1
          subst hvs
          refine ih false t3 ws2 H2 lc2 ls2 ?_ C6 m1 hI2
          unfold ee_mz
          simp only [Bool.false_eq_true, if_false]
          omega
        rcases List.mem_cons.mp ht with rfl | ht
        · skip
          have f36 : ee_fld ws2 36 = ee_fld ws1 36 := ee_fsame (k := 36) D4.2.2.2.1 C5.2.2.2.1 rfl rfl rfl rfl
          have f37 : ee_fld ws2 37 = ee_fld ws1 37 := ee_fsame (k := 37) D4.2.2.2.1 C5.2.2.2.1 rfl rfl rfl rfl
          have f35 := ee_ffact (k := 35) D4.2.2.2.1 C5.2.2.2.1 C5.1 rfl rfl rfl rfl rfl
          have f38 := ee_ffact (k := 38) D4.2.2.2.1 C5.2.2.2.1 C5.1 rfl rfl rfl rfl rfl
          have a22 : ∀ j, j < 2000 → ee_arf ws2 22 j = ee_arf ws1 22 j := ee_k2 (F := ee_F3 ws1) (i := 2) (ee_arf.ok (i := 22) C5.2.2.2.1 rfl).2
          have a23 : ∀ j, j < 2000 → ee_arf ws2 23 j = ee_arf ws1 23 j := ee_k2 (F := ee_F3 ws1) (i := 3) (ee_arf.ok (i := 23) C5.2.2.2.1 rfl).2
          have a20 := ee_k4 (F := ee_F3 ws1) (i := 1) (ee_arf.ok (i := 20) C5.2.2.2.1 rfl).2 (p := ee_fld ws1 35) (q := 110) ⟨_, ee_get_app s38, rfl⟩ rfl
          rw [e1] at a20
          have hI2 : ee_EW 1 false (ee_arf ws 20) ws2 := by
            refine ee_EI.cong (w := ee_arf ws1 22) (g := ee_arf ws1 23) (c := ee_arf ws2 20) ?_ (by decide) a22 a23 (fun j hj => rfl)
            refine ee_EI.letter (C := (ee_fld ws1 35).toInt) (U := (ee_fld ws1 38).toInt) (c := ee_arf ws1 20) (x := 110) ?_ (by decide) (by decide) (by omega) (by omega) (by omega) a20.1 a20.2
            rw [f36, f37]
            exact hI1
          have hB2 := ee_EI.bnd hI2
          have C5n := C5.nar (k := 46) (ee_fld.sym (k := 35) C5.2.2.2.1 rfl rfl) (a := 0) (b := 1119) (by omega) (by omega)
          obtain ⟨t3, C6⟩ := ee_toP (tw := ee_lw1) (tiv := ee_li1) hu ⟨_, by simp only [List.append_assoc]; rfl⟩ C5n (by decide +kernel) (by decide +kernel)
          obtain ⟨u1, m1, g1⟩ := C5.getl (i := 1) (x := .int 0) rfl
          have g1 : u1 = .int 0 := g1
          subst g1
          have hvs := ee_vs0 C5.2.2.1
          subst hvs
          refine ih false t3 ws2 H2 lc2 ls2 ?_ C6 m1 hI2
          unfold ee_mz
          simp only [Bool.false_eq_true, if_false]
          omega
        rcases List.mem_cons.mp ht with rfl | ht
        · skip
          have f36 : ee_fld ws2 36 = ee_fld ws1 36 := ee_fsame (k := 36) D4.2.2.2.1 C5.2.2.2.1 rfl rfl rfl rfl
          have f37 : ee_fld ws2 37 = ee_fld ws1 37 := ee_fsame (k := 37) D4.2.2.2.1 C5.2.2.2.1 rfl rfl rfl rfl
          have f35 := ee_ffact (k := 35) D4.2.2.2.1 C5.2.2.2.1 C5.1 rfl rfl rfl rfl rfl
          have f38 := ee_ffact (k := 38) D4.2.2.2.1 C5.2.2.2.1 C5.1 rfl rfl rfl rfl rfl
          have a22 : ∀ j, j < 2000 → ee_arf ws2 22 j = ee_arf ws1 22 j := ee_k2 (F := ee_F3 ws1) (i := 2) (ee_arf.ok (i := 22) C5.2.2.2.1 rfl).2
          have a23 : ∀ j, j < 2000 → ee_arf ws2 23 j = ee_arf ws1 23 j := ee_k2 (F := ee_F3 ws1) (i := 3) (ee_arf.ok (i := 23) C5.2.2.2.1 rfl).2
          have a20 := ee_k4 (F := ee_F3 ws1) (i := 1) (ee_arf.ok (i := 20) C5.2.2.2.1 rfl).2 (p := ee_fld ws1 35) (q := 114) ⟨_, ee_get_app s38, rfl⟩ rfl
          rw [e1] at a20
          have hI2 : ee_EW 1 false (ee_arf ws 20) ws2 := by
            refine ee_EI.cong (w := ee_arf ws1 22) (g := ee_arf ws1 23) (c := ee_arf ws2 20) ?_ (by decide) a22 a23 (fun j hj => rfl)
            refine ee_EI.letter (C := (ee_fld ws1 35).toInt) (U := (ee_fld ws1 38).toInt) (c := ee_arf ws1 20) (x := 114) ?_ (by decide) (by decide) (by omega) (by omega) (by omega) a20.1 a20.2
            rw [f36, f37]
            exact hI1
          have hB2 := ee_EI.bnd hI2
          have C5n := C5.nar (k := 46) (ee_fld.sym (k := 35) C5.2.2.2.1 rfl rfl) (a := 0) (b := 1119) (by omega) (by omega)
          obtain ⟨t3, C6⟩ := ee_toP (tw := ee_lw1) (tiv := ee_li1) hu ⟨_, by simp only [List.append_assoc]; rfl⟩ C5n (by decide +kernel) (by decide +kernel)
          obtain ⟨u1, m1, g1⟩ := C5.getl (i := 1) (x := .int 0) rfl
          have g1 : u1 = .int 0 := g1
          subst g1
          have hvs := ee_vs0 C5.2.2.1
          subst hvs
          refine ih false t3 ws2 H2 lc2 ls2 ?_ C6 m1 hI2
          unfold ee_mz
          simp only [Bool.false_eq_true, if_false]
          omega
        rcases List.mem_cons.mp ht with rfl | ht
        · skip
          have f36 : ee_fld ws2 36 = ee_fld ws1 36 := ee_fsame (k := 36) D4.2.2.2.1 C5.2.2.2.1 rfl rfl rfl rfl
          have f37 : ee_fld ws2 37 = ee_fld ws1 37 := ee_fsame (k := 37) D4.2.2.2.1 C5.2.2.2.1 rfl rfl rfl rfl
          have f35 := ee_ffact (k := 35) D4.2.2.2.1 C5.2.2.2.1 C5.1 rfl rfl rfl rfl rfl
          have f38 := ee_ffact (k := 38) D4.2.2.2.1 C5.2.2.2.1 C5.1 rfl rfl rfl rfl rfl
          have a22 : ∀ j, j < 2000 → ee_arf ws2 22 j = ee_arf ws1 22 j := ee_k2 (F := ee_F3 ws1) (i := 2) (ee_arf.ok (i := 22) C5.2.2.2.1 rfl).2
          have a23 : ∀ j, j < 2000 → ee_arf ws2 23 j = ee_arf ws1 23 j := ee_k2 (F := ee_F3 ws1) (i := 3) (ee_arf.ok (i := 23) C5.2.2.2.1 rfl).2
          have a20 := ee_k4 (F := ee_F3 ws1) (i := 1) (ee_arf.ok (i := 20) C5.2.2.2.1 rfl).2 (p := ee_fld ws1 35) (q := 115) ⟨_, ee_get_app s38, rfl⟩ rfl
          rw [e1] at a20
          have hI2 : ee_EW 1 false (ee_arf ws 20) ws2 := by
            refine ee_EI.cong (w := ee_arf ws1 22) (g := ee_arf ws1 23) (c := ee_arf ws2 20) ?_ (by decide) a22 a23 (fun j hj => rfl)
            refine ee_EI.letter (C := (ee_fld ws1 35).toInt) (U := (ee_fld ws1 38).toInt) (c := ee_arf ws1 20) (x := 115) ?_ (by decide) (by decide) (by omega) (by omega) (by omega) a20.1 a20.2
            rw [f36, f37]
            exact hI1
          have hB2 := ee_EI.bnd hI2
          have C5n := C5.nar (k := 46) (ee_fld.sym (k := 35) C5.2.2.2.1 rfl rfl) (a := 0) (b := 1119) (by omega) (by omega)
          obtain ⟨t3, C6⟩ := ee_toP (tw := ee_lw1) (tiv := ee_li1) hu ⟨_, by simp only [List.append_assoc]; rfl⟩ C5n (by decide +kernel) (by decide +kernel)
          obtain ⟨u1, m1, g1⟩ := C5.getl (i := 1) (x := .int 0) rfl
          have g1 : u1 = .int 0 := g1
          subst g1
          have hvs := ee_vs0 C5.2.2.1
          subst hvs
          refine ih false t3 ws2 H2 lc2 ls2 ?_ C6 m1 hI2
          unfold ee_mz
          simp only [Bool.false_eq_true, if_false]
          omega
        rcases List.mem_cons.mp ht with rfl | ht
        · skip
          have f36 : ee_fld ws2 36 = ee_fld ws1 36 := ee_fsame (k := 36) D4.2.2.2.1 C5.2.2.2.1 rfl rfl rfl rfl
          have f37 : ee_fld ws2 37 = ee_fld ws1 37 := ee_fsame (k := 37) D4.2.2.2.1 C5.2.2.2.1 rfl rfl rfl rfl
          have f35 := ee_ffact (k := 35) D4.2.2.2.1 C5.2.2.2.1 C5.1 rfl rfl rfl rfl rfl
          have f38 := ee_ffact (k := 38) D4.2.2.2.1 C5.2.2.2.1 C5.1 rfl rfl rfl rfl rfl
          have a22 : ∀ j, j < 2000 → ee_arf ws2 22 j = ee_arf ws1 22 j := ee_k2 (F := ee_F3 ws1) (i := 2) (ee_arf.ok (i := 22) C5.2.2.2.1 rfl).2
          have a23 : ∀ j, j < 2000 → ee_arf ws2 23 j = ee_arf ws1 23 j := ee_k2 (F := ee_F3 ws1) (i := 3) (ee_arf.ok (i := 23) C5.2.2.2.1 rfl).2
          have a20 := ee_k4 (F := ee_F3 ws1) (i := 1) (ee_arf.ok (i := 20) C5.2.2.2.1 rfl).2 (p := ee_fld ws1 35) (q := 116) ⟨_, ee_get_app s38, rfl⟩ rfl
          rw [e1] at a20
          have hI2 : ee_EW 1 false (ee_arf ws 20) ws2 := by
            refine ee_EI.cong (w := ee_arf ws1 22) (g := ee_arf ws1 23) (c := ee_arf ws2 20) ?_ (by decide) a22 a23 (fun j hj => rfl)
            refine ee_EI.letter (C := (ee_fld ws1 35).toInt) (U := (ee_fld ws1 38).toInt) (c := ee_arf ws1 20) (x := 116) ?_ (by decide) (by decide) (by omega) (by omega) (by omega) a20.1 a20.2
            rw [f36, f37]
            exact hI1
          have hB2 := ee_EI.bnd hI2
          have C5n := C5.nar (k := 46) (ee_fld.sym (k := 35) C5.2.2.2.1 rfl rfl) (a := 0) (b := 1119) (by omega) (by omega)
          obtain ⟨t3, C6⟩ := ee_toP (tw := ee_lw1) (tiv := ee_li1) hu ⟨_, by simp only [List.append_assoc]; rfl⟩ C5n (by decide +kernel) (by decide +kernel)
          obtain ⟨u1, m1, g1⟩ := C5.getl (i := 1) (x := .int 0) rfl
          have g1 : u1 = .int 0 := g1
          subst g1
          have hvs := ee_vs0 C5.2.2.1
          subst hvs
          refine ih false t3 ws2 H2 lc2 ls2 ?_ C6 m1 hI2
          unfold ee_mz
          simp only [Bool.false_eq_true, if_false]
          omega
        rcases List.mem_cons.mp ht with rfl | ht
        · skip
          have f36 : ee_fld ws2 36 = ee_fld ws1 36 := ee_fsame (k := 36) D4.2.2.2.1 C5.2.2.2.1 rfl rfl rfl rfl
          have f37 : ee_fld ws2 37 = ee_fld ws1 37 := ee_fsame (k := 37) D4.2.2.2.1 C5.2.2.2.1 rfl rfl rfl rfl
          have f35 := ee_ffact (k := 35) D4.2.2.2.1 C5.2.2.2.1 C5.1 rfl rfl rfl rfl rfl
          have f38 := ee_ffact (k := 38) D4.2.2.2.1 C5.2.2.2.1 C5.1 rfl rfl rfl rfl rfl
          have a22 : ∀ j, j < 2000 → ee_arf ws2 22 j = ee_arf ws1 22 j := ee_k2 (F := ee_F3 ws1) (i := 2) (ee_arf.ok (i := 22) C5.2.2.2.1 rfl).2
          have a23 : ∀ j, j < 2000 → ee_arf ws2 23 j = ee_arf ws1 23 j := ee_k2 (F := ee_F3 ws1) (i := 3) (ee_arf.ok (i := 23) C5.2.2.2.1 rfl).2
          have a20 := ee_k4 (F := ee_F3 ws1) (i := 1) (ee_arf.ok (i := 20) C5.2.2.2.1 rfl).2 (p := ee_fld ws1 35) (q := 99) ⟨_, ee_get_app s38, rfl⟩ rfl
          rw [e1] at a20
          have hI2 : ee_EW 1 false (ee_arf ws 20) ws2 := by
            refine ee_EI.cong (w := ee_arf ws1 22) (g := ee_arf ws1 23) (c := ee_arf ws2 20) ?_ (by decide) a22 a23 (fun j hj => rfl)
            refine ee_EI.letter (C := (ee_fld ws1 35).toInt) (U := (ee_fld ws1 38).toInt) (c := ee_arf ws1 20) (x := 99) ?_ (by decide) (by decide) (by omega) (by omega) (by omega) a20.1 a20.2
            rw [f36, f37]
            exact hI1
          have hB2 := ee_EI.bnd hI2
          have C5n := C5.nar (k := 46) (ee_fld.sym (k := 35) C5.2.2.2.1 rfl rfl) (a := 0) (b := 1119) (by omega) (by omega)
          obtain ⟨t3, C6⟩ := ee_toP (tw := ee_lw1) (tiv := ee_li1) hu ⟨_, by simp only [List.append_assoc]; rfl⟩ C5n (by decide +kernel) (by decide +kernel)
          obtain ⟨u1, m1, g1⟩ := C5.getl (i := 1) (x := .int 0) rfl
          have g1 : u1 = .int 0 := g1
          subst g1
          have hvs := ee_vs0 C5.2.2.1
          subst hvs
          refine ih false t3 ws2 H2 lc2 ls2 ?_ C6 m1 hI2
          unfold ee_mz
          simp only [Bool.false_eq_true, if_false]
          omega
        rcases List.mem_cons.mp ht with rfl | ht
        · skip
          have f35 : ee_fld ws2 35 = ee_fld ws1 35 := ee_fsame (k := 35) D4.2.2.2.1 C5.2.2.2.1 rfl rfl rfl rfl
          have f38 : ee_fld ws2 38 = ee_fld ws1 38 := ee_fsame (k := 38) D4.2.2.2.1 C5.2.2.2.1 rfl rfl rfl rfl
          have f36 := ee_ffact (k := 36) D4.2.2.2.1 C5.2.2.2.1 C5.1 rfl rfl rfl rfl rfl
          have f37 := ee_ffact (k := 37) D4.2.2.2.1 C5.2.2.2.1 C5.1 rfl rfl rfl rfl rfl
          have a20 : ∀ j, j < 2000 → ee_arf ws2 20 j = ee_arf ws1 20 j := ee_k2 (F := ee_F3 ws1) (i := 1) (ee_arf.ok (i := 20) C5.2.2.2.1 rfl).2
          have a22 := ee_k4 (F := ee_F3 ws1) (i := 2) (ee_arf.ok (i := 22) C5.2.2.2.1 rfl).2 (p := ee_fld ws1 37) (q := 3) ⟨_, ee_get_app s40, rfl⟩ rfl
          rw [e2] at a22
          have a23 := ee_k4 (F := ee_F3 ws1) (i := 3) (ee_arf.ok (i := 23) C5.2.2.2.1 rfl).2 (p := ee_fld ws1 37) (q := 126) ⟨_, ee_get_app s40, rfl⟩ rfl
          rw [e2] at a23
          have f38' : (ee_fld ws2 38).toInt = (ee_fld ws1 38).toInt := by rw [f38]
          have hI2 : ee_EW 1 true (ee_arf ws 20) ws2 := by
            refine ee_EI.cong (w := ee_arf ws2 22) (g := ee_arf ws2 23) (c := ee_arf ws1 20) ?_ (by decide) (fun j hj => rfl) (fun j hj => rfl) a20
            refine ee_EI.up (P := (ee_fld ws1 37).toInt) (U := (ee_fld ws1 38).toInt) (wi := (ee_fld ws1 36).toInt) (w := ee_arf ws1 22) (g := ee_arf ws1 23) (x := 3) ?_ (by decide) (by omega) (by omega) (by omega) (by omega) (by omega) a22.1 a22.2 a23.1 a23.2
            rw [f35]
            exact hI1
          have hB2 := ee_EI.bnd hI2
          have C5n := C5.nar (k := 47) (ee_fld.sym (k := 37) C5.2.2.2.1 rfl rfl) (a := 0) (b := 40) (by omega) (by omega)
          obtain ⟨t3, C6⟩ := ee_toP (tw := ee_lw1) (tiv := ee_li1) hu ⟨_, by simp only [List.append_assoc]; rfl⟩ C5n (by decide +kernel) (by decide +kernel)
          obtain ⟨u1, m1, g1⟩ := C5.getl (i := 1) (x := .int 1) rfl
          have g1 : u1 = .int 1 := g1
          subst g1
          have hvs := ee_vs0 C5.2.2.1
          subst hvs
          refine ih true t3 ws2 H2 lc2 ls2 ?_ C6 m1 hI2
          unfold ee_mz
          simp only [if_true]
          omega
        rcases List.mem_cons.mp ht with rfl | ht
        · skip
          have f35 : ee_fld ws2 35 = ee_fld ws1 35 := ee_fsame (k := 35) D4.2.2.2.1 C5.2.2.2.1 rfl rfl rfl rfl
          have f36 := ee_ffact (k := 36) D4.2.2.2.1 C5.2.2.2.1 C5.1 rfl rfl rfl rfl rfl
          have f37 := ee_ffact (k := 37) D4.2.2.2.1 C5.2.2.2.1 C5.1 rfl rfl rfl rfl rfl
          have f38 := ee_ffact (k := 38) D4.2.2.2.1 C5.2.2.2.1 C5.1 rfl rfl rfl rfl rfl
          have a20 : ∀ j, j < 2000 → ee_arf ws2 20 j = ee_arf ws1 20 j := ee_k2 (F := ee_F3 ws1) (i := 1) (ee_arf.ok (i := 20) C5.2.2.2.1 rfl).2
          have a22 := ee_k4 (F := ee_F3 ws1) (i := 2) (ee_arf.ok (i := 22) C5.2.2.2.1 rfl).2 (p := ee_fld ws1 37) (q := 7) ⟨_, ee_get_app s40, rfl⟩ rfl
          rw [e2] at a22
          have a23 := ee_k4 (F := ee_F3 ws1) (i := 3) (ee_arf.ok (i := 23) C5.2.2.2.1 rfl).2 (p := ee_fld ws1 37) (q := 126) ⟨_, ee_get_app s40, rfl⟩ rfl
          rw [e2] at a23
          have f38' : (ee_fld ws2 38).toInt = (ee_fld ws1 38).toInt + 1 := f38.1
          have hI2 : ee_EW 1 true (ee_arf ws 20) ws2 := by
            refine ee_EI.cong (w := ee_arf ws2 22) (g := ee_arf ws2 23) (c := ee_arf ws1 20) ?_ (by decide) (fun j hj => rfl) (fun j hj => rfl) a20
            refine ee_EI.up (P := (ee_fld ws1 37).toInt) (U := (ee_fld ws1 38).toInt) (wi := (ee_fld ws1 36).toInt) (w := ee_arf ws1 22) (g := ee_arf ws1 23) (x := 7) ?_ (by decide) (by omega) (by omega) (by omega) (by omega) (by omega) a22.1 a22.2 a23.1 a23.2
            rw [f35]
            exact hI1
          have hB2 := ee_EI.bnd hI2
          have C5n := C5.nar (k := 47) (ee_fld.sym (k := 37) C5.2.2.2.1 rfl rfl) (a := 0) (b := 40) (by omega) (by omega)
          obtain ⟨t3, C6⟩ := ee_toP (tw := ee_lw1) (tiv := ee_li1) hu ⟨_, by simp only [List.append_assoc]; rfl⟩ C5n (by decide +kernel) (by decide +kernel)
          obtain ⟨u1, m1, g1⟩ := C5.getl (i := 1) (x := .int 1) rfl
          have g1 : u1 = .int 1 := g1
          subst g1
          have hvs := ee_vs0 C5.2.2.1
          subst hvs
          refine ih true t3 ws2 H2 lc2 ls2 ?_ C6 m1 hI2
          unfold ee_mz
          simp only [if_true]
          omega
        have ht := List.mem_singleton.mp ht
        subst ht
        have f35 : ee_fld ws2 35 = ee_fld ws1 35 := ee_fsame (k := 35) D4.2.2.2.1 C5.2.2.2.1 rfl rfl rfl rfl
        have a20 : ∀ j, j < 2000 → ee_arf ws2 20 j = ee_arf ws1 20 j := ee_k2 (F := ee_F3 ws1) (i := 1) (ee_arf.ok (i := 20) C5.2.2.2.1 rfl).2
        obtain ⟨t3, C6⟩ := ee_toP (tw := ee_bw1) (tiv := ee_bi1) hu ⟨_, by simp only [List.append_assoc]; rfl⟩ C5 (by decide +kernel) (by decide +kernel)
        have hvs := ee_vs0 C5.2.2.1
        subst hvs
        exact badx t3 ws2 H2 lc2 ls2 C6 (by rw [f35]; exact (ee_EI.un hI1).cong a20)
      | false =>
        simp only [Bool.false_eq_true, if_false] at hn l1
        have D2 := C1.ext (e := []) (iv' := ee_ze1C_s.2.2.2.2) (ee_ok.ext C1.1 rfl (L := [(40, 1, 40, [])]) (List.forall_mem_cons.mpr ⟨ee_tr.mk (ee_get_app s40) (by omega) (by omega), (fun _ h => by cases h)⟩) (by decide +kernel))
        rw [List.append_nil] at D2
        have D3 := (((D2.frz (ee_F3 ws1) (by decide +kernel)).cell (i := 20) (ov' := [(1, .null), (1, .null)]) rfl (ee_mk2 (fun j hj => rfl))).cell (i := 22) (ov' := [(2, .null), (1, .null)]) rfl (ee_mk2 (fun j hj => rfl))).cell (i := 23) (ov' := [(3, .null), (1, .null)]) rfl (ee_mk2 (fun j hj => rfl))
        obtain ⟨v0, l0, ev0⟩ := D3.getl (i := 0) rfl
        have D4 := (D3.nol.addl l1 (x := .int 0) rfl).addl l0 ev0
        refine ee_go (st := ee_ze1C_s) (x0 := (u ++ t)) ee_Tbok ee_ze1Cg hN0 ee_ze1C hl.symm has hM (ee_exf.out hE) (fun t' ht r ws2 H2 lc2 ls2 vs2 C5 => ?_) D4
        have ht := List.mem_singleton.mp ht
        subst ht
        have f35 : ee_fld ws2 35 = ee_fld ws1 35 := ee_fsame (k := 35) D4.2.2.2.1 C5.2.2.2.1 rfl rfl rfl rfl
        have f36 : ee_fld ws2 36 = ee_fld ws1 36 := ee_fsame (k := 36) D4.2.2.2.1 C5.2.2.2.1 rfl rfl rfl rfl
        have f37 : ee_fld ws2 37 = ee_fld ws1 37 := ee_fsame (k := 37) D4.2.2.2.1 C5.2.2.2.1 rfl rfl rfl rfl
        have f38 : ee_fld ws2 38 = ee_fld ws1 38 := ee_fsame (k := 38) D4.2.2.2.1 C5.2.2.2.1 rfl rfl rfl rfl
        have a20 : ∀ j, j < 2000 → ee_arf ws2 20 j = ee_arf ws1 20 j := ee_k2 (F := ee_F3 ws1) (i := 1) (ee_arf.ok (i := 20) C5.2.2.2.1 rfl).2
        have a22 : ∀ j, j < 2000 → ee_arf ws2 22 j = ee_arf ws1 22 j := ee_k2 (F := ee_F3 ws1) (i := 2) (ee_arf.ok (i := 22) C5.2.2.2.1 rfl).2
        have a23 : ∀ j, j < 2000 → ee_arf ws2 23 j = ee_arf ws1 23 j := ee_k2 (F := ee_F3 ws1) (i := 3) (ee_arf.ok (i := 23) C5.2.2.2.1 rfl).2
        obtain ⟨t3, C6⟩ := ee_toP (tw := ee_lw1) (tiv := ee_li1) hu ⟨_, by simp only [List.append_assoc]; rfl⟩ C5 (by decide +kernel) (by decide +kernel)
        obtain ⟨w1, vs3, rfl, c1, c4a⟩ := C5.2.2.1.cons
        have hvs := ee_vs0 c4a
        subst hvs
        have c1 := (ee_nf.ok (F := ee_F3 ws1) (x := .ref 0) (by decide)).mpr c1
        obtain ⟨a0, rfl⟩ := ee_v.ref c1
        have ha0 := c1.at (by decide)
        have hI2 : ee_EW 1 false (ee_arf ws 20) ws2 := by unfold ee_EW; rw [f35, f36, f37, f38]; exact hI1.cong (by decide) a22 a23 a20
        have C7 := C6.restk (stk' := [.ref 0]) (vs' := [.ref a0]) ⟨ee_v.inw (by decide) ha0, trivial⟩
        have C8 := C6.mat (n0 := []) (r := u ++ t3) (np := 0) (σ := [.retAddr 0, .retAddr 1, .retAddr 2, .retAddr 34, .retAddr 35, .retAddr 36, .retAddr 37, .retAddr 38, .retAddr 39, .retAddr 40, .retAddr 41, .retAddr 11, .retAddr 12, .retAddr 13, .retAddr 14, .retAddr 15, .retAddr 16, .retAddr 17, .retAddr 18, .retAddr 19, .retAddr 20, .retAddr 21, .retAddr 22, .retAddr 23, .retAddr 24, .retAddr 25, .retAddr 26, .retAddr 27, .retAddr 28, .retAddr 29, .retAddr 30, .retAddr 31, .retAddr 32, .retAddr 33]) (tw := ee_ew1) (tiv := ee_ei1) (tlo := [(0, .ref 0)]) (n := 40) rfl rfl (by decide +kernel) (stk' := []) trivial
        rw [List.nil_append] at C8
        refine ee_callP (d := 3) (d' := 3) (y := 181) (M := ee_me181) (N := ee_me165) (pc := 45) ee_Tbok rfl hM hE rfl rfl (by decide +kernel) C7 (ee_bu1 C8.1 ⟨ee_v.inw (by decide) ha0, trivial⟩ C8.2.2.2.1 hI2) (Nat.le_refl _) (fun ws3 v H3 lc3 hΦ hP3 hD3 hS3 => ?_)
        rcases hΦ with ⟨z, rfl, hz0, hz1, ⟨t4, k1, k2⟩, hEU⟩ | ⟨⟨t4, k1, k2⟩, hU3, hv⟩
        · obtain ⟨t5, C9⟩ := ee_bkC C6 ⟨_, rfl⟩ hu has (σ := [.retAddr 0, .retAddr 1, .retAddr 2, .retAddr 34, .retAddr 35, .retAddr 36, .retAddr 37, .retAddr 38, .retAddr 39, .retAddr 40, .retAddr 41, .retAddr 11, .retAddr 12, .retAddr 13, .retAddr 14, .retAddr 15, .retAddr 16, .retAddr 17, .retAddr 18, .retAddr 19, .retAddr 20, .retAddr 21, .retAddr 22, .retAddr 23, .retAddr 24, .retAddr 25, .retAddr 26, .retAddr 27, .retAddr 28, .retAddr 29, .retAddr 30, .retAddr 31, .retAddr 32, .retAddr 33]) (by decide +kernel) k1 k2 hP3 hD3 hS3 (by decide +kernel)
          exact badb z t5 ws3 H3 lc3 ls2 hz0 hz1 C9 hEU
        · obtain ⟨t5, C9⟩ := ee_bkC C6 ⟨_, rfl⟩ hu has (σ := [.retAddr 0, .retAddr 1, .retAddr 2, .retAddr 34, .retAddr 35, .retAddr 36, .retAddr 37, .retAddr 38, .retAddr 39, .retAddr 40, .retAddr 41, .retAddr 11, .retAddr 12, .retAddr 13, .retAddr 14, .retAddr 15, .retAddr 16, .retAddr 17, .retAddr 18, .retAddr 19, .retAddr 20, .retAddr 21, .retAddr 22, .retAddr 23, .retAddr 24, .retAddr 25, .retAddr 26, .retAddr 27, .retAddr 28, .retAddr 29, .retAddr 30, .retAddr 31, .retAddr 32, .retAddr 33]) (by decide +kernel) k1 k2 hP3 hD3 hS3 (by decide +kernel)
          rcases hv with ⟨rfl, hI3⟩ | ⟨rfl, hlt, hI3⟩
          · skip
            refine bk1 t5 ws3 H3 lc3 ls2 C9 (fun t6 ws4 H4 lc4 ls4 C10 m10 g0 b20 b22 b23 => ?_)
            have p35 := g0 35 (by omega)
            have p36 := g0 36 (by omega)
            have p37 := g0 37 (by omega)
            have p38 := g0 38 (by omega)
            refine ih true t6 ws4 H4 lc4 ls4 ?_ C10 m10 (by unfold ee_EW; rw [p35, p36, p37, p38]; exact hI3.cong (by decide) b22 b23 b20)
            have hB3 := ee_EI.bnd hI3
            unfold ee_mz
            simp only [if_true]
            rw [p36, p38]
            rw [f38] at hU3
            omega
          · skip
            refine bk0 t5 ws3 H3 lc3 ls2 C9 (fun t6 ws4 H4 lc4 ls4 C10 m10 g0 b20 b22 b23 => ?_)
            have p35 := g0 35 (by omega)
            have p36 := g0 36 (by omega)
            have p37 := g0 37 (by omega)
            have p38 := g0 38 (by omega)
            rcases hI3 with hI3 | hI3
            · refine ih false t6 ws4 H4 lc4 ls4 ?_ C10 m10 (by unfold ee_EW; rw [p35, p36, p37, p38]; exact hI3.cong (by decide) b22 b23 b20)
              have hB3 := ee_EI.bnd hI3
              unfold ee_mz
              simp only [Bool.false_eq_true, if_false]
              rw [p37, p38]
              rw [f38] at hU3
              rw [f37] at hlt
              omega
            · obtain ⟨i0, i1, hh, i2⟩ := hI3
              have i1' := i1.1
              have i1'' := i1.2.1
              refine done t6 ws4 H4 lc4 ls4 C10 ⟨by rw [p37]; exact i0, by rw [p35]; exact i1.cong b20, hh, ?_⟩
              rw [p35, ee_rw.cong (f := ee_arf ws3 20) (fun j j1 j2 => b20 j (by omega))]
              exact i2
  have hl : u.length = 34 := hu
  have D2 := C.ext (e := []) (iv' := ee_ze1A_s.2.2.2.2) (ee_ok.ext C.1 rfl (L := []) (fun _ h => by cases h) (by decide +kernel))
  rw [List.append_nil] at D2
  have D3 := (((D2.frz (ee_F3 ws) (by decide +kernel)).cell (i := 20) (ov' := [(1, .null), (1, .null)]) rfl (ee_mk2 (fun j hj => rfl))).cell (i := 22) (ov' := [(2, .null), (1, .null)]) rfl (ee_mk2 (fun j hj => rfl))).cell (i := 23) (ov' := [(3, .null), (1, .null)]) rfl (ee_mk2 (fun j hj => rfl))
  refine ee_go (st := ee_ze1A_s) (x0 := u) ee_Tbok ee_ze1Ag hN0 ee_ze1A hl.symm has hM (ee_exf.out hE) (fun t' ht r ws2 H2 lc2 ls2 vs2 C5 => ?_) D3
  have ht := List.mem_singleton.mp ht
  subst ht
  have f35 : ee_fld ws2 35 = ee_fld ws 35 := ee_fsame (k := 35) D3.2.2.2.1 C5.2.2.2.1 rfl rfl rfl rfl
  have f38 : ee_fld ws2 38 = ee_fld ws 38 := ee_fsame (k := 38) D3.2.2.2.1 C5.2.2.2.1 rfl rfl rfl rfl
  have f36 : ee_fld ws2 36 = 0 := ee_fld.num C5.2.2.2.1 rfl rfl
  have f37 : ee_fld ws2 37 = 1 := ee_fld.num C5.2.2.2.1 rfl rfl
  have a20 : ∀ j, j < 2000 → ee_arf ws2 20 j = ee_arf ws 20 j := ee_k2 (F := ee_F3 ws) (i := 1) (ee_arf.ok (i := 20) C5.2.2.2.1 rfl).2
  have a22 : ee_arf ws2 22 0 = 8 := (ee_k4 (F := ee_F3 ws) (i := 2) (ee_arf.ok (i := 22) C5.2.2.2.1 rfl).2 (p := 0) (q := 8) rfl rfl).1
  have hI2 : ee_EW 1 true (ee_arf ws 20) ws2 := by
    have k := ee_EI.start (b := 1) (c := ee_arf ws 20) (g := ee_arf ws2 23) a22
    unfold ee_EW
    rw [f35, f38, f36, f37, hC0, hU0]
    exact k.cong (by decide) (fun j hj => rfl) (fun j hj => rfl) a20
  have C5n := (C5.nar (k := 7) (ee_fld.sym (k := 35) C5.2.2.2.1 rfl rfl) (a := 0) (b := 1119) (by rw [f35]; omega) (by rw [f35]; omega)).nar (k := 10) (ee_fld.sym (k := 38) C5.2.2.2.1 rfl rfl) (a := 0) (b := 30) (by rw [f38]; omega) (by rw [f38]; omega)
  obtain ⟨t3, C6⟩ := ee_toP (tw := ee_lw1) (tiv := ee_li1) hu ⟨_, rfl⟩ C5n (by decide +kernel) (by decide +kernel)
  obtain ⟨u1, m1, g1⟩ := C5.getl (i := 1) (x := .int 1) rfl
  have g1 : u1 = .int 1 := g1
  subst g1
  have hvs := ee_vs0 C5.2.2.1
  subst hvs
  exact loop _ true t3 ws2 H2 lc2 ls2 (Nat.le_refl _) C6 m1 hI2
