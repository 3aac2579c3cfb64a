set_option maxHeartbeats 8000000 in
theorem ee_c1ok : ee_Ct ee_mt ee_k199 := by
  intro N hN l D dA ex ns as ws sz av h1 h3 h5
  have hN0 : ee_mt 174 = some ee_me174 := rfl
  have hNe : ee_me174 = N := Option.some.inj (hN0.symm.trans hN)
  subst hNe
  have hn0 : ns.length = 37 := h1.1.symm
  have has : as.length = 40 := h5.len
  obtain ⟨-, hrq⟩ := ee_arf.ok (i := 20) h5 rfl
  have hrq' := hrq
  obtain ⟨y1, y2, a0, c0, d0, a1, c1, d1, v1, v2, ⟨va0, vc0, vd0⟩, ⟨va1, vc1, vd1⟩, q0, q1⟩ := hrq'
  obtain ⟨zb, b1, b2, b3, -⟩ := ee_at1.ok (k := 8) (q := (8, 1, 1, [])) h1 rfl
  rw [v1.sy] at b1
  cases b1
  have e1 : y1 = 1 := ee_int_inj (by
    have b4 : (1 : Int32).toInt = 1 := by decide
    have b2 : (1 : Int) ≤ y1.toInt := b2
    have b3 : y1.toInt ≤ (1 : Int) := b3
    rw [b4]; omega)
  obtain ⟨zt, t1, -, -, t4⟩ := ee_at1.ok (k := 32) (q := (32, 0, 7, [(4, 2, 1)])) h1 rfl
  rw [vd1.sy] at t1
  cases t1
  have hodd : d1.toInt % 2 = 1 := t4 (4, 2, 1) List.mem_cons_self
  obtain ⟨⟨r1, r2, r3, hh, r4⟩, -⟩ := q1 (Or.inl e1) hodd
  have hcw : ee_wr ns as ex dA ee_cwc1 ws := ee_wr.cell (i := 20) (ov' := []) h5 rfl trivial
  refine ee_met.imp (ee_open (Φ := fun ws' v => ∃ z : Int32, v = some (.int z) ∧ ee_wr ns as ex dA ee_cwc1 ws' ∧ ∀ j, j < 2000 → ee_arf ws' 20 j = ee_arf ws 20 j) (d := 4) (A0 := [.ref 0]) (w := ee_cwc1) (iv := ee_cic1) ee_Tbok hN0 (by decide +kernel) ⟨rfl, rfl⟩ (by decide +kernel) h1 h3 hcw ?_) (fun a st o t q => ?_)
  · intro X ls hM hE C
    have C : ee_Cx X (va_A ws sz) D dA ex as ee_me174.2.2.2.1 [(0, .ref 0)] [] ee_cwc1 ee_cic1 ns ws X.2.2.2.2.1.heap [] ls [] := C
    have fin : ∀ {F : Nat → Nat → Int32} {lo : List (Nat × Value)} {stk : List Value} {w : ee_w} {iv : ee_iv} {r : List Int32} {ws1 : va_W} {H1 : Heap} {lc1 : List Loc} {ls1 : Array Slot} {vs1 : List Value}, ee_Cx X (va_A ws sz) D dA (ee_exf ex F) as ee_me174.2.2.2.1 lo stk w iv (ns ++ r) ws1 H1 lc1 ls1 vs1 → ee_mat 37 40 [(0, .ref 0)] [] ee_cwc1 ee_cic1 (0, lo, [], w, iv, 0, 0, []) = some [] → ee_Cx X (va_A ws sz) D dA ex as ee_me174.2.2.2.1 [(0, .ref 0)] [] ee_cwc1 ee_cic1 ns ws1 H1 lc1 ls1 [] := by
      intro F lo stk w iv r ws1 H1 lc1 ls1 vs1 C h
      have C2 := C.nos.mat (np := 37) (n0 := ns) (r := r) rfl hn0 h (stk' := []) trivial
      simp only [List.map_nil, List.append_nil] at C2
      exact C2.unf (by decide +kernel)
    have ret : ∀ {ns2 : List Int32} {ex2 : Nat → Nat} {k : Nat} {v : Option Value} {ws1 : va_W}, ee_all (ee_v ns2 as ex2) [.retAddr k] v.toList → ee_wr ns as ex dA ee_cwc1 ws1 → (∀ j, j < 2000 → ee_arf ws1 20 j = ee_arf ws 20 j) → ∃ z : Int32, v = some (.int z) ∧ ee_wr ns as ex dA ee_cwc1 ws1 ∧ ∀ j, j < 2000 → ee_arf ws1 20 j = ee_arf ws 20 j := by
      intro ns2 ex2 k v ws1 hv hw hf
      cases v with
      | none => exact hv.elim
      | some v =>
        obtain ⟨⟨z, -, rfl⟩, -⟩ := hv
        exact ⟨z, rfl, hw, hf⟩
    have loop : ∀ (m : Nat) (k n : Int32) (ws1 : va_W) (H1 : Heap) (lc1 : List Loc) (ls1 : Array Slot), k.toInt.toNat + m = c1.toInt.toNat → 0 ≤ k.toInt → ee_rw (ee_arf ws 20) k.toInt.toNat m n.toInt.toNat = some hh → 0 ≤ n.toInt → n.toInt ≤ 60 → ee_Cx X (va_A ws sz) D dA ex as ee_me174.2.2.2.1 [(0, .ref 0)] [] ee_cwc1 ee_cic1 ns ws1 H1 lc1 ls1 [] → (∃ lv, lv_has ls1 ee_me174.2.2.2.1 lv ∧ (1, Value.int n) ∈ lv) → (∃ lv, lv_has ls1 ee_me174.2.2.2.1 lv ∧ (2, Value.int k) ∈ lv) → (∀ j, j < 2000 → ee_arf ws1 20 j = ee_arf ws 20 j) → ee_Wg X D (va_A ws sz) (fun ws' v => ∃ z : Int32, v = some (.int z) ∧ ee_wr ns as ex dA ee_cwc1 ws' ∧ ∀ j, j < 2000 → ee_arf ws' 20 j = ee_arf ws 20 j) H1 lc1 12 ls1 [] := by
      intro m
      induction m with
      | zero =>
        intro k n ws1 H1 lc1 ls1 hk hk0 hrw hn1 hn2 C1 l1 l2 hf
        have hkc : k = c1 := ee_int_inj (by omega)
        have C2 := C1.ext (e := [n]) (iv' := ee_zc1z_s.2.2.2.2) (ee_ok.ext C1.1 rfl (L := [(37, 0, 60, [])]) (List.forall_mem_cons.mpr ⟨ee_tr.mk (ee_at0 hn0) hn1 hn2, fun _ h => by cases h⟩) (by decide +kernel))
        have C3 := (C2.frz (fun _ => ee_arf ws1 20) (by decide +kernel)).cell (i := 20) (ov' := [(1, .null), (1, .null)]) rfl (ee_mk2 (fun j hj => rfl))
        obtain ⟨v0, l0, e0⟩ := C3.getl (i := 0) rfl
        have C4 := ((C3.nol.addl l2 (x := .retAddr 36) ⟨_, ee_get_app (by rw [hkc]; exact vc1.sy), rfl⟩).addl l1 (x := .retAddr 37) ⟨_, ee_at0 hn0, rfl⟩).addl l0 e0
        refine ee_go (st := ee_zc1z_s) (x0 := ns ++ [n]) ee_Tbok ee_zc1zg hN0 ee_zc1z (by rw [List.length_append, hn0]; rfl) has hM (ee_exf.out hE) (fun t ht r ws2 H2 lc2 ls2 vs2 C5 => ?_) C4
        have ht := List.mem_singleton.mp ht
        subst ht
        have hq := ee_k2 (ee_arf.ok (i := 20) C5.2.2.2.1 rfl).2
        refine ee_fin hM (by decide +kernel) C5 (fun v hv => ret hv (fin (r := [n] ++ r) (by rw [← List.append_assoc]; exact C5) (by decide +kernel)).2.2.2.1 (fun j hj => ?_))
        rw [hq j hj]
        exact hf j hj
      | succ m ih =>
        intro k n ws1 H1 lc1 ls1 hk hk0 hrw hn1 hn2 C1 l1 l2 hf
        have hrs : ∃ n1, ee_rs (ee_arf ws 20 k.toInt.toNat) n.toInt.toNat = some n1 ∧ ee_rw (ee_arf ws 20) (k.toInt.toNat + 1) m n1 = some hh := by
          have hrw : (match ee_rs (ee_arf ws 20 k.toInt.toNat) n.toInt.toNat with
            | some h' => ee_rw (ee_arf ws 20) (k.toInt.toNat + 1) m h'
            | none => none) = some hh := hrw
          cases hs : ee_rs (ee_arf ws 20 k.toInt.toNat) n.toInt.toNat with
          | none => rw [hs] at hrw; cases hrw
          | some n1 => rw [hs] at hrw; exact ⟨n1, rfl, hrw⟩
        obtain ⟨n1, hs1, hs2⟩ := hrs
        rw [← hf k.toInt.toNat (by omega)] at hs1
        have ek : (k.toInt + ((1 : Nat) : Int) - 1).toNat = k.toInt.toNat := by omega
        have C2 := C1.ext (e := [k, n, ee_arf ws1 20 k.toInt.toNat]) (iv' := ee_zc1r_s.2.2.2.2) (ee_ok.ext C1.1 rfl (L := [(37, 0, 1119, []), (38, 0, 60, []), (39, -2147483648, 2147483647, [])]) (List.forall_mem_cons.mpr ⟨ee_tr.mk (ee_at0 hn0) hk0 (by omega), List.forall_mem_cons.mpr ⟨ee_tr.mk (ee_at1' hn0) hn1 hn2, List.forall_mem_cons.mpr ⟨ee_tr.mk (ee_at2 hn0) (ee_rng _).1 (ee_rng _).2, fun _ h => by cases h⟩⟩⟩) (by decide +kernel))
        have C3 := (C2.frz (fun _ => ee_arf ws1 20) (by decide +kernel)).cell (i := 20) (ov' := [(1, .null), (1, .null), (1, .retAddr 37), (0, .retAddr 39)]) rfl (ee_mk4 (p := k) ⟨_, ee_at0 hn0, rfl⟩ (by omega) (by rw [ek]; exact ⟨_, ee_at2 hn0, rfl⟩) (fun j hj => rfl))
        obtain ⟨v0, l0, e0⟩ := C3.getl (i := 0) rfl
        have C4 := ((C3.nol.addl l2 (x := .retAddr 37) ⟨_, ee_at0 hn0, rfl⟩).addl l1 (x := .retAddr 38) ⟨_, ee_at1' hn0, rfl⟩).addl l0 e0
        refine ee_go (st := ee_zc1r_s) (x0 := ns ++ [k, n, ee_arf ws1 20 k.toInt.toNat]) ee_Tbok ee_zc1rg hN0 ee_zc1r (by rw [List.length_append, hn0]; rfl) has hM (ee_exf.out hE) (fun t ht r ws2 H2 lc2 ls2 vs2 C5 => ?_) C4
        have hct : ∀ {ns2 : List Int32} {f2 : Nat → Int32}, ee_rq (ns ++ [k, n, ee_arf ws1 20 k.toInt.toNat] ++ ns2) as (ee_exf ex (fun _ => ee_arf ws1 20)) [(1, .null), (1, .null), (1, .retAddr 37), (0, .retAddr 39)] f2 → ∀ j, j < 2000 → f2 j = ee_arf ws1 20 j := by
          intro ns2 f2 hq j hj
          have h4 := ee_k4 hq (p := k) (q := ee_arf ws1 20 k.toInt.toNat) ⟨_, ee_get_app (ee_at0 hn0), rfl⟩ ⟨_, ee_get_app (ee_at2 hn0), rfl⟩
          rw [ek] at h4
          by_cases hj2 : j = k.toInt.toNat
          · rw [hj2]; exact h4.1
          · exact h4.2 j hj hj2
        rcases List.mem_cons.mp ht with rfl | ht
        · have hcf := hct (ee_arf.ok (i := 20) C5.2.2.2.1 rfl).2
          refine ee_fin hM (by decide +kernel) C5 (fun v hv => ret hv (fin (r := [k, n, ee_arf ws1 20 k.toInt.toNat] ++ r) (by rw [← List.append_assoc]; exact C5) (by decide +kernel)).2.2.2.1 (fun j hj => ?_))
          rw [hcf j hj]
          exact hf j hj
        · have ht := List.mem_singleton.mp ht
          subst ht
          have hr : r = [] := ee_nil C5.1 (by rw [List.length_append, hn0]; rfl)
          subst hr
          have hcf := hct (ee_arf.ok (i := 20) C5.2.2.2.1 rfl).2
          rw [List.append_nil] at C5
          have C6 := C5.cell (i := 20) (ov' := [(1, .null), (1, .null)]) rfl (ee_mk2 hcf)
          unfold ee_rs at hs1
          have xm : (126 : Int32).toInt = 126 := by decide
          by_cases x1 : ee_arf ws1 20 k.toInt.toNat = 126
          · rw [if_pos x1] at hs1
            by_cases x2 : 1 ≤ n.toInt.toNat
            · rw [if_pos x2] at hs1
              cases hs1
              have C7 := C6.chiv (iv' := ee_zc1ta_s.2.2.2.2) (ee_ok.ext (e := [k, n, ee_arf ws1 20 k.toInt.toNat]) C1.1 rfl (L := [(37, 0, 1119, []), (38, 1, 60, []), (39, 126, 126, [])]) (List.forall_mem_cons.mpr ⟨ee_tr.mk (ee_at0 hn0) hk0 (by omega), List.forall_mem_cons.mpr ⟨ee_tr.mk (z := n) (ee_at1' hn0) (by omega) (by omega), List.forall_mem_cons.mpr ⟨ee_tr.mk (z := ee_arf ws1 20 k.toInt.toNat) (ee_at2 hn0) (by rw [x1, xm]; omega) (by rw [x1, xm]; omega), fun _ h => by cases h⟩⟩⟩) (by decide +kernel))
              refine ee_go (st := ee_zc1ta_s) (x0 := ns ++ [k, n, ee_arf ws1 20 k.toInt.toNat]) ee_Tbok ee_zc1tag hN0 ee_zc1ta (by rw [List.length_append, hn0]; rfl) has hM (ee_exf.out hE) (fun t ht r ws3 H3 lc3 ls3 vs3 C8 => ?_) C7
              have ht := List.mem_singleton.mp ht
              subst ht
              have hq := ee_k2 (ee_arf.ok (i := 20) C8.2.2.2.1 rfl).2
              obtain ⟨u1, m1, g1⟩ := C8.getl (i := 1) (x := .retAddr 38) rfl
              obtain ⟨u2, m2, g2⟩ := C8.getl (i := 2) (x := .retAddr 40) rfl
              obtain ⟨z1, g1, rfl⟩ := g1
              obtain ⟨z2, g2, rfl⟩ := g2
              obtain ⟨z3, f1, f2, -, -⟩ := ee_fact (k := 40) C8.1 rfl (ee_get_app (ee_at0 hn0))
              rw [g2] at f1
              cases f1
              rw [ee_get_app (ee_at1' hn0)] at g1
              cases g1
              have hvs : vs3 = [] := by
                cases vs3 with
                | nil => rfl
                | cons _ _ => exact C8.2.2.1.elim
              subst hvs
              exact ih z2 n ws3 H3 lc3 ls3 (by omega) (by omega) (by rw [show z2.toInt.toNat = k.toInt.toNat + 1 by omega]; exact hs2) (by omega) (by omega) (fin (r := [k, n, ee_arf ws1 20 k.toInt.toNat] ++ r) (by rw [← List.append_assoc]; exact C8) (by decide +kernel)) m1 m2 (fun j hj => by rw [hq j hj]; exact hf j hj)
            · rw [if_neg x2] at hs1; cases hs1
          · have x0 : (ee_arf ws1 20 k.toInt.toNat).toInt ≠ 126 := fun e => x1 (ee_int_inj (e.trans xm.symm))
            rw [if_neg x1] at hs1
            by_cases x2 : 97 ≤ (ee_arf ws1 20 k.toInt.toNat).toInt ∧ (ee_arf ws1 20 k.toInt.toNat).toInt ≤ 122
            · rw [if_pos x2] at hs1
              by_cases x3 : n.toInt.toNat < 60
              · rw [if_pos x3] at hs1
                cases hs1
                have C7 := C6.chiv (iv' := ee_zc1tb_s.2.2.2.2) (ee_ok.ext (e := [k, n, ee_arf ws1 20 k.toInt.toNat]) C1.1 rfl (L := [(37, 0, 1119, []), (38, 0, 59, []), (39, 97, 122, [])]) (List.forall_mem_cons.mpr ⟨ee_tr.mk (ee_at0 hn0) hk0 (by omega), List.forall_mem_cons.mpr ⟨ee_tr.mk (z := n) (ee_at1' hn0) (by omega) (by omega), List.forall_mem_cons.mpr ⟨ee_tr.mk (z := ee_arf ws1 20 k.toInt.toNat) (ee_at2 hn0) (x2.1) (x2.2), fun _ h => by cases h⟩⟩⟩) (by decide +kernel))
                refine ee_go (st := ee_zc1tb_s) (x0 := ns ++ [k, n, ee_arf ws1 20 k.toInt.toNat]) ee_Tbok ee_zc1tbg hN0 ee_zc1tb (by rw [List.length_append, hn0]; rfl) has hM (ee_exf.out hE) (fun t ht r ws3 H3 lc3 ls3 vs3 C8 => ?_) C7
                have ht := List.mem_singleton.mp ht
                subst ht
                have hq := ee_k2 (ee_arf.ok (i := 20) C8.2.2.2.1 rfl).2
                obtain ⟨u1, m1, g1⟩ := C8.getl (i := 1) (x := .retAddr 40) rfl
                obtain ⟨u2, m2, g2⟩ := C8.getl (i := 2) (x := .retAddr 41) rfl
                obtain ⟨z1, g1, rfl⟩ := g1
                obtain ⟨z2, g2, rfl⟩ := g2
                obtain ⟨z3, f1, f2, -, -⟩ := ee_fact (k := 41) C8.1 rfl (ee_get_app (ee_at0 hn0))
                rw [g2] at f1
                cases f1
                obtain ⟨z4, f3, f4, -, -⟩ := ee_fact (k := 40) C8.1 rfl (ee_get_app (ee_at1' hn0))
                rw [g1] at f3
                cases f3
                have hvs : vs3 = [] := by
                  cases vs3 with
                  | nil => rfl
                  | cons _ _ => exact C8.2.2.1.elim
                subst hvs
                exact ih z2 z1 ws3 H3 lc3 ls3 (by omega) (by omega) (by rw [show z2.toInt.toNat = k.toInt.toNat + 1 by omega, show z1.toInt.toNat = n.toInt.toNat + 1 by omega]; exact hs2) (by omega) (by omega) (fin (r := [k, n, ee_arf ws1 20 k.toInt.toNat] ++ r) (by rw [← List.append_assoc]; exact C8) (by decide +kernel)) m1 m2 (fun j hj => by rw [hq j hj]; exact hf j hj)
              · rw [if_neg x3] at hs1; cases hs1
            · rw [if_neg x2] at hs1
              by_cases x3 : 2 ≤ n.toInt.toNat
              · rw [if_pos x3] at hs1
                cases hs1
                by_cases x4 : (ee_arf ws1 20 k.toInt.toNat).toInt ≤ 96
                · have C7 := C6.chiv (iv' := ee_zc1tc_s.2.2.2.2) (ee_ok.ext (e := [k, n, ee_arf ws1 20 k.toInt.toNat]) C1.1 rfl (L := [(37, 0, 1119, []), (38, 2, 60, []), (39, -2147483648, 96, [])]) (List.forall_mem_cons.mpr ⟨ee_tr.mk (ee_at0 hn0) hk0 (by omega), List.forall_mem_cons.mpr ⟨ee_tr.mk (z := n) (ee_at1' hn0) (by omega) (by omega), List.forall_mem_cons.mpr ⟨ee_tr.mk (z := ee_arf ws1 20 k.toInt.toNat) (ee_at2 hn0) ((ee_rng _).1) (x4), fun _ h => by cases h⟩⟩⟩) (by decide +kernel))
                  refine ee_go (st := ee_zc1tc_s) (x0 := ns ++ [k, n, ee_arf ws1 20 k.toInt.toNat]) ee_Tbok ee_zc1tcg hN0 ee_zc1tc (by rw [List.length_append, hn0]; rfl) has hM (ee_exf.out hE) (fun t ht r ws3 H3 lc3 ls3 vs3 C8 => ?_) C7
                  have ht := List.mem_singleton.mp ht
                  subst ht
                  have hq := ee_k2 (ee_arf.ok (i := 20) C8.2.2.2.1 rfl).2
                  obtain ⟨u1, m1, g1⟩ := C8.getl (i := 1) (x := .retAddr 40) rfl
                  obtain ⟨u2, m2, g2⟩ := C8.getl (i := 2) (x := .retAddr 41) rfl
                  obtain ⟨z1, g1, rfl⟩ := g1
                  obtain ⟨z2, g2, rfl⟩ := g2
                  obtain ⟨z3, f1, f2, -, -⟩ := ee_fact (k := 41) C8.1 rfl (ee_get_app (ee_at0 hn0))
                  rw [g2] at f1
                  cases f1
                  obtain ⟨z4, f3, f4, -, -⟩ := ee_fact (k := 40) C8.1 rfl (ee_get_app (ee_at1' hn0))
                  rw [g1] at f3
                  cases f3
                  have hvs : vs3 = [] := by
                    cases vs3 with
                    | nil => rfl
                    | cons _ _ => exact C8.2.2.1.elim
                  subst hvs
                  exact ih z2 z1 ws3 H3 lc3 ls3 (by omega) (by omega) (by rw [show z2.toInt.toNat = k.toInt.toNat + 1 by omega, show z1.toInt.toNat = n.toInt.toNat - 1 by omega]; exact hs2) (by omega) (by omega) (fin (r := [k, n, ee_arf ws1 20 k.toInt.toNat] ++ r) (by rw [← List.append_assoc]; exact C8) (by decide +kernel)) m1 m2 (fun j hj => by rw [hq j hj]; exact hf j hj)
                · by_cases x5 : (ee_arf ws1 20 k.toInt.toNat).toInt ≤ 125
                  · have C7 := C6.chiv (iv' := ee_zc1td_s.2.2.2.2) (ee_ok.ext (e := [k, n, ee_arf ws1 20 k.toInt.toNat]) C1.1 rfl (L := [(37, 0, 1119, []), (38, 2, 60, []), (39, 123, 125, [])]) (List.forall_mem_cons.mpr ⟨ee_tr.mk (ee_at0 hn0) hk0 (by omega), List.forall_mem_cons.mpr ⟨ee_tr.mk (z := n) (ee_at1' hn0) (by omega) (by omega), List.forall_mem_cons.mpr ⟨ee_tr.mk (z := ee_arf ws1 20 k.toInt.toNat) (ee_at2 hn0) (by omega) (by omega), fun _ h => by cases h⟩⟩⟩) (by decide +kernel))
                    refine ee_go (st := ee_zc1td_s) (x0 := ns ++ [k, n, ee_arf ws1 20 k.toInt.toNat]) ee_Tbok ee_zc1tdg hN0 ee_zc1td (by rw [List.length_append, hn0]; rfl) has hM (ee_exf.out hE) (fun t ht r ws3 H3 lc3 ls3 vs3 C8 => ?_) C7
                    have ht := List.mem_singleton.mp ht
                    subst ht
                    have hq := ee_k2 (ee_arf.ok (i := 20) C8.2.2.2.1 rfl).2
                    obtain ⟨u1, m1, g1⟩ := C8.getl (i := 1) (x := .retAddr 40) rfl
                    obtain ⟨u2, m2, g2⟩ := C8.getl (i := 2) (x := .retAddr 41) rfl
                    obtain ⟨z1, g1, rfl⟩ := g1
                    obtain ⟨z2, g2, rfl⟩ := g2
                    obtain ⟨z3, f1, f2, -, -⟩ := ee_fact (k := 41) C8.1 rfl (ee_get_app (ee_at0 hn0))
                    rw [g2] at f1
                    cases f1
                    obtain ⟨z4, f3, f4, -, -⟩ := ee_fact (k := 40) C8.1 rfl (ee_get_app (ee_at1' hn0))
                    rw [g1] at f3
                    cases f3
                    have hvs : vs3 = [] := by
                      cases vs3 with
                      | nil => rfl
                      | cons _ _ => exact C8.2.2.1.elim
                    subst hvs
                    exact ih z2 z1 ws3 H3 lc3 ls3 (by omega) (by omega) (by rw [show z2.toInt.toNat = k.toInt.toNat + 1 by omega, show z1.toInt.toNat = n.toInt.toNat - 1 by omega]; exact hs2) (by omega) (by omega) (fin (r := [k, n, ee_arf ws1 20 k.toInt.toNat] ++ r) (by rw [← List.append_assoc]; exact C8) (by decide +kernel)) m1 m2 (fun j hj => by rw [hq j hj]; exact hf j hj)
                  · have C7 := C6.chiv (iv' := ee_zc1te_s.2.2.2.2) (ee_ok.ext (e := [k, n, ee_arf ws1 20 k.toInt.toNat]) C1.1 rfl (L := [(37, 0, 1119, []), (38, 2, 60, []), (39, 127, 2147483647, [])]) (List.forall_mem_cons.mpr ⟨ee_tr.mk (ee_at0 hn0) hk0 (by omega), List.forall_mem_cons.mpr ⟨ee_tr.mk (z := n) (ee_at1' hn0) (by omega) (by omega), List.forall_mem_cons.mpr ⟨ee_tr.mk (z := ee_arf ws1 20 k.toInt.toNat) (ee_at2 hn0) (by omega) ((ee_rng _).2), fun _ h => by cases h⟩⟩⟩) (by decide +kernel))
                    refine ee_go (st := ee_zc1te_s) (x0 := ns ++ [k, n, ee_arf ws1 20 k.toInt.toNat]) ee_Tbok ee_zc1teg hN0 ee_zc1te (by rw [List.length_append, hn0]; rfl) has hM (ee_exf.out hE) (fun t ht r ws3 H3 lc3 ls3 vs3 C8 => ?_) C7
                    have ht := List.mem_singleton.mp ht
                    subst ht
                    have hq := ee_k2 (ee_arf.ok (i := 20) C8.2.2.2.1 rfl).2
                    obtain ⟨u1, m1, g1⟩ := C8.getl (i := 1) (x := .retAddr 40) rfl
                    obtain ⟨u2, m2, g2⟩ := C8.getl (i := 2) (x := .retAddr 41) rfl
                    obtain ⟨z1, g1, rfl⟩ := g1
                    obtain ⟨z2, g2, rfl⟩ := g2
                    obtain ⟨z3, f1, f2, -, -⟩ := ee_fact (k := 41) C8.1 rfl (ee_get_app (ee_at0 hn0))
                    rw [g2] at f1
                    cases f1
                    obtain ⟨z4, f3, f4, -, -⟩ := ee_fact (k := 40) C8.1 rfl (ee_get_app (ee_at1' hn0))
                    rw [g1] at f3
                    cases f3
                    have hvs : vs3 = [] := by
                      cases vs3 with
                      | nil => rfl
                      | cons _ _ => exact C8.2.2.1.elim
                    subst hvs
                    exact ih z2 z1 ws3 H3 lc3 ls3 (by omega) (by omega) (by rw [show z2.toInt.toNat = k.toInt.toNat + 1 by omega, show z1.toInt.toNat = n.toInt.toNat - 1 by omega]; exact hs2) (by omega) (by omega) (fin (r := [k, n, ee_arf ws1 20 k.toInt.toNat] ++ r) (by rw [← List.append_assoc]; exact C8) (by decide +kernel)) m1 m2 (fun j hj => by rw [hq j hj]; exact hf j hj)
              · rw [if_neg x3] at hs1; cases hs1
    refine ee_go (st := ee_zc1s_s) (x0 := ns) ee_Tbok ee_zc1sg hN0 ee_zc1s hn0.symm has hM (ee_exf.out hE) (fun t ht r ws2 H2 lc2 ls2 vs2 C5 => ?_) ((C.frz (fun _ => ee_arf ws 20) (by decide +kernel)).cell (i := 20) (ov' := [(1, .null), (1, .null)]) rfl (ee_mk2 (fun j hj => rfl)))
    have ht := List.mem_singleton.mp ht
    subst ht
    have hq := ee_k2 (ee_arf.ok (i := 20) C5.2.2.2.1 rfl).2
    obtain ⟨u1, l1, g1⟩ := C5.getl (i := 1) (x := .int 0) rfl
    obtain ⟨u2, l2, g2⟩ := C5.getl (i := 2) (x := .retAddr 34) rfl
    have g1 : u1 = .int 0 := g1
    subst g1
    obtain ⟨z2, g2, rfl⟩ := g2
    rw [ee_get_app va1.sy] at g2
    cases g2
    have hvs : vs2 = [] := by
      cases vs2 with
      | nil => rfl
      | cons _ _ => exact C5.2.2.1.elim
    subst hvs
    exact loop (c1.toInt - a1.toInt).toNat a1 0 ws2 H2 lc2 ls2 (by omega) r1 r4 (by decide) (by decide) (fin C5 (by decide +kernel)) l1 l2 hq
  · obtain ⟨⟨ws', v, rfl, ⟨z, rfl, hw', hf'⟩, hP', hD'⟩, hF⟩ := q
    refine ⟨⟨_, List.mem_cons_self, [z], ws', some (.int z), rfl, ⟨⟨z, ee_at0 hn0, rfl⟩, trivial⟩, ee_okS h1 (ee_rng z).1 (ee_rng z).2, ?_, hP', hD'⟩, hF⟩
    exact ee_wr.cell (i := 20) (w := ee_cwc1) (hw'.mono [z]) rfl (ee_rq.swap rfl (by simpa using hrq.mono [z] []) hf')
