/-! the contracts of e -/
theorem ee_c.t04 {ns : List Int32} {as : List Nat} {ex : Nat → Nat} {dA : Nat → ClassId} {n : Nat} {e : va_E} (h : ee_c ns as ex dA (.inr (0, n, 0, [], [])) e) : ee_c ns as ex dA (.inr (4, n, 0, [], [])) e := by
  obtain ⟨f, rfl, -⟩ := h.ints (by decide)
  exact ee_c.mkc trivial
theorem ee_c.t40 {ns : List Int32} {as : List Nat} {ex : Nat → Nat} {dA : Nat → ClassId} {n : Nat} {e : va_E} (h : ee_c ns as ex dA (.inr (4, n, 0, [], [])) e) : ee_c ns as ex dA (.inr (0, n, 0, [], [])) e := by
  obtain ⟨f, rfl, -⟩ := h.cod
  exact ee_c.mk (by decide) (fun j hj => trivial)
theorem ee_wr.t04 {ns : List Int32} {as : List Nat} {ex : Nat → Nat} {dA : Nat → ClassId} {w : ee_w} {ws : va_W} {i n : Nat} (h : ee_wr ns as ex dA w ws) (hi : w[i]? = some (.inr (0, n, 0, [], []))) : ee_wr ns as ex dA (w.set i (.inr (4, n, 0, [], []))) ws := by
  obtain ⟨⟨a, e⟩, g1, g2⟩ := h.2.get hi
  exact h.same g1 (ee_c.t04 g2)
theorem ee_wr.t40 {ns : List Int32} {as : List Nat} {ex : Nat → Nat} {dA : Nat → ClassId} {w : ee_w} {ws : va_W} {i n : Nat} (h : ee_wr ns as ex dA w ws) (hi : w[i]? = some (.inr (4, n, 0, [], []))) : ee_wr ns as ex dA (w.set i (.inr (0, n, 0, [], []))) ws := by
  obtain ⟨⟨a, e⟩, g1, g2⟩ := h.2.get hi
  exact h.same g1 (ee_c.t40 g2)
/-- another pattern for the same cells -/
theorem ee_wr.mat {ns : List Int32} {as : List Nat} {ex : Nat → Nat} {dA : Nat → ClassId} {w : ee_w} {ws : va_W} {iv : ee_iv} {tw : ee_w} {tiv : ee_iv} {n np : Nat} {n0 r : List Int32} {σ : List Value} (c1 : ee_ok ns iv) (c6w : ee_wr ns as ex dA w ws) (hns : ns = n0 ++ r) (hl : n0.length = np) (h : ee_mat np n [] [] tw tiv (0, [], [], w, iv, 0, 0, []) = some σ) : ee_ok (n0 ++ σ.map (ee_vl ns)) tiv ∧ ee_wr (n0 ++ σ.map (ee_vl ns)) as ex dA tw ws := by
  have hn : np ≤ ns.length := by rw [hns, List.length_append, hl]; omega
  have hnT : ∀ s : List Value, ee_nT np ns s = n0 ++ s.map (ee_vl ns) := fun s => ee_prefix hns hl
  unfold ee_mat at h
  simp only [ee_mlo] at h
  cases h1 : ee_ms np iv [] [] ([], List.range n) with
  | none => rw [h1] at h; cases h
  | some m1 =>
    rw [h1] at h
    simp only at h
    cases h2 : ee_mw np iv w tw 0 m1 with
    | none => rw [h2] at h; cases h
    | some m2 =>
      rw [h2] at h
      simp only at h
      by_cases hc : (decide (m2.2.length = n) && (decide (n = tw.length) && (decide (n = w.length) && ee_pk np m2.1 iv tiv))) = true
      · rw [if_pos hc] at h
        cases h
        obtain ⟨z1, z2⟩ := ee_and hc
        obtain ⟨z2, z3⟩ := ee_and z2
        obtain ⟨z3, z4⟩ := ee_and z3
        have z1 := of_decide_eq_true z1
        have z2 := of_decide_eq_true z2
        have z3 := of_decide_eq_true z3
        have hal : as.length = n := by rw [c6w.len]; exact z3.symm
        have hwl : ws.length = n := by rw [← hal, c6w.1, List.length_map]
        obtain ⟨g4, -⟩ := ee_ms.ok (as := as) (ex := ex) c1 hn h1
        obtain ⟨g6, -, -⟩ := ee_mw.ok (as := as) (ex := ex) c1 hn c6w h2
        have hm2 : m2.2 = List.range n := by
          obtain ⟨s1, r1, e1⟩ := g4.tr g6
          have e2 : m2.2 = List.range n ++ r1 := by rw [e1]
          rw [e2, List.length_append, List.length_range] at z1
          have : r1 = [] := List.length_eq_zero_iff.mp (by omega)
          rw [e2, this, List.append_nil]
        obtain ⟨g7, -⟩ := ee_mw.all c1 hn c6w h2 (ee_ml.rf m2) (by rw [z1]; exact z2)
        have ea : ee_aT as m2.2 = as := by rw [hm2]; exact ee_range_aT hal
        have ew : ee_wT ws m2.2 = ws := by rw [hm2]; exact ee_range_wT hwl
        rw [ea, ew, hnT] at g7
        have z5 := ee_pk.ok c1 hn z4
        rw [hnT] at z5
        exact ⟨z5, g7⟩
      · rw [if_neg hc] at h; cases h
/-- the cells in the caller's numbers -/
theorem ee_wr.sub {as : List Nat} {ex : Nat → Nat} {dA : Nat → ClassId} {iv : ee_iv} {ns t : List Int32} {tw : ee_w} {tiv : ee_iv} {ws : va_W} {σ : List Value} (c1 : ee_ok ns iv) (has : as.length = 40) (hσ : σ.all (fun v => (ee_it iv v).isSome) = true) (h1 : ee_ok (σ.map (ee_vl ns) ++ t) tiv) (h2 : ee_wr (σ.map (ee_vl ns) ++ t) as ex dA tw ws) : ee_ok (ns ++ t) (ee_si σ iv tiv) ∧ ee_wr (ns ++ t) as ex dA (tw.map (ee_sc σ (List.range 40) iv.1)) ws := by
  have ha : ee_aT as (List.range 40) = as := ee_range_aT has
  have hg : ee_gd ns as ex σ (List.range 40) := ⟨fun v hv => by
    obtain ⟨q, hq⟩ := Option.isSome_iff_exists.mp (List.all_eq_true.mp hσ v hv)
    exact ee_it.ex c1 hq, fun j hj => by
    have := List.mem_range.mp hj
    exact ⟨Nat.lt_trans this (by decide), by rw [has]; exact this⟩⟩
  refine ⟨ee_si.ok (ρ := List.range 40) hg c1 h1, h2.1, ?_⟩
  rw [c1.1]
  refine ee_all.map2 (R := fun (x : ee_cell) (q : Nat × va_E) => ee_c (σ.map (ee_vl ns) ++ t) as ex dA x q.2) (fun x q g => ?_) h2.2
  have g : ee_c (σ.map (ee_vl ns) ++ t) (ee_aT as (List.range 40)) ex dA x q.2 := by rw [ha]; exact g
  exact ee_sc.ok hg g
theorem ee_oknr {ns : List Int32} {iv : ee_iv} {k : Nat} {z : Int32} {a b : Int} (h : ee_ok ns iv) (hk : ns[k]? = some z) (h1 : a ≤ z.toInt) (h2 : z.toInt ≤ b) : ee_ok ns (iv.1, (k, a, b, []) :: iv.2) := by
  refine ⟨h.1, fun q hq => ?_⟩
  rcases List.mem_cons.mp hq with rfl | hq
  · exact ee_tr.mk hk h1 h2
  · exact h.2 q hq
