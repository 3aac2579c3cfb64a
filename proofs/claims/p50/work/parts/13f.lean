/-! behind a call of one's own contract: the cells in the caller's numbers -/
theorem ee_bkC {X : ee_cx} {A : Nat → Prop} {D : va_G} {dA : Nat → ClassId} {ex : Nat → Nat} {as : List Nat} {nL : Nat} {iv : ee_iv} {ns u t : List Int32} {w tw : ee_w} {tiv : ee_iv} {ws ws3 : va_W} {H H1 : Heap} {lc lc1 : List Loc} {ls : Array Slot} {vs : List Value} {stk : List Value} {σ : List Value} (C : ee_Cx X A D dA ex as nL [(0, .ref 0)] stk w iv ns ws H lc ls vs) (hns : ∃ r, ns = u ++ r) (hu : u.length = 34) (has : as.length = 40) (hσ : σ.all (fun v => (ee_it iv v).isSome) = true) (h1 : ee_ok (σ.map (ee_vl ns) ++ t) tiv) (h2 : ee_wr (σ.map (ee_vl ns) ++ t) as ex dA tw ws3) (hP : va_P D vwCl ws3 H1) (hD : va_D A ws3) (hS : va_S A X.2.2.2.2.1.heap H1 lc1)
    (h : (ee_mat 34 40 [(0, .ref 0)] [] tw tiv (0, [(0, .ref 0)], [], tw.map (ee_sc σ (List.range 40) iv.1), ee_si σ iv tiv, 0, 0, [])).isSome = true) : ∃ t', ee_Cx X A D dA ex as nL [(0, .ref 0)] [] tw tiv (u ++ t') ws3 H1 lc1 ls [] := by
  obtain ⟨r, hr⟩ := hns
  obtain ⟨c1, ⟨lv, c3, c3l⟩, c4, c6w, -⟩ := C
  have ha : ee_aT as (List.range 40) = as := ee_range_aT has
  have hg : ee_gd ns as ex σ (List.range 40) := ⟨fun v hv => by
    obtain ⟨q, hq⟩ := Option.isSome_iff_exists.mp (List.all_eq_true.mp hσ v hv)
    exact ee_it.ex c1 hq, fun j hj => by
    have := List.mem_range.mp hj
    exact ⟨Nat.lt_trans this (by decide), by rw [has]; exact this⟩⟩
  have w2 : ee_wr (ns ++ t) as ex dA (tw.map (ee_sc σ (List.range 40) iv.1)) ws3 := by
    refine ⟨h2.1, ?_⟩
    rw [c1.1]
    refine ee_all.map2 (R := fun (x : ee_cell) (q : Nat × va_E) => ee_c (σ.map (ee_vl ns) ++ t) as ex dA x q.2) (fun x q g => ?_) h2.2
    have g : ee_c (σ.map (ee_vl ns) ++ t) (ee_aT as (List.range 40)) ex dA x q.2 := by rw [ha]; exact g
    exact ee_sc.ok hg g
  have k2 : ee_ok (ns ++ t) (ee_si σ iv tiv) := ee_si.ok (ρ := List.range 40) hg c1 h1
  obtain ⟨σ2, hσ2⟩ := Option.isSome_iff_exists.mp h
  have C7 : ee_Cx X A D dA ex as nL [(0, .ref 0)] [] (tw.map (ee_sc σ (List.range 40) iv.1)) (ee_si σ iv tiv) (ns ++ t) ws3 H1 lc1 ls [] :=
    ⟨k2, ⟨lv, c3, c3l.imp (fun a b q => ⟨q.1, by simpa using ee_v.mono t [] q.2⟩)⟩, trivial, w2, hP, hD, hS⟩
  exact ⟨_, C7.mat (n0 := u) (r := r ++ t) (by rw [hr, List.append_assoc]) hu hσ2 (stk' := []) trivial⟩
def ee_PE (b : Nat) (lw : ee_w) (li : ee_iv) (bw : ee_w) (bi : ee_iv) (u : List Int32) (as : List Nat) (ex : Nat → Nat) (dA : Nat → ClassId) (c0 : Nat → Int32) (ws : va_W) (v : Option Value) : Prop :=
  v = none ∧ (((∃ t, ee_ok (u ++ t) bi ∧ ee_wr (u ++ t) as ex dA bw ws) ∧ ee_EU b c0 (ee_fld ws 35).toInt (ee_arf ws 20)) ∨ ((∃ t, ee_ok (u ++ t) li ∧ ee_wr (u ++ t) as ex dA lw ws) ∧ ee_ED b c0 ws))
theorem ee_v0 {ns : List Int32} {as : List Nat} {ex : Nat → Nat} {v : Option Value} (h : ee_all (ee_v ns as ex) [] v.toList) : v = none := by
  cases v with
  | none => rfl
  | some v => exact h.elim
def ee_mz (wn : Bool) (ws : va_W) : Int := 60 * (31 - (ee_fld ws 38).toInt) + (if wn = true then 8 - (ee_fld ws 36).toInt else 9 + (ee_fld ws 37).toInt)
