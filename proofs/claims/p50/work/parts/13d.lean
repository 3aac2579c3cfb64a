/-! e and behindUnit: what they have in common -/
def ee_EW (b : Nat) (wn : Bool) (c0 : Nat → Int32) (ws : va_W) : Prop := ee_EI b wn c0 (ee_fld ws 37).toInt (ee_fld ws 35).toInt (ee_fld ws 38).toInt (ee_fld ws 36).toInt (ee_arf ws 22) (ee_arf ws 23) (ee_arf ws 20)
def ee_ED (b : Nat) (c0 : Nat → Int32) (ws : va_W) : Prop := (ee_fld ws 37).toInt = 0 ∧ ee_EU b c0 (ee_fld ws 35).toInt (ee_arf ws 20) ∧ ∃ h, ee_rw (ee_arf ws 20) (560 * b) ((ee_fld ws 35).toInt - 560 * (b : Int)).toNat 0 = some h
def ee_F3 (ws : va_W) : Nat → Nat → Int32 := fun i => if i = 1 then ee_arf ws 20 else if i = 2 then ee_arf ws 22 else ee_arf ws 23
theorem ee_EI.cong {b : Nat} {wn : Bool} {c0 : Nat → Int32} {P C U wi : Int} {w g c w' g' c' : Nat → Int32} (h : ee_EI b wn c0 P C U wi w g c) (hb : b ≤ 1) (hw : ∀ j, j < 2000 → w' j = w j) (hg : ∀ j, j < 2000 → g' j = g j) (hc : ∀ j, j < 2000 → c' j = c j) : ee_EI b wn c0 P C U wi w' g' c' := by
  have hB := h.bnd
  obtain ⟨⟨p1, p2, p3, p4⟩, q, ⟨hh, r1, r3⟩, s⟩ := h
  refine ⟨⟨p1, by rw [hw 0 (by omega)]; exact p2, by rw [ee_c37.cong (w := w) (fun j hj => hw j (by omega))]; exact p3, p4⟩, q, ⟨hh, by rw [ee_bn.cong (w := g) (fun j hj => hg j (by omega))]; exact r1, ?_⟩, fun j hj hr => by rw [hc j hj]; exact s j hj hr⟩
  rw [ee_rw.cong (f := c) (fun j j1 j2 => hc j (by omega))]
  exact r3
theorem ee_EU.cong {b : Nat} {c0 : Nat → Int32} {C : Int} {c c' : Nat → Int32} (h : ee_EU b c0 C c) (hc : ∀ j, j < 2000 → c' j = c j) : ee_EU b c0 C c' := ⟨h.1, h.2.1, fun j hj hr => by rw [hc j hj]; exact h.2.2 j hj hr⟩
theorem ee_fsame {ns r : List Int32} {as : List Nat} {ex1 ex2 : Nat → Nat} {dA : Nat → ClassId} {w1 w2 : ee_w} {ws1 ws2 : va_W} {ci1 ci2 k j : Nat} {fs1 fs2 : List Value} (h1 : ee_wr ns as ex1 dA w1 ws1) (h2 : ee_wr (ns ++ r) as ex2 dA w2 ws2) (a1 : w1[0]? = some (.inl (ci1, fs1))) (b1 : fs1[k]? = some (.retAddr j)) (a2 : w2[0]? = some (.inl (ci2, fs2))) (b2 : fs2[k]? = some (.retAddr j)) : ee_fld ws2 k = ee_fld ws1 k := by
  have g1 := ee_get_app (r := r) (ee_fld.sym h1 a1 b1)
  have g2 := ee_fld.sym h2 a2 b2
  rw [g1] at g2
  exact (Option.some.inj g2).symm
theorem ee_ffact {ns r : List Int32} {as : List Nat} {ex1 ex2 : Nat → Nat} {dA : Nat → ClassId} {w1 w2 : ee_w} {ws1 ws2 : va_W} {iv : ee_iv} {ci1 ci2 k j i : Nat} {fs1 fs2 : List Value} {lo hi d : Int} (h1 : ee_wr ns as ex1 dA w1 ws1) (h2 : ee_wr (ns ++ r) as ex2 dA w2 ws2) (hok : ee_ok (ns ++ r) iv) (a1 : w1[0]? = some (.inl (ci1, fs1))) (b1 : fs1[k]? = some (.retAddr j)) (a2 : w2[0]? = some (.inl (ci2, fs2))) (b2 : fs2[k]? = some (.retAddr i)) (hq : ee_at1 iv i = some (i, lo, hi, [(0, j, d)])) : (ee_fld ws2 k).toInt = (ee_fld ws1 k).toInt + d ∧ lo ≤ (ee_fld ws2 k).toInt ∧ (ee_fld ws2 k).toInt ≤ hi := by
  obtain ⟨z, z1, z2, z3, z4⟩ := ee_fact hok hq (ee_get_app (ee_fld.sym h1 a1 b1))
  have g2 := ee_fld.sym h2 a2 b2
  rw [z1] at g2
  rw [← Option.some.inj g2]
  exact ⟨z2, z3, z4⟩
theorem ee_k4s {ns : List Int32} {as : List Nat} {ex : Nat → Nat} {F : Nat → Nat → Int32} {i i1 i3 d : Nat} {x y u v : Value} {f : Nat → Int32} {p : Int32} (h : ee_rq ns as (ee_exf ex F) [(i, x), (i1, y), (d, u), (i3, v)] f) (hp : ee_v ns as (ee_exf ex F) u (.int p)) (hq : ee_v ns as (ee_exf ex F) v (.int (F i (p.toInt + (d : Int) - 1).toNat))) : ∀ j, j < 2000 → f j = F i j := fun j hj => by
  have h4 := ee_k4 h hp hq
  by_cases hj2 : j = (p.toInt + (d : Int) - 1).toNat
  · rw [hj2]; exact h4.1
  · exact h4.2 j hj hj2
theorem ee_Cx.restk {X : ee_cx} {A : Nat → Prop} {D : va_G} {dA : Nat → ClassId} {ex : Nat → Nat} {as : List Nat} {nL : Nat} {lo : List (Nat × Value)} {stk : List Value} {w : ee_w} {iv : ee_iv} {ns : List Int32} {ws : va_W} {H : Heap} {lc : List Loc} {ls : Array Slot} {vs : List Value} (C : ee_Cx X A D dA ex as nL lo stk w iv ns ws H lc ls vs) {stk' vs' : List Value} (h : ee_all (ee_v ns as ex) stk' vs') : ee_Cx X A D dA ex as nL lo stk' w iv ns ws H lc ls vs' := by
  obtain ⟨c1, c2, -, c⟩ := C
  exact ⟨c1, c2, h, c⟩
theorem ee_toP {X : ee_cx} {A : Nat → Prop} {D : va_G} {dA : Nat → ClassId} {ex : Nat → Nat} {as : List Nat} {nL : Nat} {lo : List (Nat × Value)} {stk : List Value} {w : ee_w} {iv : ee_iv} {ns : List Int32} {ws : va_W} {H : Heap} {lc : List Loc} {ls : Array Slot} {vs : List Value} {F : Nat → Nat → Int32} {u : List Int32} {tw : ee_w} {tiv : ee_iv} (hu : u.length = 34) (hns : ∃ r, ns = u ++ r) (C : ee_Cx X A D dA (ee_exf ex F) as nL lo stk w iv ns ws H lc ls vs) (hn : ee_nfl [(0, .ref 0)] [] tw = true) (h : (ee_mat 34 40 [(0, .ref 0)] [] tw tiv (0, lo, [], w, iv, 0, 0, [])).isSome = true) : ∃ t, ee_Cx X A D dA ex as nL [(0, .ref 0)] [] tw tiv (u ++ t) ws H lc ls [] := by
  obtain ⟨r, hr⟩ := hns
  obtain ⟨σ, hσ⟩ := Option.isSome_iff_exists.mp h
  exact ⟨_, (C.nos.mat hr hu hσ (stk' := []) trivial).unf hn⟩
theorem ee_vs0 {ns : List Int32} {as : List Nat} {ex : Nat → Nat} {vs : List Value} (h : ee_all (ee_v ns as ex) [] vs) : vs = [] := by
  cases vs with
  | nil => rfl
  | cons _ _ => exact h.elim
theorem ee_v1 {ns : List Int32} {as : List Nat} {ex : Nat → Nat} {c : Int32} {v : Option Value} (h : ee_all (ee_v ns as ex) [.int c] v.toList) : v = some (.int c) := by
  cases v with
  | none => exact h.elim
  | some v => rw [show v = .int c from h.1]
def ee_PB (b : Nat) (lw : ee_w) (li : ee_iv) (bw : ee_w) (bi : ee_iv) (u : List Int32) (as : List Nat) (ex : Nat → Nat) (dA : Nat → ClassId) (c0 : Nat → Int32) (P0 U0 : Int) (ws : va_W) (v : Option Value) : Prop :=
  (∃ z : Int32, v = some (.int z) ∧ 0 ≤ z.toInt ∧ z.toInt ≤ 1 ∧ (∃ t, ee_ok (u ++ t) bi ∧ ee_wr (u ++ t) as ex dA bw ws) ∧ ee_EU b c0 (ee_fld ws 35).toInt (ee_arf ws 20)) ∨
  ((∃ t, ee_ok (u ++ t) li ∧ ee_wr (u ++ t) as ex dA lw ws) ∧ (ee_fld ws 38).toInt = U0 ∧ ((v = some (.int 1) ∧ ee_EW b true c0 ws) ∨ (v = some (.int 0) ∧ (ee_fld ws 37).toInt < P0 ∧ (ee_EW b false c0 ws ∨ ee_ED b c0 ws))))
