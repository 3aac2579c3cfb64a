/-! what a contract's end says, in the caller's words -/
def ee_sx (σ : List Value) (ρ : List Nat) (n0 : Nat) (x : Value) : Value := match x with
  | .retAddr k => if k < σ.length then σ.getD k .null else .retAddr (n0 + (k - σ.length))
  | .ref k => if k < 1000000 then .ref (ρ.getD k 0) else .ref k
  | x => x
/-- the matched values are numbers, the matched cells are there -/
def ee_gd (ns : List Int32) (as : List Nat) (ex : Nat → Nat) (σ : List Value) (ρ : List Nat) : Prop := (∀ v ∈ σ, ∃ z, ee_v ns as ex v (.int z)) ∧ ∀ j ∈ ρ, j < 1000000 ∧ j < as.length
theorem ee_sx.num {ns : List Int32} {as : List Nat} {ex : Nat → Nat} {σ : List Value} {ρ : List Nat} {r : List Int32} {k : Nat} {z : Int32} (hg : ee_gd ns as ex σ ρ) (h : (σ.map (ee_vl ns) ++ r)[k]? = some z) : ee_v (ns ++ r) as ex (ee_sx σ ρ ns.length (.retAddr k)) (.int z) := by
  show ee_v (ns ++ r) as ex (if k < σ.length then σ.getD k .null else .retAddr (ns.length + (k - σ.length))) (.int z)
  by_cases hk : k < σ.length
  · rw [if_pos hk]
    rw [List.getElem?_append_left (by rw [List.length_map]; exact hk), List.getElem?_map, List.getElem?_eq_getElem hk] at h
    rw [List.getD_eq_getElem?_getD, List.getElem?_eq_getElem hk]
    obtain ⟨y, hy⟩ := hg.1 σ[k] (List.getElem_mem hk)
    have h : some (ee_vl ns σ[k]) = some z := h
    rw [ee_vl.ok hy] at h
    have e : y = z := Option.some.inj h
    rw [← e]
    show ee_v (ns ++ r) as ex σ[k] (.int y)
    simpa using hy.mono r []
  · rw [if_neg hk]
    rw [List.getElem?_append_right (by rw [List.length_map]; omega), List.length_map] at h
    exact ⟨z, by rw [List.getElem?_append_right (by omega), Nat.add_sub_cancel_left]; exact h, rfl⟩
theorem ee_sx.ok {ns : List Int32} {as : List Nat} {ex : Nat → Nat} {σ : List Value} {ρ : List Nat} {r : List Int32} {x v : Value} (hg : ee_gd ns as ex σ ρ) (h : ee_v (σ.map (ee_vl ns) ++ r) (ee_aT as ρ) ex x v) : ee_v (ns ++ r) as ex (ee_sx σ ρ ns.length x) v := by
  cases x with
  | retAddr k =>
    obtain ⟨z, h1, rfl⟩ := h
    exact ee_sx.num hg h1
  | ref k =>
    obtain ⟨a, rfl⟩ := h.ref
    show ee_v (ns ++ r) as ex (if k < 1000000 then .ref (ρ.getD k 0) else .ref k) (.ref a)
    by_cases hk : k < 1000000
    · rw [if_pos hk]
      have h1 := h.at hk
      unfold ee_aT at h1
      rw [List.getElem?_map] at h1
      cases hr : ρ[k]? with
      | none => rw [hr] at h1; cases h1
      | some j =>
        rw [hr] at h1
        have h1 : some (as.getD j 0) = some a := h1
        rw [List.getD_eq_getElem?_getD, hr]
        obtain ⟨g1, g2⟩ := hg.2 j (List.mem_of_getElem? hr)
        refine ee_v.inw g1 ?_
        show as[j]? = some a
        rw [List.getD_eq_getElem?_getD, List.getElem?_eq_getElem g2] at h1
        rw [List.getElem?_eq_getElem g2]
        exact h1
    · rw [if_neg hk]
      rw [h.out hk]
      exact ee_v.outs hk
  | _ => exact h
def ee_sc (σ : List Value) (ρ : List Nat) (n0 : Nat) (x : ee_cell) : ee_cell := match x with
  | .inl (ci, fs) => .inl (ci, fs.map (ee_sx σ ρ n0))
  | .inr (t, n, P, sg, ov) => .inr (t, n, P, sg, ov.map (fun q => (q.1, ee_sx σ ρ n0 q.2)))
theorem ee_lookup_map {g : Value → Value} {j : Nat} : ∀ {ov : List (Nat × Value)}, (ov.map (fun q => (q.1, g q.2))).lookup j = (ov.lookup j).map g
  | [] => rfl
  | (a, x) :: l => by
    rw [List.map_cons, List.lookup_cons, List.lookup_cons]
    cases h : j == a with
    | true => rfl
    | false => exact ee_lookup_map
theorem ee_all.map2 {α β : Type} {R S : α → β → Prop} {g : α → α} (h : ∀ a b, R a b → S (g a) b) : ∀ {l : List α} {k : List β}, ee_all R l k → ee_all S (l.map g) k
  | [], [], _ => trivial
  | a :: l, b :: k, q => ⟨h a b q.1, ee_all.map2 h q.2⟩
  | [], _ :: _, q => q.elim
  | _ :: _, [], q => q.elim
theorem ee_sc.ok {ns : List Int32} {as : List Nat} {ex : Nat → Nat} {dA : Nat → ClassId} {σ : List Value} {ρ : List Nat} {r : List Int32} {x : ee_cell} {e : va_E} (hg : ee_gd ns as ex σ ρ) (h : ee_c (σ.map (ee_vl ns) ++ r) (ee_aT as ρ) ex dA x e) : ee_c (ns ++ r) as ex dA (ee_sc σ ρ ns.length x) e := by
  match x, h with
  | .inl (ci, fs), ⟨vs, h1, h2⟩ => exact ⟨vs, h1, h2.map2 (fun a b q => ee_sx.ok hg q)⟩
  | .inr (t, n, P, sg, ov), h =>
    unfold ee_sc
    unfold ee_c at h ⊢
    simp only at h ⊢
    by_cases h3 : t = 3
    · rw [if_pos h3] at h ⊢
      exact h
    · rw [if_neg h3] at h ⊢
      by_cases h4 : t = 4
      · rw [if_pos h4] at h ⊢
        obtain ⟨f, rfl, he⟩ := h
        refine ⟨f, rfl, ?_⟩
        match ov, he with
        | [(i0, s1), (i1, s2), (i2, f0), (i3, e0), (i4, t0), (i5, f1), (i6, e1), (i7, t1)], he =>
          obtain ⟨y1, y2, x0, c0, d0, x1, c1, d1, q0, q1, ⟨q2, q3, q4⟩, ⟨q5, q6, q7⟩, q8⟩ := he
          exact ⟨y1, y2, x0, c0, d0, x1, c1, d1, ee_sx.ok hg q0, ee_sx.ok hg q1, ⟨ee_sx.ok hg q2, ee_sx.ok hg q3, ee_sx.ok hg q4⟩, ⟨ee_sx.ok hg q5, ee_sx.ok hg q6, ee_sx.ok hg q7⟩, q8⟩
        | [], _ => trivial
        | [_], _ => trivial
        | [_, _], he => exact he
        | [_, _, _], _ => trivial
        | [(i0, x0), (i1, x1), (d, x), (i3, v)], he =>
          obtain ⟨z, y, q0, q1, q2⟩ := he
          exact ⟨z, y, ee_sx.ok hg q0, ee_sx.ok hg q1, q2⟩
        | [_, _, _, _, _], _ => trivial
        | [_, _, _, _, _, _], _ => trivial
        | [_, _, _, _, _, _, _], _ => trivial
        | _ :: _ :: _ :: _ :: _ :: _ :: _ :: _ :: _ :: _, _ => trivial
      · rw [if_neg h4] at h ⊢
        obtain ⟨h0, f, h1, h2⟩ := h
        refine ⟨h0, f, h1, fun j hj => ?_⟩
        have := h2 j hj
        unfold ee_el at this ⊢
        rw [ee_lookup_map]
        cases hl : ov.lookup j with
        | none => rw [hl] at this; exact this
        | some y =>
          rw [hl] at this
          exact ee_sx.ok hg this
/-- facts, in the caller's words -/
def ee_sf1 (σ : List Value) (n0 : Nat) (f : ee_fa) : Option ee_fa := match f with
  | (4, m, r) => some (4, m, r)
  | (6, j, d) => some (6, j, d)
  | (3, _, _) => none
  | (kd, j, d) => (match ee_sx σ [] n0 (.retAddr j) with
    | .retAddr j' => some (kd, j', d)
    | _ => none)
theorem ee_sf1.ok {ns : List Int32} {as : List Nat} {ex : Nat → Nat} {σ : List Value} {ρ : List Nat} {r : List Int32} {z : Int32} {f g : ee_fa} (hg : ee_gd ns as ex σ ρ) (h : ee_fp (σ.map (ee_vl ns) ++ r) z f) (hf : ee_sf1 σ ns.length f = some g) : ee_fp (ns ++ r) z g := by
  have key : ∀ {j j' : Nat} {y : Int32}, (σ.map (ee_vl ns) ++ r)[j]? = some y → ee_sx σ [] ns.length (.retAddr j) = .retAddr j' → (ns ++ r)[j']? = some y := fun {j j' y} h1 h2 => by
    have h3 := ee_sx.num hg h1
    have h4 : ee_sx σ ρ ns.length (.retAddr j) = ee_sx σ [] ns.length (.retAddr j) := rfl
    rw [h4, h2] at h3
    exact h3.sy
  obtain ⟨kd, j, d⟩ := f
  have go : ∀ kd : Nat, (match ee_sx σ [] ns.length (.retAddr j) with
    | .retAddr j' => some ((kd, j', d) : ee_fa)
    | _ => none) = some g → ∃ j', ee_sx σ [] ns.length (.retAddr j) = .retAddr j' ∧ g = (kd, j', d) := fun kd h => by
    split at h
    · rename_i j' hj'
      cases h
      exact ⟨j', hj', rfl⟩
    · cases h
  match kd, h, hf with
  | 0, h, hf =>
    obtain ⟨j', e1, rfl⟩ := go 0 hf
    obtain ⟨y, h1, h2⟩ := h
    exact ⟨y, key h1 e1, h2⟩
  | 1, h, hf =>
    obtain ⟨j', e1, rfl⟩ := go 1 hf
    obtain ⟨y, h1, h2⟩ := h
    exact ⟨y, key h1 e1, h2⟩
  | 2, h, hf =>
    obtain ⟨j', e1, rfl⟩ := go 2 hf
    obtain ⟨y, h1, h2⟩ := h
    exact ⟨y, key h1 e1, h2⟩
  | 3, h, hf => cases hf
  | 4, h, hf =>
    cases (show some ((4, j, d) : ee_fa) = some g from hf)
    exact h
  | 5, h, hf =>
    obtain ⟨j', e1, rfl⟩ := go 5 hf
    obtain ⟨y, h1, h2⟩ := h
    exact ⟨y, key h1 e1, h2⟩
  | 6, h, hf =>
    cases (show some ((6, j, d) : ee_fa) = some g from hf)
    exact h
  | n + 7, h, hf =>
    obtain ⟨j', e1, rfl⟩ := go (n + 7) hf
    exact trivial
def ee_si1 (σ : List Value) (n0 : Nat) (q : ee_ve) : Option ee_ve := if q.1 < σ.length then none else some (n0 + (q.1 - σ.length), q.2.1, q.2.2.1, q.2.2.2.filterMap (ee_sf1 σ n0))
def ee_si (σ : List Value) (iv pv : ee_iv) : ee_iv := (iv.1 + (pv.1 - σ.length), pv.2.filterMap (ee_si1 σ iv.1) ++ iv.2)
theorem ee_si.ok {ns : List Int32} {as : List Nat} {ex : Nat → Nat} {σ : List Value} {ρ : List Nat} {r : List Int32} {iv pv : ee_iv} (hg : ee_gd ns as ex σ ρ) (hk : ee_ok ns iv) (h : ee_ok (σ.map (ee_vl ns) ++ r) pv) : ee_ok (ns ++ r) (ee_si σ iv pv) := by
  have hl := h.1
  rw [List.length_append, List.length_map] at hl
  refine ⟨by show iv.1 + (pv.1 - σ.length) = (ns ++ r).length; rw [List.length_append, ← hk.1]; omega, fun q hq => ?_⟩
  rcases List.mem_append.mp hq with hq | hq
  · obtain ⟨p, hp, hp2⟩ := List.mem_filterMap.mp hq
    unfold ee_si1 at hp2
    by_cases hc : p.1 < σ.length
    · rw [if_pos hc] at hp2; cases hp2
    · rw [if_neg hc] at hp2
      cases hp2
      obtain ⟨z, z1, z2, z3, z4⟩ := h.2 p hp
      refine ⟨z, ?_, z2, z3, fun f hf => ?_⟩
      · show (ns ++ r)[iv.1 + (p.1 - σ.length)]? = some z
        rw [List.getElem?_append_right (by rw [List.length_map]; omega), List.length_map] at z1
        rw [hk.1, List.getElem?_append_right (by omega), Nat.add_sub_cancel_left]
        exact z1
      · obtain ⟨g, hg1, hg2⟩ := List.mem_filterMap.mp hf
        rw [hk.1] at hg2
        exact ee_sf1.ok hg (z4 g hg1) hg2
  · exact (hk.2 q hq).mono r
/-- cells put in their places -/
def ee_ups {α : Type} : List Nat → List α → List α → List α
  | j :: ρ, x :: xs, w => ee_ups ρ xs (w.set j x)
  | _, _, w => w
theorem ee_ups.get {α : Type} : ∀ {ρ : List Nat} {xs w : List α} {k : Nat} {q : α}, ρ.length = xs.length → (ee_ups ρ xs w)[k]? = some q → (∃ i : Nat, ρ[i]? = some k ∧ xs[i]? = some q) ∨ (w[k]? = some q ∧ k ∉ ρ)
  | [], [], w, k, q, _, h => Or.inr ⟨h, by simp⟩
  | j :: ρ, x :: xs, w, k, q, hl, h => by
    rcases ee_ups.get (ρ := ρ) (xs := xs) (by simpa using hl) h with ⟨i, h1, h2⟩ | ⟨h1, h2⟩
    · exact Or.inl ⟨i + 1, by rw [List.getElem?_cons_succ]; exact h1, by rw [List.getElem?_cons_succ]; exact h2⟩
    · by_cases e : j = k
      · subst e
        by_cases hj : j < w.length
        · rw [List.getElem?_set_self hj] at h1
          cases h1
          exact Or.inl ⟨0, rfl, rfl⟩
        · rw [List.getElem?_eq_none (by rw [List.length_set]; omega)] at h1
          cases h1
      · rw [List.getElem?_set_ne e] at h1
        exact Or.inr ⟨h1, by simp only [List.mem_cons, not_or]; exact ⟨Ne.symm e, h2⟩⟩
  | [], _ :: _, _, _, _, hl, _ => by cases hl
  | _ :: _, [], _, _, _, hl, _ => by cases hl
theorem ee_ups.all {α β : Type} {R : α → β → Prop} : ∀ {ρ : List Nat} {xs w : List α} {ys v : List β}, ee_all R xs ys → ee_all R w v → ee_all R (ee_ups ρ xs w) (ee_ups ρ ys v)
  | [], [], _, [], _, _, h => h
  | [], _ :: _, _, _ :: _, _, _, h => h
  | [], [], _, _ :: _, _, q, _ => q.elim
  | [], _ :: _, _, [], _, q, _ => q.elim
  | _ :: _, [], _, [], _, _, h => h
  | j :: ρ, x :: xs, w, y :: ys, v, q, h => ee_ups.all (ρ := ρ) q.2 (h.set q.1)
  | _ :: _, [], _, _ :: _, _, q, _ => q.elim
  | _ :: _, _ :: _, _, [], _, q, _ => q.elim
theorem ee_ups.fst : ∀ {ρ : List Nat} {xs w : va_W}, xs.map (fun q => q.1) = ρ.map (fun j => (w.map (fun q => q.1)).getD j 0) → (∀ j ∈ ρ, j < w.length) → (ee_ups ρ xs w).map (fun q => q.1) = w.map (fun q => q.1)
  | [], [], _, _, _ => rfl
  | [], _ :: _, _, h, _ => by cases h
  | _ :: _, [], _, h, _ => by cases h
  | j :: ρ, x :: xs, w, h, hl => by
    rw [List.map_cons, List.map_cons] at h
    obtain ⟨h1, h2⟩ := List.cons.inj h
    have hj := hl j List.mem_cons_self
    have e : (w.set j x).map (fun q => q.1) = w.map (fun q => q.1) := by
      apply List.ext_getElem?
      intro i
      rw [List.getElem?_map, List.getElem?_map]
      by_cases hi : i = j
      · subst hi
        rw [List.getElem?_set_self hj, List.getElem?_eq_getElem hj]
        show some x.1 = some w[i].1
        rw [h1, List.getD_eq_getElem?_getD, List.getElem?_map, List.getElem?_eq_getElem hj]
        rfl
      · rw [List.getElem?_set_ne (Ne.symm hi)]
    show (ee_ups ρ xs (w.set j x)).map (fun q => q.1) = _
    rw [ee_ups.fst (ρ := ρ) (by rw [e]; exact h2) (fun i hi => by rw [List.length_set]; exact hl i (List.mem_cons_of_mem _ hi)), e]
theorem ee_D.map {A : Nat → Prop} {ws ws' : va_W} (h : va_D A ws) (e : ws'.map (fun q => q.1) = ws.map (fun q => q.1)) : va_D A ws' := by
  have at' : ∀ (i : Nat) (p : Nat × va_E), ws'[i]? = some p → ∃ p', ws[i]? = some p' ∧ p'.1 = p.1 := by
    intro i p hp
    have h1 : (ws'.map (fun q => q.1))[i]? = some p.1 := by rw [List.getElem?_map, hp]; rfl
    rw [e, List.getElem?_map] at h1
    cases hq : ws[i]? with
    | none => rw [hq] at h1; cases h1
    | some p' => rw [hq] at h1; exact ⟨p', rfl, Option.some.inj h1⟩
  refine ⟨fun i j p q hi hj hpq => ?_, fun k q hk => ?_⟩
  · obtain ⟨p', a1, a2⟩ := at' i p hi
    obtain ⟨q', b1, b2⟩ := at' j q hj
    exact h.1 i j p' q' a1 b1 (by rw [a2, b2, hpq])
  · obtain ⟨q', b1, b2⟩ := at' k q hk
    rw [← b2]
    exact h.2 k q' b1
/-- the frame: what a callee left as it was, beside what it made of its cells -/
theorem ee_frame {A : Nat → Prop} {D : va_G} {ws wc w1 : va_W} {ρ : List Nat} {H H1 : Heap} (hP : va_P D vwCl ws H) (hD : va_D A ws) (hρ : ∀ j ∈ ρ, j < ws.length) (hc : wc = ee_wT ws ρ) (hf : w1.map (fun q => q.1) = wc.map (fun q => q.1)) (hk : ∀ q : Nat, q < H.size → ¬ va_A wc H.size q → H1[q]? = H[q]?) (hP1 : va_P D vwCl w1 H1) : va_P D vwCl (ee_ups ρ w1 ws) H1 ∧ va_D A (ee_ups ρ w1 ws) ∧ (ee_ups ρ w1 ws).map (fun q => q.1) = ws.map (fun q => q.1) := by
  have hlen : ρ.length = w1.length := by
    have := congrArg List.length hf
    rw [List.length_map, List.length_map, hc] at this
    unfold ee_wT at this
    rw [List.length_map] at this
    exact this.symm
  have hfst : (ee_ups ρ w1 ws).map (fun q => q.1) = ws.map (fun q => q.1) := by
    refine ee_ups.fst ?_ hρ
    rw [hf, hc]
    unfold ee_wT
    rw [List.map_map]
    apply List.map_congr_left
    intro j hj
    have := hρ j hj
    show (ws.getD j ee_wd0).1 = (ws.map (fun q => q.1)).getD j 0
    rw [List.getD_eq_getElem?_getD, List.getD_eq_getElem?_getD, List.getElem?_map, List.getElem?_eq_getElem this]
    rfl
  refine ⟨fun k q hq => ?_, ee_D.map hD hfst, hfst⟩
  rcases ee_ups.get hlen hq with ⟨i, -, h2⟩ | ⟨h1, h2⟩
  · exact hP1 i q h2
  · refine (hP k q h1).kept (hk q.1 (hP k q h1).lt (fun ha => ?_))
    rcases ha with ⟨i, e, hi⟩ | ha
    · rw [hc] at hi
      unfold ee_wT at hi
      rw [List.getElem?_map] at hi
      cases hj : ρ[i]? with
      | none => rw [hj] at hi; cases hi
      | some j =>
        rw [hj] at hi
        have hjm := List.mem_of_getElem? hj
        have hjl := hρ j hjm
        have hi : some (ws.getD j ee_wd0) = some (q.1, e) := hi
        rw [List.getD_eq_getElem?_getD, List.getElem?_eq_getElem hjl] at hi
        have hkj := hD.1 k j q ws[j] h1 (List.getElem?_eq_getElem hjl) (by
          have := congrArg Prod.fst (Option.some.inj hi)
          exact this.symm)
        subst hkj
        exact h2 hjm
    · have := (hP k q h1).lt
      omega
