/-! bounds and facts of a pattern's symbols, checked in a state -/
/-- the state's value of a pattern's symbol -/
def ee_sv (np : Nat) (σ : List Value) (k : Nat) : Value := if k < np then .retAddr k else σ.getD (k - np) .null
theorem ee_sv.ok {np : Nat} {ns : List Int32} {as : List Nat} {ex : Nat → Nat} {iv : ee_iv} {σ : List Value} {k : Nat} {q : Int × Int} (hk : ee_ok ns iv) (hn : np ≤ ns.length) (h : ee_it iv (ee_sv np σ k) = some q) : ∃ z : Int32, (ee_nT np ns σ)[k]? = some z ∧ ee_v ns as ex (ee_sv np σ k) (.int z) := by
  obtain ⟨z, hz⟩ := ee_it.ex (as := as) (ex := ex) hk h
  refine ⟨z, ?_, hz⟩
  unfold ee_sv at h hz
  by_cases h1 : k < np
  · rw [if_pos h1] at hz
    rw [ee_nT.lo h1 hn]
    exact hz.sy
  · rw [if_neg h1] at h hz
    rw [show k = np + (k - np) by omega, ee_nT.hi hn]
    rw [List.getD_eq_getElem?_getD] at h hz
    cases hs : σ[k - np]? with
    | none => rw [hs] at h; cases h
    | some v =>
      rw [hs] at hz
      have hz : ee_v ns as ex v (.int z) := hz
      show some (ee_vl ns v) = some z
      rw [ee_vl.ok hz]
/-- v ≤ u + d -/
def ee_lef (iv : ee_iv) (u : Value) : Nat → Value → Int → Bool
  | 0, _, _ => false
  | f + 1, v, d => (match ee_it iv v, ee_it iv u with
    | some a, some b => decide (a.2 ≤ b.1 + d)
    | _, _ => false) || ((decide (v = u) && decide (0 ≤ d)) || (match v with
    | .retAddr k => (match ee_at1 iv k with
      | some q => q.2.2.2.any (fun g => (Nat.beq g.1 0 || Nat.beq g.1 1) && ee_lef iv u f (.retAddr g.2.1) (d - g.2.2))
      | none => false)
    | _ => false))
theorem ee_lef.ok {ns : List Int32} {as : List Nat} {ex : Nat → Nat} {iv : ee_iv} {u : Value} {y : Int32} (hk : ee_ok ns iv) (hu : ee_v ns as ex u (.int y)) : ∀ (f : Nat) {v : Value} {z : Int32} {d : Int}, ee_lef iv u f v d = true → ee_v ns as ex v (.int z) → z.toInt ≤ y.toInt + d
  | 0, v, z, d, h, _ => by cases h
  | f + 1, v, z, d, h, hv => by
    unfold ee_lef at h
    rcases (Bool.or_eq_true _ _).mp h with h | h
    · split at h
      · rename_i a b h1 h2
        have := of_decide_eq_true h
        obtain ⟨z', e1, e2, e3⟩ := ee_it.int (a := a.1) (b := a.2) hk hv h1
        cases e1
        obtain ⟨y', e4, e5, e6⟩ := ee_it.int (a := b.1) (b := b.2) hk hu h2
        cases e4
        omega
      · cases h
    · rcases (Bool.or_eq_true _ _).mp h with h | h
      · obtain ⟨h1, h2⟩ := ee_and h
        have h1 := of_decide_eq_true h1
        have h2 := of_decide_eq_true h2
        subst h1
        rw [ee_v.one hv hu]
        omega
      · split at h
        · rename_i k
          split at h
          · rename_i q hq
            obtain ⟨g, hg, h⟩ := List.any_eq_true.mp h
            obtain ⟨h1, h2⟩ := ee_and h
            obtain ⟨z', g1, -, -, g4⟩ := ee_at1.ok hk hq
            rw [hv.sy] at g1
            cases g1
            have g5 := g4 g hg
            obtain ⟨kd, j, e⟩ := g
            have key : ∃ w, ns[j]? = some w ∧ z.toInt ≤ w.toInt + e := by
              rcases (Bool.or_eq_true _ _).mp h1 with h1 | h1
              · have h1 : kd = 0 := Nat.eq_of_beq_eq_true h1
                subst h1
                obtain ⟨w, w1, w2⟩ := g5
                exact ⟨w, w1, by omega⟩
              · have h1 : kd = 1 := Nat.eq_of_beq_eq_true h1
                subst h1
                exact g5
            obtain ⟨w, w1, w2⟩ := key
            have := ee_lef.ok hk hu f h2 ⟨w, w1, rfl⟩
            have : w.toInt ≤ y.toInt + (d - e) := this
            omega
          · cases h
        · cases h
/-- u + d ≤ v -/
def ee_gef (iv : ee_iv) (u : Value) : Nat → Value → Int → Bool
  | 0, _, _ => false
  | f + 1, v, d => (match ee_it iv v, ee_it iv u with
    | some a, some b => decide (b.2 + d ≤ a.1)
    | _, _ => false) || ((decide (v = u) && decide (d ≤ 0)) || (match v with
    | .retAddr k => (match ee_at1 iv k with
      | some q => q.2.2.2.any (fun g => (Nat.beq g.1 0 || Nat.beq g.1 2) && ee_gef iv u f (.retAddr g.2.1) (d - g.2.2))
      | none => false)
    | _ => false))
theorem ee_gef.ok {ns : List Int32} {as : List Nat} {ex : Nat → Nat} {iv : ee_iv} {u : Value} {y : Int32} (hk : ee_ok ns iv) (hu : ee_v ns as ex u (.int y)) : ∀ (f : Nat) {v : Value} {z : Int32} {d : Int}, ee_gef iv u f v d = true → ee_v ns as ex v (.int z) → y.toInt + d ≤ z.toInt
  | 0, v, z, d, h, _ => by cases h
  | f + 1, v, z, d, h, hv => by
    unfold ee_gef at h
    rcases (Bool.or_eq_true _ _).mp h with h | h
    · split at h
      · rename_i a b h1 h2
        have := of_decide_eq_true h
        obtain ⟨z', e1, e2, e3⟩ := ee_it.int (a := a.1) (b := a.2) hk hv h1
        cases e1
        obtain ⟨y', e4, e5, e6⟩ := ee_it.int (a := b.1) (b := b.2) hk hu h2
        cases e4
        omega
      · cases h
    · rcases (Bool.or_eq_true _ _).mp h with h | h
      · obtain ⟨h1, h2⟩ := ee_and h
        have h1 := of_decide_eq_true h1
        have h2 := of_decide_eq_true h2
        subst h1
        rw [ee_v.one hv hu]
        omega
      · split at h
        · rename_i k
          split at h
          · rename_i q hq
            obtain ⟨g, hg, h⟩ := List.any_eq_true.mp h
            obtain ⟨h1, h2⟩ := ee_and h
            obtain ⟨z', g1, -, -, g4⟩ := ee_at1.ok hk hq
            rw [hv.sy] at g1
            cases g1
            have g5 := g4 g hg
            obtain ⟨kd, j, e⟩ := g
            have key : ∃ w, ns[j]? = some w ∧ w.toInt + e ≤ z.toInt := by
              rcases (Bool.or_eq_true _ _).mp h1 with h1 | h1
              · have h1 : kd = 0 := Nat.eq_of_beq_eq_true h1
                subst h1
                obtain ⟨w, w1, w2⟩ := g5
                exact ⟨w, w1, by omega⟩
              · have h1 : kd = 2 := Nat.eq_of_beq_eq_true h1
                subst h1
                exact g5
            obtain ⟨w, w1, w2⟩ := key
            have := ee_gef.ok hk hu f h2 ⟨w, w1, rfl⟩
            have : y.toInt + (d - e) ≤ w.toInt := this
            omega
          · cases h
        · cases h
/-- a value as another one and a number -/
def ee_rv (iv : ee_iv) (v : Value) : Value × Int := match v with
  | .retAddr k => (.retAddr (ee_rt iv k).1, (ee_rt iv k).2)
  | _ => (v, 0)
theorem ee_rv.ok {ns : List Int32} {as : List Nat} {ex : Nat → Nat} {iv : ee_iv} {v : Value} {z : Int32} (hk : ee_ok ns iv) (hv : ee_v ns as ex v (.int z)) : ∃ y : Int32, ee_v ns as ex (ee_rv iv v).1 (.int y) ∧ z.toInt = y.toInt + (ee_rv iv v).2 := by
  cases v with
  | retAddr k =>
    obtain ⟨y, h1, h2⟩ := ee_rt.ok hk hv.sy
    exact ⟨y, ⟨y, h1, rfl⟩, h2⟩
  | _ => exact ⟨z, hv, by show z.toInt = z.toInt + 0; omega⟩
def ee_le3 (iv : ee_iv) (v u : Value) (d : Int) : Bool := ee_lef iv (ee_rv iv u).1 12 v (d + (ee_rv iv u).2)
def ee_ge3 (iv : ee_iv) (v u : Value) (d : Int) : Bool := ee_gef iv (ee_rv iv u).1 12 v (d + (ee_rv iv u).2)
theorem ee_le3.ok {ns : List Int32} {as : List Nat} {ex : Nat → Nat} {iv : ee_iv} {v u : Value} {z y : Int32} {d : Int} (hk : ee_ok ns iv) (hv : ee_v ns as ex v (.int z)) (hu : ee_v ns as ex u (.int y)) (h : ee_le3 iv v u d = true) : z.toInt ≤ y.toInt + d := by
  obtain ⟨w, h1, h2⟩ := ee_rv.ok hk hu
  have := ee_lef.ok hk h1 12 h hv
  omega
theorem ee_ge3.ok {ns : List Int32} {as : List Nat} {ex : Nat → Nat} {iv : ee_iv} {v u : Value} {z y : Int32} {d : Int} (hk : ee_ok ns iv) (hv : ee_v ns as ex v (.int z)) (hu : ee_v ns as ex u (.int y)) (h : ee_ge3 iv v u d = true) : y.toInt + d ≤ z.toInt := by
  obtain ⟨w, h1, h2⟩ := ee_rv.ok hk hu
  have := ee_gef.ok hk h1 12 h hv
  omega
/-- z + y ≤ d is known of two symbols -/
def ee_sm (iv : ee_iv) (v u : Value) (d : Int) : Bool := match v with
  | .retAddr k => (match ee_at1 iv k with
    | some q => q.2.2.2.any (fun g => Nat.beq g.1 5 && (decide (u = .retAddr g.2.1) && decide (g.2.2 ≤ d)))
    | none => false)
  | _ => false
theorem ee_sm.ok {ns : List Int32} {as : List Nat} {ex : Nat → Nat} {iv : ee_iv} {v u : Value} {z y : Int32} {d : Int} (hk : ee_ok ns iv) (hv : ee_v ns as ex v (.int z)) (hu : ee_v ns as ex u (.int y)) (h : ee_sm iv v u d = true) : z.toInt + y.toInt ≤ d := by
  unfold ee_sm at h
  split at h
  · rename_i k
    split at h
    · rename_i q hq
      obtain ⟨g, hg, h⟩ := List.any_eq_true.mp h
      obtain ⟨h1, h2⟩ := ee_and h
      obtain ⟨h2, h3⟩ := ee_and h2
      have h2 := of_decide_eq_true h2
      have h3 := of_decide_eq_true h3
      obtain ⟨z', g1, -, -, g4⟩ := ee_at1.ok hk hq
      rw [hv.sy] at g1
      cases g1
      have g5 := g4 g hg
      obtain ⟨kd, j, e⟩ := g
      have h1 : kd = 5 := Nat.eq_of_beq_eq_true h1
      subst h1
      subst h2
      obtain ⟨w, w1, w2⟩ := g5
      rw [hu.sy] at w1
      cases w1
      have h3 : e ≤ d := h3
      omega
    · cases h
  · cases h
def ee_sm3 (iv : ee_iv) (v u : Value) (d : Int) : Bool := (match ee_it iv v, ee_it iv u with
  | some a, some b => decide (a.2 + b.2 ≤ d)
  | _, _ => false) || (ee_sm iv (ee_rv iv v).1 (ee_rv iv u).1 (d - (ee_rv iv v).2 - (ee_rv iv u).2))
theorem ee_sm3.ok {ns : List Int32} {as : List Nat} {ex : Nat → Nat} {iv : ee_iv} {v u : Value} {z y : Int32} {d : Int} (hk : ee_ok ns iv) (hv : ee_v ns as ex v (.int z)) (hu : ee_v ns as ex u (.int y)) (h : ee_sm3 iv v u d = true) : z.toInt + y.toInt ≤ d := by
  rcases (Bool.or_eq_true _ _).mp h with h | h
  · split at h
    · rename_i a b h1 h2
      have := of_decide_eq_true h
      obtain ⟨z', e1, e2, e3⟩ := ee_it.int (a := a.1) (b := a.2) hk hv h1
      cases e1
      obtain ⟨y', e4, e5, e6⟩ := ee_it.int (a := b.1) (b := b.2) hk hu h2
      cases e4
      omega
    · cases h
  · obtain ⟨w, h1, h2⟩ := ee_rv.ok hk hu
    obtain ⟨w2, h3, h4⟩ := ee_rv.ok hk hv
    have := ee_sm.ok hk h3 h1 h
    omega
/-- the bounds of a value are within these -/
def ee_bk (iv : ee_iv) (v : Value) (lo hi : Int) : Bool := match ee_it iv v with
  | some a => (decide (lo ≤ a.1) || (match ee_it iv (ee_rv iv v).1 with
    | some b => decide (lo ≤ b.1 + (ee_rv iv v).2)
    | none => false)) && (decide (a.2 ≤ hi) || ((match ee_it iv (ee_rv iv v).1 with
    | some b => decide (b.2 + (ee_rv iv v).2 ≤ hi)
    | none => false) || (match (ee_rv iv v).1 with
    | .retAddr j => (match ee_at1 iv j with
      | some q => q.2.2.2.any (fun g => Nat.beq g.1 5 && (match ee_it iv (.retAddr g.2.1) with
        | some b => decide (g.2.2 - b.1 + (ee_rv iv v).2 ≤ hi)
        | none => false))
      | none => false)
    | _ => false)))
  | none => false
theorem ee_bk.ok {ns : List Int32} {as : List Nat} {ex : Nat → Nat} {iv : ee_iv} {v : Value} {z : Int32} {lo hi : Int} (hk : ee_ok ns iv) (hv : ee_v ns as ex v (.int z)) (h : ee_bk iv v lo hi = true) : lo ≤ z.toInt ∧ z.toInt ≤ hi := by
  unfold ee_bk at h
  cases ht : ee_it iv v with
  | none => rw [ht] at h; cases h
  | some a =>
    rw [ht] at h
    obtain ⟨h1, h2⟩ := ee_and h
    obtain ⟨z', e1, e2, e3⟩ := ee_it.int (a := a.1) (b := a.2) hk hv ht
    cases e1
    obtain ⟨w, r1, r2⟩ := ee_rv.ok hk hv
    generalize ee_rv iv v = rv at h1 h2 r1 r2
    obtain ⟨rv1, rv2⟩ := rv
    simp only at h1 h2 r1 r2
    constructor
    · rcases (Bool.or_eq_true _ _).mp h1 with h1 | h1
      · have h1 := of_decide_eq_true h1
        omega
      · split at h1
        · rename_i b hb
          have h1 := of_decide_eq_true h1
          obtain ⟨w', f1, f2, f3⟩ := ee_it.int (a := b.1) (b := b.2) hk r1 hb
          cases f1
          omega
        · cases h1
    · rcases (Bool.or_eq_true _ _).mp h2 with h2 | h2
      · have h2 := of_decide_eq_true h2
        omega
      · rcases (Bool.or_eq_true _ _).mp h2 with h2 | h2
        · split at h2
          · rename_i b hb
            have h2 := of_decide_eq_true h2
            obtain ⟨w', f1, f2, f3⟩ := ee_it.int (a := b.1) (b := b.2) hk r1 hb
            cases f1
            omega
          · cases h2
        · split at h2
          · rename_i j
            split at h2
            · rename_i q hq
              obtain ⟨g, hg, h2⟩ := List.any_eq_true.mp h2
              obtain ⟨h3, h4⟩ := ee_and h2
              obtain ⟨w', g1, -, -, g4⟩ := ee_at1.ok hk hq
              rw [r1.sy] at g1
              cases g1
              have g5 := g4 g hg
              obtain ⟨kd, i, e⟩ := g
              have h3 : kd = 5 := Nat.eq_of_beq_eq_true h3
              subst h3
              obtain ⟨x, x1, x2⟩ := g5
              simp only at h4
              split at h4
              · rename_i b hb
                have h4 := of_decide_eq_true h4
                obtain ⟨x', f1, f2, f3⟩ := ee_it.int (a := b.1) (b := b.2) (as := as) (ex := ex) (x := .retAddr i) (v := .int x) hk ⟨x, x1, rfl⟩ hb
                cases f1
                omega
              · cases h4
            · cases h2
          · cases h2
/-- a fact of a pattern's symbol -/
def ee_fk (np : Nat) (σ : List Value) (iv : ee_iv) (v : Value) (f : ee_fa) : Bool := match f with
  | (0, j, d) => (ee_it iv (ee_sv np σ j)).isSome && (ee_le3 iv v (ee_sv np σ j) d && ee_ge3 iv v (ee_sv np σ j) d)
  | (1, j, d) => (ee_it iv (ee_sv np σ j)).isSome && ee_le3 iv v (ee_sv np σ j) d
  | (2, j, d) => (ee_it iv (ee_sv np σ j)).isSome && ee_ge3 iv v (ee_sv np σ j) d
  | (4, m, r) => (match ee_cn iv v with
    | some c => decide (c.toInt % (m : Int) = r)
    | none => false) || (match v with
    | .retAddr k => (match ee_at1 iv k with
      | some q => q.2.2.2.any (fun g => decide (g = (4, m, r)))
      | none => false)
    | _ => false)
  | (5, j, d) => (ee_it iv (ee_sv np σ j)).isSome && ee_sm3 iv v (ee_sv np σ j) d
  | (6, _, _) => (match ee_it iv v with
    | some a => decide (0 < a.1) || decide (a.2 < 0)
    | none => false)
  | _ => false
theorem ee_fk.ok {np : Nat} {ns : List Int32} {as : List Nat} {ex : Nat → Nat} {iv : ee_iv} {σ : List Value} {v : Value} {z : Int32} {f : ee_fa} (hk : ee_ok ns iv) (hn : np ≤ ns.length) (hv : ee_v ns as ex v (.int z)) (h : ee_fk np σ iv v f = true) : ee_fp (ee_nT np ns σ) z f := by
  unfold ee_fk at h
  split at h
  · rename_i j d
    obtain ⟨h1, h2⟩ := ee_and h
    obtain ⟨h2, h3⟩ := ee_and h2
    obtain ⟨q, hq⟩ := Option.isSome_iff_exists.mp h1
    obtain ⟨y, g1, g2⟩ := ee_sv.ok (as := as) (ex := ex) hk hn hq
    have e1 := ee_le3.ok hk hv g2 h2
    have e2 := ee_ge3.ok hk hv g2 h3
    exact ⟨y, g1, by omega⟩
  · rename_i j d
    obtain ⟨h1, h2⟩ := ee_and h
    obtain ⟨q, hq⟩ := Option.isSome_iff_exists.mp h1
    obtain ⟨y, g1, g2⟩ := ee_sv.ok (as := as) (ex := ex) hk hn hq
    exact ⟨y, g1, ee_le3.ok hk hv g2 h2⟩
  · rename_i j d
    obtain ⟨h1, h2⟩ := ee_and h
    obtain ⟨q, hq⟩ := Option.isSome_iff_exists.mp h1
    obtain ⟨y, g1, g2⟩ := ee_sv.ok (as := as) (ex := ex) hk hn hq
    exact ⟨y, g1, ee_ge3.ok hk hv g2 h2⟩
  · rename_i m r
    rcases (Bool.or_eq_true _ _).mp h with h | h
    · split at h
      · rename_i c hc
        have := ee_cn.int hk hv hc
        cases this
        exact (of_decide_eq_true h : z.toInt % (m : Int) = r)
      · cases h
    · split at h
      · rename_i k
        split at h
        · rename_i q hq
          obtain ⟨g, hg, h⟩ := List.any_eq_true.mp h
          have h := of_decide_eq_true h
          subst h
          obtain ⟨z', g1, -, -, g4⟩ := ee_at1.ok hk hq
          rw [hv.sy] at g1
          cases g1
          exact g4 _ hg
        · cases h
      · cases h
  · rename_i j d
    obtain ⟨h1, h2⟩ := ee_and h
    obtain ⟨q, hq⟩ := Option.isSome_iff_exists.mp h1
    obtain ⟨y, g1, g2⟩ := ee_sv.ok (as := as) (ex := ex) hk hn hq
    exact ⟨y, g1, ee_sm3.ok hk hv g2 h2⟩
  · rename_i m r
    split at h
    · rename_i a ha
      obtain ⟨z', e1, e2, e3⟩ := ee_it.int (a := a.1) (b := a.2) hk hv ha
      cases e1
      show z.toInt ≠ 0
      rcases (Bool.or_eq_true _ _).mp h with h | h
      · have := of_decide_eq_true h
        omega
      · have := of_decide_eq_true h
        omega
    · cases h
  · cases h
/-- all that the pattern says of its symbols holds -/
def ee_pk (np : Nat) (σ : List Value) (iv pv : ee_iv) : Bool := decide (pv.1 = np + σ.length) && pv.2.all (fun q => ee_bk iv (ee_sv np σ q.1) q.2.1 q.2.2.1 && q.2.2.2.all (ee_fk np σ iv (ee_sv np σ q.1)))
theorem ee_pk.ok {np : Nat} {ns : List Int32} {iv pv : ee_iv} {σ : List Value} (hk : ee_ok ns iv) (hn : np ≤ ns.length) (h : ee_pk np σ iv pv = true) : ee_ok (ee_nT np ns σ) pv := by
  obtain ⟨h1, h2⟩ := ee_and h
  have h1 := of_decide_eq_true h1
  refine ⟨?_, fun q hq => ?_⟩
  · unfold ee_nT
    rw [h1, List.length_append, List.length_take, Nat.min_eq_left hn, List.length_map]
  · obtain ⟨g1, g2⟩ := ee_and (List.all_eq_true.mp h2 q hq)
    have hit : ∃ r, ee_it iv (ee_sv np σ q.1) = some r := by
      unfold ee_bk at g1
      cases ht : ee_it iv (ee_sv np σ q.1) with
      | none => rw [ht] at g1; cases g1
      | some r => exact ⟨r, rfl⟩
    obtain ⟨r, hr⟩ := hit
    obtain ⟨z, e1, e2⟩ := ee_sv.ok (as := []) (ex := fun _ => 0) hk hn hr
    have b := ee_bk.ok hk e2 g1
    exact ⟨z, e1, b.1, b.2, fun f hf => ee_fk.ok hk hn e2 (List.all_eq_true.mp g2 f hf)⟩
