/-! int arrays that lie outside: their lengths, and elements that are named -/
/-- the reference's number, the length, a number that the length reaches, elements (the index's symbol and what is added; the value) -/
abbrev ee_oa : Type := Nat × Value × Nat × List ((Nat × Int) × Value)
def ee_oal (o : ee_oa) (j : Nat) (d : Int) : Option ((Nat × Int) × Value) := o.2.2.2.find? (fun q => Nat.beq q.1.1 j && decide (q.1.2 = d))
def ee_OA (s : State) (A : Nat → Prop) (ex : Nat → Nat) (x0 : List Int32) (o : ee_oa) : Prop := ¬ o.1 < 1000000 ∧ ∃ (L : Nat) (xs : Nat → Int32), va_X (ex o.1) L xs s s.heap ∧ ex o.1 < s.heap.size ∧ ¬ A (ex o.1) ∧ ee_v x0 [] ex o.2.1 (.int (Int32.ofNat L)) ∧ o.2.2.1 ≤ L ∧ ∀ q ∈ o.2.2.2, ∃ (i : Int32) (j : Nat), x0[q.1.1]? = some i ∧ i.toInt + q.1.2 = (j : Int) ∧ j < L ∧ ee_v x0 [] ex q.2 (.int (xs j))
def ee_oaf (os : List ee_oa) (j : Nat) : Option ee_oa := os.find? (fun o => Nat.beq o.1 j)
def ee_hO (os : List ee_oa) (g : ee_H) : ee_H := fun nL bc bs e st => match st with
  | (pc, lo, .ref j :: stk, w, iv, kc, ks, sv) => (match e.2.1 with
    | .arraylength => (match ee_oaf os j with
      | some o => ee_nx e.2.2.1 1 [(pc + 1, lo, o.2.1 :: stk, w, iv, kc, ks, sv)]
      | none => g nL bc bs e st)
    | _ => g nL bc bs e st)
  | (pc, lo, .retAddr k :: .ref j :: stk, w, iv, kc, ks, sv) => (match e.2.1 with
    | .iaload => (match ee_oaf os j with
      | some o => (match ee_oal o (ee_rt iv k).1 (ee_rt iv k).2 with
        | some q => ee_nx e.2.2.1 1 [(pc + 1, lo, q.2 :: stk, w, iv, kc, ks, sv)]
        | none => if ee_ib iv (.retAddr k) o.2.2.1 = true then ee_nx e.2.2.1 1 [(pc + 1, lo, .retAddr iv.1 :: stk, w, ee_ps iv (-2147483648) 2147483647 [], kc, ks, sv)] else none)
      | none => g nL bc bs e st)
    | _ => g nL bc bs e st)
  | _ => g nL bc bs e st
theorem ee_oaf.ok {os : List ee_oa} {j : Nat} {o : ee_oa} (h : ee_oaf os j = some o) : o ∈ os ∧ o.1 = j := by
  unfold ee_oaf at h
  have h1 : Nat.beq o.1 j = true := List.find?_some (p := fun o : ee_oa => Nat.beq o.1 j) h
  exact ⟨List.mem_of_find?_eq_some h, Nat.eq_of_beq_eq_true h1⟩
theorem ee_oal.ok {o : ee_oa} {j : Nat} {d : Int} {q : (Nat × Int) × Value} (h : ee_oal o j d = some q) : q ∈ o.2.2.2 ∧ q.1.1 = j ∧ q.1.2 = d := by
  unfold ee_oal at h
  have h1 : (Nat.beq q.1.1 j && decide (q.1.2 = d)) = true := List.find?_some (p := fun q : (Nat × Int) × Value => Nat.beq q.1.1 j && decide (q.1.2 = d)) h
  obtain ⟨h2, h3⟩ := ee_and h1
  exact ⟨List.mem_of_find?_eq_some h, Nat.eq_of_beq_eq_true h2, of_decide_eq_true h3⟩
set_option maxHeartbeats 2000000 in
theorem ee_hO.x {p : Program} {l : Launch} {en : Env} {R : Room} {s : State} {m : MethodId} {args : Array Value} {below : List Frame} {meth : Method} {c : Code} {A : Nat → Prop} {D : va_G} {dA : Nat → ClassId} {ex : Nat → Nat} {x0 : List Int32} {a0 : List Nat} {sv0 : List Value} {nL : Nat} {os : List ee_oa} {g : ee_H} (ho : ∀ o ∈ os, ee_OA s A ex x0 o) (hg : ee_SndX (p, l, en, R, s, m, args, below, meth, c) (A, D, dA, ex, x0, a0, sv0, nL) g) : ee_SndX (p, l, en, R, s, m, args, below, meth, c) (A, D, dA, ex, x0, a0, sv0, nL) (ee_hO os g) := by
  intro oc own cc ini dm bc bs Q e st sts F hoc hi hd he hpc h k
  have fall : g nL bc bs e st = some sts → ee_G (p, l, en, R, s, m, args, below, meth, c) (A, D, dA, ex, x0, a0, sv0, nL) Q st := fun h => hg oc own cc ini dm bc bs Q e st sts F hoc hi hd he hpc h k
  obtain ⟨pc, lo, stk, w, iv, kc, ks, sv⟩ := st
  obtain ⟨pc', ins, len, hn, ea, eb, ez, qa, qb, qc⟩ := e
  obtain ⟨hx, hb, -⟩ := F
  have hpc : pc = pc' := hpc
  subst hpc
  have hd : decode cc pc = .ok (ins, len) := hd
  have h : ee_hO os g nL bc bs (pc, ins, len, hn, ea, eb, ez, qa, qb, qc) (pc, lo, stk, w, iv, kc, ks, sv) = some sts := h
  cases stk with
  | nil => exact fall h
  | cons x stk =>
    cases x with
    | ref j =>
      cases ins with
      | arraylength =>
        replace h : (match ee_oaf os j with
          | some o => ee_nx len 1 [(pc + 1, lo, o.2.1 :: stk, w, iv, kc, ks, sv)]
          | none => g nL bc bs (pc, .arraylength, len, hn, ea, eb, ez, qa, qb, qc) (pc, lo, .ref j :: stk, w, iv, kc, ks, sv)) = some sts := h
        cases hf : ee_oaf os j with
        | none => rw [hf] at h; exact fall h
        | some o =>
          rw [hf] at h
          obtain ⟨rfl, rfl⟩ := ee_nx_some h
          obtain ⟨hm, rfl⟩ := ee_oaf.ok hf
          obtain ⟨b1, L, xs, g1, g2, g3, g4, g5, g6⟩ := ho o hm
          intro ns as H lc ls vs C
          obtain ⟨c1, ⟨⟨r, rfl⟩, c2⟩, c3, c4, c5, c6⟩ := C
          cases vs with
          | nil => exact c4.elim
          | cons v vs =>
            obtain ⟨c4v, c4⟩ := c4
            obtain ⟨a, rfl⟩ := ee_v.ref c4v
            obtain ⟨ws, c6w, hP, hD, hS⟩ := c6
            have ha := c4v.out b1
            subst ha
            exact va_slen hx hb g1 g2 g3 hS hd (k _ List.mem_cons_self (x0 ++ r) as H lc ls _ ⟨c1, ⟨⟨r, rfl⟩, c2⟩, c3, ⟨g4.mono r as, c4⟩, c5, ws, c6w, hP, hD, hS⟩)
      | _ => exact fall h
    | retAddr kk =>
      cases stk with
      | nil => exact fall h
      | cons y stk =>
        cases y with
        | ref j =>
          cases ins with
          | iaload =>
            have h9 : (match ee_oaf os j with
              | some o => (match ee_oal o (ee_rt iv kk).1 (ee_rt iv kk).2 with
                | some q => ee_nx len 1 [(pc + 1, lo, q.2 :: stk, w, iv, kc, ks, sv)]
                | none => if ee_ib iv (.retAddr kk) o.2.2.1 = true then ee_nx len 1 [(pc + 1, lo, .retAddr iv.1 :: stk, w, ee_ps iv (-2147483648) 2147483647 [], kc, ks, sv)] else none)
              | none => g nL bc bs (pc, .iaload, len, hn, ea, eb, ez, qa, qb, qc) (pc, lo, .retAddr kk :: .ref j :: stk, w, iv, kc, ks, sv)) = some sts := h
            cases hf : ee_oaf os j with
            | none => rw [hf] at h9; exact fall h9
            | some o =>
              rw [hf] at h9
              simp only at h9
              obtain ⟨hm, rfl⟩ := ee_oaf.ok hf
              obtain ⟨b1, L, xs, g1, g2, g3, g4, g5, g6⟩ := ho o hm
              cases ho2 : ee_oal o (ee_rt iv kk).1 (ee_rt iv kk).2 with
              | some q =>
                rw [ho2] at h9
                obtain ⟨rfl, rfl⟩ := ee_nx_some h9
                obtain ⟨q1, q2, q3⟩ := ee_oal.ok ho2
                obtain ⟨i, jj, g7, g8, g9, g10⟩ := g6 q q1
                intro ns as H lc ls vs C
                obtain ⟨c1, ⟨⟨r, rfl⟩, c2⟩, c3, c4, c5, c6⟩ := C
                cases vs with
                | nil => exact c4.elim
                | cons v vs =>
                  obtain ⟨c4v, c4⟩ := c4
                  obtain ⟨z, z1, rfl⟩ := c4v
                  cases vs with
                  | nil => exact c4.elim
                  | cons v vs =>
                    obtain ⟨c4u, c4⟩ := c4
                    obtain ⟨a, rfl⟩ := ee_v.ref c4u
                    obtain ⟨ws, c6w, hP, hD, hS⟩ := c6
                    have ha := c4u.out b1
                    subst ha
                    obtain ⟨y, y1, y2⟩ := ee_rt.ok c1 z1
                    rw [← q2, ee_get_app g7] at y1
                    cases y1
                    rw [← q3] at y2
                    have hz : z.toInt = (jj : Int) := by omega
                    have hzn : z.toNatClampNeg = jj := by
                      rw [← Int32.toNat_toInt, hz]; rfl
                    refine va_sld hx hb g1 g2 g3 hS (vp_in_iff.mpr ⟨by omega, by omega⟩) hd ?_
                    rw [hzn]
                    exact k _ List.mem_cons_self (x0 ++ r) as H lc ls _ ⟨c1, ⟨⟨r, rfl⟩, c2⟩, c3, ⟨g10.mono r as, c4⟩, c5, ws, c6w, hP, hD, hS⟩
              | none =>
                rw [ho2] at h9
                simp only at h9
                by_cases hib : ee_ib iv (.retAddr kk) o.2.2.1 = true
                · rw [if_pos hib] at h9
                  obtain ⟨rfl, rfl⟩ := ee_nx_some h9
                  intro ns as H lc ls vs C
                  have C' := C
                  obtain ⟨c1, ⟨⟨r, rfl⟩, c2⟩, c3, c4, c5, c6⟩ := C
                  cases vs with
                  | nil => exact c4.elim
                  | cons v vs =>
                    obtain ⟨c4v, c4⟩ := c4
                    obtain ⟨z, rfl, z2⟩ := ee_ib.ok c1 c4v hib
                    cases vs with
                    | nil => exact c4.elim
                    | cons v vs =>
                      obtain ⟨c4u, c4⟩ := c4
                      obtain ⟨a, rfl⟩ := ee_v.ref c4u
                      have hS := c6.choose_spec.2.2.2
                      have ha := c4u.out b1
                      subst ha
                      have z3 := vp_in_iff.mp z2
                      refine va_sld hx hb g1 g2 g3 hS (vp_in_iff.mpr ⟨by omega, by omega⟩) hd ?_
                      have lo1 : -2147483648 ≤ (xs z.toNatClampNeg).toInt := Int32.le_toInt _
                      have hi1 : (xs z.toNatClampNeg).toInt ≤ 2147483647 := Int.le_of_lt_add_one (Int32.toInt_lt _)
                      have G := ee_Con.grow (⟨c1, ⟨⟨r, rfl⟩, c2⟩, c3, c4, c5, c6⟩ : ee_Con s A D dA ex x0 a0 sv0 nL lo stk w iv sv (x0 ++ r) as H lc ls vs) (z := xs z.toNatClampNeg) (a := -2147483648) (b := 2147483647) (fs := []) lo1 hi1 (fun f hf => by cases hf)
                      obtain ⟨d1, d2, d3, d4, d5, d6⟩ := G
                      exact k _ List.mem_cons_self ((x0 ++ r) ++ [xs z.toNatClampNeg]) as H lc ls _ ⟨d1, d2, d3, ⟨⟨_, c1.last _, rfl⟩, d4⟩, d5, d6⟩
                · rw [if_neg hib] at h9
                  exact ee_no h9
          | _ => exact fall h
        | _ => exact fall h
    | _ => exact fall h
theorem ee_hOs.x {p : Program} {l : Launch} {en : Env} {R : Room} {s : State} {m : MethodId} {args : Array Value} {below : List Frame} {meth : Method} {c : Code} {A : Nat → Prop} {D : va_G} {dA : Nat → ClassId} {ex : Nat → Nat} {x0 : List Int32} {a0 : List Nat} {sv0 : List Value} {nL : Nat} {os : List ee_oa} (ho : ∀ o ∈ os, ee_OA s A ex x0 o) : ∀ g ∈ ee_hs.map (ee_hO os), ee_SndX (p, l, en, R, s, m, args, below, meth, c) (A, D, dA, ex, x0, a0, sv0, nL) g := by
  intro g hg
  obtain ⟨g', h1, rfl⟩ := List.mem_map.mp hg
  exact ee_hO.x ho (ee_hs.x _ _ g' h1)
