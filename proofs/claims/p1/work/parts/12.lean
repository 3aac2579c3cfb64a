/-! THE LAW, from its entry -/
set_option maxHeartbeats 4000000 in
set_option maxRecDepth 100000 in
theorem whole_law {p : Program} {e : Env} {s : State} {m : MethodId} {below : List Frame} {meth : Method} {c : Code} (l : Launch) (hflags : l.flags = flags0) {b L : Nat} {xs : Nat → Int32} (hL : L ≤ 6) (C0 : lw_At p s m meth c b L xs) {outs : List ee_st} {fu : Nat} (hex : ee_exec fu 30 33 ee_lawno ee_st0 = some outs) (hrun : ∀ q ∈ outs, ee_fin ee_lawm q = true ∨ q = ee_s1) (hB : ∀ z : Int, 0 ≤ z → z ≤ 63 → ∃ (a b : Int) (outs2 : List ee_st), a ≤ z ∧ z ≤ b ∧ ee_exec ee_fuel 30 1000000 ee_lawno (ee_s2 a b) = some outs2 ∧ outs2.all (ee_fin ee_lawm) = true) : W p l e room_1 s m #[Value.ref b] below meth c s.heap [] 0 0 (lw_Z below #[Value.ref b] s) (entryFrame m ([Value.ref b] : List Value).toArray 4) := by
  obtain ⟨hx, hb, hr, hml, hown, hts, hX, hbl, hlocks, hgv⟩ := id C0
  have hts' : ∀ w ∈ ee_tbl, w.before #[Value.ref b] s = true := fun w hw => hts w (ee_tbl_lw w hw)
  have hall : ∀ k : Nat, ∃ u : ClassId × (Nat → Nat), ∀ q, vwCl[k]? = some q → u_Kn s q.1 q.2.1 q.2.2 u.1 u.2 := by
    intro k
    cases hq : vwCl[k]? with
    | none => exact ⟨(0, fun _ => 0), fun q h => by cases h⟩
    | some q =>
      obtain ⟨cC, iS, h⟩ := u_known (C := q.1) (T := q.2.1) (N := q.2.2) (n := q.2.2) hts' (ee_kd k q hq).1 (hts' _ (ee_inst k q hq))
      exact ⟨(cC, iS), fun q' h' => by cases h'; exact h⟩
  obtain ⟨a1, a2, a3, a4⟩ := ee_arr
  obtain ⟨d0, k0⟩ := ee_arrK (ty := .int) (fun _ q => by cases q) (hts' _ a1)
  obtain ⟨d1, k1⟩ := ee_arrK (ty := .byte) (fun _ q => by cases q) (hts' _ a2)
  obtain ⟨d2, k2⟩ := ee_arrK (ty := .boolean) (fun _ q => by cases q) (hts' _ a3)
  obtain ⟨d3, k3⟩ := ee_arrK (ty := .long) (fun _ q => by cases q) (hts' _ a4)
  obtain ⟨D, hD0⟩ : ∃ D : va_G, ∀ (k : Nat) (q : vw_C), vwCl[k]? = some q → u_Kn s q.1 q.2.1 q.2.2 (D.1 k) (D.2 k) := ⟨(fun k => (Classical.choose (hall k)).1, fun k => (Classical.choose (hall k)).2), fun k q hq => Classical.choose_spec (hall k) q hq⟩
  obtain ⟨dA, g0, g1, g2, g3⟩ : ∃ dA : Nat → ClassId, dA 0 = d0 ∧ dA 1 = d1 ∧ dA 2 = d2 ∧ dA 3 = d3 := ⟨fun t => if t = 0 then d0 else if t = 1 then d1 else if t = 2 then d2 else d3, rfl, rfl, rfl, rfl⟩
  have hK : va_K D vwCl (ee_tys dA) s := ⟨hD0, fun k q hk => by
    match k, hk with
    | 0, hk => cases hk; rw [g0]; exact k0
    | 1, hk => cases hk; rw [g1]; exact k1
    | 2, hk => cases hk; rw [g2]; exact k2
    | 3, hk => cases hk; rw [g3]; exact k3
    | k + 4, hk => simp [ee_tys] at hk⟩
  obtain ⟨ex, e1, hE⟩ := ee_ext hL hts hX hbl hgv
  have hP : va_P D vwCl [] s.heap := fun k q h => by simp at h
  have hD : va_D (fun q : Nat => s.heap.size ≤ q) [] := ⟨fun i j p q h => by simp at h, fun k q h => by simp at h⟩
  have hl := lv_entry ([.ref b]) (n := 4) (Nat.le_of_ble_eq_true rfl)
  rw [lg_entry_eq]
  have hfin : ∀ q, ee_fin ee_lawm q = true → ee_G (p, l, e, room_1, s, m, #[Value.ref b], below, meth, c) (fun q : Nat => s.heap.size ≤ q, D, dA, ex, [xs 0, xs 1, xs 2, xs 3, xs 4, xs 5, nI L], [], 4) (lw_Z below #[Value.ref b] s) q := by
    intro q hq
    obtain ⟨en, f1, f2, f3, f4, f5, f6⟩ := ee_fin.ok hq
    obtain ⟨m1, m2⟩ := ee_find.ok f1
    have hd := ((ee_MTok _ _ ee_lawM).2 en m1).1
    rw [m2, f2, f3] at hd
    obtain ⟨pc, lo, stk, w, iv, kc, ks, sv⟩ := q
    have f4 : stk = [.int 1] := f4
    subst f4
    intro ns as H lc ls vs C
    obtain ⟨c1, c2, c3, c4, c5, ws, c6w, hP1, hD1, hS1⟩ := C
    obtain ⟨v, vs1, rfl, cv, c4⟩ := c4.cons
    cases vs1 with
    | cons v2 vs2 => exact c4.elim
    | nil =>
      cases (show v = .int 1 from cv)
      refine va_forget (fun q hq => hS1.2.2 q hq) ?_
      refine W.widen f5 f6 ?_
      exact lw_ret hx hb hr hlocks hd
  have F : ee_F (p, l, e, room_1, s, m, #[Value.ref b], below, meth, c) (fun q : Nat => s.heap.size ≤ q, D, dA, ex, [xs 0, xs 1, xs 2, xs 3, xs 4, xs 5, nI L], [], 4) ee_lawm.2.1.cls ee_lawm.2.2.1 ee_tbl (ee_lawm.2.1.name = "<init>") (30 + 1) ee_lawm.2.2.2.2.2.2.1 ee_lawm.2.2.2.2.2.2.2 :=
    ⟨hx, hb, hml, hown, hts', hK, fun q hq => hq, fun h => absurd h (by decide), ⟨Nat.le_of_ble_eq_true rfl, Nat.le_of_ble_eq_true rfl, Nat.le_of_ble_eq_true rfl, Nat.le_of_ble_eq_true rfl⟩, hE⟩
  have hends : ∀ q ∈ outs, ee_G (p, l, e, room_1, s, m, #[Value.ref b], below, meth, c) (fun q : Nat => s.heap.size ≤ q, D, dA, ex, [xs 0, xs 1, xs 2, xs 3, xs 4, xs 5, nI L], [], 4) (lw_Z below #[Value.ref b] s) q := by
    intro q hq
    rcases hrun q hq with h | h
    · exact hfin q h
    · subst h
      intro ns as H lc ls vs C
      obtain ⟨c1, c2⟩ := C
      obtain ⟨z, g1, g2, g3, -⟩ := c1.2 7 (0, 63, none) rfl
      obtain ⟨a, b', outs2, h1, h2, h3, h4⟩ := hB z.toInt g2 g3
      exact ee_sound ee_fuel 30 1000000 ee_lawno (ee_s2 a b') outs2 ee_lawm _ _ _ h3 ee_lawM F rfl (fun q hq => hfin q (List.all_eq_true.mp h4 q hq)) ns as H lc ls vs ⟨ee_put.ok (as := as) (ex := ex) (x := .retAddr 7) c1 ⟨z, g1, rfl⟩ h1 h2, c2⟩
  refine ee_sound fu 30 33 ee_lawno ee_st0 outs ee_lawm _ _ _ hex ee_lawM F rfl hends [xs 0, xs 1, xs 2, xs 3, xs 4, xs 5, nI L] [] s.heap [] _ [] ⟨?_, ⟨[], (List.append_nil _).symm⟩, ⟨_, hl, ⟨⟨rfl, ?_⟩, trivial⟩⟩, trivial, trivial, [], ⟨rfl, trivial⟩, hP, hD, va_S.rf⟩
  · refine ⟨rfl, fun k q hk => ?_⟩
    have full : ∀ z : Int32, ∃ y, some z = some y ∧ (-2147483648 : Int) ≤ y.toInt ∧ y.toInt ≤ 2147483647 ∧ ∀ (j : Nat) (d : Int32), (none : Option (Nat × Int32)) = some (j, d) → ∃ u, ([xs 0, xs 1, xs 2, xs 3, xs 4, xs 5, nI L] : List Int32)[j]? = some u ∧ y = u + d := fun z => ⟨z, rfl, (ee_rng z).1, (ee_rng z).2, fun _ _ q => by cases q⟩
    match k, hk with
    | 0, hk => cases hk; exact full _
    | 1, hk => cases hk; exact full _
    | 2, hk => cases hk; exact full _
    | 3, hk => cases hk; exact full _
    | 4, hk => cases hk; exact full _
    | 5, hk => cases hk; exact full _
    | 6, hk =>
      cases hk
      have hn := nI_toInt (n := L) (by omega)
      exact ⟨nI L, rfl, by show (0 : Int) ≤ (nI L).toInt; omega, by show (nI L).toInt ≤ 6; omega, fun _ _ q => by cases q⟩
    | k + 7, hk => cases hk
  · show ee_v _ _ ex (.ref 2000000) (.ref b)
    rw [← e1]
    exact ee_v.outs (by decide)

theorem whole_start {p : Program} {e : Env} {s : State} {m : MethodId} {below : List Frame} {meth : Method} {c : Code} (l : Launch) (hflags : l.flags = flags0) {b L : Nat} {xs : Nat → Int32} (hL : L ≤ 6) (C0 : lw_At p s m meth c b L xs) : W p l e room_1 s m #[Value.ref b] below meth c s.heap [] 0 0 (lw_Z below #[Value.ref b] s) (entryFrame m ([Value.ref b] : List Value).toArray 4) := by
  have hA : ∃ outs, ee_exec ee_fuel 30 33 ee_lawno ee_st0 = some outs ∧ ∀ q ∈ outs, ee_fin ee_lawm q = true ∨ q = ee_s1 := by
    have h := ee_runA
    generalize ee_exec ee_fuel 30 33 ee_lawno ee_st0 = o at h ⊢
    cases o with
    | none => cases h
    | some outs =>
      refine ⟨outs, rfl, fun q hq => ?_⟩
      have h2 := List.all_eq_true.mp (show outs.all ee_okA = true from h) q hq
      rcases (Bool.or_eq_true _ _).mp (show (ee_fin ee_lawm q || ee_seq q ee_s1) = true from h2) with h3 | h3
      · exact Or.inl h3
      · exact Or.inr (ee_seq.ok h3)
  obtain ⟨outs, h1, h2⟩ := hA
  refine whole_law l hflags hL C0 h1 h2 (fun z z1 z2 => ?_)
  by_cases e0 : z ≤ 7
  · obtain ⟨o, o1, o2⟩ := ee_good1.ok ee_runB0
    exact ⟨0, 7, o, by omega, e0, o1, o2⟩
  by_cases e1 : z ≤ 15
  · obtain ⟨o, o1, o2⟩ := ee_good1.ok ee_runB1
    exact ⟨8, 15, o, by omega, e1, o1, o2⟩
  by_cases e2 : z ≤ 19
  · obtain ⟨o, o1, o2⟩ := ee_good1.ok ee_runB2
    exact ⟨16, 19, o, by omega, e2, o1, o2⟩
  by_cases e3 : z ≤ 27
  · obtain ⟨o, o1, o2⟩ := ee_good1.ok ee_runB3
    exact ⟨20, 27, o, by omega, e3, o1, o2⟩
  by_cases e4 : z ≤ 29
  · obtain ⟨o, o1, o2⟩ := ee_good1.ok ee_runB4
    exact ⟨28, 29, o, by omega, e4, o1, o2⟩
  by_cases e5 : z ≤ 39
  · obtain ⟨o, o1, o2⟩ := ee_good1.ok ee_runB5
    exact ⟨30, 39, o, by omega, e5, o1, o2⟩
  by_cases e6 : z ≤ 47
  · obtain ⟨o, o1, o2⟩ := ee_good1.ok ee_runB6
    exact ⟨40, 47, o, by omega, e6, o1, o2⟩
  by_cases e7 : z ≤ 51
  · obtain ⟨o, o1, o2⟩ := ee_good1.ok ee_runB7
    exact ⟨48, 51, o, by omega, e7, o1, o2⟩
  by_cases e8 : z ≤ 53
  · obtain ⟨o, o1, o2⟩ := ee_good1.ok ee_runB8
    exact ⟨52, 53, o, by omega, e8, o1, o2⟩
  obtain ⟨o, o1, o2⟩ := ee_good1.ok ee_runB9
  exact ⟨54, 63, o, by omega, z2, o1, o2⟩
