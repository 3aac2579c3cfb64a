/-! handlers: longs, narrow ints, the stack, branches -/
theorem ee_lcmp (x y : Int64) : -1 ≤ (lg_cmp x y).toInt ∧ (lg_cmp x y).toInt ≤ 1 := by
  unfold lg_cmp
  split
  · decide
  · split <;> decide
theorem ee_lcmp0 (x : Int64) : lg_cmp x x = 0 := by
  unfold lg_cmp
  rw [if_neg (fun h => absurd (Int64.lt_iff_toInt_lt.mp h) (by omega)), if_pos rfl]
theorem ee_lcmpn {x y : Int64} (h : x ≠ y) : (lg_cmp x y).toInt ≠ 0 := by
  unfold lg_cmp
  split
  · decide
  · first | decide | (rw [if_neg h]; decide)
/-- a long of those outside, by its number -/
def ee_lk (x : Value) : Option UInt64 := match x with
  | .double k => if k = 0 then none else some k
  | _ => none
def ee_lc (x : Value) : Option Int64 := match x with
  | .long c => some c
  | _ => none
theorem ee_lk.ok {x : Value} {k : UInt64} (h : ee_lk x = some k) : x = .double k ∧ k ≠ 0 := by
  unfold ee_lk at h
  split at h
  · rename_i j
    by_cases hj : j = 0
    · rw [if_pos hj] at h; cases h
    · rw [if_neg hj] at h
      cases h
      exact ⟨rfl, hj⟩
  · cases h
theorem ee_lc.ok {x : Value} {c : Int64} (h : ee_lc x = some c) : x = .long c := by
  unfold ee_lc at h
  split at h
  · cases h; rfl
  · cases h
theorem ee_v.lsy {ns : List Int32} {as : List Nat} {ex : Nat → Nat} {k : UInt64} {z : Int64} (hk : k ≠ 0) (h : ee_v ns as ex (.double k) (.long z)) : z = Int64.ofNat (ex (3000000 + k.toNat)) := by
  unfold ee_v at h
  simp only [hk, if_false] at h
  cases h
  rfl
/-- that long put in place of its name -/
def ee_sb (k : UInt64) (c : Int64) (x : Value) : Value := if x = .double k then .long c else x
theorem ee_sb.ok {ns : List Int32} {as : List Nat} {ex : Nat → Nat} {k : UInt64} {c : Int64} {x v : Value} (hk : k ≠ 0) (hc : Int64.ofNat (ex (3000000 + k.toNat)) = c) (h : ee_v ns as ex x v) : ee_v ns as ex (ee_sb k c x) v := by
  unfold ee_sb
  by_cases e : x = .double k
  · rw [if_pos e]
    subst e
    obtain ⟨z, rfl⟩ := h.dbl
    rw [ee_v.lsy hk h, hc]
    rfl
  · rw [if_neg e]; exact h
def ee_sbc (k : UInt64) (c : Int64) (x : ee_cell) : ee_cell := match x with
  | .inl (ci, fs) => .inl (ci, fs.map (ee_sb k c))
  | .inr q => .inr q
theorem ee_all.mapl {α β : Type} {R : α → β → Prop} {g : α → α} (h : ∀ a b, R a b → R (g a) b) : ∀ {l : List α} {k : List β}, ee_all R l k → ee_all R (l.map g) k
  | [], [], _ => trivial
  | a :: l, b :: k, q => ⟨h a b q.1, ee_all.mapl h q.2⟩
  | [], _ :: _, q => q.elim
  | _ :: _, [], q => q.elim
theorem ee_sbc.ok {ns : List Int32} {as : List Nat} {ex : Nat → Nat} {dA : Nat → ClassId} {k : UInt64} {c : Int64} {x : ee_cell} {e : va_E} (hk : k ≠ 0) (hc : Int64.ofNat (ex (3000000 + k.toNat)) = c) (h : ee_c ns as ex dA x e) : ee_c ns as ex dA (ee_sbc k c x) e := by
  match x, h with
  | .inl (ci, fs), ⟨vs, h1, h2⟩ => exact ⟨vs, h1, h2.mapl (fun a b q => ee_sb.ok hk hc q)⟩
  | .inr q, h => exact h
def ee_lq (pc : Nat) (k : UInt64) (c : Int64) (lo : List (Nat × Value)) (stk : List Value) (w : ee_w) (iv : ee_iv) (kc ks : Nat) (sv : List Value) : List ee_st :=
  [(pc + 1, lo.map (fun q => (q.1, ee_sb k c q.2)), .int 0 :: stk.map (ee_sb k c), w.map (ee_sbc k c), iv, kc, ks, sv.map (ee_sb k c)), (pc + 1, lo, .retAddr iv.1 :: stk, w, ee_ps iv (-1) 1 [(6, 0, 0)], kc, ks, sv)]
def ee_la2 (pc : Nat) (lo : List (Nat × Value)) (stk : List Value) (w : ee_w) (iv : ee_iv) (kc ks : Nat) (sv : List Value) : List ee_st := [(pc + 1, lo, .retAddr iv.1 :: stk, w, ee_ps iv (-1) 1 [], kc, ks, sv)]
/-- the states behind lcmp of y and x -/
def ee_lcm (pc : Nat) (y x : Value) (lo : List (Nat × Value)) (stk : List Value) (w : ee_w) (iv : ee_iv) (kc ks : Nat) (sv : List Value) : List ee_st := match ee_lc x with
  | some c => (match ee_lc y with
    | some d => [(pc + 1, lo, .int (lg_cmp d c) :: stk, w, iv, kc, ks, sv)]
    | none => (match ee_lk y with
      | some k => ee_lq pc k c lo stk w iv kc ks sv
      | none => ee_la2 pc lo stk w iv kc ks sv))
  | none => (match ee_lc y with
    | some d => (match ee_lk x with
      | some k => ee_lq pc k d lo stk w iv kc ks sv
      | none => ee_la2 pc lo stk w iv kc ks sv)
    | none => ee_la2 pc lo stk w iv kc ks sv)
theorem ee_lcm.ok {p : Program} {l : Launch} {en : Env} {R : Room} {s : State} {m : MethodId} {args : Array Value} {below : List Frame} {meth : Method} {c : Code} {A : Nat → Prop} {D : va_G} {dA : Nat → ClassId} {ex : Nat → Nat} {x0 : List Int32} {a0 : List Nat} {sv0 : List Value} {nL : Nat} {Q : State → Prop} {pc : Nat} {y x : Value} {lo : List (Nat × Value)} {stk : List Value} {w : ee_w} {iv : ee_iv} {kc ks : Nat} {sv : List Value} (k : ∀ q ∈ ee_lcm pc y x lo stk w iv kc ks sv, ee_G (p, l, en, R, s, m, args, below, meth, c) (A, D, dA, ex, x0, a0, sv0, nL) Q q) {ns : List Int32} {as : List Nat} {H : Heap} {lc : List Loc} {ls : Array Slot} {vs : List Value} {a b : Int64} (C : ee_Con s A D dA ex x0 a0 sv0 nL lo stk w iv sv ns as H lc ls vs) (hx : ee_v ns as ex x (.long a)) (hy : ee_v ns as ex y (.long b)) :
    W p l en R s m args below meth c H lc kc ks Q (F0 m (pc + 1) ls (.int (lg_cmp b a) :: vs)) := by
  have any : (∀ q ∈ ee_la2 pc lo stk w iv kc ks sv, ee_G (p, l, en, R, s, m, args, below, meth, c) (A, D, dA, ex, x0, a0, sv0, nL) Q q) → W p l en R s m args below meth c H lc kc ks Q (F0 m (pc + 1) ls (.int (lg_cmp b a) :: vs)) := fun k => by
    have g := ee_lcmp b a
    obtain ⟨d1, d2, d3, d4, d5, d6⟩ := C.grow g.1 g.2 (fs := []) (fun _ q => by cases q)
    exact k _ List.mem_cons_self _ as H lc ls _ ⟨d1, d2, d3, ⟨⟨_, C.1.last _, rfl⟩, d4⟩, d5, d6⟩
  have one : ∀ (j : UInt64) (d : Int64), j ≠ 0 → (Int64.ofNat (ex (3000000 + j.toNat)) = d ↔ b = a) → (∀ q ∈ ee_lq pc j d lo stk w iv kc ks sv, ee_G (p, l, en, R, s, m, args, below, meth, c) (A, D, dA, ex, x0, a0, sv0, nL) Q q) → W p l en R s m args below meth c H lc kc ks Q (F0 m (pc + 1) ls (.int (lg_cmp b a) :: vs)) := fun j d hj hq k => by
    by_cases e : b = a
    · have hc := hq.mpr e
      subst e
      rw [ee_lcmp0]
      obtain ⟨c1, c2, ⟨lv, c3, c3l⟩, c4, c5, ws, ⟨cw1, cw2⟩, c6⟩ := C
      exact k _ List.mem_cons_self ns as H lc ls _ ⟨c1, c2, ⟨lv, c3, c3l.mapl (fun q r z => ⟨z.1, ee_sb.ok hj hc z.2⟩)⟩, ⟨rfl, c4.mapl (fun _ _ z => ee_sb.ok hj hc z)⟩, c5.mapl (fun _ _ z => ee_sb.ok hj hc z), ws, ⟨cw1, ee_all.mapl (R := fun (x : ee_cell) (q : Nat × va_E) => ee_c ns as ex dA x q.2) (fun _ _ z => ee_sbc.ok hj hc z) cw2⟩, c6⟩
    · have g := ee_lcmp b a
      obtain ⟨d1, d2, d3, d4, d5, d6⟩ := C.grow g.1 g.2 (fs := [(6, 0, 0)]) (fun f q => by
        simp only [List.mem_cons, List.not_mem_nil, or_false] at q
        subst q
        exact ee_lcmpn e)
      exact k _ (List.mem_cons_of_mem _ List.mem_cons_self) _ as H lc ls _ ⟨d1, d2, d3, ⟨⟨_, C.1.last _, rfl⟩, d4⟩, d5, d6⟩
  unfold ee_lcm at k
  cases hlx : ee_lc x with
  | some c =>
    rw [hlx] at k
    have ex1 := ee_lc.ok hlx
    subst ex1
    cases (show Value.long a = Value.long c from hx)
    simp only at k
    cases hly : ee_lc y with
    | some d =>
      rw [hly] at k
      have ey1 := ee_lc.ok hly
      subst ey1
      cases (show Value.long b = Value.long d from hy)
      obtain ⟨c1, c2, c3, c4, c5, c6⟩ := C
      exact k _ List.mem_cons_self ns as H lc ls _ ⟨c1, c2, c3, ⟨rfl, c4⟩, c5, c6⟩
    | none =>
      rw [hly] at k
      simp only at k
      cases hky : ee_lk y with
      | none => rw [hky] at k; exact any k
      | some j =>
        rw [hky] at k
        obtain ⟨e1, e2⟩ := ee_lk.ok hky
        subst e1
        exact one j a e2 (by rw [ee_v.lsy e2 hy]) k
  | none =>
    rw [hlx] at k
    simp only at k
    cases hly : ee_lc y with
    | none => rw [hly] at k; exact any k
    | some d =>
      rw [hly] at k
      have ey1 := ee_lc.ok hly
      subst ey1
      cases (show Value.long b = Value.long d from hy)
      simp only at k
      cases hkx : ee_lk x with
      | none => rw [hkx] at k; exact any k
      | some j =>
        rw [hkx] at k
        obtain ⟨e1, e2⟩ := ee_lk.ok hkx
        subst e1
        exact one j b e2 (by rw [ee_v.lsy e2 hx]; exact eq_comm) k
def ee_h9 : ee_H := fun _ _ _ e st => match st with
  | (pc, lo, x :: y :: stk, w, iv, kc, ks, sv) => if ee_isl x = true ∧ ee_isl y = true then (match e.2.1 with
      | .ladd => ee_nx e.2.2.1 1 [(pc + 1, lo, .double 0 :: stk, w, iv, kc, ks, sv)]
      | .lmul => ee_nx e.2.2.1 1 [(pc + 1, lo, .double 0 :: stk, w, iv, kc, ks, sv)]
      | .lor => ee_nx e.2.2.1 1 [(pc + 1, lo, .double 0 :: stk, w, iv, kc, ks, sv)]
      | .lcmp => ee_nx e.2.2.1 1 (ee_lcm pc y x lo stk w iv kc ks sv)
      | _ => none) else (match ee_it iv x with
      | some _ => (match e.2.1 with
        | .i2l => ee_nx e.2.2.1 1 [(pc + 1, lo, .double 0 :: y :: stk, w, iv, kc, ks, sv)]
        | .lshl => if ee_isl y = true then ee_nx e.2.2.1 1 [(pc + 1, lo, .double 0 :: stk, w, iv, kc, ks, sv)] else none
        | _ => none)
      | none => none)
  | _ => none
set_option maxHeartbeats 2000000 in
theorem ee_h9.snd : ee_Snd ee_h9 := by
  intro X Y oc own cc ini dm bc bs Q e st sts F ho hi hd he hpc h k
  obtain ⟨p, l, en, R, s, m, args, below, meth, c⟩ := X
  obtain ⟨A, D, dA, ex, x0, a0, sv0, nL⟩ := Y
  obtain ⟨pc, lo, stk, w, iv, kc, ks, sv⟩ := st
  obtain ⟨pc', ins, len, hn, ea, eb, ez, qa, qb, qc⟩ := e
  obtain ⟨hx, hb, hml, hown, hts, hK, hA, hini, hR, hE⟩ := F
  have hpc : pc = pc' := hpc
  subst hpc
  have hd : decode cc pc = .ok (ins, len) := hd
  intro ns as H lc ls vs C
  obtain ⟨c1, c2, c3, c4, c5, c6⟩ := C
  show W p l en R s m args below meth c H lc kc ks Q (F0 m pc ls vs)
  match stk, vs, c4, h with
  | [], _, _, h => exact ee_no h
  | [_], _, _, h => exact ee_no h
  | x :: y :: stk, [], c4, h => exact c4.elim
  | x :: y :: stk, [_], c4, h => exact c4.2.elim
  | x :: y :: stk, vx :: vy :: vs, ⟨cx, cy, c4⟩, h =>
    replace h : (if ee_isl x = true ∧ ee_isl y = true then (match (generalizing := false) ins with
      | .ladd => ee_nx len 1 [(pc + 1, lo, .double 0 :: stk, w, iv, kc, ks, sv)]
      | .lmul => ee_nx len 1 [(pc + 1, lo, .double 0 :: stk, w, iv, kc, ks, sv)]
      | .lor => ee_nx len 1 [(pc + 1, lo, .double 0 :: stk, w, iv, kc, ks, sv)]
      | .lcmp => ee_nx len 1 (ee_lcm pc y x lo stk w iv kc ks sv)
      | _ => none) else (match ee_it iv x with
      | some _ => (match (generalizing := false) ins with
        | .i2l => ee_nx len 1 [(pc + 1, lo, .double 0 :: y :: stk, w, iv, kc, ks, sv)]
        | .lshl => if ee_isl y = true then ee_nx len 1 [(pc + 1, lo, .double 0 :: stk, w, iv, kc, ks, sv)] else none
        | _ => none)
      | none => none)) = some sts := h
    by_cases hc : ee_isl x = true ∧ ee_isl y = true
    · rw [if_pos hc] at h
      obtain ⟨a, rfl⟩ := ee_isl.ok cx hc.1
      obtain ⟨b, rfl⟩ := ee_isl.ok cy hc.2
      cases ins with
      | ladd =>
        obtain ⟨rfl, rfl⟩ := ee_nx_some (show ee_nx len 1 _ = some sts from h)
        exact lv_ladd hx hb hd (k _ List.mem_cons_self ns as H lc ls _ ⟨c1, c2, c3, ⟨⟨_, rfl⟩, c4⟩, c5, c6⟩)
      | lmul =>
        obtain ⟨rfl, rfl⟩ := ee_nx_some (show ee_nx len 1 _ = some sts from h)
        exact lv_lmul hx hb hd (k _ List.mem_cons_self ns as H lc ls _ ⟨c1, c2, c3, ⟨⟨_, rfl⟩, c4⟩, c5, c6⟩)
      | lor =>
        obtain ⟨rfl, rfl⟩ := ee_nx_some (show ee_nx len 1 _ = some sts from h)
        exact lv_lor hx hb hd (k _ List.mem_cons_self ns as H lc ls _ ⟨c1, c2, c3, ⟨⟨_, rfl⟩, c4⟩, c5, c6⟩)
      | lcmp =>
        obtain ⟨rfl, rfl⟩ := ee_nx_some (show ee_nx len 1 (ee_lcm pc y x lo stk w iv kc ks sv) = some sts from h)
        exact W.lcmp hx hb hd (ee_lcm.ok k ⟨c1, c2, c3, c4, c5, c6⟩ cx cy)
      | _ => exact ee_no h
    · rw [if_neg hc] at h
      cases hq : ee_it iv x with
      | none => rw [hq] at h; exact ee_no h
      | some q =>
        rw [hq] at h
        obtain ⟨z, rfl, -, -⟩ := ee_it.int c1 cx hq
        cases ins with
        | i2l =>
          obtain ⟨rfl, rfl⟩ := ee_nx_some (show ee_nx len 1 _ = some sts from h)
          exact lv_i2l hx hb hd rfl (k _ List.mem_cons_self ns as H lc ls _ ⟨c1, c2, c3, ⟨⟨_, rfl⟩, cy, c4⟩, c5, c6⟩)
        | lshl =>
          replace h : (if ee_isl y = true then ee_nx len 1 [(pc + 1, lo, Value.double 0 :: stk, w, iv, kc, ks, sv)] else none) = some sts := h
          by_cases hy : ee_isl y = true
          · rw [if_pos hy] at h
            obtain ⟨rfl, rfl⟩ := ee_nx_some h
            obtain ⟨b, rfl⟩ := ee_isl.ok cy hy
            exact lv_lshl hx hb hd rfl (k _ List.mem_cons_self ns as H lc ls _ ⟨c1, c2, c3, ⟨⟨_, rfl⟩, c4⟩, c5, c6⟩)
          · rw [if_neg hy] at h
            exact ee_no h
        | _ => exact ee_no h
theorem ee_i2c (x : Int32) : 0 ≤ (x.toUInt32 % 65536).toInt32.toInt ∧ (x.toUInt32 % 65536).toInt32.toInt ≤ 65535 := by
  rw [pk_char, nI_toInt (by have := Nat.mod_lt x.toBitVec.toNat (show 0 < 65536 by decide); omega)]
  have := Nat.mod_lt x.toBitVec.toNat (show 0 < 65536 by decide)
  omega
theorem ee_i2b (x : Int32) : -128 ≤ x.toInt8.toInt32.toInt ∧ x.toInt8.toInt32.toInt ≤ 127 := by
  rw [Int8.toInt_toInt32]
  have h1 := Int8.le_toInt x.toInt8
  have h2 := Int8.toInt_lt x.toInt8
  omega
def ee_h10 : ee_H := fun _ _ _ e st => match st with
  | (pc, lo, x :: stk, w, iv, kc, ks, sv) => (match ee_cn iv x with
    | some z => (match e.2.1 with
      | .i2b => ee_nx e.2.2.1 1 [(pc + 1, lo, .int z.toInt8.toInt32 :: stk, w, iv, kc, ks, sv)]
      | .i2c => ee_nx e.2.2.1 1 [(pc + 1, lo, .int (z.toUInt32 % 65536).toInt32 :: stk, w, iv, kc, ks, sv)]
      | _ => none)
    | none => (match ee_it iv x with
      | some _ => (match e.2.1 with
        | .i2b => ee_nx e.2.2.1 1 [(pc + 1, lo, .retAddr iv.1 :: stk, w, ee_ps iv (-128) 127 [], kc, ks, sv)]
        | .i2c => ee_nx e.2.2.1 1 [(pc + 1, lo, .retAddr iv.1 :: stk, w, ee_ps iv 0 65535 [], kc, ks, sv)]
        | _ => none)
      | none => none))
  | _ => none
set_option maxHeartbeats 2000000 in
theorem ee_h10.snd : ee_Snd ee_h10 := by
  intro X Y oc own cc ini dm bc bs Q e st sts F ho hi hd he hpc h k
  obtain ⟨p, l, en, R, s, m, args, below, meth, c⟩ := X
  obtain ⟨A, D, dA, ex, x0, a0, sv0, nL⟩ := Y
  obtain ⟨pc, lo, stk, w, iv, kc, ks, sv⟩ := st
  obtain ⟨pc', ins, len, hn, ea, eb, ez, qa, qb, qc⟩ := e
  obtain ⟨hx, hb, hml, hown, hts, hK, hA, hini, hR, hE⟩ := F
  have hpc : pc = pc' := hpc
  subst hpc
  have hd : decode cc pc = .ok (ins, len) := hd
  intro ns as H lc ls vs C
  obtain ⟨c1, c2, c3, c4, c5, c6⟩ := C
  show W p l en R s m args below meth c H lc kc ks Q (F0 m pc ls vs)
  cases stk with
  | nil => exact ee_no h
  | cons x stk =>
    cases vs with
    | nil => exact c4.elim
    | cons v vs =>
      obtain ⟨c4v, c4⟩ := c4
      replace h : (match ee_cn iv x with
        | some z => (match (generalizing := false) ins with
          | .i2b => ee_nx len 1 [(pc + 1, lo, .int z.toInt8.toInt32 :: stk, w, iv, kc, ks, sv)]
          | .i2c => ee_nx len 1 [(pc + 1, lo, .int (z.toUInt32 % 65536).toInt32 :: stk, w, iv, kc, ks, sv)]
          | _ => none)
        | none => (match ee_it iv x with
          | some _ => (match (generalizing := false) ins with
            | .i2b => ee_nx len 1 [(pc + 1, lo, .retAddr iv.1 :: stk, w, ee_ps iv (-128) 127 [], kc, ks, sv)]
            | .i2c => ee_nx len 1 [(pc + 1, lo, .retAddr iv.1 :: stk, w, ee_ps iv 0 65535 [], kc, ks, sv)]
            | _ => none)
          | none => none)) = some sts := h
      cases hq : ee_cn iv x with
      | some z =>
        rw [hq] at h
        have hv := ee_cn.int c1 c4v hq
        subst hv
        cases ins with
        | i2b =>
          obtain ⟨rfl, rfl⟩ := ee_nx_some (show ee_nx len 1 _ = some sts from h)
          exact lv_i2b hx hb hd rfl (k _ List.mem_cons_self ns as H lc ls _ ⟨c1, c2, c3, ⟨rfl, c4⟩, c5, c6⟩)
        | i2c =>
          obtain ⟨rfl, rfl⟩ := ee_nx_some (show ee_nx len 1 _ = some sts from h)
          exact lv_i2c hx hb hd rfl (k _ List.mem_cons_self ns as H lc ls _ ⟨c1, c2, c3, ⟨rfl, c4⟩, c5, c6⟩)
        | _ => exact ee_no h
      | none =>
        rw [hq] at h
        simp only at h
        cases hr : ee_it iv x with
        | none => rw [hr] at h; exact ee_no h
        | some q =>
          rw [hr] at h
          obtain ⟨z, rfl, -, -⟩ := ee_it.int c1 c4v hr
          cases ins with
          | i2b =>
            obtain ⟨rfl, rfl⟩ := ee_nx_some (show ee_nx len 1 _ = some sts from h)
            have g := ee_i2b z
            obtain ⟨d1, d2, d3, d4, d5, d6⟩ := ee_Con.grow (s := s) (A := A) (D := D) (dA := dA) (ex := ex) (x0 := x0) (a0 := a0) (sv0 := sv0) (nL := nL) (lo := lo) (ls := ls) ⟨c1, c2, c3, c4, c5, c6⟩ g.1 g.2 (fs := []) (fun _ q => by cases q)
            exact lv_i2b hx hb hd rfl (k _ List.mem_cons_self _ as H lc ls _ ⟨d1, d2, d3, ⟨⟨_, c1.last _, rfl⟩, d4⟩, d5, d6⟩)
          | i2c =>
            obtain ⟨rfl, rfl⟩ := ee_nx_some (show ee_nx len 1 _ = some sts from h)
            have g := ee_i2c z
            obtain ⟨d1, d2, d3, d4, d5, d6⟩ := ee_Con.grow (s := s) (A := A) (D := D) (dA := dA) (ex := ex) (x0 := x0) (a0 := a0) (sv0 := sv0) (nL := nL) (lo := lo) (ls := ls) ⟨c1, c2, c3, c4, c5, c6⟩ g.1 g.2 (fs := []) (fun _ q => by cases q)
            exact lv_i2c hx hb hd rfl (k _ List.mem_cons_self _ as H lc ls _ ⟨d1, d2, d3, ⟨⟨_, c1.last _, rfl⟩, d4⟩, d5, d6⟩)
          | _ => exact ee_no h
def ee_h11 : ee_H := fun _ _ _ e st => match st with
  | (pc, lo, x :: stk, w, iv, kc, ks, sv) => if ee_cat x = 1 then (match e.2.1 with
      | .dup => ee_nx e.2.2.1 1 [(pc + 1, lo, x :: x :: stk, w, iv, kc, ks, sv)]
      | .pop => ee_nx e.2.2.1 1 [(pc + 1, lo, stk, w, iv, kc, ks, sv)]
      | .dup2 => (match stk with
        | y :: stk => if ee_cat y = 1 then ee_nx e.2.2.1 1 [(pc + 1, lo, x :: y :: x :: y :: stk, w, iv, kc, ks, sv)] else none
        | [] => none)
      | _ => none) else none
  | _ => none
set_option maxHeartbeats 2000000 in
theorem ee_h11.snd : ee_Snd ee_h11 := by
  intro X Y oc own cc ini dm bc bs Q e st sts F ho hi hd he hpc h k
  obtain ⟨p, l, en, R, s, m, args, below, meth, c⟩ := X
  obtain ⟨A, D, dA, ex, x0, a0, sv0, nL⟩ := Y
  obtain ⟨pc, lo, stk, w, iv, kc, ks, sv⟩ := st
  obtain ⟨pc', ins, len, hn, ea, eb, ez, qa, qb, qc⟩ := e
  obtain ⟨hx, hb, hml, hown, hts, hK, hA, hini, hR, hE⟩ := F
  have hpc : pc = pc' := hpc
  subst hpc
  have hd : decode cc pc = .ok (ins, len) := hd
  intro ns as H lc ls vs C
  obtain ⟨c1, c2, c3, c4, c5, c6⟩ := C
  show W p l en R s m args below meth c H lc kc ks Q (F0 m pc ls vs)
  cases stk with
  | nil => exact ee_no h
  | cons x stk =>
    cases vs with
    | nil => exact c4.elim
    | cons v vs =>
      obtain ⟨c4v, c4⟩ := c4
      replace h : (if ee_cat x = 1 then (match (generalizing := false) ins with
        | .dup => ee_nx len 1 [(pc + 1, lo, x :: x :: stk, w, iv, kc, ks, sv)]
        | .pop => ee_nx len 1 [(pc + 1, lo, stk, w, iv, kc, ks, sv)]
        | .dup2 => (match (generalizing := false) stk with
          | y :: stk => if ee_cat y = 1 then ee_nx len 1 [(pc + 1, lo, x :: y :: x :: y :: stk, w, iv, kc, ks, sv)] else none
          | [] => none)
        | _ => none) else none) = some sts := h
      by_cases hc : ee_cat x = 1
      · rw [if_pos hc] at h
        have hc1 : v.category = 1 := by rw [c4v.cat, hc]
        cases ins with
        | dup =>
          obtain ⟨rfl, rfl⟩ := ee_nx_some (show ee_nx len 1 _ = some sts from h)
          exact lv_dup hx hb hd hc1 (k _ List.mem_cons_self ns as H lc ls _ ⟨c1, c2, c3, ⟨c4v, c4v, c4⟩, c5, c6⟩)
        | pop =>
          obtain ⟨rfl, rfl⟩ := ee_nx_some (show ee_nx len 1 _ = some sts from h)
          exact lv_pop hx hb hd hc1 (k _ List.mem_cons_self ns as H lc ls _ ⟨c1, c2, c3, c4, c5, c6⟩)
        | dup2 =>
          cases stk with
          | nil => exact ee_no h
          | cons y stk =>
            cases vs with
            | nil => exact c4.elim
            | cons u vs =>
              obtain ⟨c4u, c4⟩ := c4
              replace h : (if ee_cat y = 1 then ee_nx len 1 [(pc + 1, lo, x :: y :: x :: y :: stk, w, iv, kc, ks, sv)] else none) = some sts := h
              by_cases hy : ee_cat y = 1
              · rw [if_pos hy] at h
                obtain ⟨rfl, rfl⟩ := ee_nx_some h
                exact lv_dup2_11 hx hb hd hc1 (by rw [c4u.cat, hy]) (k _ List.mem_cons_self ns as H lc ls _ ⟨c1, c2, c3, ⟨c4v, c4u, c4v, c4u, c4⟩, c5, c6⟩)
              · rw [if_neg hy] at h
                exact ee_no h
        | _ => exact ee_no h
      · rw [if_neg hc] at h
        exact ee_no h
def ee_ng (c : ClassFile.Cond) : ClassFile.Cond := match c with
  | .eq => .ne
  | .ne => .eq
  | .lt => .ge
  | .ge => .lt
  | .gt => .le
  | .le => .gt
/-- both ways of a comparison -/
def ee_fork (c : ClassFile.Cond) (pc : Nat) (o : Int) (lo : List (Nat × Value)) (stk : List Value) (w : ee_w) (iv : ee_iv) (kc ks : Nat) (sv : List Value) (x y : Value) : Option (List ee_st) := match ee_it iv x, ee_it iv y with
  | some (a, b), some (d, e) => if 0 ≤ (pc : Int) + o then some ((ee_rf c iv x y a b d e).map (fun iv' => (((pc : Int) + o).toNat, lo, stk, w, iv', kc, ks, sv)) ++ (ee_rf (ee_ng c) iv x y a b d e).map (fun iv' => (pc + 3, lo, stk, w, iv', kc, ks, sv))) else none
  | _, _ => none
theorem ee_fork.ok {X : ee_cx} {Y : ee_cy} {Q : State → Prop} {c : ClassFile.Cond} {pc : Nat} {o : Int} {lo : List (Nat × Value)} {stk : List Value} {w : ee_w} {iv : ee_iv} {kc ks : Nat} {sv : List Value} {x y : Value} {sts : List ee_st} (h : ee_fork c pc o lo stk w iv kc ks sv x y = some sts) (k : ∀ q ∈ sts, ee_G X Y Q q) :
    ∃ t : Nat, (pc : Int) + o = t ∧ ∀ (ns : List Int32) (as : List Nat) (vx vy : Value), ee_ok ns iv → ee_v ns as Y.2.2.2.1 x vx → ee_v ns as Y.2.2.2.1 y vy → ∃ p q : Int32, vx = .int p ∧ vy = .int q ∧ (ee_cd c p.toInt q.toInt → ∃ iv', ee_ok ns iv' ∧ ee_G X Y Q (t, lo, stk, w, iv', kc, ks, sv)) ∧ (ee_cd (ee_ng c) p.toInt q.toInt → ∃ iv', ee_ok ns iv' ∧ ee_G X Y Q (pc + 3, lo, stk, w, iv', kc, ks, sv)) := by
  unfold ee_fork at h
  split at h
  · rename_i a b d e h1 h2
    split at h
    · rename_i ht
      cases h
      refine ⟨((pc : Int) + o).toNat, by omega, fun ns as vx vy hk hvx hvy => ?_⟩
      obtain ⟨p, rfl, p1, p2⟩ := ee_it.int hk hvx h1
      obtain ⟨q, rfl, q1, q2⟩ := ee_it.int hk hvy h2
      refine ⟨p, q, rfl, rfl, fun hc => ?_, fun hc => ?_⟩
      · obtain ⟨iv', g1, g2⟩ := ee_rf.ok hk hvx hvy p1 p2 q1 q2 hc
        exact ⟨iv', g2, k _ (List.mem_append_left _ (List.mem_map.mpr ⟨iv', g1, rfl⟩))⟩
      · obtain ⟨iv', g1, g2⟩ := ee_rf.ok hk hvx hvy p1 p2 q1 q2 hc
        exact ⟨iv', g2, k _ (List.mem_append_right _ (List.mem_map.mpr ⟨iv', g1, rfl⟩))⟩
    · cases h
  · cases h
def ee_h12 : ee_H := fun _ _ _ e st => match st with
  | (pc, lo, x :: stk, w, iv, kc, ks, sv) => (match e.2.1 with
      | .ifCond c o => if e.2.2.1 = 3 then ee_fork c pc o lo stk w iv kc ks sv x (.int 0) else none
      | .if_icmp c o => (match stk with
        | y :: stk => if e.2.2.1 = 3 then ee_fork c pc o lo stk w iv kc ks sv y x else none
        | [] => none)
      | _ => none)
  | _ => none
theorem ee_lt (a b : Int32) : a < b ↔ a.toInt < b.toInt := Int32.lt_iff_toInt_lt
theorem ee_le (a b : Int32) : a ≤ b ↔ a.toInt ≤ b.toInt := Int32.le_iff_toInt_le
theorem ee_eq (a b : Int32) : a = b ↔ a.toInt = b.toInt := Int32.toInt_inj.symm
set_option maxHeartbeats 2000000 in
theorem ee_h12.snd : ee_Snd ee_h12 := by
  intro X Y oc own cc ini dm bc bs Q e st sts F ho hi hd he hpc h k
  obtain ⟨p, l, en, R, s, m, args, below, meth, c⟩ := X
  obtain ⟨A, D, dA, ex, x0, a0, sv0, nL⟩ := Y
  obtain ⟨pc, lo, stk, w, iv, kc, ks, sv⟩ := st
  obtain ⟨pc', ins, len, hn, ea, eb, ez, qa, qb, qc⟩ := e
  obtain ⟨hx, hb, hml, hown, hts, hK, hA, hini, hR, hE⟩ := F
  have hpc : pc = pc' := hpc
  subst hpc
  have hd : decode cc pc = .ok (ins, len) := hd
  intro ns as H lc ls vs C
  obtain ⟨c1, c2, c3, c4, c5, c6⟩ := C
  show W p l en R s m args below meth c H lc kc ks Q (F0 m pc ls vs)
  cases stk with
  | nil => exact ee_no h
  | cons x stk =>
    cases vs with
    | nil => exact c4.elim
    | cons v vs =>
      obtain ⟨c4v, c4⟩ := c4
      cases ins with
      | ifCond cd o =>
        replace h : (if len = 3 then ee_fork cd pc o lo stk w iv kc ks sv x (.int 0) else none) = some sts := h
        by_cases hl : len = 3
        · subst hl
          rw [if_pos rfl] at h
          obtain ⟨t, ht, g⟩ := ee_fork.ok (X := (p, l, en, R, s, m, args, below, meth, c)) (Y := (A, D, dA, ex, x0, a0, sv0, nL)) (Q := Q) h k
          obtain ⟨a, b, rfl, eb1, gt, gf⟩ := g ns as v (.int 0) c1 c4v rfl
          cases eb1
          have kt : ee_cd cd a.toInt (0 : Int32).toInt → W p l en R s m args below meth c H lc kc ks Q (F0 m t ls vs) := fun hc => by
            obtain ⟨iv', g1, g2⟩ := gt hc
            exact g2 ns as H lc ls _ ⟨g1, c2, c3, c4, c5, c6⟩
          have kf : ee_cd (ee_ng cd) a.toInt (0 : Int32).toInt → W p l en R s m args below meth c H lc kc ks Q (F0 m (pc + 3) ls vs) := fun hc => by
            obtain ⟨iv', g1, g2⟩ := gf hc
            exact g2 ns as H lc ls _ ⟨g1, c2, c3, c4, c5, c6⟩
          cases cd with
          | eq => exact lv_if_eq hx hb hd ht (fun q => kt ((ee_eq _ _).mp q)) (fun q => kf (fun z => q ((ee_eq _ _).mpr z)))
          | ne => exact lv_if_ne hx hb hd ht (fun q => kt (fun z => q ((ee_eq _ _).mpr z))) (fun q => kf ((ee_eq _ _).mp q))
          | lt => exact lv_if_lt hx hb hd ht (fun q => kt ((ee_lt _ _).mp q)) (fun q => kf (Int.not_lt.mp (fun z => q ((ee_lt _ _).mpr z))))
          | ge => exact lv_if_ge hx hb hd ht (fun q => kt ((ee_le _ _).mp q)) (fun q => kf (Int.not_le.mp (fun z => q ((ee_le _ _).mpr z))))
          | gt => exact lv_if_gt hx hb hd ht (fun q => kt ((ee_lt _ _).mp q)) (fun q => kf (Int.not_lt.mp (fun z => q ((ee_lt _ _).mpr z))))
          | le => exact lv_if_le hx hb hd ht (fun q => kt ((ee_le _ _).mp q)) (fun q => kf (Int.not_le.mp (fun z => q ((ee_le _ _).mpr z))))
        · rw [if_neg hl] at h
          exact ee_no h
      | if_icmp cd o =>
        cases stk with
        | nil => exact ee_no h
        | cons y stk =>
          cases vs with
          | nil => exact c4.elim
          | cons u vs =>
            obtain ⟨c4u, c4⟩ := c4
            replace h : (if len = 3 then ee_fork cd pc o lo stk w iv kc ks sv y x else none) = some sts := h
            by_cases hl : len = 3
            · subst hl
              rw [if_pos rfl] at h
              obtain ⟨t, ht, g⟩ := ee_fork.ok (X := (p, l, en, R, s, m, args, below, meth, c)) (Y := (A, D, dA, ex, x0, a0, sv0, nL)) (Q := Q) h k
              obtain ⟨a, b, rfl, rfl, gt, gf⟩ := g ns as u v c1 c4u c4v
              have kt : ee_cd cd a.toInt b.toInt → W p l en R s m args below meth c H lc kc ks Q (F0 m t ls vs) := fun hc => by
                obtain ⟨iv', g1, g2⟩ := gt hc
                exact g2 ns as H lc ls _ ⟨g1, c2, c3, c4, c5, c6⟩
              have kf : ee_cd (ee_ng cd) a.toInt b.toInt → W p l en R s m args below meth c H lc kc ks Q (F0 m (pc + 3) ls vs) := fun hc => by
                obtain ⟨iv', g1, g2⟩ := gf hc
                exact g2 ns as H lc ls _ ⟨g1, c2, c3, c4, c5, c6⟩
              cases cd with
              | eq => exact lv_icmp_eq hx hb hd ht (fun q => kt ((ee_eq _ _).mp q)) (fun q => kf (fun z => q ((ee_eq _ _).mpr z)))
              | ne => exact lv_icmp_ne hx hb hd ht (fun q => kt (fun z => q ((ee_eq _ _).mpr z))) (fun q => kf ((ee_eq _ _).mp q))
              | lt => exact lv_icmp_lt hx hb hd ht (fun q => kt ((ee_lt _ _).mp q)) (fun q => kf (Int.not_lt.mp (fun z => q ((ee_lt _ _).mpr z))))
              | ge => exact lv_icmp_ge hx hb hd ht (fun q => kt ((ee_le _ _).mp q)) (fun q => kf (Int.not_le.mp (fun z => q ((ee_le _ _).mpr z))))
              | gt => exact lv_icmp_gt hx hb hd ht (fun q => kt ((ee_lt _ _).mp q)) (fun q => kf (Int.not_lt.mp (fun z => q ((ee_lt _ _).mpr z))))
              | le => exact lv_icmp_le hx hb hd ht (fun q => kt ((ee_le _ _).mp q)) (fun q => kf (Int.not_le.mp (fun z => q ((ee_le _ _).mpr z))))
            · rw [if_neg hl] at h
              exact ee_no h
      | _ => exact ee_no h
/-- the states behind a table of places -/
def ee_sw (pc : Nat) (df lw hg : Int) (os : List Int) (lo : List (Nat × Value)) (stk : List Value) (w : ee_w) (iv : ee_iv) (kc ks : Nat) (sv : List Value) (x : Value) (a b : Int) : List ee_st :=
  (if a < lw then [(((pc : Int) + df).toNat, lo, stk, w, ee_put iv x a (ee_mn b (lw - 1)), kc, ks, sv)] else []) ++ ((if hg < b then [(((pc : Int) + df).toNat, lo, stk, w, ee_put iv x (ee_mx a (hg + 1)) b, kc, ks, sv)] else []) ++
  (List.range os.length).flatMap (fun (j : Nat) => if a ≤ lw + j ∧ lw + j ≤ b then [(((pc : Int) + os.getD j 0).toNat, lo, stk, w, ee_put iv x (lw + j) (lw + j), kc, ks, sv)] else []))
def ee_h13 : ee_H := fun _ _ _ e st => match st with
  | (pc, lo, x :: stk, w, iv, kc, ks, sv) => (match e.2.1 with
      | .tableswitch df lw hg os => (match ee_it iv x with
        | some (a, b) => if 0 ≤ (pc : Int) + df ∧ hg - lw + 1 = (os.toList.length : Int) ∧ os.toList.all (fun o => decide (0 ≤ (pc : Int) + o)) = true then some (ee_sw pc df lw hg os.toList lo stk w iv kc ks sv x a b) else none
        | none => none)
      | .lookupswitch df ps => (match ee_it iv x with
        | some (a, b) => if 0 ≤ (pc : Int) + df ∧ (ps.toList.zip (ps.toList.drop 1)).all (fun (a, next) => a.1 < next.1) = true ∧ ps.toList.all (fun o => decide (0 ≤ (pc : Int) + o.2)) = true then some ((((pc : Int) + df).toNat, lo, stk, w, iv, kc, ks, sv) :: ps.toList.filterMap (fun o => if a ≤ o.1 ∧ o.1 ≤ b then some (((pc : Int) + o.2).toNat, lo, stk, w, ee_put iv x o.1 o.1, kc, ks, sv) else none)) else none
        | none => none)
      | _ => none)
  | _ => none
theorem ee_lsw : ∀ (l : List (Int × Int)) (df z : Int), Op.lookupswitch.offset l df z = df ∨ ∃ o, (z, o) ∈ l ∧ Op.lookupswitch.offset l df z = o
  | [], df, z => Or.inl rfl
  | (a, o) :: l, df, z => by
    rw [Op.lookupswitch.offset_cons]
    by_cases e : a = z
    · rw [if_pos e]
      subst e
      exact Or.inr ⟨o, List.mem_cons_self, rfl⟩
    · rw [if_neg e]
      rcases ee_lsw l df z with h | ⟨o', h1, h2⟩
      · exact Or.inl h
      · exact Or.inr ⟨o', List.mem_cons_of_mem _ h1, h2⟩
set_option maxHeartbeats 2000000 in
theorem ee_h13.snd : ee_Snd ee_h13 := by
  intro X Y oc own cc ini dm bc bs Q e st sts F ho hi hd he hpc h k
  obtain ⟨p, l, en, R, s, m, args, below, meth, c⟩ := X
  obtain ⟨A, D, dA, ex, x0, a0, sv0, nL⟩ := Y
  obtain ⟨pc, lo, stk, w, iv, kc, ks, sv⟩ := st
  obtain ⟨pc', ins, len, hn, ea, eb, ez, qa, qb, qc⟩ := e
  obtain ⟨hx, hb, hml, hown, hts, hK, hA, hini, hR, hE⟩ := F
  have hpc : pc = pc' := hpc
  subst hpc
  have hd : decode cc pc = .ok (ins, len) := hd
  intro ns as H lc ls vs C
  obtain ⟨c1, c2, c3, c4, c5, c6⟩ := C
  show W p l en R s m args below meth c H lc kc ks Q (F0 m pc ls vs)
  cases stk with
  | nil => exact ee_no h
  | cons x stk =>
    cases vs with
    | nil => exact c4.elim
    | cons v vs =>
      obtain ⟨c4v, c4⟩ := c4
      cases ins with
      | tableswitch df lw hg os =>
        replace h : (match ee_it iv x with
          | some (a, b) => if 0 ≤ (pc : Int) + df ∧ hg - lw + 1 = (os.toList.length : Int) ∧ os.toList.all (fun o => decide (0 ≤ (pc : Int) + o)) = true then some (ee_sw pc df lw hg os.toList lo stk w iv kc ks sv x a b) else none
          | none => none) = some sts := h
        cases hq : ee_it iv x with
        | none => rw [hq] at h; exact ee_no h
        | some q =>
          obtain ⟨a, b⟩ := q
          rw [hq] at h
          simp only at h
          by_cases hc : 0 ≤ (pc : Int) + df ∧ hg - lw + 1 = (os.toList.length : Int) ∧ os.toList.all (fun o => decide (0 ≤ (pc : Int) + o)) = true
          · rw [if_pos hc] at h
            cases h
            obtain ⟨z, rfl, z1, z2⟩ := ee_it.int c1 c4v hq
            obtain ⟨hc1, hc2, hc3⟩ := hc
            by_cases h1 : z.toInt < lw
            · refine lv_tableOut hx hb hd (Or.inl h1) (tgt := ((pc : Int) + df).toNat) (by omega) ?_
              refine k _ (List.mem_append_left _ (by rw [if_pos (by omega)]; exact List.mem_cons_self)) ns as H lc ls _ ⟨ee_put.ok (lo := a) (hi := ee_mn b (lw - 1)) c1 c4v z1 (ee_le_mn z2 (by omega)), c2, c3, c4, c5, c6⟩
            · by_cases h2 : hg < z.toInt
              · refine lv_tableOut hx hb hd (Or.inr h2) (tgt := ((pc : Int) + df).toNat) (by omega) ?_
                refine k _ (List.mem_append_right _ (List.mem_append_left _ (by rw [if_pos (by omega)]; exact List.mem_cons_self))) ns as H lc ls _ ⟨ee_put.ok (lo := ee_mx a (hg + 1)) (hi := b) c1 c4v (ee_mx_le z1 (by omega)) z2, c2, c3, c4, c5, c6⟩
              · have hj : (z.toInt - lw).toNat < os.toList.length := by omega
                have ho' : os[(z.toInt - lw).toNat]? = some (os.toList.getD (z.toInt - lw).toNat 0) := by
                  rw [← Array.getElem?_toList, List.getD_eq_getElem?_getD, List.getElem?_eq_getElem hj]; rfl
                have hp := of_decide_eq_true (List.all_eq_true.mp hc3 (os.toList.getD (z.toInt - lw).toNat 0) (by
                  rw [List.getD_eq_getElem?_getD, List.getElem?_eq_getElem hj]
                  exact List.getElem_mem hj))
                refine lv_tableIn hx hb hd h1 h2 ho' (tgt := ((pc : Int) + os.toList.getD (z.toInt - lw).toNat 0).toNat) (by omega) ?_
                refine k _ (List.mem_append_right _ (List.mem_append_right _ (List.mem_flatMap.mpr ⟨(z.toInt - lw).toNat, List.mem_range.mpr hj, by rw [if_pos (by omega)]; exact List.mem_cons_self⟩))) ns as H lc ls _ ⟨ee_put.ok (lo := lw + ((z.toInt - lw).toNat : Nat)) (hi := lw + ((z.toInt - lw).toNat : Nat)) c1 c4v (by omega) (by omega), c2, c3, c4, c5, c6⟩
          · rw [if_neg hc] at h
            exact ee_no h
      | lookupswitch df ps =>
        replace h : (match ee_it iv x with
          | some (a, b) => if 0 ≤ (pc : Int) + df ∧ (ps.toList.zip (ps.toList.drop 1)).all (fun (a, next) => a.1 < next.1) = true ∧ ps.toList.all (fun o => decide (0 ≤ (pc : Int) + o.2)) = true then some ((((pc : Int) + df).toNat, lo, stk, w, iv, kc, ks, sv) :: ps.toList.filterMap (fun o => if a ≤ o.1 ∧ o.1 ≤ b then some (((pc : Int) + o.2).toNat, lo, stk, w, ee_put iv x o.1 o.1, kc, ks, sv) else none)) else none
          | none => none) = some sts := h
        cases hq : ee_it iv x with
        | none => rw [hq] at h; exact ee_no h
        | some q =>
          obtain ⟨a, b⟩ := q
          rw [hq] at h
          simp only at h
          by_cases hc : 0 ≤ (pc : Int) + df ∧ (ps.toList.zip (ps.toList.drop 1)).all (fun (a, next) => a.1 < next.1) = true ∧ ps.toList.all (fun o => decide (0 ≤ (pc : Int) + o.2)) = true
          · rw [if_pos hc] at h
            cases h
            obtain ⟨z, rfl, z1, z2⟩ := ee_it.int c1 c4v hq
            obtain ⟨hc1, hc2, hc3⟩ := hc
            rcases ee_lsw ps.toList df z.toInt with hz | ⟨o, hz1, hz2⟩
            · exact lv_lookup hx hb hd hc2 hz (tgt := ((pc : Int) + df).toNat) (by omega) (k _ List.mem_cons_self ns as H lc ls _ ⟨c1, c2, c3, c4, c5, c6⟩)
            · have hp := of_decide_eq_true (List.all_eq_true.mp hc3 (z.toInt, o) hz1)
              refine lv_lookup hx hb hd hc2 hz2 (tgt := ((pc : Int) + o).toNat) (by omega) ?_
              refine k _ (List.mem_cons_of_mem _ (List.mem_filterMap.mpr ⟨(z.toInt, o), hz1, by rw [if_pos ⟨z1, z2⟩]⟩)) ns as H lc ls _ ⟨ee_put.ok c1 c4v (Int.le_refl _) (Int.le_refl _), c2, c3, c4, c5, c6⟩
          · rw [if_neg hc] at h
            exact ee_no h
      | _ => exact ee_no h
