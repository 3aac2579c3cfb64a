/-! handlers: longs, narrow ints, the stack, branches -/
theorem ee_lcmp (x y : Int64) : -1 ≤ (lg_cmp x y).toInt ∧ (lg_cmp x y).toInt ≤ 1 := by
  unfold lg_cmp
  split
  · decide
  · split <;> decide
def ee_isl (x : Value) : Bool := match x with
  | .long _ => true
  | _ => false
theorem ee_isl.ok {ns : List Int32} {as : List Nat} {ex : Nat → Nat} {x v : Value} (h : ee_v ns as ex x v) (hl : ee_isl x = true) : ∃ z, v = .long z := by
  cases x with
  | long q => exact h
  | _ => cases hl
def ee_h9 : ee_H := fun _ _ _ e st => match st with
  | (pc, lo, x :: y :: stk, w, iv, kc, ks, sv) => if ee_isl x = true ∧ ee_isl y = true then (match e.2.1 with
      | .ladd => ee_nx e.2.2.1 1 [(pc + 1, lo, .long 0 :: stk, w, iv, kc, ks, sv)]
      | .lmul => ee_nx e.2.2.1 1 [(pc + 1, lo, .long 0 :: stk, w, iv, kc, ks, sv)]
      | .lor => ee_nx e.2.2.1 1 [(pc + 1, lo, .long 0 :: stk, w, iv, kc, ks, sv)]
      | .lcmp => ee_nx e.2.2.1 1 [(pc + 1, lo, .retAddr iv.length :: stk, w, iv ++ [(-1, 1, none)], kc, ks, sv)]
      | _ => none) else (match ee_it iv x with
      | some _ => (match e.2.1 with
        | .i2l => ee_nx e.2.2.1 1 [(pc + 1, lo, .long 0 :: y :: stk, w, iv, kc, ks, sv)]
        | .lshl => if ee_isl y = true then ee_nx e.2.2.1 1 [(pc + 1, lo, .long 0 :: stk, w, iv, kc, ks, sv)] else none
        | _ => none)
      | none => none)
  | _ => none
set_option maxHeartbeats 2000000 in
theorem ee_h9.snd : ee_Snd ee_h9 := by
  intro X Y oc own cc ini dm bc bs Q e st sts F ho hi hd he hpc h k
  obtain ⟨p, l, en, R, s, m, args, below, meth, c⟩ := X
  obtain ⟨A, D, dA, ex, x0, sv0, nL⟩ := Y
  obtain ⟨pc, lo, stk, w, iv, kc, ks, sv⟩ := st
  obtain ⟨pc', ins, len, hn, ea, eb, ez⟩ := e
  obtain ⟨hx, hb, hml, hown, hts, hK, hA, hini, hR, hE⟩ := F
  have hpc : pc = pc' := hpc
  subst hpc
  have hd : decode cc pc = .ok (ins, len) := hd
  intro ns as H lc ls vs C
  obtain ⟨c1, c2, c3, c4, c5, c6⟩ := C
  show W p l en R s m args below meth c H lc kc ks Q (F0 m pc ls vs)
  match stk, vs, c4, h with
  | [], _, _, h => exact ee_no h
  | [_], _, _, h => exact ee_no h
  | x :: y :: stk, [], c4, h => exact c4.elim
  | x :: y :: stk, [_], c4, h => exact c4.2.elim
  | x :: y :: stk, vx :: vy :: vs, ⟨cx, cy, c4⟩, h =>
    replace h : (if ee_isl x = true ∧ ee_isl y = true then (match (generalizing := false) ins with
      | .ladd => ee_nx len 1 [(pc + 1, lo, .long 0 :: stk, w, iv, kc, ks, sv)]
      | .lmul => ee_nx len 1 [(pc + 1, lo, .long 0 :: stk, w, iv, kc, ks, sv)]
      | .lor => ee_nx len 1 [(pc + 1, lo, .long 0 :: stk, w, iv, kc, ks, sv)]
      | .lcmp => ee_nx len 1 [(pc + 1, lo, .retAddr iv.length :: stk, w, iv ++ [(-1, 1, none)], kc, ks, sv)]
      | _ => none) else (match ee_it iv x with
      | some _ => (match (generalizing := false) ins with
        | .i2l => ee_nx len 1 [(pc + 1, lo, .long 0 :: y :: stk, w, iv, kc, ks, sv)]
        | .lshl => if ee_isl y = true then ee_nx len 1 [(pc + 1, lo, .long 0 :: stk, w, iv, kc, ks, sv)] else none
        | _ => none)
      | none => none)) = some sts := h
    by_cases hc : ee_isl x = true ∧ ee_isl y = true
    · rw [if_pos hc] at h
      obtain ⟨a, rfl⟩ := ee_isl.ok cx hc.1
      obtain ⟨b, rfl⟩ := ee_isl.ok cy hc.2
      cases ins with
      | ladd =>
        obtain ⟨rfl, rfl⟩ := ee_nx_some (show ee_nx len 1 _ = some sts from h)
        exact lv_ladd hx hb hd (k _ List.mem_cons_self ns as H lc ls _ ⟨c1, c2, c3, ⟨⟨_, rfl⟩, c4⟩, c5, c6⟩)
      | lmul =>
        obtain ⟨rfl, rfl⟩ := ee_nx_some (show ee_nx len 1 _ = some sts from h)
        exact lv_lmul hx hb hd (k _ List.mem_cons_self ns as H lc ls _ ⟨c1, c2, c3, ⟨⟨_, rfl⟩, c4⟩, c5, c6⟩)
      | lor =>
        obtain ⟨rfl, rfl⟩ := ee_nx_some (show ee_nx len 1 _ = some sts from h)
        exact lv_lor hx hb hd (k _ List.mem_cons_self ns as H lc ls _ ⟨c1, c2, c3, ⟨⟨_, rfl⟩, c4⟩, c5, c6⟩)
      | lcmp =>
        obtain ⟨rfl, rfl⟩ := ee_nx_some (show ee_nx len 1 _ = some sts from h)
        have g := ee_lcmp b a
        obtain ⟨d1, d2, d3, d4, d5, d6⟩ := ee_Con.grow (s := s) (A := A) (D := D) (dA := dA) (ex := ex) (x0 := x0) (sv0 := sv0) (nL := nL) (lo := lo) (ls := ls) ⟨c1, c2, c3, c4, c5, c6⟩ g.1 g.2 (o := none) (fun _ _ q => by cases q)
        exact W.lcmp hx hb hd (k _ List.mem_cons_self _ as H lc ls _ ⟨d1, d2, d3, ⟨⟨_, c1.last _, rfl⟩, d4⟩, d5, d6⟩)
      | _ => exact ee_no h
    · rw [if_neg hc] at h
      cases hq : ee_it iv x with
      | none => rw [hq] at h; exact ee_no h
      | some q =>
        rw [hq] at h
        obtain ⟨z, rfl, -, -⟩ := ee_it.int c1 cx hq
        cases ins with
        | i2l =>
          obtain ⟨rfl, rfl⟩ := ee_nx_some (show ee_nx len 1 _ = some sts from h)
          exact lv_i2l hx hb hd rfl (k _ List.mem_cons_self ns as H lc ls _ ⟨c1, c2, c3, ⟨⟨_, rfl⟩, cy, c4⟩, c5, c6⟩)
        | lshl =>
          replace h : (if ee_isl y = true then ee_nx len 1 [(pc + 1, lo, Value.long 0 :: stk, w, iv, kc, ks, sv)] else none) = some sts := h
          by_cases hy : ee_isl y = true
          · rw [if_pos hy] at h
            obtain ⟨rfl, rfl⟩ := ee_nx_some h
            obtain ⟨b, rfl⟩ := ee_isl.ok cy hy
            exact lv_lshl hx hb hd rfl (k _ List.mem_cons_self ns as H lc ls _ ⟨c1, c2, c3, ⟨⟨_, rfl⟩, c4⟩, c5, c6⟩)
          · rw [if_neg hy] at h
            exact ee_no h
        | _ => exact ee_no h
theorem ee_i2c (x : Int32) : 0 ≤ (x.toUInt32 % 65536).toInt32.toInt ∧ (x.toUInt32 % 65536).toInt32.toInt ≤ 65535 := by
  rw [pk_char, nI_toInt (by have := Nat.mod_lt x.toBitVec.toNat (show 0 < 65536 by decide); omega)]
  have := Nat.mod_lt x.toBitVec.toNat (show 0 < 65536 by decide)
  omega
theorem ee_i2b (x : Int32) : -128 ≤ x.toInt8.toInt32.toInt ∧ x.toInt8.toInt32.toInt ≤ 127 := by
  rw [Int8.toInt_toInt32]
  have h1 := Int8.le_toInt x.toInt8
  have h2 := Int8.toInt_lt x.toInt8
  omega
def ee_h10 : ee_H := fun _ _ _ e st => match st with
  | (pc, lo, x :: stk, w, iv, kc, ks, sv) => (match ee_cn iv x with
    | some z => (match e.2.1 with
      | .i2b => ee_nx e.2.2.1 1 [(pc + 1, lo, .int z.toInt8.toInt32 :: stk, w, iv, kc, ks, sv)]
      | .i2c => ee_nx e.2.2.1 1 [(pc + 1, lo, .int (z.toUInt32 % 65536).toInt32 :: stk, w, iv, kc, ks, sv)]
      | _ => none)
    | none => (match ee_it iv x with
      | some _ => (match e.2.1 with
        | .i2b => ee_nx e.2.2.1 1 [(pc + 1, lo, .retAddr iv.length :: stk, w, iv ++ [(-128, 127, none)], kc, ks, sv)]
        | .i2c => ee_nx e.2.2.1 1 [(pc + 1, lo, .retAddr iv.length :: stk, w, iv ++ [(0, 65535, none)], kc, ks, sv)]
        | _ => none)
      | none => none))
  | _ => none
set_option maxHeartbeats 2000000 in
theorem ee_h10.snd : ee_Snd ee_h10 := by
  intro X Y oc own cc ini dm bc bs Q e st sts F ho hi hd he hpc h k
  obtain ⟨p, l, en, R, s, m, args, below, meth, c⟩ := X
  obtain ⟨A, D, dA, ex, x0, sv0, nL⟩ := Y
  obtain ⟨pc, lo, stk, w, iv, kc, ks, sv⟩ := st
  obtain ⟨pc', ins, len, hn, ea, eb, ez⟩ := e
  obtain ⟨hx, hb, hml, hown, hts, hK, hA, hini, hR, hE⟩ := F
  have hpc : pc = pc' := hpc
  subst hpc
  have hd : decode cc pc = .ok (ins, len) := hd
  intro ns as H lc ls vs C
  obtain ⟨c1, c2, c3, c4, c5, c6⟩ := C
  show W p l en R s m args below meth c H lc kc ks Q (F0 m pc ls vs)
  cases stk with
  | nil => exact ee_no h
  | cons x stk =>
    cases vs with
    | nil => exact c4.elim
    | cons v vs =>
      obtain ⟨c4v, c4⟩ := c4
      replace h : (match ee_cn iv x with
        | some z => (match (generalizing := false) ins with
          | .i2b => ee_nx len 1 [(pc + 1, lo, .int z.toInt8.toInt32 :: stk, w, iv, kc, ks, sv)]
          | .i2c => ee_nx len 1 [(pc + 1, lo, .int (z.toUInt32 % 65536).toInt32 :: stk, w, iv, kc, ks, sv)]
          | _ => none)
        | none => (match ee_it iv x with
          | some _ => (match (generalizing := false) ins with
            | .i2b => ee_nx len 1 [(pc + 1, lo, .retAddr iv.length :: stk, w, iv ++ [(-128, 127, none)], kc, ks, sv)]
            | .i2c => ee_nx len 1 [(pc + 1, lo, .retAddr iv.length :: stk, w, iv ++ [(0, 65535, none)], kc, ks, sv)]
            | _ => none)
          | none => none)) = some sts := h
      cases hq : ee_cn iv x with
      | some z =>
        rw [hq] at h
        have hv := ee_cn.int c1 c4v hq
        subst hv
        cases ins with
        | i2b =>
          obtain ⟨rfl, rfl⟩ := ee_nx_some (show ee_nx len 1 _ = some sts from h)
          exact lv_i2b hx hb hd rfl (k _ List.mem_cons_self ns as H lc ls _ ⟨c1, c2, c3, ⟨rfl, c4⟩, c5, c6⟩)
        | i2c =>
          obtain ⟨rfl, rfl⟩ := ee_nx_some (show ee_nx len 1 _ = some sts from h)
          exact lv_i2c hx hb hd rfl (k _ List.mem_cons_self ns as H lc ls _ ⟨c1, c2, c3, ⟨rfl, c4⟩, c5, c6⟩)
        | _ => exact ee_no h
      | none =>
        rw [hq] at h
        simp only at h
        cases hr : ee_it iv x with
        | none => rw [hr] at h; exact ee_no h
        | some q =>
          rw [hr] at h
          obtain ⟨z, rfl, -, -⟩ := ee_it.int c1 c4v hr
          cases ins with
          | i2b =>
            obtain ⟨rfl, rfl⟩ := ee_nx_some (show ee_nx len 1 _ = some sts from h)
            have g := ee_i2b z
            obtain ⟨d1, d2, d3, d4, d5, d6⟩ := ee_Con.grow (s := s) (A := A) (D := D) (dA := dA) (ex := ex) (x0 := x0) (sv0 := sv0) (nL := nL) (lo := lo) (ls := ls) ⟨c1, c2, c3, c4, c5, c6⟩ g.1 g.2 (o := none) (fun _ _ q => by cases q)
            exact lv_i2b hx hb hd rfl (k _ List.mem_cons_self _ as H lc ls _ ⟨d1, d2, d3, ⟨⟨_, c1.last _, rfl⟩, d4⟩, d5, d6⟩)
          | i2c =>
            obtain ⟨rfl, rfl⟩ := ee_nx_some (show ee_nx len 1 _ = some sts from h)
            have g := ee_i2c z
            obtain ⟨d1, d2, d3, d4, d5, d6⟩ := ee_Con.grow (s := s) (A := A) (D := D) (dA := dA) (ex := ex) (x0 := x0) (sv0 := sv0) (nL := nL) (lo := lo) (ls := ls) ⟨c1, c2, c3, c4, c5, c6⟩ g.1 g.2 (o := none) (fun _ _ q => by cases q)
            exact lv_i2c hx hb hd rfl (k _ List.mem_cons_self _ as H lc ls _ ⟨d1, d2, d3, ⟨⟨_, c1.last _, rfl⟩, d4⟩, d5, d6⟩)
          | _ => exact ee_no h
def ee_h11 : ee_H := fun _ _ _ e st => match st with
  | (pc, lo, x :: stk, w, iv, kc, ks, sv) => if ee_cat x = 1 then (match e.2.1 with
      | .dup => ee_nx e.2.2.1 1 [(pc + 1, lo, x :: x :: stk, w, iv, kc, ks, sv)]
      | .pop => ee_nx e.2.2.1 1 [(pc + 1, lo, stk, w, iv, kc, ks, sv)]
      | .dup2 => (match stk with
        | y :: stk => if ee_cat y = 1 then ee_nx e.2.2.1 1 [(pc + 1, lo, x :: y :: x :: y :: stk, w, iv, kc, ks, sv)] else none
        | [] => none)
      | _ => none) else none
  | _ => none
set_option maxHeartbeats 2000000 in
theorem ee_h11.snd : ee_Snd ee_h11 := by
  intro X Y oc own cc ini dm bc bs Q e st sts F ho hi hd he hpc h k
  obtain ⟨p, l, en, R, s, m, args, below, meth, c⟩ := X
  obtain ⟨A, D, dA, ex, x0, sv0, nL⟩ := Y
  obtain ⟨pc, lo, stk, w, iv, kc, ks, sv⟩ := st
  obtain ⟨pc', ins, len, hn, ea, eb, ez⟩ := e
  obtain ⟨hx, hb, hml, hown, hts, hK, hA, hini, hR, hE⟩ := F
  have hpc : pc = pc' := hpc
  subst hpc
  have hd : decode cc pc = .ok (ins, len) := hd
  intro ns as H lc ls vs C
  obtain ⟨c1, c2, c3, c4, c5, c6⟩ := C
  show W p l en R s m args below meth c H lc kc ks Q (F0 m pc ls vs)
  cases stk with
  | nil => exact ee_no h
  | cons x stk =>
    cases vs with
    | nil => exact c4.elim
    | cons v vs =>
      obtain ⟨c4v, c4⟩ := c4
      replace h : (if ee_cat x = 1 then (match (generalizing := false) ins with
        | .dup => ee_nx len 1 [(pc + 1, lo, x :: x :: stk, w, iv, kc, ks, sv)]
        | .pop => ee_nx len 1 [(pc + 1, lo, stk, w, iv, kc, ks, sv)]
        | .dup2 => (match (generalizing := false) stk with
          | y :: stk => if ee_cat y = 1 then ee_nx len 1 [(pc + 1, lo, x :: y :: x :: y :: stk, w, iv, kc, ks, sv)] else none
          | [] => none)
        | _ => none) else none) = some sts := h
      by_cases hc : ee_cat x = 1
      · rw [if_pos hc] at h
        have hc1 : v.category = 1 := by rw [c4v.cat, hc]
        cases ins with
        | dup =>
          obtain ⟨rfl, rfl⟩ := ee_nx_some (show ee_nx len 1 _ = some sts from h)
          exact lv_dup hx hb hd hc1 (k _ List.mem_cons_self ns as H lc ls _ ⟨c1, c2, c3, ⟨c4v, c4v, c4⟩, c5, c6⟩)
        | pop =>
          obtain ⟨rfl, rfl⟩ := ee_nx_some (show ee_nx len 1 _ = some sts from h)
          exact lv_pop hx hb hd hc1 (k _ List.mem_cons_self ns as H lc ls _ ⟨c1, c2, c3, c4, c5, c6⟩)
        | dup2 =>
          cases stk with
          | nil => exact ee_no h
          | cons y stk =>
            cases vs with
            | nil => exact c4.elim
            | cons u vs =>
              obtain ⟨c4u, c4⟩ := c4
              replace h : (if ee_cat y = 1 then ee_nx len 1 [(pc + 1, lo, x :: y :: x :: y :: stk, w, iv, kc, ks, sv)] else none) = some sts := h
              by_cases hy : ee_cat y = 1
              · rw [if_pos hy] at h
                obtain ⟨rfl, rfl⟩ := ee_nx_some h
                exact lv_dup2_11 hx hb hd hc1 (by rw [c4u.cat, hy]) (k _ List.mem_cons_self ns as H lc ls _ ⟨c1, c2, c3, ⟨c4v, c4u, c4v, c4u, c4⟩, c5, c6⟩)
              · rw [if_neg hy] at h
                exact ee_no h
        | _ => exact ee_no h
      · rw [if_neg hc] at h
        exact ee_no h
def ee_ng (c : ClassFile.Cond) : ClassFile.Cond := match c with
  | .eq => .ne
  | .ne => .eq
  | .lt => .ge
  | .ge => .lt
  | .gt => .le
  | .le => .gt
/-- both ways of a comparison -/
def ee_fork (c : ClassFile.Cond) (pc : Nat) (o : Int) (lo : List (Nat × Value)) (stk : List Value) (w : ee_w) (iv : ee_iv) (kc ks : Nat) (sv : List Value) (x y : Value) : Option (List ee_st) := match ee_it iv x, ee_it iv y with
  | some (a, b), some (d, e) => if 0 ≤ (pc : Int) + o then some ((ee_rf c iv x y a b d e).map (fun iv' => (((pc : Int) + o).toNat, lo, stk, w, iv', kc, ks, sv)) ++ (ee_rf (ee_ng c) iv x y a b d e).map (fun iv' => (pc + 3, lo, stk, w, iv', kc, ks, sv))) else none
  | _, _ => none
theorem ee_fork.ok {X : ee_cx} {Y : ee_cy} {Q : State → Prop} {c : ClassFile.Cond} {pc : Nat} {o : Int} {lo : List (Nat × Value)} {stk : List Value} {w : ee_w} {iv : ee_iv} {kc ks : Nat} {sv : List Value} {x y : Value} {sts : List ee_st} (h : ee_fork c pc o lo stk w iv kc ks sv x y = some sts) (k : ∀ q ∈ sts, ee_G X Y Q q) :
    ∃ t : Nat, (pc : Int) + o = t ∧ ∀ (ns : List Int32) (as : List Nat) (vx vy : Value), ee_ok ns iv → ee_v ns as Y.2.2.2.1 x vx → ee_v ns as Y.2.2.2.1 y vy → ∃ p q : Int32, vx = .int p ∧ vy = .int q ∧ (ee_cd c p.toInt q.toInt → ∃ iv', ee_ok ns iv' ∧ ee_G X Y Q (t, lo, stk, w, iv', kc, ks, sv)) ∧ (ee_cd (ee_ng c) p.toInt q.toInt → ∃ iv', ee_ok ns iv' ∧ ee_G X Y Q (pc + 3, lo, stk, w, iv', kc, ks, sv)) := by
  unfold ee_fork at h
  split at h
  · rename_i a b d e h1 h2
    split at h
    · rename_i ht
      cases h
      refine ⟨((pc : Int) + o).toNat, by omega, fun ns as vx vy hk hvx hvy => ?_⟩
      obtain ⟨p, rfl, p1, p2⟩ := ee_it.int hk hvx h1
      obtain ⟨q, rfl, q1, q2⟩ := ee_it.int hk hvy h2
      refine ⟨p, q, rfl, rfl, fun hc => ?_, fun hc => ?_⟩
      · obtain ⟨iv', g1, g2⟩ := ee_rf.ok hk hvx hvy p1 p2 q1 q2 hc
        exact ⟨iv', g2, k _ (List.mem_append_left _ (List.mem_map.mpr ⟨iv', g1, rfl⟩))⟩
      · obtain ⟨iv', g1, g2⟩ := ee_rf.ok hk hvx hvy p1 p2 q1 q2 hc
        exact ⟨iv', g2, k _ (List.mem_append_right _ (List.mem_map.mpr ⟨iv', g1, rfl⟩))⟩
    · cases h
  · cases h
def ee_h12 : ee_H := fun _ _ _ e st => match st with
  | (pc, lo, x :: stk, w, iv, kc, ks, sv) => (match e.2.1 with
      | .ifCond c o => if e.2.2.1 = 3 then ee_fork c pc o lo stk w iv kc ks sv x (.int 0) else none
      | .if_icmp c o => (match stk with
        | y :: stk => if e.2.2.1 = 3 then ee_fork c pc o lo stk w iv kc ks sv y x else none
        | [] => none)
      | _ => none)
  | _ => none
theorem ee_lt (a b : Int32) : a < b ↔ a.toInt < b.toInt := Int32.lt_iff_toInt_lt
theorem ee_le (a b : Int32) : a ≤ b ↔ a.toInt ≤ b.toInt := Int32.le_iff_toInt_le
theorem ee_eq (a b : Int32) : a = b ↔ a.toInt = b.toInt := Int32.toInt_inj.symm
set_option maxHeartbeats 2000000 in
theorem ee_h12.snd : ee_Snd ee_h12 := by
  intro X Y oc own cc ini dm bc bs Q e st sts F ho hi hd he hpc h k
  obtain ⟨p, l, en, R, s, m, args, below, meth, c⟩ := X
  obtain ⟨A, D, dA, ex, x0, sv0, nL⟩ := Y
  obtain ⟨pc, lo, stk, w, iv, kc, ks, sv⟩ := st
  obtain ⟨pc', ins, len, hn, ea, eb, ez⟩ := e
  obtain ⟨hx, hb, hml, hown, hts, hK, hA, hini, hR, hE⟩ := F
  have hpc : pc = pc' := hpc
  subst hpc
  have hd : decode cc pc = .ok (ins, len) := hd
  intro ns as H lc ls vs C
  obtain ⟨c1, c2, c3, c4, c5, c6⟩ := C
  show W p l en R s m args below meth c H lc kc ks Q (F0 m pc ls vs)
  cases stk with
  | nil => exact ee_no h
  | cons x stk =>
    cases vs with
    | nil => exact c4.elim
    | cons v vs =>
      obtain ⟨c4v, c4⟩ := c4
      cases ins with
      | ifCond cd o =>
        replace h : (if len = 3 then ee_fork cd pc o lo stk w iv kc ks sv x (.int 0) else none) = some sts := h
        by_cases hl : len = 3
        · subst hl
          rw [if_pos rfl] at h
          obtain ⟨t, ht, g⟩ := ee_fork.ok (X := (p, l, en, R, s, m, args, below, meth, c)) (Y := (A, D, dA, ex, x0, sv0, nL)) (Q := Q) h k
          obtain ⟨a, b, rfl, eb1, gt, gf⟩ := g ns as v (.int 0) c1 c4v rfl
          cases eb1
          have kt : ee_cd cd a.toInt (0 : Int32).toInt → W p l en R s m args below meth c H lc kc ks Q (F0 m t ls vs) := fun hc => by
            obtain ⟨iv', g1, g2⟩ := gt hc
            exact g2 ns as H lc ls _ ⟨g1, c2, c3, c4, c5, c6⟩
          have kf : ee_cd (ee_ng cd) a.toInt (0 : Int32).toInt → W p l en R s m args below meth c H lc kc ks Q (F0 m (pc + 3) ls vs) := fun hc => by
            obtain ⟨iv', g1, g2⟩ := gf hc
            exact g2 ns as H lc ls _ ⟨g1, c2, c3, c4, c5, c6⟩
          cases cd with
          | eq => exact lv_if_eq hx hb hd ht (fun q => kt ((ee_eq _ _).mp q)) (fun q => kf (fun z => q ((ee_eq _ _).mpr z)))
          | ne => exact lv_if_ne hx hb hd ht (fun q => kt (fun z => q ((ee_eq _ _).mpr z))) (fun q => kf ((ee_eq _ _).mp q))
          | lt => exact lv_if_lt hx hb hd ht (fun q => kt ((ee_lt _ _).mp q)) (fun q => kf (Int.not_lt.mp (fun z => q ((ee_lt _ _).mpr z))))
          | ge => exact lv_if_ge hx hb hd ht (fun q => kt ((ee_le _ _).mp q)) (fun q => kf (Int.not_le.mp (fun z => q ((ee_le _ _).mpr z))))
          | gt => exact lv_if_gt hx hb hd ht (fun q => kt ((ee_lt _ _).mp q)) (fun q => kf (Int.not_lt.mp (fun z => q ((ee_lt _ _).mpr z))))
          | le => exact lv_if_le hx hb hd ht (fun q => kt ((ee_le _ _).mp q)) (fun q => kf (Int.not_le.mp (fun z => q ((ee_le _ _).mpr z))))
        · rw [if_neg hl] at h
          exact ee_no h
      | if_icmp cd o =>
        cases stk with
        | nil => exact ee_no h
        | cons y stk =>
          cases vs with
          | nil => exact c4.elim
          | cons u vs =>
            obtain ⟨c4u, c4⟩ := c4
            replace h : (if len = 3 then ee_fork cd pc o lo stk w iv kc ks sv y x else none) = some sts := h
            by_cases hl : len = 3
            · subst hl
              rw [if_pos rfl] at h
              obtain ⟨t, ht, g⟩ := ee_fork.ok (X := (p, l, en, R, s, m, args, below, meth, c)) (Y := (A, D, dA, ex, x0, sv0, nL)) (Q := Q) h k
              obtain ⟨a, b, rfl, rfl, gt, gf⟩ := g ns as u v c1 c4u c4v
              have kt : ee_cd cd a.toInt b.toInt → W p l en R s m args below meth c H lc kc ks Q (F0 m t ls vs) := fun hc => by
                obtain ⟨iv', g1, g2⟩ := gt hc
                exact g2 ns as H lc ls _ ⟨g1, c2, c3, c4, c5, c6⟩
              have kf : ee_cd (ee_ng cd) a.toInt b.toInt → W p l en R s m args below meth c H lc kc ks Q (F0 m (pc + 3) ls vs) := fun hc => by
                obtain ⟨iv', g1, g2⟩ := gf hc
                exact g2 ns as H lc ls _ ⟨g1, c2, c3, c4, c5, c6⟩
              cases cd with
              | eq => exact lv_icmp_eq hx hb hd ht (fun q => kt ((ee_eq _ _).mp q)) (fun q => kf (fun z => q ((ee_eq _ _).mpr z)))
              | ne => exact lv_icmp_ne hx hb hd ht (fun q => kt (fun z => q ((ee_eq _ _).mpr z))) (fun q => kf ((ee_eq _ _).mp q))
              | lt => exact lv_icmp_lt hx hb hd ht (fun q => kt ((ee_lt _ _).mp q)) (fun q => kf (Int.not_lt.mp (fun z => q ((ee_lt _ _).mpr z))))
              | ge => exact lv_icmp_ge hx hb hd ht (fun q => kt ((ee_le _ _).mp q)) (fun q => kf (Int.not_le.mp (fun z => q ((ee_le _ _).mpr z))))
              | gt => exact lv_icmp_gt hx hb hd ht (fun q => kt ((ee_lt _ _).mp q)) (fun q => kf (Int.not_lt.mp (fun z => q ((ee_lt _ _).mpr z))))
              | le => exact lv_icmp_le hx hb hd ht (fun q => kt ((ee_le _ _).mp q)) (fun q => kf (Int.not_le.mp (fun z => q ((ee_le _ _).mpr z))))
            · rw [if_neg hl] at h
              exact ee_no h
      | _ => exact ee_no h
/-- the states behind a table of places -/
def ee_sw (pc : Nat) (df lw hg : Int) (os : List Int) (lo : List (Nat × Value)) (stk : List Value) (w : ee_w) (iv : ee_iv) (kc ks : Nat) (sv : List Value) (x : Value) (a b : Int) : List ee_st :=
  (if a < lw then [(((pc : Int) + df).toNat, lo, stk, w, ee_put iv x a (ee_mn b (lw - 1)), kc, ks, sv)] else []) ++ ((if hg < b then [(((pc : Int) + df).toNat, lo, stk, w, ee_put iv x (ee_mx a (hg + 1)) b, kc, ks, sv)] else []) ++
  (List.range os.length).flatMap (fun (j : Nat) => if a ≤ lw + j ∧ lw + j ≤ b then [(((pc : Int) + os.getD j 0).toNat, lo, stk, w, ee_put iv x (lw + j) (lw + j), kc, ks, sv)] else []))
def ee_h13 : ee_H := fun _ _ _ e st => match st with
  | (pc, lo, x :: stk, w, iv, kc, ks, sv) => (match e.2.1 with
      | .tableswitch df lw hg os => (match ee_it iv x with
        | some (a, b) => if 0 ≤ (pc : Int) + df ∧ hg - lw + 1 = (os.toList.length : Int) ∧ os.toList.all (fun o => decide (0 ≤ (pc : Int) + o)) = true then some (ee_sw pc df lw hg os.toList lo stk w iv kc ks sv x a b) else none
        | none => none)
      | _ => none)
  | _ => none
set_option maxHeartbeats 2000000 in
theorem ee_h13.snd : ee_Snd ee_h13 := by
  intro X Y oc own cc ini dm bc bs Q e st sts F ho hi hd he hpc h k
  obtain ⟨p, l, en, R, s, m, args, below, meth, c⟩ := X
  obtain ⟨A, D, dA, ex, x0, sv0, nL⟩ := Y
  obtain ⟨pc, lo, stk, w, iv, kc, ks, sv⟩ := st
  obtain ⟨pc', ins, len, hn, ea, eb, ez⟩ := e
  obtain ⟨hx, hb, hml, hown, hts, hK, hA, hini, hR, hE⟩ := F
  have hpc : pc = pc' := hpc
  subst hpc
  have hd : decode cc pc = .ok (ins, len) := hd
  intro ns as H lc ls vs C
  obtain ⟨c1, c2, c3, c4, c5, c6⟩ := C
  show W p l en R s m args below meth c H lc kc ks Q (F0 m pc ls vs)
  cases stk with
  | nil => exact ee_no h
  | cons x stk =>
    cases vs with
    | nil => exact c4.elim
    | cons v vs =>
      obtain ⟨c4v, c4⟩ := c4
      cases ins with
      | tableswitch df lw hg os =>
        replace h : (match ee_it iv x with
          | some (a, b) => if 0 ≤ (pc : Int) + df ∧ hg - lw + 1 = (os.toList.length : Int) ∧ os.toList.all (fun o => decide (0 ≤ (pc : Int) + o)) = true then some (ee_sw pc df lw hg os.toList lo stk w iv kc ks sv x a b) else none
          | none => none) = some sts := h
        cases hq : ee_it iv x with
        | none => rw [hq] at h; exact ee_no h
        | some q =>
          obtain ⟨a, b⟩ := q
          rw [hq] at h
          simp only at h
          by_cases hc : 0 ≤ (pc : Int) + df ∧ hg - lw + 1 = (os.toList.length : Int) ∧ os.toList.all (fun o => decide (0 ≤ (pc : Int) + o)) = true
          · rw [if_pos hc] at h
            cases h
            obtain ⟨z, rfl, z1, z2⟩ := ee_it.int c1 c4v hq
            obtain ⟨hc1, hc2, hc3⟩ := hc
            by_cases h1 : z.toInt < lw
            · refine lv_tableOut hx hb hd (Or.inl h1) (tgt := ((pc : Int) + df).toNat) (by omega) ?_
              refine k _ (List.mem_append_left _ (by rw [if_pos (by omega)]; exact List.mem_cons_self)) ns as H lc ls _ ⟨ee_put.ok (lo := a) (hi := ee_mn b (lw - 1)) c1 c4v z1 (ee_le_mn z2 (by omega)), c2, c3, c4, c5, c6⟩
            · by_cases h2 : hg < z.toInt
              · refine lv_tableOut hx hb hd (Or.inr h2) (tgt := ((pc : Int) + df).toNat) (by omega) ?_
                refine k _ (List.mem_append_right _ (List.mem_append_left _ (by rw [if_pos (by omega)]; exact List.mem_cons_self))) ns as H lc ls _ ⟨ee_put.ok (lo := ee_mx a (hg + 1)) (hi := b) c1 c4v (ee_mx_le z1 (by omega)) z2, c2, c3, c4, c5, c6⟩
              · have hj : (z.toInt - lw).toNat < os.toList.length := by omega
                have ho' : os[(z.toInt - lw).toNat]? = some (os.toList.getD (z.toInt - lw).toNat 0) := by
                  rw [← Array.getElem?_toList, List.getD_eq_getElem?_getD, List.getElem?_eq_getElem hj]; rfl
                have hp := of_decide_eq_true (List.all_eq_true.mp hc3 (os.toList.getD (z.toInt - lw).toNat 0) (by
                  rw [List.getD_eq_getElem?_getD, List.getElem?_eq_getElem hj]
                  exact List.getElem_mem hj))
                refine lv_tableIn hx hb hd h1 h2 ho' (tgt := ((pc : Int) + os.toList.getD (z.toInt - lw).toNat 0).toNat) (by omega) ?_
                refine k _ (List.mem_append_right _ (List.mem_append_right _ (List.mem_flatMap.mpr ⟨(z.toInt - lw).toNat, List.mem_range.mpr hj, by rw [if_pos (by omega)]; exact List.mem_cons_self⟩))) ns as H lc ls _ ⟨ee_put.ok (lo := lw + ((z.toInt - lw).toNat : Nat)) (hi := lw + ((z.toInt - lw).toNat : Nat)) c1 c4v (by omega) (by omega), c2, c3, c4, c5, c6⟩
          · rw [if_neg hc] at h
            exact ee_no h
      | _ => exact ee_no h
