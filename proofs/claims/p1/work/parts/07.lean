/-! the walk of a whole method, its calls walked into -/
def ee_hn : ee_H := fun _ _ _ _ _ => none
theorem ee_hn.snd : ee_Snd ee_hn := fun _ _ _ _ _ _ _ _ _ _ _ _ _ _ _ _ _ _ _ h => ee_no h
def ee_hs : List ee_H := [ee_h0, ee_h1, ee_h2, ee_h3, ee_h4, ee_h5, ee_h6, ee_h7, ee_h8, ee_h9, ee_h10, ee_h11, ee_h12, ee_h13, ee_h14, ee_h15, ee_h16, ee_h17, ee_h18, ee_h19, ee_h20, ee_hn, ee_h22, ee_hn, ee_h24]
theorem ee_hs.snd : ∀ h ∈ ee_hs, ee_Snd h := by
  intro h hm
  simp only [ee_hs, List.mem_cons, List.not_mem_nil, or_false] at hm
  rcases hm with rfl | rfl | rfl | rfl | rfl | rfl | rfl | rfl | rfl | rfl | rfl | rfl | rfl | rfl | rfl | rfl | rfl | rfl | rfl | rfl | rfl | rfl | rfl | rfl | rfl
  · exact ee_h0.snd
  · exact ee_h1.snd
  · exact ee_h2.snd
  · exact ee_h3.snd
  · exact ee_h4.snd
  · exact ee_h5.snd
  · exact ee_h6.snd
  · exact ee_h7.snd
  · exact ee_h8.snd
  · exact ee_h9.snd
  · exact ee_h10.snd
  · exact ee_h11.snd
  · exact ee_h12.snd
  · exact ee_h13.snd
  · exact ee_h14.snd
  · exact ee_h15.snd
  · exact ee_h16.snd
  · exact ee_h17.snd
  · exact ee_h18.snd
  · exact ee_h19.snd
  · exact ee_h20.snd
  · exact ee_hn.snd
  · exact ee_h22.snd
  · exact ee_hn.snd
  · exact ee_h24.snd
def ee_bind (g : ee_st → Option (List ee_st)) : List ee_st → Option (List ee_st)
  | [] => some []
  | st :: l => match g st with
    | none => none
    | some a => match ee_bind g l with
      | none => none
      | some b => some (a ++ b)
theorem ee_bind.ok {g : ee_st → Option (List ee_st)} : ∀ {l : List ee_st} {r : List ee_st}, ee_bind g l = some r → ∀ st ∈ l, ∃ a, g st = some a ∧ ∀ q ∈ a, q ∈ r
  | [], r, _, st, h => by simp at h
  | x :: l, r, h, st, hm => by
    unfold ee_bind at h
    cases hx : g x with
    | none => rw [hx] at h; exact ee_no h
    | some a =>
      rw [hx] at h
      simp only at h
      cases hl : ee_bind g l with
      | none => rw [hl] at h; exact ee_no h
      | some b =>
        rw [hl] at h
        cases h
        rcases List.mem_cons.mp hm with rfl | hm
        · exact ⟨a, hx, fun q hq => List.mem_append_left _ hq⟩
        · obtain ⟨c, h1, h2⟩ := ee_bind.ok hl st hm
          exact ⟨c, h1, fun q hq => List.mem_append_right _ (h2 q hq)⟩
def ee_find (M : ee_me) (pc : Nat) : Option ee_en := M.2.2.2.2.2.1.find? (fun e => Nat.beq e.1 pc)
/-- what a method may return -/
def ee_rok (ret : Option FieldType) (e : ee_en) (stk : List Value) (iv : ee_iv) : Bool := match ret, e.2.1, stk with
  | none, .return_, [] => decide (e.2.2.1 = 1)
  | some .int, .ireturn, [x] => decide (e.2.2.1 = 1) && (ee_it iv x).isSome
  | some .boolean, .ireturn, [x] => decide (e.2.2.1 = 1) && (match ee_it iv x with
    | some (a, b) => decide (0 ≤ a) && decide (b ≤ 1)
    | none => false)
  | some .char, .ireturn, [x] => decide (e.2.2.1 = 1) && (match ee_it iv x with
    | some (a, b) => decide (0 ≤ a) && decide (b ≤ 65535)
    | none => false)
  | some .byte, .ireturn, [x] => decide (e.2.2.1 = 1) && (match ee_it iv x with
    | some (a, b) => decide (-128 ≤ a) && decide (b ≤ 127)
    | none => false)
  | some .long, .lreturn, [x] => decide (e.2.2.1 = 1) && ee_isl x
  | _, _, _ => false
def ee_end (M : ee_me) (q : ee_st) : Bool := match ee_find M q.1 with
  | some e => ee_rok M.2.2.2.2.1 e q.2.2.1 q.2.2.2.2.1 && (decide (q.2.2.2.2.2.1 ≤ M.2.2.2.2.2.2.1) && decide (q.2.2.2.2.2.2.1 ≤ M.2.2.2.2.2.2.2))
  | none => false
/-- the caller's state behind a call -/
def ee_next (pc : Nat) (ks0 : List Nat) (nr kc ks : Nat) (q : ee_st) : ee_st := match q with
  | (_, _, stk, w, iv, _, _, sv) => (pc + 3, ks0.zip (sv.take ks0.length), stk ++ (sv.drop ks0.length).take nr, w, iv, kc, ks, (sv.drop ks0.length).drop nr)
def ee_arg : Nat → List Value → List (Nat × Value)
  | _, [] => []
  | i, x :: l => (i, x) :: ee_arg (i + ee_cat x) l
def ee_isr (x : Value) : Bool := match x with
  | .ref _ => true
  | _ => false
/-- is the receiver of that file's kind? -/
def ee_rcv (oc : Nat) (w : ee_w) (x : Value) : Bool := match x with
  | .ref k => if k < 1000000 then (match w[k]? with
      | some (.inl (ci, _)) => decide (ci = oc)
      | _ => false) else decide (k < 1000002) && decide (oc = ee_sox)
  | _ => false
def ee_inv (kd : Nat) (ins : ClassFile.Instr) : Bool := match ins with
  | .invokevirtual _ => decide (kd = 0)
  | .invokestatic _ => decide (kd = 1)
  | .invokespecial _ => decide (kd = 2)
  | _ => false
/-- how many values a call takes -/
def ee_na (q : Nat × Nat × Nat × Nat × Nat × Nat × Nat × Nat × Nat) : Nat := q.2.2.2.2.1 + (if q.2.2.2.1 = 1 then 0 else 1)
/-- can the call be? -/
def ee_cc (q : Nat × Nat × Nat × Nat × Nat × Nat × Nat × Nat × Nat) (M N : ee_me) (e : ee_en) (stk : List Value) (w : ee_w) (kc ks : Nat) : Bool := decide (((ee_na q ≤ stk.length ∧ ((stk.drop (ee_na q)).map ee_cat).sum ≤ 8) ∧ ((stk.take (ee_na q)).reverse.map ee_cat).sum ≤ N.2.2.2.1) ∧ (((e.2.2.1 = 3 ∧ e.2.2.2.2.2.1 = 0) ∧ ee_inv q.2.2.2.1 e.2.1 = true) ∧ kc + N.2.2.2.2.2.2.1 ≤ M.2.2.2.2.2.2.1 ∧ ks + N.2.2.2.2.2.2.2 ≤ M.2.2.2.2.2.2.2) ∧ (if q.2.2.2.1 = 0 then ee_rcv N.1 w ((stk.take (q.2.2.2.2.1 + 1)).reverse.headD .null) = true else if q.2.2.2.1 = 2 then ee_isr ((stk.take (q.2.2.2.2.1 + 1)).reverse.headD .null) = true else q.2.2.2.1 = 1))
/-- the callee's first state, if the call can be -/
def ee_pre (q : Nat × Nat × Nat × Nat × Nat × Nat × Nat × Nat × Nat) (M N : ee_me) (e : ee_en) (st : ee_st) : Option ee_st := match st with
  | (_, lo, stk, w, iv, kc, ks, sv) => if ee_cc q M N e stk w kc ks = true then some (0, ee_arg 0 (stk.take (ee_na q)).reverse, [], w, iv, 0, 0, lo.map (fun z => z.2) ++ (stk.drop (ee_na q) ++ sv)) else none
def ee_exec : Nat → Nat → Nat → Nat → ee_st → Option (List ee_st)
  | 0, _, _, _, _ => none
  | f + 1, d, stop, y, st => if st.1 = stop then some [st] else (match ee_MT[y]? with
    | none => none
    | some M => (match ee_find M st.1 with
      | none => none
      | some e => if e.2.2.2.1 = 21 then some [st] else if e.2.2.2.1 = 23 then (match d with
          | 0 => none
          | d + 1 => (match ee_CL[e.2.2.2.2.1]? with
            | none => none
            | some q => (match ee_MT[q.2.2.1]? with
              | none => none
              | some N => (match ee_pre q M N e st with
                | none => none
                | some st0 => (match ee_exec f d 1000000 q.2.2.1 st0 with
                  | none => none
                  | some outs => if outs.all (ee_end N) = true then ee_bind (ee_exec f (d + 1) stop y) (outs.map (ee_next st.1 (st.2.1.map (fun z => z.1)) (st.2.2.1.length - ee_na q) (st.2.2.2.2.2.1 + N.2.2.2.2.2.2.1) (st.2.2.2.2.2.2.1 + N.2.2.2.2.2.2.2))) else none)))))
        else (match ee_hs[e.2.2.2.1]? with
          | none => none
          | some g => (match g M.2.2.2.1 M.2.2.2.2.2.2.1 M.2.2.2.2.2.2.2 e st with
            | none => none
            | some sts => ee_bind (ee_exec f d stop y) sts))))
