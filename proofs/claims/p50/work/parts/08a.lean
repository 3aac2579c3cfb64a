/-! contracts; the walk of a method, its calls walked into or met by a contract -/
/-- method, arguments, cells, symbols, ends (answer, cells, symbols), how deep -/
abbrev ee_ct : Type := Nat × List Value × ee_w × ee_iv × List (List Value × ee_w × ee_iv) × Nat
def ee_find (M : ee_me) (pc : Nat) : Option ee_en := match M.2.2.2.2.2.1.find? (fun b => Nat.blt pc b.1) with
  | some b => b.2.find? (fun e => Nat.beq e.1 pc)
  | none => none
def ee_hn : ee_H := fun _ _ _ _ _ => none
theorem ee_hn.snd : ee_Snd ee_hn := fun _ _ _ _ _ _ _ _ _ _ _ _ _ _ _ _ _ _ _ h => ee_no h
def ee_hs : List ee_H := [ee_h0, ee_h1, ee_h2, ee_h3, ee_h4, ee_h5, ee_h6, ee_h7, ee_h8, ee_h9, ee_h10, ee_h11, ee_h12, ee_h13, ee_h14, ee_h15, ee_h16, ee_h17x, ee_h18, ee_h19, ee_h20, ee_hn, ee_h22x, ee_hn, ee_h24]
theorem ee_hs.snd : ∀ h ∈ ee_hs, ee_Snd h := by
  intro h hm
  simp only [ee_hs, List.mem_cons, List.not_mem_nil, or_false] at hm
  rcases hm with rfl | rfl | rfl | rfl | rfl | rfl | rfl | rfl | rfl | rfl | rfl | rfl | rfl | rfl | rfl | rfl | rfl | rfl | rfl | rfl | rfl | rfl | rfl | rfl | rfl
  · exact ee_h0.snd
  · exact ee_h1.snd
  · exact ee_h2.snd
  · exact ee_h3.snd
  · exact ee_h4.snd
  · exact ee_h5.snd
  · exact ee_h6.snd
  · exact ee_h7.snd
  · exact ee_h8.snd
  · exact ee_h9.snd
  · exact ee_h10.snd
  · exact ee_h11.snd
  · exact ee_h12.snd
  · exact ee_h13.snd
  · exact ee_h14.snd
  · exact ee_h15.snd
  · exact ee_h16.snd
  · exact ee_h17x.snd
  · exact ee_h18.snd
  · exact ee_h19.snd
  · exact ee_h20.snd
  · exact ee_hn.snd
  · exact ee_h22x.snd
  · exact ee_hn.snd
  · exact ee_h24.snd
/-- a handler is sound at one frame -/
def ee_SndX (X : ee_cx) (Y : ee_cy) (h : ee_H) : Prop := ∀ (oc : Nat) (own : String) (cc : ByteArray) (ini : Prop) (dm bc bs : Nat) (Q : State → Prop) (e : ee_en) (st : ee_st) (sts : List ee_st), ee_F X Y own cc ee_tbl ini (dm + 1) bc bs → ee_own[oc]? = some own → (ee_ini e = true → ini) → decode cc e.1 = .ok (e.2.1, e.2.2.1) → ee_eok oc e = true → st.1 = e.1 → h Y.2.2.2.2.2.2.2 bc bs e st = some sts → (∀ q ∈ sts, ee_G X Y Q q) → ee_G X Y Q st
theorem ee_hs.x (X : ee_cx) (Y : ee_cy) : ∀ h ∈ ee_hs, ee_SndX X Y h := fun h hm => ee_hs.snd h hm X Y
def ee_bind (g : ee_st → Option (List ee_st)) : List ee_st → Option (List ee_st)
  | [] => some []
  | st :: l => match g st with
    | none => none
    | some a => match ee_bind g l with
      | none => none
      | some b => some (a ++ b)
theorem ee_bind.ok {g : ee_st → Option (List ee_st)} : ∀ {l : List ee_st} {r : List ee_st}, ee_bind g l = some r → ∀ st ∈ l, ∃ a, g st = some a ∧ ∀ q ∈ a, q ∈ r
  | [], r, _, st, h => by simp at h
  | x :: l, r, h, st, hm => by
    unfold ee_bind at h
    cases hx : g x with
    | none => rw [hx] at h; exact ee_no h
    | some a =>
      rw [hx] at h
      simp only at h
      cases hl : ee_bind g l with
      | none => rw [hl] at h; exact ee_no h
      | some b =>
        rw [hl] at h
        cases h
        rcases List.mem_cons.mp hm with rfl | hm
        · exact ⟨a, hx, fun q hq => List.mem_append_left _ hq⟩
        · obtain ⟨c, h1, h2⟩ := ee_bind.ok hl st hm
          exact ⟨c, h1, fun q hq => List.mem_append_right _ (h2 q hq)⟩
/-- what a method may return -/
def ee_rok (ret : Option FieldType) (e : ee_en) (stk : List Value) (iv : ee_iv) : Bool := match ret, e.2.1, stk with
  | none, .return_, [] => decide (e.2.2.1 = 1)
  | some .int, .ireturn, [x] => decide (e.2.2.1 = 1) && (ee_it iv x).isSome
  | some .boolean, .ireturn, [x] => decide (e.2.2.1 = 1) && (match ee_it iv x with
    | some (a, b) => decide (0 ≤ a) && decide (b ≤ 1)
    | none => false)
  | some .char, .ireturn, [x] => decide (e.2.2.1 = 1) && (match ee_it iv x with
    | some (a, b) => decide (0 ≤ a) && decide (b ≤ 65535)
    | none => false)
  | some .byte, .ireturn, [x] => decide (e.2.2.1 = 1) && (match ee_it iv x with
    | some (a, b) => decide (-128 ≤ a) && decide (b ≤ 127)
    | none => false)
  | some .long, .lreturn, [x] => decide (e.2.2.1 = 1) && ee_isl x
  | _, _, _ => false
def ee_end (M : ee_me) (q : ee_st) : Bool := match ee_find M q.1 with
  | some e => ee_rok M.2.2.2.2.1 e q.2.2.1 q.2.2.2.2.1 && (decide (q.2.2.2.2.2.1 ≤ M.2.2.2.2.2.2.1) && decide (q.2.2.2.2.2.2.1 ≤ M.2.2.2.2.2.2.2))
  | none => false
/-- the caller's state behind a call that was walked into -/
def ee_next (pc : Nat) (ks0 : List Nat) (nr kc ks : Nat) (q : ee_st) : ee_st := match q with
  | (_, _, stk, w, iv, _, _, sv) => (pc + 3, ks0.zip (sv.take ks0.length), stk ++ (sv.drop ks0.length).take nr, w, iv, kc, ks, (sv.drop ks0.length).drop nr)
def ee_arg : Nat → List Value → List (Nat × Value)
  | _, [] => []
  | i, x :: l => (i, x) :: ee_arg (i + ee_cat x) l
/-- is the receiver of that file's kind? -/
def ee_rcv (oc : Nat) (w : ee_w) (x : Value) : Bool := match x with
  | .ref k => if k < 1000000 then (match w[k]? with
      | some (.inl (ci, _)) => decide (ci = oc)
      | _ => false) else decide (k < 1000002) && decide (oc = ee_sox)
  | _ => false
def ee_inv (kd : Nat) (ins : ClassFile.Instr) : Bool := match ins with
  | .invokevirtual _ => decide (kd = 0)
  | .invokestatic _ => decide (kd = 1)
  | .invokespecial _ => decide (kd = 2)
  | _ => false
/-- how many values a call takes -/
def ee_na (e : ee_en) : Nat := match e with
  | (_, _, _, _, _, _, _, _, qb, qc) => qc + (if qb = 1 then 0 else 1)
/-- can the call be? mc, ms: cells and slots that it makes -/
def ee_cc (M N : ee_me) (e : ee_en) (stk : List Value) (w : ee_w) (kc ks mc ms : Nat) : Bool := match e with
  | (_, ins, len, _, _, eb, _, _, qb, _) => decide ((ee_na e ≤ stk.length ∧ ((stk.drop (ee_na e)).map ee_cat).sum ≤ 8) ∧ ((stk.take (ee_na e)).reverse.map ee_cat).sum ≤ N.2.2.2.1) && (decide ((len = 3 ∧ eb = 0) ∧ kc + mc ≤ M.2.2.2.2.2.2.1 ∧ ks + ms ≤ M.2.2.2.2.2.2.2) && (ee_inv qb ins && (if qb = 0 then ee_rcv N.1 w ((stk.take (ee_na e)).reverse.headD .null) else if qb = 2 then ee_isr ((stk.take (ee_na e)).reverse.headD .null) else decide (qb = 1))))
/-- a contract met: the answers, cells and symbols behind it -/
def ee_app (c : ee_ct) (A : List Value) (w : ee_w) (iv : ee_iv) : Option (List (List Value × ee_w × ee_iv)) := match ee_ms 0 iv c.2.1 A ([], []) with
  | none => none
  | some m1 => (match ee_mw 0 iv w c.2.2.1 0 m1 with
    | none => none
    | some m2 => if (decide (m2.2.length = c.2.2.1.length) && (ee_pk 0 m2.1 iv c.2.2.2.1 && (va_nd m2.2 && (m2.2.all (fun j => decide (j < 1000000)) && m2.1.all (fun v => (ee_it iv v).isSome))))) = true then some (c.2.2.2.2.1.map (fun p => (p.1.map (ee_sx m2.1 m2.2 iv.1), ee_ups m2.2 (p.2.1.map (ee_sc m2.1 m2.2 iv.1)) w, ee_si m2.1 iv p.2.2))) else none)
/-- the first contract that can be met -/
def ee_try (Γ : List ee_ct) (y d : Nat) (A : List Value) (w : ee_w) (iv : ee_iv) : List Nat → Option (List (List Value × ee_w × ee_iv))
  | [] => none
  | k :: l => (match Γ[k]? with
    | none => none
    | some c => if c.1 = y ∧ c.2.2.2.2.2 ≤ d then (match ee_app c A w iv with
      | some r => some r
      | none => ee_try Γ y d A w iv l) else none)
/-- a value by its sign -/
def ee_sg3 (iv : ee_iv) (v : Value) : List ee_iv := match ee_it iv v with
  | some q => if q.1 < 0 ∧ 0 < q.2 then [ee_put iv v q.1 (-1), ee_put iv v 0 0, ee_put iv v 1 q.2] else []
  | none => []
theorem ee_sg3.ok {ns : List Int32} {as : List Nat} {ex : Nat → Nat} {iv : ee_iv} {x v : Value} (hk : ee_ok ns iv) (hx : ee_v ns as ex x v) (h : ee_sg3 iv x ≠ []) : ∃ iv', iv' ∈ ee_sg3 iv x ∧ ee_ok ns iv' := by
  unfold ee_sg3 at h ⊢
  cases hq : ee_it iv x with
  | none => rw [hq] at h; exact absurd rfl h
  | some q =>
    rw [hq] at h
    simp only at h ⊢
    obtain ⟨z, rfl, z1, z2⟩ := ee_it.int (a := q.1) (b := q.2) hk hx hq
    by_cases hc : q.1 < 0 ∧ 0 < q.2
    · rw [if_pos hc]
      by_cases h1 : z.toInt < 0
      · exact ⟨_, List.mem_cons_self, ee_put.ok hk hx z1 (by omega)⟩
      · by_cases h2 : z.toInt = 0
        · exact ⟨_, List.mem_cons_of_mem _ List.mem_cons_self, ee_put.ok hk hx (by omega) (by omega)⟩
        · exact ⟨_, List.mem_cons_of_mem _ (List.mem_cons_of_mem _ List.mem_cons_self), ee_put.ok hk hx (by omega) z2⟩
    · rw [if_neg hc] at h
      exact absurd rfl h
/-- a value that is gone through number by number at this place, or by its sign -/
def ee_spl (S : List (Nat × Nat × Nat)) (y : Nat) (st : ee_st) : Option (List ee_st) := match S.find? (fun q => Nat.beq q.1 y && Nat.beq q.2.1 st.1) with
  | none => none
  | some q => (match (if q.2.2 < 100 then st.2.1.lookup q.2.2 else if q.2.2 < 200 then st.2.2.1[q.2.2 - 100]? else st.2.1.lookup (q.2.2 - 200)) with
    | none => none
    | some v => (match (if q.2.2 < 200 then ee_sp st.2.2.2.2.1 v else ee_sg3 st.2.2.2.2.1 v) with
      | [] => none
      | l => some (l.map (fun iv' => (st.1, st.2.1, st.2.2.1, st.2.2.2.1, iv', st.2.2.2.2.2)))))
/-- the contracts for a place -/
def ee_kf (K : List (Nat × Nat × List Nat)) (y pc : Nat) : Option (List Nat) := match K.find? (fun q => Nat.beq q.1 y && Nat.beq q.2.1 pc) with
  | some q => some q.2.2
  | none => none
def ee_exec (mt : Nat → Option ee_me) (Γ : List ee_ct) (K : List (Nat × Nat × List Nat)) (S : List (Nat × Nat × Nat)) : Nat → Nat → List Nat → Bool → List ee_H → Nat → ee_me → ee_st → Option (List ee_st)
  | 0, _, _, _, _, _, _, _ => none
  | f + 1, d, stops, b, hs, y, M, st => if (b && stops.any (fun k => Nat.beq k st.1)) = true then some [st] else (match ee_find M st.1 with
    | none => none
    | some e => (match ee_spl S y st with
      | some sts => ee_bind (ee_exec mt Γ K S f d stops b hs y M) sts
      | none => if e.2.2.2.1 = 21 then some [st] else if e.2.2.2.1 = 23 then (match d with
          | 0 => none
          | d + 1 => (match mt e.2.2.2.2.2.2.2.1 with
            | none => none
            | some N => (match st with
              | (pc, lo, stk, w, iv, kc, ks, sv) => (match ee_kf K y pc with
                | some cs => if ee_cc M N e stk w kc ks 0 0 = true then (match ee_try Γ e.2.2.2.2.2.2.2.1 d (stk.take (ee_na e)).reverse w iv cs with
                    | none => none
                    | some ps => ee_bind (ee_exec mt Γ K S f (d + 1) stops true hs y M) (ps.map (fun p => (pc + 3, lo, p.1 ++ stk.drop (ee_na e), p.2.1, p.2.2, kc, ks, sv)))) else none
                | none => if ee_cc M N e stk w kc ks N.2.2.2.2.2.2.1 N.2.2.2.2.2.2.2 = true then (match ee_exec mt Γ K S f d [] true ee_hs e.2.2.2.2.2.2.2.1 N (0, ee_arg 0 (stk.take (ee_na e)).reverse, [], w, iv, 0, 0, lo.map (fun z => z.2) ++ (stk.drop (ee_na e) ++ sv)) with
                    | none => none
                    | some outs => if outs.all (ee_end N) = true then ee_bind (ee_exec mt Γ K S f (d + 1) stops true hs y M) (outs.map (ee_next pc (lo.map (fun z => z.1)) (stk.length - ee_na e) (kc + N.2.2.2.2.2.2.1) (ks + N.2.2.2.2.2.2.2))) else none) else none))))
        else (match hs[e.2.2.2.1]? with
          | none => none
          | some g => (match g M.2.2.2.1 M.2.2.2.2.2.2.1 M.2.2.2.2.2.2.2 e st with
            | none => none
            | some sts => ee_bind (ee_exec mt Γ K S f d stops true hs y M) sts))))
