/-! calls -/
def ee_rm (d mc ms : Nat) : Room := { frames := d + 1, cells := mc, slots := ms, locals := 64 * (d + 1) }
/-- behind a call, whatever it answers -/
theorem ee_back {p : Program} {l : Launch} {e : Env} {R : Room} {s : State} {m : MethodId} {args : Array Value} {below : List Frame} {meth : Method} {c : Code} {H : Heap} {lc : List Loc} {cells slots : Nat} {Q : State → Prop} {pc : Nat} {ls : Array Slot} {rest st0 : List Value} {a : Array Value} {A0 A1 : Nat → Prop} {H0 : Heap} {mc ms : Nat} {free : Addr → Prop} {outs : List ee_st} {D : va_G} {dA : Nat → ClassId} {ex : Nat → Nat} {x0 : List Int32} {a0 : List Nat} {sv0 : List Value}
    (hr : va_Run p l e R s m args below meth c H lc cells slots mc ms (F0 m pc ls st0) rest (ee_Q outs D dA ex x0 a0 sv0 A1 a) free) (hS : va_S A0 H0 H lc) (hA : ∀ q, q < H.size → A1 q → A0 q) (hf : ∀ q, free q → A0 q)
    (kk : ∀ q ∈ outs, ∀ (ns : List Int32) (as : List Nat) (ws : va_W) (v : Option Value) (H1 : Heap) (lc1 : List Loc), ee_all (ee_v ns as ex) q.2.2.1 v.toList → ee_ok ns q.2.2.2.2.1 → ((∃ r, ns = x0 ++ r) ∧ ∃ r, as = a0 ++ r) → ee_all (ee_v ns as ex) q.2.2.2.2.2.2.2 sv0 → ee_wr ns as ex dA q.2.2.2.1 ws → va_P D vwCl ws H1 → va_D A1 ws → va_S A0 H0 H1 lc1 → W p l e R s m args below meth c H1 lc1 (cells + mc) (slots + ms) Q (F0 m (pc + 3) ls (v.toList ++ rest))) : W p l e R s m args below meth c H lc cells slots Q (F0 m pc ls st0) := by
  intro T hT X
  obtain ⟨v, st₀, t, T', L, h0, X', hL, e1, e2, ⟨⟨q, hq, ns, as, ws, v', hv, g1, g2, g3, g4, g5, g6, g7⟩, hz, hk⟩, st⟩ := hr T hT X
  cases hv
  rw [h0] at hz hk
  obtain ⟨t2, a1, b1⟩ := kk q hq ns as ws v T'.heap (lc ++ L) g1 g2 g3 g4 g5 (by rw [e1]; exact g6) g7
    ⟨Nat.le_trans hS.1 (by rw [e1]; exact hz), fun q h1 h2 => by rw [e1, hk q (Nat.lt_of_lt_of_le h1 hS.1) (fun z => h2 (hA q (Nat.lt_of_lt_of_le h1 hS.1) z))]; exact hS.2.1 q h1 h2, fun q hq => by
      rcases List.mem_append.mp hq with h | h
      · exact hS.2.2 q h
      · exact hf _ (hL q h)⟩ T' rfl X'
  exact ⟨t2, st t2 a1, b1⟩
theorem ee_zip {ns : List Int32} {as : List Nat} {ex : Nat → Nat} : ∀ {l : List Value} {lv : List (Nat × Value)}, ee_all (ee_v ns as ex) l (lv.map (fun z => z.2)) → ee_all (ee_lr ns as ex) ((lv.map (fun z => z.1)).zip l) lv
  | [], [], _ => trivial
  | x :: l, (i, v) :: lv, h => ⟨⟨rfl, h.1⟩, ee_zip h.2⟩
  | [], _ :: _, h => h.elim
  | _ :: _, [], h => h.elim
theorem ee_keys {ns : List Int32} {as : List Nat} {ex : Nat → Nat} : ∀ {lo lv : List (Nat × Value)}, ee_all (ee_lr ns as ex) lo lv → lo.map (fun z => z.1) = lv.map (fun z => z.1) ∧ ee_all (ee_v ns as ex) (lo.map (fun z => z.2)) (lv.map (fun z => z.2))
  | [], [], _ => ⟨rfl, trivial⟩
  | (i, x) :: lo, (j, v) :: lv, h => by
    obtain ⟨h1, h2⟩ := ee_keys h.2
    exact ⟨by rw [List.map_cons, List.map_cons, h1, show i = j from h.1.1], ⟨h.1.2, h2⟩⟩
  | [], _ :: _, h => h.elim
  | _ :: _, [], h => h.elim
theorem ee_all.parts {α β : Type} {R : α → β → Prop} {l : List α} {k : List β} (n : Nat) (h : ee_all R l k) : ee_all R (l.take n) (k.take n) ∧ ee_all R (l.drop n) (k.drop n) := by
  induction n generalizing l k with
  | zero => exact ⟨by simp [ee_all], by simpa using h⟩
  | succ n ih =>
    match l, k, h with
    | [], [], _ => exact ⟨trivial, trivial⟩
    | a :: l, b :: k, h =>
      obtain ⟨h1, h2⟩ := ih h.2
      exact ⟨⟨h.1, h1⟩, h2⟩
/-- the words of a call -/
theorem ee_goodIn {N : ee_me} (h : Cond.code N.2.1 N.2.2.1 N.2.2.2.1 N.2.2.2.2.1 ∈ ee_tbl) : GoodIn ee_tbl (Cond.code N.2.1 N.2.2.1 N.2.2.2.1 N.2.2.2.2.1 :: ee_tbl) := by
  intro w hw
  have hm : w ∈ ee_tbl := by
    rcases List.mem_cons.mp hw with rfl | hw
    · exact h
    · exact hw
  exact ⟨hm, good_of_word (ee_tbl_good w hm)⟩
/-- a call, once its run is known -/
theorem ee_callG {p : Program} {l : Launch} {en : Env} {R : Room} {s : State} {m : MethodId} {args : Array Value} {below : List Frame} {meth : Method} {c : Code} {A : Nat → Prop} {D : va_G} {dA : Nat → ClassId} {ex : Nat → Nat} {x0 : List Int32} {a0 : List Nat} {sv0 : List Value} {nL : Nat} {Q : State → Prop} {pc na kc ks mc ms : Nat} {lo : List (Nat × Value)} {stk : List Value} {H : Heap} {lc : List Loc} {ls : Array Slot} {vs : List Value} {lv : List (Nat × Value)} {ns : List Int32} {as : List Nat} {ws : va_W} {outs : List ee_st} {a : Array Value}
    (c3 : lv_has ls nL lv) (c3l : ee_all (ee_lr ns as ex) lo lv) (c4 : ee_all (ee_v ns as ex) stk vs) (hA : ∀ q, s.heap.size ≤ q → A q) (hD : va_D A ws) (hS : va_S A s.heap H lc)
    (hr : va_Run p l en R s m args below meth c H lc kc ks mc ms (F0 m pc ls vs) (vs.drop na) (ee_Q outs D dA ex x0 a0 (lv.map (fun z => z.2) ++ (vs.drop na ++ sv0)) (va_A ws H.size) a) (va_A ws H.size))
    (k : ∀ q ∈ outs, ee_G (p, l, en, R, s, m, args, below, meth, c) (A, D, dA, ex, x0, a0, sv0, nL) Q (ee_next pc (lo.map (fun z => z.1)) (stk.length - na) (kc + mc) (ks + ms) q)) : W p l en R s m args below meth c H lc kc ks Q (F0 m pc ls vs) := by
  have hFc : ∀ q, va_A ws H.size q → A q := by
    intro q h
    rcases h with ⟨k, e, h⟩ | h
    · exact hD.2 k (q, e) h
    · exact hA q (Nat.le_trans hS.1 h)
  refine ee_back hr hS (fun q _ h => hFc q h) hFc (fun q hq ns2 as2 ws2 v H1 lc1 g1 g2 g3 g4 g5 g6 g7 hS1 => ?_)
  obtain ⟨pc2, lo2, stk2, w2, iv2, kc2, ks2, sv2⟩ := q
  have g1 : ee_all (ee_v ns2 as2 ex) stk2 v.toList := g1
  have g4 : ee_all (ee_v ns2 as2 ex) sv2 (lv.map (fun z => z.2) ++ (vs.drop na ++ sv0)) := g4
  have hk := (ee_keys c3l).1
  have hlen : (lo.map (fun z => z.1)).length = (lv.map (fun z => z.2)).length := by rw [hk, List.length_map, List.length_map]
  have hnr : stk.length - na = (vs.drop na).length := by rw [List.length_drop, c4.len]
  obtain ⟨p1, p2⟩ := g4.split2
  obtain ⟨p3, p4⟩ := p2.split2
  have key := k _ hq ns2 as2 H1 lc1 ls (v.toList ++ vs.drop na)
  refine key ⟨g2, g3, ⟨lv, c3, ?_⟩, ?_, ?_, ws2, g5, g6, g7.weaken (fun _ _ _ h => hFc _ h), hS1⟩
  · rw [hlen, hk]
    exact ee_zip p1
  · rw [hlen, hnr]
    exact g1.app p3
  · rw [hlen, hnr]
    exact p4
/-- how a contract's callee ends -/
def ee_Qc (ps : List (List Value × ee_w × ee_iv)) (D : va_G) (dA : Nat → ClassId) (ex : Nat → Nat) (ns : List Int32) (as : List Nat) (A1 : Nat → Prop) : Array Value → State → Outcome → State → Prop := fun _ st oc t =>
  (∃ p ∈ ps, ∃ (r : List Int32) (ws : va_W) (v : Option Value), oc = .returned v ∧ ee_all (ee_v (ns ++ r) as ex) p.1 v.toList ∧ ee_ok (ns ++ r) p.2.2 ∧ ee_wr (ns ++ r) as ex dA p.2.1 ws ∧ va_P D vwCl ws t.heap ∧ va_D A1 ws) ∧ va_F A1 st t
/-- what is known of the tables of methods -/
def ee_Tb (mt : Nat → Option ee_me) : Prop := (∀ (y : Nat) (M : ee_me), mt y = some M → ee_Mok M) ∧ ∀ (q : Nat × Nat × Nat × Nat × Nat × Nat × Nat × Nat × Nat) (N : ee_me), q ∈ ee_CL → mt q.2.2.1 = some N → ee_Cok q N
/-- a contract -/
def ee_Ct (mt : Nat → Option ee_me) (c : ee_ct) : Prop := ∀ (N : ee_me), mt c.1 = some N → ∀ (l : Launch) (D : va_G) (dA : Nat → ClassId) (ex : Nat → Nat) (ns : List Int32) (as : List Nat) (ws : va_W) (sz : Nat) (av : List Value), ee_ok ns c.2.2.2.1 → ee_all (ee_v ns as ex) c.2.1 av → ee_wr ns as ex dA c.2.2.1 ws →
  Met l N.2.1 (Cond.code N.2.1 N.2.2.1 N.2.2.2.1 N.2.2.2.2.1 :: ee_tbl) (ee_rm c.2.2.2.2.2 0 0) (ee_Pc D dA ex av ws sz) (ee_Qc c.2.2.2.2.1 D dA ex ns as (va_A ws sz)) 0 0 (va_A ws sz)
theorem ee_backC {p : Program} {l : Launch} {e : Env} {R : Room} {s : State} {m : MethodId} {args : Array Value} {below : List Frame} {meth : Method} {c : Code} {H : Heap} {lc : List Loc} {cells slots : Nat} {Q : State → Prop} {pc : Nat} {ls : Array Slot} {rest st0 : List Value} {a : Array Value} {A0 A1 : Nat → Prop} {H0 : Heap} {mc ms : Nat} {free : Addr → Prop} {ps : List (List Value × ee_w × ee_iv)} {D : va_G} {dA : Nat → ClassId} {ex : Nat → Nat} {ns : List Int32} {as : List Nat}
    (hr : va_Run p l e R s m args below meth c H lc cells slots mc ms (F0 m pc ls st0) rest (ee_Qc ps D dA ex ns as A1 a) free) (hS : va_S A0 H0 H lc) (hA : ∀ q, q < H.size → A1 q → A0 q) (hf : ∀ q, free q → A0 q)
    (kk : ∀ q ∈ ps, ∀ (r : List Int32) (ws : va_W) (v : Option Value) (H1 : Heap) (lc1 : List Loc), ee_all (ee_v (ns ++ r) as ex) q.1 v.toList → ee_ok (ns ++ r) q.2.2 → ee_wr (ns ++ r) as ex dA q.2.1 ws → va_P D vwCl ws H1 → va_D A1 ws → va_S A0 H0 H1 lc1 → (∀ q : Nat, q < H.size → ¬ A1 q → H1[q]? = H[q]?) → W p l e R s m args below meth c H1 lc1 (cells + mc) (slots + ms) Q (F0 m (pc + 3) ls (v.toList ++ rest))) : W p l e R s m args below meth c H lc cells slots Q (F0 m pc ls st0) := by
  intro T hT X
  obtain ⟨v, st₀, t, T', L, h0, X', hL, e1, e2, ⟨⟨q, hq, r, ws, v', hv, g1, g2, g5, g6, g7⟩, hz, hk⟩, st⟩ := hr T hT X
  cases hv
  rw [h0] at hz hk
  obtain ⟨t2, a1, b1⟩ := kk q hq r ws v T'.heap (lc ++ L) g1 g2 g5 (by rw [e1]; exact g6) g7
    ⟨Nat.le_trans hS.1 (by rw [e1]; exact hz), fun q h1 h2 => by rw [e1, hk q (Nat.lt_of_lt_of_le h1 hS.1) (fun z => h2 (hA q (Nat.lt_of_lt_of_le h1 hS.1) z))]; exact hS.2.1 q h1 h2, fun q hq => by
      rcases List.mem_append.mp hq with h | h
      · exact hS.2.2 q h
      · exact hf _ (hL q h)⟩ (fun q h1 h2 => by rw [e1]; exact hk q h1 h2) T' rfl X'
  exact ⟨t2, st t2 a1, b1⟩
/-- a call: the run of its callee, by whatever contract -/
theorem ee_runC {mt : Nat → Option ee_me} (hT : ee_Tb mt) {p : Program} {l : Launch} {en : Env} {R : Room} {s : State} {m : MethodId} {args : Array Value} {below : List Frame} {meth : Method} {c : Code} {A : Nat → Prop} {D : va_G} {dA : Nat → ClassId} {ex : Nat → Nat} {x0 : List Int32} {a0 : List Nat} {sv0 : List Value} {nL : Nat} {y d d' mc ms kc ks bc bs : Nat} {M N : ee_me} {ini : Prop} {e : ee_en} {stk : List Value} {w : ee_w} {ns : List Int32} {as : List Nat} {H : Heap} {lc : List Loc} {ls : Array Slot} {vs : List Value} {lv : List (Nat × Value)} {ws : va_W} {Pc : Array Value → State → Prop} {Qc : Array Value → State → Outcome → State → Prop} {free : Addr → Prop}
    (F : ee_F (p, l, en, R, s, m, args, below, meth, c) (A, D, dA, ex, x0, a0, sv0, nL) M.2.1.cls M.2.2.1 ee_tbl ini (d + 1 + 1) bc bs) (hbc : bc = M.2.2.2.2.2.2.1) (hbs : bs = M.2.2.2.2.2.2.2) (hM : mt y = some M) (hd : decode M.2.2.1 e.1 = .ok (e.2.1, e.2.2.1)) (hk : ee_eok M.1 e = true) (hN : mt e.2.2.2.2.2.2.2.1 = some N) (hcc : ee_cc M N e stk w kc ks mc ms = true)
    (c3 : lv_has ls nL lv) (c4 : ee_all (ee_v ns as ex) stk vs) (c6w : ee_wr ns as ex dA w ws) (hP : va_P D vwCl ws H) (hS : va_S A s.heap H lc)
    (hmet : Met l N.2.1 (Cond.code N.2.1 N.2.2.1 N.2.2.2.1 N.2.2.2.2.1 :: ee_tbl) (ee_rm d' mc ms) Pc Qc mc ms free) (hd' : d' ≤ d) (hbl : FrameBlind Pc) (hpre : ∀ U : State, U.heap = H → s.WarmedH U.vm → Pc (vs.take (ee_na e)).reverse.toArray U) :
    ∃ a : Array Value, va_Run p l en R s m args below meth c H lc kc ks mc ms (F0 m e.1 ls vs) (vs.drop (ee_na e)) (Qc a) free := by
  obtain ⟨hx, hb, hml, hown, hts, hK, hA, hini, hR, hE⟩ := F
  obtain ⟨o1, -⟩ := hT.1 y M hM
  obtain ⟨pc, ins, len, hn, ea, eb, ez, qa, qb, qc⟩ := e
  have hd : decode M.2.2.1 pc = .ok (ins, len) := hd
  have hna0 : ee_na (pc, ins, len, hn, ea, eb, ez, qa, qb, qc) = qc + (if qb = 1 then 0 else 1) := rfl
  have hcc : (decide ((ee_na (pc, ins, len, hn, ea, eb, ez, qa, qb, qc) ≤ stk.length ∧ ((stk.drop (ee_na (pc, ins, len, hn, ea, eb, ez, qa, qb, qc))).map ee_cat).sum ≤ 8) ∧ ((stk.take (ee_na (pc, ins, len, hn, ea, eb, ez, qa, qb, qc))).reverse.map ee_cat).sum ≤ N.2.2.2.1) && (decide ((len = 3 ∧ eb = 0) ∧ kc + mc ≤ M.2.2.2.2.2.2.1 ∧ ks + ms ≤ M.2.2.2.2.2.2.2) && (ee_inv qb ins && (if qb = 0 then ee_rcv N.1 w ((stk.take (ee_na (pc, ins, len, hn, ea, eb, ez, qa, qb, qc))).reverse.headD .null) else if qb = 2 then ee_isr ((stk.take (ee_na (pc, ins, len, hn, ea, eb, ez, qa, qb, qc))).reverse.headD .null) else decide (qb = 1))))) = true := hcc
  generalize ee_na (pc, ins, len, hn, ea, eb, ez, qa, qb, qc) = na at hcc hna0 hpre ⊢
  obtain ⟨v1, v2⟩ := ee_and hcc
  obtain ⟨v2, v3⟩ := ee_and v2
  obtain ⟨u9, u8⟩ := ee_and v3
  obtain ⟨⟨u1, u2⟩, u3⟩ := of_decide_eq_true v1
  obtain ⟨⟨u4, u5⟩, u6, u7⟩ := of_decide_eq_true v2
  subst u4
  subst u5
  obtain ⟨a1, a2⟩ := c4.parts na
  have hroom : (ee_rm d' mc ms).frames + 1 ≤ R.frames ∧ 8 + (N.2.2.2.1 + 11) + (ee_rm d' mc ms).locals ≤ R.locals := by
    have r1 := hR.1
    have r2 := hR.2.1
    show d' + 1 + 1 ≤ R.frames ∧ 8 + (N.2.2.2.1 + 11) + 64 * (d' + 1) ≤ R.locals
    have hNl : N.2.2.2.1 ≤ 45 := by
      cases hq : ee_CL[ea]? with
      | none =>
        cases ins <;> first | (cases u9; done) | (unfold ee_eok at hk; simp only at hk; rw [if_pos trivial, hq] at hk; cases hk)
      | some q =>
        have hqa : q.2.2.1 = qa := by
          cases ins <;> first | (cases u9; done) | (unfold ee_eok at hk; simp only at hk; rw [if_pos trivial, hq] at hk; simp only [Bool.and_eq_true, decide_eq_true_eq] at hk; exact hk.2.2.2.1)
        exact (hT.2 q N (List.mem_of_getElem? hq) (by rw [hqa]; exact hN)).1.2.2
    omega
  have hcells : kc + mc ≤ R.cells ∧ ks + ms ≤ R.slots := ⟨Nat.le_trans u6 (by rw [← hbc]; exact hR.2.2.1), Nat.le_trans u7 (by rw [← hbs]; exact hR.2.2.2)⟩
  have hwords : (((vs.drop na).map fun v => v.category)).sum ≤ 8 := by
    rw [ee_cats a2]
    exact u2
  have hsplit : vs.take na ++ vs.drop na = vs := List.take_append_drop _ _
  have hlen : (vs.take na).length = na := by
    rw [List.length_take, ← c4.len]
    exact Nat.min_eq_left u1
  have hlk : ∀ i kd : Nat, (match ee_CL[ea]? with
    | some q => decide (q.1 = M.1) && (decide (q.2.1 = i) && (decide (q.2.2.2.1 = kd) && (decide (q.2.2.1 = qa) && (decide (q.2.2.2.1 = qb) && decide (q.2.2.2.2.1 = qc)))))
    | none => false) = true → ∃ q, q ∈ ee_CL ∧ ee_Cok q N ∧ Cond.methodLink M.2.1.cls i N.2.1 ∈ ee_tbl ∧ q.2.2.2.1 = kd ∧ qb = kd ∧ q.2.2.2.2.1 = qc := fun i kd z => by
    cases hq : ee_CL[ea]? with
    | none => rw [hq] at z; cases z
    | some q =>
      rw [hq] at z
      simp only [Bool.and_eq_true, decide_eq_true_eq] at z
      obtain ⟨z1, z2, z3, z4, z5, z6⟩ := z
      have hc := hT.2 q N (List.mem_of_getElem? hq) (by rw [z4]; exact hN)
      have t4 := hc.2.1.1
      rw [z1, ee_own_ow o1, z2] at t4
      exact ⟨q, List.mem_of_getElem? hq, hc, t4, z3, by rw [← z5]; exact z3, z6⟩
  cases ins with
  | invokevirtual i =>
    obtain ⟨q, hqm, ⟨⟨t1, t2, t3⟩, ⟨t4, t5⟩, t6, t7, t8, t9⟩, hl1, hkd, hqb, hqc⟩ := hlk i 0 hk
    have hini2 := hts _ t5
    subst hqb
    rw [if_pos rfl] at u8
    rw [if_neg (by decide)] at hna0
    have ar := a1.rev
    cases hA0 : (stk.take na).reverse with
    | nil => rw [hA0] at u8; cases u8
    | cons x A1 =>
      rw [hA0] at ar u8
      obtain ⟨v0, As, hav, cx, cAs⟩ := ar.cons
      have u8 : ee_rcv N.1 w x = true := u8
      cases x with
      | ref j =>
        obtain ⟨b, rfl⟩ := ee_v.ref cx
        rw [hav] at hpre
        have htk : vs.take na = As.reverse ++ [Value.ref b] := by rw [← List.reverse_reverse (vs.take na), hav, List.reverse_cons]
        have hstack : vs = As.reverse ++ Value.ref b :: vs.drop na := by
          have := hsplit.symm
          rw [htk] at this
          simpa using this
        have hnA : As.length = q.2.2.2.2.1 := by
          have : (vs.take na).reverse.length = (Value.ref b :: As).length := by rw [hav]
          rw [List.length_reverse, hlen, List.length_cons] at this
          omega
        have hN1 := (hT.1 _ N hN).1
        have hrecv : ∃ cell : Cell, H[b]? = some cell ∧ cell.vm.isStatics = false ∧ s.vm.findClass N.2.1.cls = some cell.cls := by
          unfold ee_rcv at u8
          simp only at u8
          by_cases hj : j < 1000000
          · rw [if_pos hj] at u8
            split at u8
            · rename_i ci fs hw
              have hci := of_decide_eq_true u8
              obtain ⟨ec, g1, vs1, rfl, g3⟩ := c6w.at hw (cx.at hj)
              obtain ⟨r, hr1, -⟩ := hP j _ g1
              have hr2 := ee_okn ci r hr1
              rw [hci, hN1] at hr2
              rw [Option.some.inj hr2]
              exact va_recv hK hP hr1 g1
            · cases u8
          · rw [if_neg hj] at u8
            obtain ⟨z1, z2⟩ := ee_and u8
            have z1 := of_decide_eq_true z1
            have z2 := of_decide_eq_true z2
            rw [z2] at hN1
            rw [← Option.some.inj ((show ee_own[ee_sox]? = some "java/lang/String" from rfl).symm.trans hN1)]
            have hb1 := cx.out hj
            have hj1 : 1000000 ≤ j := Nat.not_lt.mp hj
            obtain ⟨i0, hi0, rfl⟩ : ∃ i0, i0 < 2 ∧ j = 1000000 + i0 := ⟨j - 1000000, Nat.sub_lt_left_of_lt_add hj1 z1, (Nat.add_sub_of_le hj1).symm⟩
            rw [hb1]
            exact vk_recv hE.1 (i := i0) hi0 hS
        exact ⟨_, va_runV (As := As) (rest := vs.drop na) ⟨hx, hb, hml, hown, hts⟩ hmet ⟨callB_of q.2.2.2.2.1 hts (ee_goodIn t2) rfl rfl rfl hini2 (hts _ hl1) t6 hroom, hts _ (t7 hkd).1, hts _ (t7 hkd).2⟩ ⟨hbl, hrecv, hpre⟩ rfl hnA c3.1 hstack (lv_room hwords) hd hcells⟩
      | _ => cases u8
  | invokestatic i =>
    obtain ⟨q, hqm, ⟨⟨t1, t2, t3⟩, ⟨t4, t5⟩, t6, t7, t8, t9⟩, hl1, hkd, hqb, hqc⟩ := hlk i 1 (by
      have hk2 := hk
      unfold ee_eok at hk2
      simp only at hk2
      rw [if_pos trivial] at hk2
      exact hk2)
    have hini2 := hts _ t5
    subst hqb
    rw [if_pos rfl] at hna0
    have hstack : vs = (vs.take na).reverse.reverse ++ vs.drop na := by rw [List.reverse_reverse, hsplit]
    have hnA : (vs.take na).reverse.length = q.2.2.2.2.1 := by
      rw [List.length_reverse, hlen]
      omega
    exact ⟨_, va_runS (As := (vs.take na).reverse) (rest := vs.drop na) ⟨hx, hb, hml, hown, hts⟩ hmet ⟨callB_of q.2.2.2.2.1 hts (ee_goodIn t2) rfl rfl rfl hini2 (hts _ hl1) t6 hroom, hts _ (t8 hkd)⟩ ⟨hbl, hpre⟩ rfl hnA c3.1 hstack (lv_room hwords) hd hcells⟩
  | invokespecial i =>
    obtain ⟨q, hqm, ⟨⟨t1, t2, t3⟩, ⟨t4, t5⟩, t6, t7, t8, t9⟩, hl1, hkd, hqb, hqc⟩ := hlk i 2 (by
      have hk2 := hk
      unfold ee_eok at hk2
      simp only at hk2
      rw [if_pos trivial] at hk2
      exact hk2)
    have hini2 := hts _ t5
    subst hqb
    rw [if_neg (by decide), if_pos rfl] at u8
    rw [if_neg (by decide)] at hna0
    have ar := a1.rev
    cases hA0 : (stk.take na).reverse with
    | nil => rw [hA0] at u8; cases u8
    | cons x A1 =>
      rw [hA0] at ar u8
      obtain ⟨v0, As, hav, cx, cAs⟩ := ar.cons
      have u8 : ee_isr x = true := u8
      cases x with
      | ref j =>
        obtain ⟨b, rfl⟩ := ee_v.ref cx
        rw [hav] at hpre
        have htk : vs.take na = As.reverse ++ [Value.ref b] := by rw [← List.reverse_reverse (vs.take na), hav, List.reverse_cons]
        have hstack : vs = As.reverse ++ Value.ref b :: vs.drop na := by
          have := hsplit.symm
          rw [htk] at this
          simpa using this
        have hnA : As.length = q.2.2.2.2.1 := by
          have : (vs.take na).reverse.length = (Value.ref b :: As).length := by rw [hav]
          rw [List.length_reverse, hlen, List.length_cons] at this
          omega
        obtain ⟨w1, w2, w3⟩ := t9 hkd
        rw [w3] at hmet t2
        exact ⟨_, va_runI (As := As) (rest := vs.drop na) (bytes := N.2.2.1) (maxL := N.2.2.2.1) ⟨hx, hb, hml, hown, hts⟩ hmet ⟨callB_of q.2.2.2.2.1 hts (by have := ee_goodIn (N := (N.1, N.2.1, N.2.2.1, N.2.2.2.1, none, N.2.2.2.2.2)) t2; exact this) rfl rfl rfl hini2 (hts _ hl1) t6 hroom, w2, hts _ w1⟩ ⟨hbl, hpre⟩ rfl hnA c3.1 hstack (lv_room hwords) hd hcells⟩
      | _ => cases u8
  | _ => cases u9
