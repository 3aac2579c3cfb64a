/-! handlers: the heap -/
theorem ee_v.at {ns : List Int32} {as : List Nat} {ex : Nat → Nat} {k : Nat} {a : Nat} (h : ee_v ns as ex (.ref k) (.ref a)) (hk : k < 1000000) : as[k]? = some a := by
  unfold ee_v at h
  simp only [hk, if_true] at h
  obtain ⟨b, h1, h2⟩ := h
  cases h2
  exact h1
theorem ee_v.out {ns : List Int32} {as : List Nat} {ex : Nat → Nat} {k : Nat} {a : Nat} (h : ee_v ns as ex (.ref k) (.ref a)) (hk : ¬ k < 1000000) : a = ex k := by
  unfold ee_v at h
  simp only [hk, if_false] at h
  cases h
  rfl
/-- the cell at a place of the world -/
theorem ee_wr.at {ns : List Int32} {as : List Nat} {ex : Nat → Nat} {dA : Nat → ClassId} {w : ee_w} {ws : va_W} {k a : Nat} {x : ee_cell} (h : ee_wr ns as ex dA w ws) (hk : w[k]? = some x) (ha : as[k]? = some a) : ∃ e, ws[k]? = some (a, e) ∧ ee_c ns as ex dA x e := by
  obtain ⟨⟨b, e⟩, h1, h2⟩ := h.2.get hk
  rw [h.1, List.getElem?_map, h1] at ha
  cases ha
  exact ⟨e, h1, h2⟩
theorem ee_map_set {ws : va_W} {k a : Nat} {e e2 : va_E} (h : ws[k]? = some (a, e)) : (ws.set k (a, e2)).map (fun q => q.1) = ws.map (fun q => q.1) := by
  apply List.ext_getElem?
  intro i
  rw [List.getElem?_map, List.getElem?_map]
  by_cases hi : i = k
  · subst hi
    rw [List.getElem?_set_self (List.getElem?_eq_some_iff.mp h).1, h]; rfl
  · rw [List.getElem?_set_ne (Ne.symm hi)]
theorem ee_wr.set {ns : List Int32} {as : List Nat} {ex : Nat → Nat} {dA : Nat → ClassId} {w : ee_w} {ws : va_W} {k a : Nat} {x : ee_cell} {e e2 : va_E} (h : ee_wr ns as ex dA w ws) (ha : ws[k]? = some (a, e)) (hc : ee_c ns as ex dA x e2) : ee_wr ns as ex dA (w.set k x) (ws.set k (a, e2)) :=
  ⟨by rw [ee_map_set ha]; exact h.1, h.2.set (a := x) (b := (a, e2)) hc⟩
theorem ee_wr.push {ns : List Int32} {as : List Nat} {ex : Nat → Nat} {dA : Nat → ClassId} {w : ee_w} {ws : va_W} {a : Nat} {x : ee_cell} {e : va_E} (h : ee_wr ns as ex dA w ws) (hc : ee_c ns (as ++ [a]) ex dA x e) : ee_wr ns (as ++ [a]) ex dA (w ++ [x]) (ws ++ [(a, e)]) :=
  ⟨by rw [h.1, List.map_append]; rfl, (h.2.imp (fun x q g => by simpa using ee_c.mono [] [a] g)).app ⟨hc, trivial⟩⟩
theorem ee_wr.len {ns : List Int32} {as : List Nat} {ex : Nat → Nat} {dA : Nat → ClassId} {w : ee_w} {ws : va_W} (h : ee_wr ns as ex dA w ws) : as.length = w.length := by
  rw [h.1, List.length_map, h.2.len]
/-- a new cell -/
theorem ee_Con.born {s : State} {A : Nat → Prop} {D : va_G} {dA : Nat → ClassId} {ex : Nat → Nat} {x0 : List Int32} {a0 : List Nat} {sv0 : List Value} {nL : Nat} {lo : List (Nat × Value)} {stk : List Value} {w : ee_w} {iv : ee_iv} {sv : List Value} {ns : List Int32} {as : List Nat} {H1 : Heap} {lc : List Loc} {ls : Array Slot} {vs : List Value} {ws : va_W} {a : Nat} {x : ee_cell} {e : va_E}
    (c1 : ee_ok ns iv) (c2 : (∃ r, ns = x0 ++ r) ∧ ∃ r, as = a0 ++ r) (c3 : ∃ lv, lv_has ls nL lv ∧ ee_all (ee_lr ns as ex) lo lv) (c4 : ee_all (ee_v ns as ex) stk vs) (c5 : ee_all (ee_v ns as ex) sv sv0) (hw : ee_wr ns as ex dA w ws) (hc : ee_c ns (as ++ [a]) ex dA x e) (hP : va_P D vwCl (ws ++ [(a, e)]) H1) (hD : va_D A (ws ++ [(a, e)])) (hS : va_S A s.heap H1 lc) (hl : w.length < 1000000) :
    ee_Con s A D dA ex x0 a0 sv0 nL lo (.ref w.length :: stk) (w ++ [x]) iv sv ns (as ++ [a]) H1 lc ls (.ref a :: vs) := by
  have mv : ∀ x v, ee_v ns as ex x v → ee_v ns (as ++ [a]) ex x v := fun x v q => by simpa using ee_v.mono [] [a] q
  obtain ⟨lv, c3, c3l⟩ := c3
  obtain ⟨c2, r, c2a⟩ := c2
  refine ⟨c1, ⟨c2, r ++ [a], by rw [c2a, List.append_assoc]⟩, ⟨lv, c3, c3l.imp (fun x y q => ⟨q.1, mv _ _ q.2⟩)⟩, ⟨?_, c4.imp mv⟩, c5.imp mv, _, hw.push hc, hP, hD, hS⟩
  refine ee_v.inw hl ?_
  rw [← hw.len, List.getElem?_append_right (Nat.le_refl _), Nat.sub_self]; rfl
def ee_h14 : ee_H := fun _ _ _ e st => match st with
  | (pc, lo, .ref k :: stk, w, iv, kc, ks, sv) => (match e with
    | (_, .getfield _, len, _, _, eb, _, qa, qb, _) => if eb = 0 then (match w[k]? with
          | some (.inl (ci, fs)) => (match fs[qb]? with
            | some x => if k < 1000000 ∧ ci = qa then ee_nx len 3 [(pc + 3, lo, x :: stk, w, iv, kc, ks, sv)] else none
            | none => none)
          | _ => none)
        else if 1000000 ≤ k ∧ k < 1000002 then ee_nx len 3 [(pc + 3, lo, (if qa = 0 then .int 0 else .ref (k + 100)) :: stk, w, iv, kc, ks, sv)] else none
    | _ => none)
  | _ => none
set_option maxHeartbeats 2000000 in
theorem ee_h14.snd : ee_Snd ee_h14 := by
  intro X Y oc own cc ini dm bc bs Q e st sts F ho hi hd he hpc h k
  obtain ⟨p, l, en, R, s, m, args, below, meth, c⟩ := X
  obtain ⟨A, D, dA, ex, x0, a0, sv0, nL⟩ := Y
  obtain ⟨pc, lo, stk, w, iv, kc, ks, sv⟩ := st
  obtain ⟨pc', ins, len, hn, ea, eb, ez, qa, qb, qc⟩ := e
  obtain ⟨hx, hb, hml, hown, hts, hK, hA, hini, hR, hE⟩ := F
  have hpc : pc = pc' := hpc
  subst hpc
  have hd : decode cc pc = .ok (ins, len) := hd
  intro ns as H lc ls vs C
  obtain ⟨c1, c2, c3, c4, c5, c6⟩ := C
  show W p l en R s m args below meth c H lc kc ks Q (F0 m pc ls vs)
  cases stk with
  | nil => exact ee_no h
  | cons x stk =>
    cases vs with
    | nil => exact c4.elim
    | cons v vs =>
      obtain ⟨c4v, c4⟩ := c4
      cases x with
      | ref j =>
        obtain ⟨a, rfl⟩ := ee_v.ref c4v
        cases ins with
        | getfield i =>
          replace h : (if eb = 0 then (match w[j]? with
              | some (.inl (ci, fs)) => (match fs[qb]? with
                | some x => if j < 1000000 ∧ ci = qa then ee_nx len 3 [(pc + 3, lo, x :: stk, w, iv, kc, ks, sv)] else none
                | none => none)
              | _ => none)
            else if 1000000 ≤ j ∧ j < 1000002 then ee_nx len 3 [(pc + 3, lo, (if qa = 0 then .int 0 else .ref (j + 100)) :: stk, w, iv, kc, ks, sv)] else none) = some sts := h
          have hee : (if eb = 0 then (match ee_FL[ea]? with
              | some q => decide (q.1 = oc) && (decide (q.2.1 = i) && (decide (q.2.2.1 = qa) && (decide (q.2.2.2.1 = qb) && decide (q.2.2.2.2.2 = qc))))
              | none => false) else (match ee_SL[ea]? with
              | some q => decide (q.1 = oc) && (decide (q.2.1 = i) && decide (q.2.2.1 = qa))
              | none => false)) = true := he
          by_cases h0 : eb = 0
          · rw [if_pos h0] at h hee
            cases hq : ee_FL[ea]? with
            | none => rw [hq] at hee; cases hee
            | some q =>
              rw [hq] at hee
              simp only at hee
              obtain ⟨u1, u2⟩ := ee_and hee
              obtain ⟨u3, u4⟩ := ee_and u2
              obtain ⟨u5, u6⟩ := ee_and u4
              obtain ⟨u7, -⟩ := ee_and u6
              have e1 := of_decide_eq_true u1
              have e2 := of_decide_eq_true u3
              have e3 := of_decide_eq_true u5
              have e4 := of_decide_eq_true u7
              subst e3
              subst e4
              obtain ⟨r, f1, f2, f3, -⟩ := ee_FLok q (List.mem_of_getElem? hq)
              rw [e1, ee_own_ow ho, e2] at f3
              split at h
              · rename_i ci fs hw
                cases hf : fs[q.2.2.2.1]? with
                | none => rw [hf] at h; exact ee_no h
                | some x =>
                  rw [hf] at h
                  simp only at h
                  by_cases hc : j < 1000000 ∧ ci = q.2.2.1
                  · rw [if_pos hc] at h
                    obtain ⟨rfl, rfl⟩ := ee_nx_some h
                    obtain ⟨ws, c6w, hP, hD, hS⟩ := c6
                    obtain ⟨ec, g1, vs1, rfl, g3⟩ := c6w.at hw (c4v.at hc.1)
                    obtain ⟨u, g4, g5⟩ := g3.get hf
                    rw [hc.2] at g1
                    obtain ⟨C, T, N⟩ := r
                    exact va_get (C := C) (T := T) (N := N) hx hb hts (ee_kd _ _ f1).1 hown hK hP j g1 f1 q.2.2.2.1 f2 (hts _ f3) (fun _ z => z) g4 hd (k _ List.mem_cons_self ns as H lc ls _ ⟨c1, c2, c3, ⟨g5, c4⟩, c5, ws, c6w, hP, hD, hS⟩)
                  · rw [if_neg hc] at h
                    exact ee_no h
              · exact ee_no h
          · rw [if_neg h0] at h hee
            cases hq : ee_SL[ea]? with
            | none => rw [hq] at hee; cases hee
            | some q =>
              rw [hq] at hee
              simp only at hee
              obtain ⟨e1, e2⟩ := ee_and hee
              obtain ⟨e2, e3⟩ := ee_and e2
              have e1 := of_decide_eq_true e1
              have e2 := of_decide_eq_true e2
              have e3 := of_decide_eq_true e3
              have f3 := ee_SLok q (List.mem_of_getElem? hq)
              rw [e1, ee_own_ow ho, e2, e3] at f3
              by_cases hc : 1000000 ≤ j ∧ j < 1000002
              · rw [if_pos hc] at h
                obtain ⟨rfl, rfl⟩ := ee_nx_some h
                obtain ⟨hc1, hc2⟩ := hc
                have ha := c4v.out (Nat.not_lt.mpr hc1)
                subst ha
                obtain ⟨ws, c6w, hP, hD, hS⟩ := c6
                obtain ⟨i0, hi0, rfl⟩ : ∃ i0, i0 < 2 ∧ j = 1000000 + i0 := ⟨j - 1000000, Nat.sub_lt_left_of_lt_add hc1 hc2, (Nat.add_sub_of_le hc1).symm⟩
                obtain ⟨g1, g2, g3, g4⟩ := hE.1.1 i0 hi0
                have g3 : va_OF "java/lang/String" "value" "[B" (.ref (ex (1000000 + i0 + 100))) (ex (1000000 + i0)) A s s.heap := by
                  rw [show 1000000 + i0 + 100 = 1000100 + i0 from Nat.add_right_comm 1000000 i0 100]
                  exact g3
                by_cases hz : qa = 0
                · rw [if_pos hz] at k
                  rw [hz] at f3
                  exact vk_getf hx hb g2 hS hown (hts _ f3) (fun _ z => z) hd (k _ List.mem_cons_self ns as H lc ls _ ⟨c1, c2, c3, ⟨rfl, c4⟩, c5, ws, c6w, hP, hD, hS⟩)
                · rw [if_neg hz] at k
                  rw [show ee_sf qa = ("value", "[B") by unfold ee_sf; rw [if_neg hz]] at f3
                  exact vk_getf hx hb g3 hS hown (hts _ f3) (fun _ z => z) hd (k _ List.mem_cons_self ns as H lc ls _ ⟨c1, c2, c3, ⟨ee_v.outs (Nat.not_lt.mpr (Nat.le_trans hc1 (Nat.le_add_right _ _))), c4⟩, c5, ws, c6w, hP, hD, hS⟩)
              · rw [if_neg hc] at h
                exact ee_no h
        | _ => exact ee_no h
      | _ => exact ee_no h
