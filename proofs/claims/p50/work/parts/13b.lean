/-! for stretches: numbers ahead, cells back -/
theorem ee_tr.mk {ns : List Int32} {k : Nat} {z : Int32} {a b : Int} (hk : ns[k]? = some z) (h1 : a ≤ z.toInt) (h2 : z.toInt ≤ b) : ee_tr ns (k, a, b, []) := ⟨z, hk, h1, h2, fun f hf => by cases hf⟩
theorem ee_ok.ext {ns : List Int32} {iv iv' : ee_iv} {e : List Int32} {L : List ee_ve} (h : ee_ok ns iv) (h1 : iv'.1 = iv.1 + e.length) (hL : ∀ q ∈ L, ee_tr (ns ++ e) q) (hc : iv'.2.all (fun q => decide (q ∈ iv.2) || decide (q ∈ L)) = true) : ee_ok (ns ++ e) iv' := by
  refine ⟨by rw [h1, List.length_append, h.1], fun q hq => ?_⟩
  rcases ee_o2b (List.all_eq_true.mp hc q hq) with g | g
  · exact (h.2 q (of_decide_eq_true g)).mono e
  · exact hL q (of_decide_eq_true g)
theorem ee_Cx.ext {X : ee_cx} {A : Nat → Prop} {D : va_G} {dA : Nat → ClassId} {ex : Nat → Nat} {as : List Nat} {nL : Nat} {lo : List (Nat × Value)} {stk : List Value} {w : ee_w} {iv : ee_iv} {ns : List Int32} {ws : va_W} {H : Heap} {lc : List Loc} {ls : Array Slot} {vs : List Value} (C : ee_Cx X A D dA ex as nL lo stk w iv ns ws H lc ls vs) {e : List Int32} {iv' : ee_iv} (h : ee_ok (ns ++ e) iv') : ee_Cx X A D dA ex as nL lo stk w iv' (ns ++ e) ws H lc ls vs := by
  obtain ⟨c1, ⟨lv, c3, c3l⟩, c4, c6w, hP, hD, hS⟩ := C
  have mv : ∀ x v, ee_v ns as ex x v → ee_v (ns ++ e) as ex x v := fun x v q => by simpa using ee_v.mono e [] q
  exact ⟨h, ⟨lv, c3, c3l.imp (fun a b q => ⟨q.1, mv _ _ q.2⟩)⟩, c4.imp mv, ⟨c6w.1, c6w.2.imp (fun x q g => by simpa using ee_c.mono e [] g)⟩, hP, hD, hS⟩
theorem ee_Cx.chiv {X : ee_cx} {A : Nat → Prop} {D : va_G} {dA : Nat → ClassId} {ex : Nat → Nat} {as : List Nat} {nL : Nat} {lo : List (Nat × Value)} {stk : List Value} {w : ee_w} {iv : ee_iv} {ns : List Int32} {ws : va_W} {H : Heap} {lc : List Loc} {ls : Array Slot} {vs : List Value} (C : ee_Cx X A D dA ex as nL lo stk w iv ns ws H lc ls vs) {iv' : ee_iv} (h : ee_ok ns iv') : ee_Cx X A D dA ex as nL lo stk w iv' ns ws H lc ls vs := ⟨h, C.2⟩
theorem ee_Cx.nol {X : ee_cx} {A : Nat → Prop} {D : va_G} {dA : Nat → ClassId} {ex : Nat → Nat} {as : List Nat} {nL : Nat} {lo : List (Nat × Value)} {stk : List Value} {w : ee_w} {iv : ee_iv} {ns : List Int32} {ws : va_W} {H : Heap} {lc : List Loc} {ls : Array Slot} {vs : List Value} (C : ee_Cx X A D dA ex as nL lo stk w iv ns ws H lc ls vs) : ee_Cx X A D dA ex as nL [] stk w iv ns ws H lc ls vs := by
  obtain ⟨c1, ⟨lv, c3, c3l⟩, c⟩ := C
  exact ⟨c1, ⟨[], ⟨c3.1, c3.2.1, fun q hq => by cases hq⟩, trivial⟩, c⟩
theorem ee_Cx.nos {X : ee_cx} {A : Nat → Prop} {D : va_G} {dA : Nat → ClassId} {ex : Nat → Nat} {as : List Nat} {nL : Nat} {lo : List (Nat × Value)} {stk : List Value} {w : ee_w} {iv : ee_iv} {ns : List Int32} {ws : va_W} {H : Heap} {lc : List Loc} {ls : Array Slot} {vs : List Value} (C : ee_Cx X A D dA ex as nL lo stk w iv ns ws H lc ls vs) : ee_Cx X A D dA ex as nL lo [] w iv ns ws H lc ls [] := by
  obtain ⟨c1, c2, c4, c⟩ := C
  exact ⟨c1, c2, trivial, c⟩
theorem ee_rp.cong {f f' : Nat → Int32} {a b : Int32} (h : ee_rp f a b) (hf : ∀ j, a.toInt.toNat ≤ j → j < b.toInt.toNat → f' j = f j) : ee_rp f' a b := by
  obtain ⟨h1, h2, h3, hh, h4⟩ := h
  refine ⟨h1, h2, h3, hh, ?_⟩
  rw [ee_rw.cong (f := f) (fun j j1 j2 => hf j j1 (by omega))]
  exact h4
theorem ee_at0 {ns r : List Int32} {n : Nat} {a : Int32} (h : ns.length = n) : (ns ++ a :: r)[n]? = some a := by
  rw [List.getElem?_append_right (by omega), h, Nat.sub_self]; rfl
theorem ee_at1' {ns r : List Int32} {n : Nat} {a b : Int32} (h : ns.length = n) : (ns ++ a :: b :: r)[n + 1]? = some b := by
  rw [List.getElem?_append_right (by omega), h, Nat.add_sub_cancel_left]; rfl
theorem ee_at2 {ns r : List Int32} {n : Nat} {a b c : Int32} (h : ns.length = n) : (ns ++ a :: b :: c :: r)[n + 2]? = some c := by
  rw [List.getElem?_append_right (by omega), h, Nat.add_sub_cancel_left]; rfl
theorem ee_app1 {ns r : List Int32} {n k : Nat} {iv : ee_iv} (h : ee_ok (ns ++ r) iv) (hn : ns.length = n) (hk : iv.1 = n + k) : r.length = k := by
  have := h.1
  rw [List.length_append] at this
  omega
theorem ee_nil {ns r : List Int32} {iv : ee_iv} (h : ee_ok (ns ++ r) iv) (hn : iv.1 = ns.length) : r = [] := by
  have := h.1
  rw [List.length_append] at this
  exact List.length_eq_zero_iff.mp (by omega)
/-- a number by the fact that it is another one and d -/
theorem ee_fact {ns : List Int32} {iv : ee_iv} {k j : Nat} {lo hi d : Int} {y : Int32} (h : ee_ok ns iv) (hq : ee_at1 iv k = some (k, lo, hi, [(0, j, d)])) (hy : ns[j]? = some y) : ∃ z : Int32, ns[k]? = some z ∧ z.toInt = y.toInt + d ∧ lo ≤ z.toInt ∧ z.toInt ≤ hi := by
  obtain ⟨z, h1, h2, h3, h4⟩ := ee_at1.ok h hq
  obtain ⟨y', h5, h6⟩ := h4 (0, j, d) List.mem_cons_self
  rw [hy] at h5
  cases h5
  exact ⟨z, h1, h6, h2, h3⟩
theorem ee_rq.swap {ns : List Int32} {as : List Nat} {ex : Nat → Nat} {ov : List (Nat × Value)} {f f' : Nat → Int32} (h8 : ov.length = 8) (h : ee_rq ns as ex ov f) (hf : ∀ j, j < 2000 → f' j = f j) : ee_rq ns as ex ov f' := by
  unfold ee_rq at h ⊢
  split at h
  · obtain ⟨y1, y2, x0, c0, d0, x1, c1, d1, g0, g1, g2, g3, q0, q1⟩ := h
    have sw : ∀ {a b : Int32}, ee_rp f a b → ee_rp f' a b := fun {a b} g => g.cong (fun j _ j2 => hf j (by have := g.2.2.1; omega))
    exact ⟨y1, y2, x0, c0, d0, x1, c1, d1, g0, g1, g2, g3, fun o1 o2 => ⟨sw (q0 o1 o2).1, (q0 o1 o2).2⟩, fun o1 o2 => ⟨sw (q1 o1 o2).1, (q1 o1 o2).2⟩⟩
  · cases h8
  · cases h8
  · trivial
/-- what a kept array has -/
theorem ee_k2 {ns : List Int32} {as : List Nat} {ex : Nat → Nat} {F : Nat → Nat → Int32} {i i1 : Nat} {x y : Value} {f : Nat → Int32} (h : ee_rq ns as (ee_exf ex F) [(i, x), (i1, y)] f) : ∀ j, j < 2000 → f j = F i j := fun j hj => by
  rw [h j hj]
  exact ee_exf.fz i hj
theorem ee_k4 {ns : List Int32} {as : List Nat} {ex : Nat → Nat} {F : Nat → Nat → Int32} {i i1 i3 d : Nat} {x y u v : Value} {f : Nat → Int32} {p q : Int32} (h : ee_rq ns as (ee_exf ex F) [(i, x), (i1, y), (d, u), (i3, v)] f) (hp : ee_v ns as (ee_exf ex F) u (.int p)) (hq : ee_v ns as (ee_exf ex F) v (.int q)) : f (p.toInt + (d : Int) - 1).toNat = q ∧ ∀ j, j < 2000 → j ≠ (p.toInt + (d : Int) - 1).toNat → f j = F i j := by
  obtain ⟨z, y', g0, g1, g2, g3, g4⟩ := h
  have e1 := ee_v.one hp g0
  have e2 := ee_v.one hq g1
  subst e1
  subst e2
  refine ⟨g3, fun j hj hn => ?_⟩
  rw [g4 j hj hn]
  exact ee_exf.fz i hj
theorem ee_mk2 {ns : List Int32} {as : List Nat} {ex : Nat → Nat} {F : Nat → Nat → Int32} {i i1 : Nat} {x y : Value} {f : Nat → Int32} (h : ∀ j, j < 2000 → f j = F i j) : ee_rq ns as (ee_exf ex F) [(i, x), (i1, y)] f := fun j hj => by
  rw [h j hj]
  exact (ee_exf.fz i hj).symm
theorem ee_mk4 {ns : List Int32} {as : List Nat} {ex : Nat → Nat} {F : Nat → Nat → Int32} {i i1 i3 d : Nat} {x y u v : Value} {f : Nat → Int32} {p : Int32} (hp : ee_v ns as (ee_exf ex F) u (.int p)) (h0 : 0 ≤ p.toInt + (d : Int) - 1) (hq : ee_v ns as (ee_exf ex F) v (.int (f (p.toInt + (d : Int) - 1).toNat))) (h : ∀ j, j < 2000 → f j = F i j) : ee_rq ns as (ee_exf ex F) [(i, x), (i1, y), (d, u), (i3, v)] f :=
  ⟨p, _, hp, hq, h0, rfl, fun j hj _ => by rw [h j hj]; exact (ee_exf.fz i hj).symm⟩
theorem ee_okS {ns : List Int32} {iv : ee_iv} {z : Int32} {a b : Int} (h : ee_ok ns iv) (h1 : a ≤ z.toInt) (h2 : z.toInt ≤ b) : ee_ok (ns ++ [z]) (iv.1 + 1, iv.2 ++ [(iv.1, a, b, [])]) := by
  refine ⟨by rw [List.length_append, ← h.1]; rfl, fun q hq => ?_⟩
  rcases List.mem_append.mp hq with hq | hq
  · exact (h.2 q hq).mono [z]
  · have := List.mem_singleton.mp hq
    subst this
    exact ee_tr.mk (h.last z) h1 h2
theorem ee_wr.mono {ns : List Int32} {as : List Nat} {ex : Nat → Nat} {dA : Nat → ClassId} {w : ee_w} {ws : va_W} (h : ee_wr ns as ex dA w ws) (e : List Int32) : ee_wr (ns ++ e) as ex dA w ws := ⟨h.1, h.2.imp (fun x q g => by simpa using ee_c.mono e [] g)⟩
theorem ee_wr.cell {ns : List Int32} {as : List Nat} {ex : Nat → Nat} {dA : Nat → ClassId} {w : ee_w} {ws : va_W} (h : ee_wr ns as ex dA w ws) {i n P : Nat} {sg : List (Nat × Int × Int)} {ov : List (Nat × Value)} (hi : w[i]? = some (.inr (4, n, P, sg, ov))) {ov' : List (Nat × Value)} (hq : ee_rq ns as ex ov' (ee_arf ws i)) : ee_wr ns as ex dA (w.set i (.inr (4, n, P, sg, ov'))) ws := by
  obtain ⟨⟨a, h1⟩, -⟩ := ee_arf.ok h hi
  exact h.same h1 (ee_c.mkc hq)
theorem ee_int_inj {a b : Int32} (h : a.toInt = b.toInt) : a = b := Int32.toInt_inj.mp h
