/-! a symbolic walker over the machine: values, cells, states, and what they stand for -/
/-- of each symbol: its bounds, and (if known) that it is another one plus a number -/
abbrev ee_iv : Type := List (Int × Int × Option (Nat × Int32))
/-- a cell: an object (its kind's number, its fields), or an array (its kind: 0 int, 1 byte, 2 boolean, 3 long; its length; bounds of its elements, but for those that are named) -/
abbrev ee_cell : Type := (Nat × List Value) ⊕ (Nat × Nat × Int × Int × List (Nat × Value))
abbrev ee_w : Type := List ee_cell
/-- pc, locals, stack, cells, symbols, cells and slots made so far, values kept for the callers -/
abbrev ee_st : Type := Nat × List (Nat × Value) × List Value × ee_w × ee_iv × Nat × Nat × List Value
abbrev ee_out : Type := Option Value × ee_w × ee_iv × Nat × Nat × List Value
def ee_all {α β : Type} (R : α → β → Prop) : List α → List β → Prop
  | [], [] => True
  | a :: l, b :: k => R a b ∧ ee_all R l k
  | _, _ => False
theorem ee_all.imp {α β : Type} {R S : α → β → Prop} (h : ∀ a b, R a b → S a b) : ∀ {l : List α} {k : List β}, ee_all R l k → ee_all S l k
  | [], [], _ => trivial
  | a :: l, b :: k, q => ⟨h a b q.1, ee_all.imp h q.2⟩
  | [], _ :: _, q => q.elim
  | _ :: _, [], q => q.elim
theorem ee_all.len {α β : Type} {R : α → β → Prop} : ∀ {l : List α} {k : List β}, ee_all R l k → l.length = k.length
  | [], [], _ => rfl
  | a :: l, b :: k, q => by rw [List.length_cons, List.length_cons, ee_all.len q.2]
  | [], _ :: _, q => q.elim
  | _ :: _, [], q => q.elim
theorem ee_all.get {α β : Type} {R : α → β → Prop} : ∀ {l : List α} {k : List β} {i : Nat} {a : α}, ee_all R l k → l[i]? = some a → ∃ b, k[i]? = some b ∧ R a b
  | [], [], i, a, _, h => by simp at h
  | x :: l, y :: k, 0, a, q, h => by
    rw [List.getElem?_cons_zero] at h
    cases h
    exact ⟨y, List.getElem?_cons_zero, q.1⟩
  | x :: l, y :: k, i + 1, a, q, h => by
    rw [List.getElem?_cons_succ] at h
    obtain ⟨b, h1, h2⟩ := ee_all.get q.2 h
    exact ⟨b, by rw [List.getElem?_cons_succ]; exact h1, h2⟩
  | [], _ :: _, _, _, q, _ => q.elim
  | _ :: _, [], _, _, q, _ => q.elim
theorem ee_all.set {α β : Type} {R : α → β → Prop} {a : α} {b : β} (hab : R a b) : ∀ {l : List α} {k : List β} {i : Nat}, ee_all R l k → ee_all R (l.set i a) (k.set i b)
  | [], [], _, _ => trivial
  | x :: l, y :: k, 0, q => ⟨hab, q.2⟩
  | x :: l, y :: k, i + 1, q => ⟨q.1, ee_all.set hab q.2⟩
  | [], _ :: _, _, q => q.elim
  | _ :: _, [], _, q => q.elim
theorem ee_all.app {α β : Type} {R : α → β → Prop} : ∀ {l l2 : List α} {k k2 : List β}, ee_all R l k → ee_all R l2 k2 → ee_all R (l ++ l2) (k ++ k2)
  | [], _, [], _, _, h => h
  | a :: l, _, b :: k, _, q, h => ⟨q.1, ee_all.app q.2 h⟩
  | [], _, _ :: _, _, q, _ => q.elim
  | _ :: _, _, [], _, q, _ => q.elim
theorem ee_all.split {α β : Type} {R : α → β → Prop} : ∀ {l l2 : List α} {k : List β}, ee_all R (l ++ l2) k → ∃ k1 k2, k = k1 ++ k2 ∧ ee_all R l k1 ∧ ee_all R l2 k2
  | [], _, k, h => ⟨[], k, rfl, trivial, h⟩
  | a :: l, l2, [], h => h.elim
  | a :: l, l2, b :: k, h => by
    obtain ⟨k1, k2, e, h1, h2⟩ := ee_all.split (l := l) (l2 := l2) (k := k) h.2
    exact ⟨b :: k1, k2, by rw [e]; rfl, ⟨h.1, h1⟩, h2⟩
theorem ee_all.split2 {α β : Type} {R : α → β → Prop} : ∀ {l : List α} {k1 k2 : List β}, ee_all R l (k1 ++ k2) → ee_all R (l.take k1.length) k1 ∧ ee_all R (l.drop k1.length) k2
  | l, [], k2, h => ⟨by simp [ee_all], by simpa using h⟩
  | [], b :: k1, k2, h => h.elim
  | a :: l, b :: k1, k2, h => by
    obtain ⟨h1, h2⟩ := ee_all.split2 (l := l) (k1 := k1) (k2 := k2) h.2
    exact ⟨⟨h.1, by simpa using h1⟩, by simpa using h2⟩
theorem ee_all.filter {α β : Type} {R : α → β → Prop} {p : α → Bool} {q : β → Bool} (h : ∀ a b, R a b → p a = q b) : ∀ {l : List α} {k : List β}, ee_all R l k → ee_all R (l.filter p) (k.filter q)
  | [], [], _ => trivial
  | a :: l, b :: k, z => by
    have ih := ee_all.filter h z.2
    have e := h a b z.1
    cases hp : p a with
    | true =>
      rw [List.filter_cons_of_pos hp, List.filter_cons_of_pos (by rw [← e]; exact hp)]
      exact ⟨z.1, ih⟩
    | false =>
      rw [List.filter_cons_of_neg (by rw [hp]; simp), List.filter_cons_of_neg (by rw [← e, hp]; simp)]
      exact ih
  | [], _ :: _, z => z.elim
  | _ :: _, [], z => z.elim
theorem ee_all.rev {α β : Type} {R : α → β → Prop} : ∀ {l : List α} {k : List β}, ee_all R l k → ee_all R l.reverse k.reverse
  | [], [], _ => trivial
  | a :: l, b :: k, q => by
    rw [List.reverse_cons, List.reverse_cons]
    exact ee_all.app (ee_all.rev q.2) ⟨q.1, trivial⟩
  | [], _ :: _, q => q.elim
  | _ :: _, [], q => q.elim
/-- what a symbolic value stands for: numbers of the symbols, addresses of the cells, addresses of what lies outside -/
def ee_v (ns : List Int32) (as : List Nat) (ex : Nat → Nat) (x v : Value) : Prop := match x with
  | .int c => v = .int c
  | .retAddr k => ∃ z, ns[k]? = some z ∧ v = .int z
  | .ref k => if k < 1000000 then ∃ a, as[k]? = some a ∧ v = .ref a else v = .ref (ex k)
  | .null => v = .null
  | .long _ => ∃ z, v = .long z
  | .float _ => v = .null ∨ ∃ a, v = .ref a
  | .double _ => False
theorem ee_get_app {α : Type} {l r : List α} {k : Nat} {a : α} (h : l[k]? = some a) : (l ++ r)[k]? = some a := by
  rw [List.getElem?_append_left (List.getElem?_eq_some_iff.mp h).1]
  exact h
theorem ee_v.mono {ns : List Int32} {as : List Nat} {ex : Nat → Nat} {x v : Value} (n2 : List Int32) (a2 : List Nat) (h : ee_v ns as ex x v) : ee_v (ns ++ n2) (as ++ a2) ex x v := by
  cases x with
  | int c => exact h
  | retAddr k =>
    obtain ⟨z, h1, h2⟩ := h
    exact ⟨z, ee_get_app h1, h2⟩
  | ref k =>
    unfold ee_v at h ⊢
    by_cases hk : k < 1000000
    · simp only [hk, if_true] at h ⊢
      obtain ⟨a, h1, h2⟩ := h
      exact ⟨a, ee_get_app h1, h2⟩
    · simp only [hk, if_false] at h ⊢
      exact h
  | null => exact h
  | long z => exact h
  | float z => exact h
  | double z => exact h
def ee_cat (x : Value) : Nat := match x with
  | .long _ => 2
  | _ => 1
theorem ee_v.cat {ns : List Int32} {as : List Nat} {ex : Nat → Nat} {x v : Value} (h : ee_v ns as ex x v) : v.category = ee_cat x := by
  cases x with
  | int c => rw [show v = .int c from h]; rfl
  | retAddr k =>
    obtain ⟨z, h1, h2⟩ := h
    rw [h2]; rfl
  | ref k =>
    unfold ee_v at h
    by_cases hk : k < 1000000
    · simp only [hk, if_true] at h
      obtain ⟨a, h1, h2⟩ := h
      rw [h2]; rfl
    · simp only [hk, if_false] at h
      rw [h]; rfl
  | null => rw [show v = .null from h]; rfl
  | long z =>
    obtain ⟨z, h2⟩ := h
    rw [h2]; rfl
  | float z =>
    rcases h with h | ⟨a, h⟩ <;> (rw [h]; rfl)
  | double z => exact h.elim
/-- what an array's element is -/
def ee_el (ns : List Int32) (as : List Nat) (ex : Nat → Nat) (lo hi : Int) (ov : List (Nat × Value)) (j : Nat) (z : Int32) : Prop := match ov.lookup j with
  | some x => ee_v ns as ex x (.int z)
  | none => lo ≤ z.toInt ∧ z.toInt ≤ hi
theorem ee_el.mono {ns : List Int32} {as : List Nat} {ex : Nat → Nat} {lo hi : Int} {ov : List (Nat × Value)} {j : Nat} {z : Int32} (n2 : List Int32) (a2 : List Nat) (h : ee_el ns as ex lo hi ov j z) : ee_el (ns ++ n2) (as ++ a2) ex lo hi ov j z := by
  unfold ee_el at h ⊢
  cases hl : ov.lookup j with
  | none => rw [hl] at h; exact h
  | some x => rw [hl] at h; exact ee_v.mono n2 a2 h
def ee_c (ns : List Int32) (as : List Nat) (ex : Nat → Nat) (dA : Nat → ClassId) (x : ee_cell) (e : va_E) : Prop := match x with
  | .inl (ci, fs) => ∃ vs, e = .inr (ci, vs) ∧ ee_all (ee_v ns as ex) fs vs
  | .inr (t, n, lo, hi, ov) => if t = 3 then ∃ f : Nat → Int64, e = .inl (dA 3, n, .inr (.inl f)) else t < 3 ∧ ∃ f : Nat → Int32, e = .inl (dA t, n, .inl f) ∧ ∀ j, j < n → ee_el ns as ex lo hi ov j (f j)
theorem ee_c.mono {ns : List Int32} {as : List Nat} {ex : Nat → Nat} {dA : Nat → ClassId} {x : ee_cell} {e : va_E} (n2 : List Int32) (a2 : List Nat) (h : ee_c ns as ex dA x e) : ee_c (ns ++ n2) (as ++ a2) ex dA x e := by
  match x, h with
  | .inl (ci, fs), ⟨vs, h1, h2⟩ => exact ⟨vs, h1, h2.imp (fun a b q => ee_v.mono n2 a2 q)⟩
  | .inr (t, n, lo, hi, ov), h =>
    unfold ee_c at h ⊢
    by_cases ht : t = 3
    · simp only [ht, if_true] at h ⊢
      exact h
    · simp only [ht, if_false] at h ⊢
      obtain ⟨h0, f, h1, h2⟩ := h
      exact ⟨h0, f, h1, fun j hj => (h2 j hj).mono n2 a2⟩
/-- the cells -/
def ee_wr (ns : List Int32) (as : List Nat) (ex : Nat → Nat) (dA : Nat → ClassId) (w : ee_w) (ws : va_W) : Prop := as = ws.map (fun q => q.1) ∧ ee_all (fun x q => ee_c ns as ex dA x q.2) w ws
/-- the symbols -/
def ee_ok (ns : List Int32) (iv : ee_iv) : Prop := iv.length = ns.length ∧ ∀ (k : Nat) (q : Int × Int × Option (Nat × Int32)), iv[k]? = some q → ∃ z, ns[k]? = some z ∧ q.1 ≤ z.toInt ∧ z.toInt ≤ q.2.1 ∧ ∀ j d, q.2.2 = some (j, d) → ∃ y, ns[j]? = some y ∧ z = y + d
theorem ee_ok.push {ns : List Int32} {iv : ee_iv} (h : ee_ok ns iv) {z : Int32} {lo hi : Int} {o : Option (Nat × Int32)} (h1 : lo ≤ z.toInt) (h2 : z.toInt ≤ hi) (h3 : ∀ j d, o = some (j, d) → ∃ y, ns[j]? = some y ∧ z = y + d) : ee_ok (ns ++ [z]) (iv ++ [(lo, hi, o)]) := by
  refine ⟨by rw [List.length_append, List.length_append, h.1]; rfl, fun k q hk => ?_⟩
  by_cases hl : k < iv.length
  · rw [List.getElem?_append_left hl] at hk
    obtain ⟨y, g1, g2, g3, g4⟩ := h.2 k q hk
    refine ⟨y, ee_get_app g1, g2, g3, fun j d hj => ?_⟩
    obtain ⟨x, f1, f2⟩ := g4 j d hj
    exact ⟨x, ee_get_app f1, f2⟩
  · rw [List.getElem?_append_right (by omega)] at hk
    have hz : k - iv.length < 1 := (List.getElem?_eq_some_iff.mp hk).1
    have hk0 : k = iv.length := by omega
    subst hk0
    rw [Nat.sub_self] at hk
    cases hk
    refine ⟨z, by rw [h.1, List.getElem?_append_right (Nat.le_refl _), Nat.sub_self]; rfl, h1, h2, fun j d hj => ?_⟩
    obtain ⟨x, f1, f2⟩ := h3 j d hj
    exact ⟨x, ee_get_app f1, f2⟩
theorem ee_ok.last {ns : List Int32} {iv : ee_iv} (h : ee_ok ns iv) (z : Int32) : (ns ++ [z])[iv.length]? = some z := by
  rw [h.1, List.getElem?_append_right (Nat.le_refl _), Nat.sub_self]; rfl
/-- an int's bounds -/
def ee_it (iv : ee_iv) (x : Value) : Option (Int × Int) := match x with
  | .int c => some (c.toInt, c.toInt)
  | .retAddr k => match iv[k]? with
    | some q => some (q.1, q.2.1)
    | none => none
  | _ => none
theorem ee_it.int {ns : List Int32} {as : List Nat} {ex : Nat → Nat} {iv : ee_iv} {x v : Value} {a b : Int} (hk : ee_ok ns iv) (h : ee_v ns as ex x v) (hi : ee_it iv x = some (a, b)) : ∃ z : Int32, v = .int z ∧ a ≤ z.toInt ∧ z.toInt ≤ b := by
  cases x with
  | int c =>
    cases hi
    exact ⟨c, h, Int.le_refl _, Int.le_refl _⟩
  | retAddr k =>
    obtain ⟨z, h1, h2⟩ := h
    simp only [ee_it] at hi
    cases hq : iv[k]? with
    | none => rw [hq] at hi; cases hi
    | some q =>
      rw [hq] at hi
      cases hi
      obtain ⟨y, g1, g2, g3, -⟩ := hk.2 k q hq
      rw [h1] at g1
      cases g1
      exact ⟨z, h2, g2, g3⟩
  | _ => cases hi
/-- an int that is known -/
def ee_cn (iv : ee_iv) (x : Value) : Option Int32 := match x with
  | .int c => some c
  | .retAddr k => match iv[k]? with
    | some q => if q.1 = q.2.1 then some (Int32.ofInt q.1) else none
    | none => none
  | _ => none
theorem ee_cn.int {ns : List Int32} {as : List Nat} {ex : Nat → Nat} {iv : ee_iv} {x v : Value} {c : Int32} (hk : ee_ok ns iv) (h : ee_v ns as ex x v) (hi : ee_cn iv x = some c) : v = .int c := by
  cases x with
  | int d =>
    cases hi
    exact h
  | retAddr k =>
    obtain ⟨z, h1, h2⟩ := h
    simp only [ee_cn] at hi
    cases hq : iv[k]? with
    | none => rw [hq] at hi; cases hi
    | some q =>
      rw [hq] at hi
      obtain ⟨y, g1, g2, g3, -⟩ := hk.2 k q hq
      rw [h1] at g1
      cases g1
      by_cases e : q.1 = q.2.1
      · simp only [e, if_true] at hi
        cases hi
        rw [h2, ← show z.toInt = q.2.1 by omega, Int32.ofInt_toInt]
      · simp only [e, if_false] at hi
        cases hi
  | _ => cases hi
/-- closer bounds -/
def ee_put (iv : ee_iv) (x : Value) (lo hi : Int) : ee_iv := match x with
  | .retAddr k => match iv[k]? with
    | some q => iv.set k (lo, hi, q.2.2)
    | none => iv
  | _ => iv
theorem ee_put.ok {ns : List Int32} {as : List Nat} {ex : Nat → Nat} {iv : ee_iv} {x : Value} {z : Int32} {lo hi : Int} (hk : ee_ok ns iv) (h : ee_v ns as ex x (.int z)) (h1 : lo ≤ z.toInt) (h2 : z.toInt ≤ hi) : ee_ok ns (ee_put iv x lo hi) := by
  cases x with
  | retAddr k =>
    obtain ⟨y, g1, g2⟩ := h
    cases g2
    simp only [ee_put]
    cases hq : iv[k]? with
    | none => exact hk
    | some q =>
      refine ⟨by rw [List.length_set]; exact hk.1, fun i r hr => ?_⟩
      by_cases hi : i = k
      · subst hi
        rw [List.getElem?_set_self (List.getElem?_eq_some_iff.mp hq).1] at hr
        cases hr
        obtain ⟨y, f1, -, -, f4⟩ := hk.2 i q hq
        rw [g1] at f1
        cases f1
        exact ⟨z, g1, h1, h2, f4⟩
      · rw [List.getElem?_set_ne (Ne.symm hi)] at hr
        exact hk.2 i r hr
  | _ => exact hk
def ee_mx (a b : Int) : Int := if a ≤ b then b else a
def ee_mn (a b : Int) : Int := if a ≤ b then a else b
theorem ee_mx_le {a b c : Int} (h1 : a ≤ c) (h2 : b ≤ c) : ee_mx a b ≤ c := by unfold ee_mx; split <;> assumption
theorem ee_le_mn {a b c : Int} (h1 : c ≤ a) (h2 : c ≤ b) : c ≤ ee_mn a b := by unfold ee_mn; split <;> assumption
/-- what the answer of a comparison says of both bounds; none: it cannot be -/
def ee_rf (c : ClassFile.Cond) (iv : ee_iv) (x y : Value) (a b d e : Int) : List ee_iv := match c with
  | .eq => if ee_mx a d ≤ ee_mn b e then [ee_put (ee_put iv x (ee_mx a d) (ee_mn b e)) y (ee_mx a d) (ee_mn b e)] else []
  | .ne => if x = y then [] else if d = e then
      (if a = d then (if b = d then [] else [ee_put iv x (a + 1) b]) else if b = d then [ee_put iv x a (b - 1)] else if a < d ∧ d < b then [ee_put iv x a (d - 1), ee_put iv x (d + 1) b] else [iv])
    else [iv]
  | .lt => if x = y then [] else if a ≤ ee_mn b (e - 1) ∧ ee_mx d (a + 1) ≤ e then [ee_put (ee_put iv x a (ee_mn b (e - 1))) y (ee_mx d (a + 1)) e] else []
  | .ge => if ee_mx a d ≤ b ∧ d ≤ ee_mn e b then [ee_put (ee_put iv x (ee_mx a d) b) y d (ee_mn e b)] else []
  | .gt => if x = y then [] else if d ≤ ee_mn e (b - 1) ∧ ee_mx a (d + 1) ≤ b then [ee_put (ee_put iv y d (ee_mn e (b - 1))) x (ee_mx a (d + 1)) b] else []
  | .le => if ee_mx d a ≤ e ∧ a ≤ ee_mn b e then [ee_put (ee_put iv y (ee_mx d a) e) x a (ee_mn b e)] else []
def ee_cd (c : ClassFile.Cond) (x y : Int) : Prop := match c with
  | .eq => x = y
  | .ne => x ≠ y
  | .lt => x < y
  | .ge => y ≤ x
  | .gt => y < x
  | .le => x ≤ y
theorem ee_v.one {ns : List Int32} {as : List Nat} {ex : Nat → Nat} {x : Value} {z y : Int32} (h : ee_v ns as ex x (.int z)) (h2 : ee_v ns as ex x (.int y)) : z = y := by
  cases x with
  | int c =>
    have e1 : Value.int z = Value.int c := h
    have e2 : Value.int y = Value.int c := h2
    cases e1; cases e2; rfl
  | retAddr k =>
    obtain ⟨q, g1, g2⟩ := h
    obtain ⟨r, g3, g4⟩ := h2
    rw [g1] at g3
    cases g3; cases g2; cases g4; rfl
  | ref k =>
    unfold ee_v at h
    by_cases hk : k < 1000000
    · simp only [hk, if_true] at h
      obtain ⟨a, h1, h2⟩ := h
      cases h2
    · simp only [hk, if_false] at h
      cases h
  | null => cases (show Value.int z = Value.null from h)
  | long q =>
    obtain ⟨q, h⟩ := h
    cases h
  | float q =>
    rcases h with h | ⟨a, h⟩ <;> cases h
  | double q => exact h.elim
theorem ee_rf.ok {ns : List Int32} {as : List Nat} {ex : Nat → Nat} {iv : ee_iv} {x y : Value} {p q : Int32} {a b d e : Int} {c : ClassFile.Cond} (hk : ee_ok ns iv) (hx : ee_v ns as ex x (.int p)) (hy : ee_v ns as ex y (.int q)) (h1 : a ≤ p.toInt) (h2 : p.toInt ≤ b) (h3 : d ≤ q.toInt) (h4 : q.toInt ≤ e) (hc : ee_cd c p.toInt q.toInt) : ∃ iv', iv' ∈ ee_rf c iv x y a b d e ∧ ee_ok ns iv' := by
  have same : x = y → p.toInt = q.toInt := fun h => by subst h; rw [ee_v.one hx hy]
  have mx : ∀ u v r : Int, u ≤ r → v ≤ r → ee_mx u v ≤ r := fun u v r => ee_mx_le
  have mn : ∀ u v r : Int, r ≤ u → r ≤ v → r ≤ ee_mn u v := fun u v r => ee_le_mn
  have one : ∀ {z : ee_iv}, ee_ok ns z → ∃ iv', iv' ∈ [z] ∧ ee_ok ns iv' := fun {z} h => ⟨z, List.mem_cons_self, h⟩
  cases c with
  | eq =>
    have hc : p.toInt = q.toInt := hc
    have e1 := mx a d p.toInt h1 (by omega)
    have e2 := mn b e p.toInt h2 (by omega)
    simp only [ee_rf]
    rw [if_pos (by omega)]
    exact one (ee_put.ok (ee_put.ok hk hx e1 e2) hy (by omega) (by omega))
  | ne =>
    have hc : p.toInt ≠ q.toInt := hc
    simp only [ee_rf]
    rw [if_neg (fun h => hc (same h))]
    by_cases e1 : d = e
    · rw [if_pos e1]
      by_cases e2 : a = d
      · rw [if_pos e2]
        by_cases e3 : b = d
        · exact absurd (by omega) hc
        · rw [if_neg e3]
          exact one (ee_put.ok hk hx (by omega) h2)
      · rw [if_neg e2]
        by_cases e3 : b = d
        · rw [if_pos e3]
          exact one (ee_put.ok hk hx h1 (by omega))
        · rw [if_neg e3]
          by_cases e4 : a < d ∧ d < b
          · rw [if_pos e4]
            by_cases e5 : p.toInt < d
            · exact ⟨_, List.mem_cons_self, ee_put.ok hk hx h1 (by omega)⟩
            · exact ⟨_, List.mem_cons_of_mem _ List.mem_cons_self, ee_put.ok hk hx (by omega) h2⟩
          · rw [if_neg e4]
            exact one hk
    · rw [if_neg e1]
      exact one hk
  | lt =>
    have hc : p.toInt < q.toInt := hc
    have e1 := mn b (e - 1) p.toInt h2 (by omega)
    have e2 := mx d (a + 1) q.toInt h3 (by omega)
    simp only [ee_rf]
    rw [if_neg (fun h => by have := same h; omega), if_pos ⟨by omega, by omega⟩]
    exact one (ee_put.ok (ee_put.ok hk hx h1 e1) hy e2 h4)
  | ge =>
    have hc : q.toInt ≤ p.toInt := hc
    have e1 := mx a d p.toInt h1 (by omega)
    have e2 := mn e b q.toInt h4 (by omega)
    simp only [ee_rf]
    rw [if_pos ⟨by omega, by omega⟩]
    exact one (ee_put.ok (ee_put.ok hk hx e1 h2) hy h3 e2)
  | gt =>
    have hc : q.toInt < p.toInt := hc
    have e1 := mn e (b - 1) q.toInt h4 (by omega)
    have e2 := mx a (d + 1) p.toInt h1 (by omega)
    simp only [ee_rf]
    rw [if_neg (fun h => by have := same h; omega), if_pos ⟨by omega, by omega⟩]
    exact one (ee_put.ok (ee_put.ok hk hy h3 e1) hx e2 h2)
  | le =>
    have hc : p.toInt ≤ q.toInt := hc
    have e1 := mx d a q.toInt h3 (by omega)
    have e2 := mn b e p.toInt h2 (by omega)
    simp only [ee_rf]
    rw [if_pos ⟨by omega, by omega⟩]
    exact one (ee_put.ok (ee_put.ok hk hy e1 h4) hx h1 e2)
