/-! values, cells, symbols, and what they stand for -/
/-- a fact of a symbol: its kind, another symbol (or a modulus), a number -/
abbrev ee_fa : Type := Nat × Nat × Int
/-- of a symbol: its number, its bounds, facts -/
abbrev ee_ve : Type := Nat × Int × Int × List ee_fa
/-- how many symbols there are; what is known of them, the newest first -/
abbrev ee_iv : Type := Nat × List ee_ve
/-- a cell: an object (its kind's number, its fields), or an array (its kind: 0 int, 1 byte, 2 boolean, 3 long, 4 the formulas' code; its length; the period and the segments of its elements' bounds; elements that are named) -/
abbrev ee_cell : Type := (Nat × List Value) ⊕ (Nat × Nat × Nat × List (Nat × Int × Int) × List (Nat × Value))
abbrev ee_w : Type := List ee_cell
/-- pc, locals, stack, cells, symbols, cells and slots made so far, values kept for the callers -/
abbrev ee_st : Type := Nat × List (Nat × Value) × List Value × ee_w × ee_iv × Nat × Nat × List Value
def ee_all {α β : Type} (R : α → β → Prop) : List α → List β → Prop
  | [], [] => True
  | a :: l, b :: k => R a b ∧ ee_all R l k
  | _, _ => False
theorem ee_all.imp {α β : Type} {R S : α → β → Prop} (h : ∀ a b, R a b → S a b) : ∀ {l : List α} {k : List β}, ee_all R l k → ee_all S l k
  | [], [], _ => trivial
  | a :: l, b :: k, q => ⟨h a b q.1, ee_all.imp h q.2⟩
  | [], _ :: _, q => q.elim
  | _ :: _, [], q => q.elim
theorem ee_all.len {α β : Type} {R : α → β → Prop} : ∀ {l : List α} {k : List β}, ee_all R l k → l.length = k.length
  | [], [], _ => rfl
  | a :: l, b :: k, q => by rw [List.length_cons, List.length_cons, ee_all.len q.2]
  | [], _ :: _, q => q.elim
  | _ :: _, [], q => q.elim
theorem ee_all.get {α β : Type} {R : α → β → Prop} : ∀ {l : List α} {k : List β} {i : Nat} {a : α}, ee_all R l k → l[i]? = some a → ∃ b, k[i]? = some b ∧ R a b
  | [], [], i, a, _, h => by simp at h
  | x :: l, y :: k, 0, a, q, h => by
    rw [List.getElem?_cons_zero] at h
    cases h
    exact ⟨y, List.getElem?_cons_zero, q.1⟩
  | x :: l, y :: k, i + 1, a, q, h => by
    rw [List.getElem?_cons_succ] at h
    obtain ⟨b, h1, h2⟩ := ee_all.get q.2 h
    exact ⟨b, by rw [List.getElem?_cons_succ]; exact h1, h2⟩
  | [], _ :: _, _, _, q, _ => q.elim
  | _ :: _, [], _, _, q, _ => q.elim
theorem ee_all.set {α β : Type} {R : α → β → Prop} {a : α} {b : β} (hab : R a b) : ∀ {l : List α} {k : List β} {i : Nat}, ee_all R l k → ee_all R (l.set i a) (k.set i b)
  | [], [], _, _ => trivial
  | x :: l, y :: k, 0, q => ⟨hab, q.2⟩
  | x :: l, y :: k, i + 1, q => ⟨q.1, ee_all.set hab q.2⟩
  | [], _ :: _, _, q => q.elim
  | _ :: _, [], _, q => q.elim
theorem ee_all.app {α β : Type} {R : α → β → Prop} : ∀ {l l2 : List α} {k k2 : List β}, ee_all R l k → ee_all R l2 k2 → ee_all R (l ++ l2) (k ++ k2)
  | [], _, [], _, _, h => h
  | a :: l, _, b :: k, _, q, h => ⟨q.1, ee_all.app q.2 h⟩
  | [], _, _ :: _, _, q, _ => q.elim
  | _ :: _, _, [], _, q, _ => q.elim
theorem ee_all.split {α β : Type} {R : α → β → Prop} : ∀ {l l2 : List α} {k : List β}, ee_all R (l ++ l2) k → ∃ k1 k2, k = k1 ++ k2 ∧ ee_all R l k1 ∧ ee_all R l2 k2
  | [], _, k, h => ⟨[], k, rfl, trivial, h⟩
  | a :: l, l2, [], h => h.elim
  | a :: l, l2, b :: k, h => by
    obtain ⟨k1, k2, e, h1, h2⟩ := ee_all.split (l := l) (l2 := l2) (k := k) h.2
    exact ⟨b :: k1, k2, by rw [e]; rfl, ⟨h.1, h1⟩, h2⟩
theorem ee_all.split2 {α β : Type} {R : α → β → Prop} : ∀ {l : List α} {k1 k2 : List β}, ee_all R l (k1 ++ k2) → ee_all R (l.take k1.length) k1 ∧ ee_all R (l.drop k1.length) k2
  | l, [], k2, h => ⟨by simp [ee_all], by simpa using h⟩
  | [], b :: k1, k2, h => h.elim
  | a :: l, b :: k1, k2, h => by
    obtain ⟨h1, h2⟩ := ee_all.split2 (l := l) (k1 := k1) (k2 := k2) h.2
    exact ⟨⟨h.1, by simpa using h1⟩, by simpa using h2⟩
theorem ee_all.filter {α β : Type} {R : α → β → Prop} {p : α → Bool} {q : β → Bool} (h : ∀ a b, R a b → p a = q b) : ∀ {l : List α} {k : List β}, ee_all R l k → ee_all R (l.filter p) (k.filter q)
  | [], [], _ => trivial
  | a :: l, b :: k, z => by
    have ih := ee_all.filter h z.2
    have e := h a b z.1
    cases hp : p a with
    | true =>
      rw [List.filter_cons_of_pos hp, List.filter_cons_of_pos (by rw [← e]; exact hp)]
      exact ⟨z.1, ih⟩
    | false =>
      rw [List.filter_cons_of_neg (by rw [hp]; simp), List.filter_cons_of_neg (by rw [← e, hp]; simp)]
      exact ih
  | [], _ :: _, z => z.elim
  | _ :: _, [], z => z.elim
theorem ee_all.rev {α β : Type} {R : α → β → Prop} : ∀ {l : List α} {k : List β}, ee_all R l k → ee_all R l.reverse k.reverse
  | [], [], _ => trivial
  | a :: l, b :: k, q => by
    rw [List.reverse_cons, List.reverse_cons]
    exact ee_all.app (ee_all.rev q.2) ⟨q.1, trivial⟩
  | [], _ :: _, q => q.elim
  | _ :: _, [], q => q.elim
/-- what a symbolic value stands for: numbers of the symbols, addresses of the cells, what lies outside (addresses, and from 3000000 on longs). retAddr: a symbol; double 0: any long; double (k + 1): the long k of those outside; float: any reference -/
def ee_v (ns : List Int32) (as : List Nat) (ex : Nat → Nat) (x v : Value) : Prop := match x with
  | .int c => v = .int c
  | .retAddr k => ∃ z, ns[k]? = some z ∧ v = .int z
  | .ref k => if k < 1000000 then ∃ a, as[k]? = some a ∧ v = .ref a else v = .ref (ex k)
  | .null => v = .null
  | .long c => v = .long c
  | .float _ => v = .null ∨ ∃ a, v = .ref a
  | .double k => if k = 0 then ∃ z, v = .long z else v = .long (Int64.ofNat (ex (3000000 + k.toNat)))
theorem ee_get_app {α : Type} {l r : List α} {k : Nat} {a : α} (h : l[k]? = some a) : (l ++ r)[k]? = some a := by
  rw [List.getElem?_append_left (List.getElem?_eq_some_iff.mp h).1]
  exact h
theorem ee_v.mono {ns : List Int32} {as : List Nat} {ex : Nat → Nat} {x v : Value} (n2 : List Int32) (a2 : List Nat) (h : ee_v ns as ex x v) : ee_v (ns ++ n2) (as ++ a2) ex x v := by
  cases x with
  | int c => exact h
  | retAddr k =>
    obtain ⟨z, h1, h2⟩ := h
    exact ⟨z, ee_get_app h1, h2⟩
  | ref k =>
    unfold ee_v at h ⊢
    by_cases hk : k < 1000000
    · simp only [hk, if_true] at h ⊢
      obtain ⟨a, h1, h2⟩ := h
      exact ⟨a, ee_get_app h1, h2⟩
    · simp only [hk, if_false] at h ⊢
      exact h
  | null => exact h
  | long z => exact h
  | float z => exact h
  | double z => exact h
theorem ee_v.dbl {ns : List Int32} {as : List Nat} {ex : Nat → Nat} {k : UInt64} {v : Value} (h : ee_v ns as ex (.double k) v) : ∃ z, v = .long z := by
  unfold ee_v at h
  by_cases hk : k = 0
  · simp only [hk, if_true] at h
    exact h
  · simp only [hk, if_false] at h
    exact ⟨_, h⟩
def ee_cat (x : Value) : Nat := match x with
  | .long _ => 2
  | .double _ => 2
  | _ => 1
theorem ee_v.cat {ns : List Int32} {as : List Nat} {ex : Nat → Nat} {x v : Value} (h : ee_v ns as ex x v) : v.category = ee_cat x := by
  cases x with
  | int c => rw [show v = .int c from h]; rfl
  | retAddr k =>
    obtain ⟨z, h1, h2⟩ := h
    rw [h2]; rfl
  | ref k =>
    unfold ee_v at h
    by_cases hk : k < 1000000
    · simp only [hk, if_true] at h
      obtain ⟨a, h1, h2⟩ := h
      rw [h2]; rfl
    · simp only [hk, if_false] at h
      rw [h]; rfl
  | null => rw [show v = .null from h]; rfl
  | long z => rw [show v = .long z from h]; rfl
  | float z =>
    rcases h with h | ⟨a, h⟩ <;> (rw [h]; rfl)
  | double z =>
    obtain ⟨z, h⟩ := h.dbl
    rw [h]; rfl
/-- the bounds of an array's element -/
def ee_seg (P : Nat) (sg : List (Nat × Int × Int)) (j : Nat) : Option (Int × Int) := match sg.find? (fun s => Nat.blt (if P = 0 then j else j % P) s.1) with
  | some s => some s.2
  | none => none
def ee_sgp (P : Nat) (sg : List (Nat × Int × Int)) (j : Nat) (z : Int32) : Prop := match ee_seg P sg j with
  | some q => q.1 ≤ z.toInt ∧ z.toInt ≤ q.2
  | none => True
/-- what an array's element is -/
def ee_el (ns : List Int32) (as : List Nat) (ex : Nat → Nat) (P : Nat) (sg : List (Nat × Int × Int)) (ov : List (Nat × Value)) (j : Nat) (z : Int32) : Prop := match ov.lookup j with
  | some x => ee_v ns as ex x (.int z)
  | none => ee_sgp P sg j z
theorem ee_el.mono {ns : List Int32} {as : List Nat} {ex : Nat → Nat} {P : Nat} {sg : List (Nat × Int × Int)} {ov : List (Nat × Value)} {j : Nat} {z : Int32} (n2 : List Int32) (a2 : List Nat) (h : ee_el ns as ex P sg ov j z) : ee_el (ns ++ n2) (as ++ a2) ex P sg ov j z := by
  unfold ee_el at h ⊢
  cases hl : ov.lookup j with
  | none => rw [hl] at h; exact h
  | some x => rw [hl] at h; exact ee_v.mono n2 a2 h
/-- a formula's code: how high the pile is behind a code -/
def ee_rs (c : Int32) (h : Nat) : Option Nat := if c = 126 then (if 1 ≤ h then some h else none) else if 97 ≤ c.toInt ∧ c.toInt ≤ 122 then (if h < 60 then some (h + 1) else none) else (if 2 ≤ h then some (h - 1) else none)
def ee_rw (f : Nat → Int32) : Nat → Nat → Nat → Option Nat
  | _, 0, h => some h
  | a, n + 1, h => match ee_rs (f a) h with
    | some h' => ee_rw f (a + 1) n h'
    | none => none
/-- a formula's code from a place to another one is whole -/
def ee_rp (f : Nat → Int32) (a b : Int32) : Prop := 0 ≤ a.toInt ∧ a.toInt ≤ b.toInt ∧ b.toInt ≤ 1120 ∧ ∃ h, ee_rw f a.toInt.toNat (b.toInt - a.toInt).toNat 0 = some h
/-- a number that lies outside: the element j of the kept array i -/
def ee_fz (ex : Nat → Nat) (i j : Nat) : Int32 := Int32.ofNat (ex (5000000 + 2000 * i + j))
/-- the codes of both banks: a bank that one of two numbers names and that has a formula has a whole one, in its half; or a kept array; or one that is kept but for one element (its place: a number and d - 1; its value) -/
def ee_rq (ns : List Int32) (as : List Nat) (ex : Nat → Nat) (ov : List (Nat × Value)) (f : Nat → Int32) : Prop := match ov with
  | [(_, s1), (_, s2), (_, f0), (_, e0), (_, t0), (_, f1), (_, e1), (_, t1)] => ∃ y1 y2 a0 c0 d0 a1 c1 d1 : Int32, ee_v ns as ex s1 (.int y1) ∧ ee_v ns as ex s2 (.int y2) ∧ (ee_v ns as ex f0 (.int a0) ∧ ee_v ns as ex e0 (.int c0) ∧ ee_v ns as ex t0 (.int d0)) ∧ (ee_v ns as ex f1 (.int a1) ∧ ee_v ns as ex e1 (.int c1) ∧ ee_v ns as ex t1 (.int d1)) ∧ (y1 = 0 ∨ y2 = 0 → d0.toInt % 2 = 1 → ee_rp f a0 c0 ∧ c0.toInt ≤ 560) ∧ (y1 = 1 ∨ y2 = 1 → d1.toInt % 2 = 1 → ee_rp f a1 c1 ∧ 560 ≤ a1.toInt)
  | [(i, _), _] => ∀ j, j < 2000 → f j = ee_fz ex i j
  | [(i, _), _, (d, x), (_, v)] => ∃ z y : Int32, ee_v ns as ex x (.int z) ∧ ee_v ns as ex v (.int y) ∧ 0 ≤ z.toInt + (d : Int) - 1 ∧ f (z.toInt + (d : Int) - 1).toNat = y ∧ ∀ j, j < 2000 → j ≠ (z.toInt + (d : Int) - 1).toNat → f j = ee_fz ex i j
  | _ => True
theorem ee_rq.mono {ns : List Int32} {as : List Nat} {ex : Nat → Nat} {ov : List (Nat × Value)} {f : Nat → Int32} (n2 : List Int32) (a2 : List Nat) (h : ee_rq ns as ex ov f) : ee_rq (ns ++ n2) (as ++ a2) ex ov f := by
  unfold ee_rq at h ⊢
  split at h
  · obtain ⟨y1, y2, x0, c0, d0, x1, c1, d1, g0, g1, ⟨g2, g3, g4⟩, ⟨g5, g6, g7⟩, g8⟩ := h
    exact ⟨y1, y2, x0, c0, d0, x1, c1, d1, g0.mono n2 a2, g1.mono n2 a2, ⟨g2.mono n2 a2, g3.mono n2 a2, g4.mono n2 a2⟩, ⟨g5.mono n2 a2, g6.mono n2 a2, g7.mono n2 a2⟩, g8⟩
  · exact h
  · obtain ⟨z, y, g0, g1, g2⟩ := h
    exact ⟨z, y, g0.mono n2 a2, g1.mono n2 a2, g2⟩
  · trivial
def ee_c (ns : List Int32) (as : List Nat) (ex : Nat → Nat) (dA : Nat → ClassId) (x : ee_cell) (e : va_E) : Prop := match x with
  | .inl (ci, fs) => ∃ vs, e = .inr (ci, vs) ∧ ee_all (ee_v ns as ex) fs vs
  | .inr (t, n, P, sg, ov) => if t = 3 then ∃ f : Nat → Int64, e = .inl (dA 3, n, .inr (.inl f)) else if t = 4 then ∃ f : Nat → Int32, e = .inl (dA 0, n, .inl f) ∧ ee_rq ns as ex ov f else t < 3 ∧ ∃ f : Nat → Int32, e = .inl (dA t, n, .inl f) ∧ ∀ j, j < n → ee_el ns as ex P sg ov j (f j)
theorem ee_c.mono {ns : List Int32} {as : List Nat} {ex : Nat → Nat} {dA : Nat → ClassId} {x : ee_cell} {e : va_E} (n2 : List Int32) (a2 : List Nat) (h : ee_c ns as ex dA x e) : ee_c (ns ++ n2) (as ++ a2) ex dA x e := by
  match x, h with
  | .inl (ci, fs), ⟨vs, h1, h2⟩ => exact ⟨vs, h1, h2.imp (fun a b q => ee_v.mono n2 a2 q)⟩
  | .inr (t, n, P, sg, ov), h =>
    unfold ee_c at h ⊢
    by_cases ht : t = 3
    · simp only [ht, if_true] at h ⊢
      exact h
    · simp only [ht, if_false] at h ⊢
      by_cases h4 : t = 4
      · simp only [h4, if_true] at h ⊢
        obtain ⟨f, h1, h2⟩ := h
        exact ⟨f, h1, h2.mono n2 a2⟩
      · simp only [h4, if_false] at h ⊢
        obtain ⟨h0, f, h1, h2⟩ := h
        exact ⟨h0, f, h1, fun j hj => (h2 j hj).mono n2 a2⟩
/-- the cells -/
def ee_wr (ns : List Int32) (as : List Nat) (ex : Nat → Nat) (dA : Nat → ClassId) (w : ee_w) (ws : va_W) : Prop := as = ws.map (fun q => q.1) ∧ ee_all (fun x q => ee_c ns as ex dA x q.2) w ws
/-! the symbols -/
def ee_fp (ns : List Int32) (z : Int32) (f : ee_fa) : Prop := match f with
  | (0, j, d) => ∃ y, ns[j]? = some y ∧ z.toInt = y.toInt + d
  | (1, j, d) => ∃ y, ns[j]? = some y ∧ z.toInt ≤ y.toInt + d
  | (2, j, d) => ∃ y, ns[j]? = some y ∧ y.toInt + d ≤ z.toInt
  | (3, j, d) => ∃ y u, ns[j]? = some y ∧ ns[d.toNat]? = some u ∧ z = y + u
  | (4, j, d) => z.toInt % (j : Int) = d
  | (5, j, d) => ∃ y, ns[j]? = some y ∧ z.toInt + y.toInt ≤ d
  | (6, _, _) => z.toInt ≠ 0
  | _ => True
theorem ee_fp.mono {ns : List Int32} {z : Int32} {f : ee_fa} (n2 : List Int32) (h : ee_fp ns z f) : ee_fp (ns ++ n2) z f := by
  unfold ee_fp at h ⊢
  split at h
  · obtain ⟨y, h1, h2⟩ := h; exact ⟨y, ee_get_app h1, h2⟩
  · obtain ⟨y, h1, h2⟩ := h; exact ⟨y, ee_get_app h1, h2⟩
  · obtain ⟨y, h1, h2⟩ := h; exact ⟨y, ee_get_app h1, h2⟩
  · obtain ⟨y, u, h1, h2, h3⟩ := h; exact ⟨y, u, ee_get_app h1, ee_get_app h2, h3⟩
  · exact h
  · obtain ⟨y, h1, h2⟩ := h; exact ⟨y, ee_get_app h1, h2⟩
  · exact h
  · trivial
/-- what is known of a symbol holds -/
def ee_tr (ns : List Int32) (q : ee_ve) : Prop := ∃ z, ns[q.1]? = some z ∧ q.2.1 ≤ z.toInt ∧ z.toInt ≤ q.2.2.1 ∧ ∀ f ∈ q.2.2.2, ee_fp ns z f
theorem ee_tr.mono {ns : List Int32} {q : ee_ve} (n2 : List Int32) (h : ee_tr ns q) : ee_tr (ns ++ n2) q := by
  obtain ⟨z, h1, h2, h3, h4⟩ := h
  exact ⟨z, ee_get_app h1, h2, h3, fun f hf => (h4 f hf).mono n2⟩
def ee_ok (ns : List Int32) (iv : ee_iv) : Prop := iv.1 = ns.length ∧ ∀ q ∈ iv.2, ee_tr ns q
/-- one more symbol -/
def ee_ps (iv : ee_iv) (lo hi : Int) (fs : List ee_fa) : ee_iv := (iv.1 + 1, (iv.1, lo, hi, fs) :: iv.2)
theorem ee_last {ns : List Int32} (z : Int32) : (ns ++ [z])[ns.length]? = some z := by
  rw [List.getElem?_append_right (Nat.le_refl _), Nat.sub_self]; rfl
theorem ee_ok.push {ns : List Int32} {iv : ee_iv} (h : ee_ok ns iv) {z : Int32} {lo hi : Int} {fs : List ee_fa} (h1 : lo ≤ z.toInt) (h2 : z.toInt ≤ hi) (h3 : ∀ f ∈ fs, ee_fp ns z f) : ee_ok (ns ++ [z]) (ee_ps iv lo hi fs) := by
  refine ⟨by rw [List.length_append, ← h.1]; rfl, fun q hq => ?_⟩
  rcases List.mem_cons.mp hq with rfl | hq
  · exact ⟨z, by show (ns ++ [z])[iv.1]? = some z; rw [h.1]; exact ee_last z, h1, h2, fun f hf => (h3 f hf).mono [z]⟩
  · exact (h.2 q hq).mono [z]
theorem ee_ok.last {ns : List Int32} {iv : ee_iv} (h : ee_ok ns iv) (z : Int32) : (ns ++ [z])[iv.1]? = some z := by
  rw [h.1]; exact ee_last z
/-- what is known of a symbol, the newest -/
def ee_at1 (iv : ee_iv) (k : Nat) : Option ee_ve := iv.2.find? (fun q => Nat.beq q.1 k)
theorem ee_at1.ok {ns : List Int32} {iv : ee_iv} {k : Nat} {q : ee_ve} (h : ee_ok ns iv) (hq : ee_at1 iv k = some q) : ∃ z, ns[k]? = some z ∧ q.2.1 ≤ z.toInt ∧ z.toInt ≤ q.2.2.1 ∧ ∀ f ∈ q.2.2.2, ee_fp ns z f := by
  have h1 := h.2 q (List.mem_of_find?_eq_some hq)
  have h2 : Nat.beq q.1 k = true := List.find?_some (p := fun q : ee_ve => Nat.beq q.1 k) hq
  have h2 := Nat.eq_of_beq_eq_true h2
  rw [← h2]
  exact h1
/-- an int's bounds -/
def ee_it (iv : ee_iv) (x : Value) : Option (Int × Int) := match x with
  | .int c => some (c.toInt, c.toInt)
  | .retAddr k => match ee_at1 iv k with
    | some q => some (q.2.1, q.2.2.1)
    | none => none
  | _ => none
theorem ee_it.int {ns : List Int32} {as : List Nat} {ex : Nat → Nat} {iv : ee_iv} {x v : Value} {a b : Int} (hk : ee_ok ns iv) (h : ee_v ns as ex x v) (hi : ee_it iv x = some (a, b)) : ∃ z : Int32, v = .int z ∧ a ≤ z.toInt ∧ z.toInt ≤ b := by
  cases x with
  | int c =>
    cases hi
    exact ⟨c, h, Int.le_refl _, Int.le_refl _⟩
  | retAddr k =>
    obtain ⟨z, h1, h2⟩ := h
    simp only [ee_it] at hi
    cases hq : ee_at1 iv k with
    | none => rw [hq] at hi; cases hi
    | some q =>
      rw [hq] at hi
      cases hi
      obtain ⟨y, g1, g2, g3, -⟩ := ee_at1.ok hk hq
      rw [h1] at g1
      cases g1
      exact ⟨z, h2, g2, g3⟩
  | _ => cases hi
/-- an int that is known -/
def ee_cn (iv : ee_iv) (x : Value) : Option Int32 := match x with
  | .int c => some c
  | .retAddr k => match ee_at1 iv k with
    | some q => if q.2.1 = q.2.2.1 then some (Int32.ofInt q.2.1) else none
    | none => none
  | _ => none
theorem ee_cn.int {ns : List Int32} {as : List Nat} {ex : Nat → Nat} {iv : ee_iv} {x v : Value} {c : Int32} (hk : ee_ok ns iv) (h : ee_v ns as ex x v) (hi : ee_cn iv x = some c) : v = .int c := by
  cases x with
  | int d =>
    cases hi
    exact h
  | retAddr k =>
    obtain ⟨z, h1, h2⟩ := h
    simp only [ee_cn] at hi
    cases hq : ee_at1 iv k with
    | none => rw [hq] at hi; cases hi
    | some q =>
      rw [hq] at hi
      obtain ⟨y, g1, g2, g3, -⟩ := ee_at1.ok hk hq
      rw [h1] at g1
      cases g1
      by_cases e : q.2.1 = q.2.2.1
      · simp only [e, if_true] at hi
        cases hi
        rw [h2, ← show z.toInt = q.2.2.1 by omega, Int32.ofInt_toInt]
      · simp only [e, if_false] at hi
        cases hi
  | _ => cases hi
/-- closer bounds -/
def ee_put (iv : ee_iv) (x : Value) (lo hi : Int) : ee_iv := match x with
  | .retAddr k => match ee_at1 iv k with
    | some q => (iv.1, (k, lo, hi, q.2.2.2) :: iv.2)
    | none => iv
  | _ => iv
theorem ee_put.ok {ns : List Int32} {as : List Nat} {ex : Nat → Nat} {iv : ee_iv} {x : Value} {z : Int32} {lo hi : Int} (hk : ee_ok ns iv) (h : ee_v ns as ex x (.int z)) (h1 : lo ≤ z.toInt) (h2 : z.toInt ≤ hi) : ee_ok ns (ee_put iv x lo hi) := by
  cases x with
  | retAddr k =>
    obtain ⟨y, g1, g2⟩ := h
    cases g2
    simp only [ee_put]
    cases hq : ee_at1 iv k with
    | none => exact hk
    | some q =>
      refine ⟨hk.1, fun r hr => ?_⟩
      rcases List.mem_cons.mp hr with rfl | hr
      · obtain ⟨y, f1, -, -, f4⟩ := ee_at1.ok hk hq
        rw [g1] at f1
        cases f1
        exact ⟨z, g1, h1, h2, f4⟩
      · exact hk.2 r hr
  | _ => exact hk
def ee_mx (a b : Int) : Int := if a ≤ b then b else a
def ee_mn (a b : Int) : Int := if a ≤ b then a else b
theorem ee_mx_le {a b c : Int} (h1 : a ≤ c) (h2 : b ≤ c) : ee_mx a b ≤ c := by unfold ee_mx; split <;> assumption
theorem ee_le_mn {a b c : Int} (h1 : c ≤ a) (h2 : c ≤ b) : c ≤ ee_mn a b := by unfold ee_mn; split <;> assumption
/-- is one known not to be 0, and the other one 0? -/
def ee_nz (iv : ee_iv) (x y : Value) : Bool := match x, y with
  | .retAddr k, .int c => (match ee_at1 iv k with
    | some q => (match q.2.2.2 with
      | (6, _, _) :: _ => decide (c = 0)
      | _ => false)
    | none => false)
  | _, _ => false
theorem ee_nz.ok {ns : List Int32} {as : List Nat} {ex : Nat → Nat} {iv : ee_iv} {x y : Value} {p q : Int32} (hk : ee_ok ns iv) (hx : ee_v ns as ex x (.int p)) (hy : ee_v ns as ex y (.int q)) (h : ee_nz iv x y = true) : p.toInt ≠ q.toInt := by
  unfold ee_nz at h
  split at h
  · rename_i k c
    cases hq : ee_at1 iv k with
    | none => rw [hq] at h; cases h
    | some r =>
      rw [hq] at h
      simp only at h
      split at h
      · rename_i j d l hl
        have hc := of_decide_eq_true h
        subst hc
        obtain ⟨z, g1, -, -, g4⟩ := ee_at1.ok hk hq
        obtain ⟨z2, g5, g6⟩ := hx
        cases g6
        rw [g1] at g5
        cases g5
        have := g4 (6, j, d) (by rw [hl]; exact List.mem_cons_self)
        cases (show Value.int q = Value.int 0 from hy)
        rw [Int32.toInt_zero]
        exact this
      · cases h
  · cases h
/-- what the answer of a comparison says of both bounds; none: it cannot be -/
def ee_rf (c : ClassFile.Cond) (iv : ee_iv) (x y : Value) (a b d e : Int) : List ee_iv := match c with
  | .eq => if ee_nz iv x y = true then [] else if ee_mx a d ≤ ee_mn b e then [ee_put (ee_put iv x (ee_mx a d) (ee_mn b e)) y (ee_mx a d) (ee_mn b e)] else []
  | .ne => if x = y then [] else if d = e then
      (if a = d then (if b = d then [] else [ee_put iv x (a + 1) b]) else if b = d then [ee_put iv x a (b - 1)] else [iv])
    else [iv]
  | .lt => if x = y then [] else if a ≤ ee_mn b (e - 1) ∧ ee_mx d (a + 1) ≤ e then [ee_put (ee_put iv x a (ee_mn b (e - 1))) y (ee_mx d (a + 1)) e] else []
  | .ge => if ee_mx a d ≤ b ∧ d ≤ ee_mn e b then [ee_put (ee_put iv x (ee_mx a d) b) y d (ee_mn e b)] else []
  | .gt => if x = y then [] else if d ≤ ee_mn e (b - 1) ∧ ee_mx a (d + 1) ≤ b then [ee_put (ee_put iv y d (ee_mn e (b - 1))) x (ee_mx a (d + 1)) b] else []
  | .le => if ee_mx d a ≤ e ∧ a ≤ ee_mn b e then [ee_put (ee_put iv y (ee_mx d a) e) x a (ee_mn b e)] else []
def ee_cd (c : ClassFile.Cond) (x y : Int) : Prop := match c with
  | .eq => x = y
  | .ne => x ≠ y
  | .lt => x < y
  | .ge => y ≤ x
  | .gt => y < x
  | .le => x ≤ y
theorem ee_v.one {ns : List Int32} {as : List Nat} {ex : Nat → Nat} {x : Value} {z y : Int32} (h : ee_v ns as ex x (.int z)) (h2 : ee_v ns as ex x (.int y)) : z = y := by
  cases x with
  | int c =>
    have e1 : Value.int z = Value.int c := h
    have e2 : Value.int y = Value.int c := h2
    cases e1; cases e2; rfl
  | retAddr k =>
    obtain ⟨q, g1, g2⟩ := h
    obtain ⟨r, g3, g4⟩ := h2
    rw [g1] at g3
    cases g3; cases g2; cases g4; rfl
  | ref k =>
    unfold ee_v at h
    by_cases hk : k < 1000000
    · simp only [hk, if_true] at h
      obtain ⟨a, h1, h2⟩ := h
      cases h2
    · simp only [hk, if_false] at h
      cases h
  | null => cases (show Value.int z = Value.null from h)
  | long q => cases (show Value.int z = Value.long q from h)
  | float q =>
    rcases h with h | ⟨a, h⟩ <;> cases h
  | double q =>
    obtain ⟨q, h⟩ := h.dbl
    cases h
theorem ee_rf.ok {ns : List Int32} {as : List Nat} {ex : Nat → Nat} {iv : ee_iv} {x y : Value} {p q : Int32} {a b d e : Int} {c : ClassFile.Cond} (hk : ee_ok ns iv) (hx : ee_v ns as ex x (.int p)) (hy : ee_v ns as ex y (.int q)) (h1 : a ≤ p.toInt) (h2 : p.toInt ≤ b) (h3 : d ≤ q.toInt) (h4 : q.toInt ≤ e) (hc : ee_cd c p.toInt q.toInt) : ∃ iv', iv' ∈ ee_rf c iv x y a b d e ∧ ee_ok ns iv' := by
  have same : x = y → p.toInt = q.toInt := fun h => by subst h; rw [ee_v.one hx hy]
  have mx : ∀ u v r : Int, u ≤ r → v ≤ r → ee_mx u v ≤ r := fun u v r => ee_mx_le
  have mn : ∀ u v r : Int, r ≤ u → r ≤ v → r ≤ ee_mn u v := fun u v r => ee_le_mn
  have one : ∀ {z : ee_iv}, ee_ok ns z → ∃ iv', iv' ∈ [z] ∧ ee_ok ns iv' := fun {z} h => ⟨z, List.mem_cons_self, h⟩
  cases c with
  | eq =>
    have hc : p.toInt = q.toInt := hc
    have e1 := mx a d p.toInt h1 (by omega)
    have e2 := mn b e p.toInt h2 (by omega)
    simp only [ee_rf]
    rw [if_neg (fun h => ee_nz.ok hk hx hy h hc), if_pos (by omega)]
    exact one (ee_put.ok (ee_put.ok hk hx e1 e2) hy (by omega) (by omega))
  | ne =>
    have hc : p.toInt ≠ q.toInt := hc
    simp only [ee_rf]
    rw [if_neg (fun h => hc (same h))]
    by_cases e1 : d = e
    · rw [if_pos e1]
      by_cases e2 : a = d
      · rw [if_pos e2]
        by_cases e3 : b = d
        · exact absurd (by omega) hc
        · rw [if_neg e3]
          exact one (ee_put.ok hk hx (by omega) h2)
      · rw [if_neg e2]
        by_cases e3 : b = d
        · rw [if_pos e3]
          exact one (ee_put.ok hk hx h1 (by omega))
        · rw [if_neg e3]
          exact one hk
    · rw [if_neg e1]
      exact one hk
  | lt =>
    have hc : p.toInt < q.toInt := hc
    have e1 := mn b (e - 1) p.toInt h2 (by omega)
    have e2 := mx d (a + 1) q.toInt h3 (by omega)
    simp only [ee_rf]
    rw [if_neg (fun h => by have := same h; omega), if_pos ⟨by omega, by omega⟩]
    exact one (ee_put.ok (ee_put.ok hk hx h1 e1) hy e2 h4)
  | ge =>
    have hc : q.toInt ≤ p.toInt := hc
    have e1 := mx a d p.toInt h1 (by omega)
    have e2 := mn e b q.toInt h4 (by omega)
    simp only [ee_rf]
    rw [if_pos ⟨by omega, by omega⟩]
    exact one (ee_put.ok (ee_put.ok hk hx e1 h2) hy h3 e2)
  | gt =>
    have hc : q.toInt < p.toInt := hc
    have e1 := mn e (b - 1) q.toInt h4 (by omega)
    have e2 := mx a (d + 1) p.toInt h1 (by omega)
    simp only [ee_rf]
    rw [if_neg (fun h => by have := same h; omega), if_pos ⟨by omega, by omega⟩]
    exact one (ee_put.ok (ee_put.ok hk hy h3 e1) hx e2 h2)
  | le =>
    have hc : p.toInt ≤ q.toInt := hc
    have e1 := mx d a q.toInt h3 (by omega)
    have e2 := mn b e p.toInt h2 (by omega)
    simp only [ee_rf]
    rw [if_pos ⟨by omega, by omega⟩]
    exact one (ee_put.ok (ee_put.ok hk hy e1 h4) hx h1 e2)
