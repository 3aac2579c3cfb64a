/-! the walker's frame: what holds while a method is walked -/
/-- program, launch, environment, room, start, method, arguments, frames below, method, code -/
abbrev ee_cx : Type := Program × Launch × Env × Room × State × MethodId × Array Value × List Frame × Method × Code
/-- which cells may change, numbers of the kinds, kinds of arrays, addresses outside, the first symbols, the first cells, the callers' values, how many locals -/
abbrev ee_cy : Type := (Nat → Prop) × va_G × (Nat → ClassId) × (Nat → Nat) × List Int32 × List Nat × List Value × Nat
def ee_lr (ns : List Int32) (as : List Nat) (ex : Nat → Nat) (a b : Nat × Value) : Prop := a.1 = b.1 ∧ ee_v ns as ex a.2 b.2
def ee_Wd (s : State) (A : Nat → Prop) (D : va_G) (dA : Nat → ClassId) (ex : Nat → Nat) (ns : List Int32) (as : List Nat) (w : ee_w) (H : Heap) (lc : List Loc) : Prop :=
  ∃ ws, ee_wr ns as ex dA w ws ∧ va_P D vwCl ws H ∧ va_D A ws ∧ va_S A s.heap H lc
def ee_Con (s : State) (A : Nat → Prop) (D : va_G) (dA : Nat → ClassId) (ex : Nat → Nat) (x0 : List Int32) (a0 : List Nat) (sv0 : List Value) (nL : Nat) (lo : List (Nat × Value)) (stk : List Value) (w : ee_w) (iv : ee_iv) (sv : List Value)
    (ns : List Int32) (as : List Nat) (H : Heap) (lc : List Loc) (ls : Array Slot) (vs : List Value) : Prop :=
  ee_ok ns iv ∧ ((∃ r, ns = x0 ++ r) ∧ ∃ r, as = a0 ++ r) ∧ (∃ lv, lv_has ls nL lv ∧ ee_all (ee_lr ns as ex) lo lv) ∧ ee_all (ee_v ns as ex) stk vs ∧ ee_all (ee_v ns as ex) sv sv0 ∧ ee_Wd s A D dA ex ns as w H lc
/-- the goal at a state: from all that it stands for the machine comes to Q -/
def ee_G (X : ee_cx) (Y : ee_cy) (Q : State → Prop) (st : ee_st) : Prop := match X, Y, st with
  | (p, l, e, R, s, m, args, below, meth, c), (A, D, dA, ex, x0, a0, sv0, nL), (pc, lo, stk, w, iv, kc, ks, sv) =>
    ∀ (ns : List Int32) (as : List Nat) (H : Heap) (lc : List Loc) (ls : Array Slot) (vs : List Value), ee_Con s A D dA ex x0 a0 sv0 nL lo stk w iv sv ns as H lc ls vs → W p l e R s m args below meth c H lc kc ks Q (F0 m pc ls vs)
abbrev ee_tys (dA : Nat → ClassId) : List (ClassId × FieldType) := [(dA 0, .int), (dA 1, .byte), (dA 2, .boolean), (dA 3, .long)]
/-- what lies outside: the texts, two statics -/
def ee_Ext (s : State) (A : Nat → Prop) (ex : Nat → Nat) : Prop :=
  vk_S 2 ee_len ee_byt (fun i => ex (1000000 + i)) (fun i => ex (1000100 + i)) A s s.heap ∧ (∀ i, i < 2 → vk_R RX5 (ee_six.getD i 0) (ee_stx.getD i "") (ex (1000000 + i)) s) ∧
  va_Z "java/lang/String" "COMPACT_STRINGS" "Z" (.int 1) A s s.heap ∧ va_Zq "jdk/internal/util/Preconditions" "SIOOBE_FORMATTER" "Ljava/util/function/BiFunction;" A s s.heap
/-- the law's script: its length, a place in it, the six numbers there -/
def ee_Scr (s : State) (A : Nat → Prop) (ex : Nat → Nat) (x0 : List Int32) : Prop :=
  ∃ (L i : Nat) (xs : Nat → Int32), va_X (ex 2000000) L xs s s.heap ∧ ex 2000000 < s.heap.size ∧ ¬ A (ex 2000000) ∧ L ≤ 3072 ∧ x0[0]? = some (nI i) ∧ x0[1]? = some (nI L) ∧ i + 6 ≤ L ∧ ∀ d, d < 6 → x0[2 + d]? = some (xs (i + d))
/-- what holds at a method's entry and stays -/
def ee_F (X : ee_cx) (Y : ee_cy) (own : String) (cc : ByteArray) (Ts : List Cond) (ini : Prop) (dm bc bs : Nat) : Prop := match X, Y with
  | (p, _, _, R, s, m, args, _, meth, c), (A, D, dA, ex, _, _, _, nL) =>
    p.tables.exec = Jvm.exec ∧ c.code = cc ∧ c.maxLocals = nL ∧ s.vm.findClass own = some m.cls ∧ (∀ w ∈ Ts, w.before args s = true) ∧ va_K D vwCl (ee_tys dA) s ∧ (∀ q, s.heap.size ≤ q → A q) ∧ (ini → meth.name = "<init>") ∧
    (dm ≤ R.frames ∧ 64 * dm ≤ R.locals ∧ bc ≤ R.cells ∧ bs ≤ R.slots) ∧ ee_Ext s A ex
/-- one more symbol -/
theorem ee_Con.grow {s : State} {A : Nat → Prop} {D : va_G} {dA : Nat → ClassId} {ex : Nat → Nat} {x0 : List Int32} {a0 : List Nat} {sv0 : List Value} {nL : Nat} {lo : List (Nat × Value)} {stk : List Value} {w : ee_w} {iv : ee_iv} {sv : List Value} {ns : List Int32} {as : List Nat} {H : Heap} {lc : List Loc} {ls : Array Slot} {vs : List Value}
    (h : ee_Con s A D dA ex x0 a0 sv0 nL lo stk w iv sv ns as H lc ls vs) {z : Int32} {a b : Int} {fs : List ee_fa} (h1 : a ≤ z.toInt) (h2 : z.toInt ≤ b) (h3 : ∀ f ∈ fs, ee_fp ns z f) :
    ee_Con s A D dA ex x0 a0 sv0 nL lo stk w (ee_ps iv a b fs) sv (ns ++ [z]) as H lc ls vs := by
  obtain ⟨hk, ⟨⟨r, hr⟩, ha0⟩, ⟨lv, hl, hll⟩, hs, hv, ws, ⟨ha, hw⟩, hP, hD, hS⟩ := h
  have mv : ∀ x v, ee_v ns as ex x v → ee_v (ns ++ [z]) as ex x v := fun x v q => by simpa using ee_v.mono [z] [] q
  refine ⟨hk.push h1 h2 h3, ⟨⟨r ++ [z], by rw [hr, List.append_assoc]⟩, ha0⟩, ⟨lv, hl, hll.imp (fun a b q => ⟨q.1, mv _ _ q.2⟩)⟩, hs.imp mv, hv.imp mv, ws, ⟨ha, hw.imp (fun x q g => by simpa using ee_c.mono [z] [] g)⟩, hP, hD, hS⟩
theorem ee_look {ns : List Int32} {as : List Nat} {ex : Nat → Nat} {i : Nat} {x : Value} : ∀ {lo lv : List (Nat × Value)}, ee_all (ee_lr ns as ex) lo lv → lo.lookup i = some x → ∃ v, (i, v) ∈ lv ∧ ee_v ns as ex x v
  | [], [], _, h => by simp at h
  | (a, y) :: lo, (b, u) :: lv, q, h => by
    rw [List.lookup_cons] at h
    obtain ⟨⟨q1, q2⟩, q3⟩ := q
    by_cases e : i = a
    · simp only [e, beq_self_eq_true] at h
      cases h
      refine ⟨u, ?_, q2⟩
      rw [e, show a = b from q1]
      exact List.mem_cons_self
    · have e' : (i == a) = false := by simpa using e
      rw [e'] at h
      obtain ⟨v, h1, h2⟩ := ee_look q3 h
      exact ⟨v, List.mem_cons_of_mem _ h1, h2⟩
  | [], _ :: _, q, _ => q.elim
  | _ :: _, [], q, _ => q.elim
theorem ee_no {α : Type} {x : α} {P : Prop} (h : (none : Option α) = some x) : P := by cases h
def ee_nx {α : Type} (n k : Nat) (r : α) : Option α := if n = k then some r else none
theorem ee_nx_some {α : Type} {n k : Nat} {r q : α} (h : ee_nx n k r = some q) : n = k ∧ r = q := by
  unfold ee_nx at h
  by_cases e : n = k
  · rw [if_pos e] at h
    cases h
    exact ⟨e, rfl⟩
  · rw [if_neg e] at h
    cases h
/-- a handler of instructions: how many locals, room for cells and slots, the entry, the state -/
abbrev ee_H : Type := Nat → Nat → Nat → ee_en → ee_st → Option (List ee_st)
def ee_Snd (h : ee_H) : Prop := ∀ (X : ee_cx) (Y : ee_cy) (oc : Nat) (own : String) (cc : ByteArray) (ini : Prop) (dm bc bs : Nat) (Q : State → Prop) (e : ee_en) (st : ee_st) (sts : List ee_st), ee_F X Y own cc ee_tbl ini (dm + 1) bc bs → ee_own[oc]? = some own → (ee_ini e = true → ini) → decode cc e.1 = .ok (e.2.1, e.2.2.1) → ee_eok oc e = true → st.1 = e.1 → h Y.2.2.2.2.2.2.2 bc bs e st = some sts → (∀ q ∈ sts, ee_G X Y Q q) → ee_G X Y Q st
/-- numbers pushed -/
def ee_h0 : ee_H := fun _ _ _ e st => match st with
  | (pc, lo, stk, w, iv, kc, ks, sv) => match e.2.1 with
    | .iconst n => ee_nx e.2.2.1 1 [(pc + 1, lo, .int (Int32.ofInt n) :: stk, w, iv, kc, ks, sv)]
    | .bipush n => ee_nx e.2.2.1 2 [(pc + 2, lo, .int (Int8.ofInt n).toInt32 :: stk, w, iv, kc, ks, sv)]
    | .sipush n => ee_nx e.2.2.1 3 [(pc + 3, lo, .int (Int16.ofInt n).toInt32 :: stk, w, iv, kc, ks, sv)]
    | .lconst _ => ee_nx e.2.2.1 1 [(pc + 1, lo, .double 0 :: stk, w, iv, kc, ks, sv)]
    | .goto o => if 0 ≤ (pc : Int) + o then ee_nx e.2.2.1 3 [(((pc : Int) + o).toNat, lo, stk, w, iv, kc, ks, sv)] else none
    | _ => none
set_option maxHeartbeats 2000000 in
theorem ee_h0.snd : ee_Snd ee_h0 := by
  intro X Y oc own cc ini dm bc bs Q e st sts F ho hi hd he hpc h k
  obtain ⟨p, l, en, R, s, m, args, below, meth, c⟩ := X
  obtain ⟨A, D, dA, ex, x0, a0, sv0, nL⟩ := Y
  obtain ⟨pc, lo, stk, w, iv, kc, ks, sv⟩ := st
  obtain ⟨pc', ins, len, hn, ea, eb, ez, qa, qb, qc⟩ := e
  obtain ⟨hx, hb, hml, hown, hts, hK, hA, hini, hR, hE⟩ := F
  have hpc : pc = pc' := hpc
  subst hpc
  have hd : decode cc pc = .ok (ins, len) := hd
  intro ns as H lc ls vs C
  obtain ⟨c1, c2, c3, c4, c5, c6⟩ := C
  show W p l en R s m args below meth c H lc kc ks Q (F0 m pc ls vs)
  cases ins with
  | iconst n =>
    obtain ⟨rfl, rfl⟩ := ee_nx_some (show ee_nx len 1 _ = some sts from h)
    exact lv_iconst hx hb hd rfl (k _ List.mem_cons_self ns as H lc ls _ ⟨c1, c2, c3, ⟨rfl, c4⟩, c5, c6⟩)
  | bipush n =>
    obtain ⟨rfl, rfl⟩ := ee_nx_some (show ee_nx len 2 _ = some sts from h)
    exact lv_bipush hx hb hd rfl (k _ List.mem_cons_self ns as H lc ls _ ⟨c1, c2, c3, ⟨rfl, c4⟩, c5, c6⟩)
  | sipush n =>
    obtain ⟨rfl, rfl⟩ := ee_nx_some (show ee_nx len 3 _ = some sts from h)
    exact lv_sipush hx hb hd rfl (k _ List.mem_cons_self ns as H lc ls _ ⟨c1, c2, c3, ⟨rfl, c4⟩, c5, c6⟩)
  | lconst n =>
    obtain ⟨rfl, rfl⟩ := ee_nx_some (show ee_nx len 1 _ = some sts from h)
    exact lv_lconst hx hb hd rfl (k _ List.mem_cons_self ns as H lc ls _ ⟨c1, c2, c3, ⟨⟨_, rfl⟩, c4⟩, c5, c6⟩)
  | goto o =>
    have h : (if 0 ≤ (pc : Int) + o then ee_nx len 3 [(((pc : Int) + o).toNat, lo, stk, w, iv, kc, ks, sv)] else none) = some sts := h
    by_cases ho : 0 ≤ (pc : Int) + o
    · rw [if_pos ho] at h
      obtain ⟨rfl, rfl⟩ := ee_nx_some h
      exact lv_goto hx hb hd (by omega) (k _ List.mem_cons_self ns as H lc ls _ ⟨c1, c2, c3, c4, c5, c6⟩)
    · rw [if_neg ho] at h
      exact ee_no h
  | _ => exact ee_no h
