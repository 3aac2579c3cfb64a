/-! a stretch of a method: from one place to others -/
abbrev ee_tg : Type := Nat × List (Nat × Value) × List Value × ee_w × ee_iv
def ee_rn (mt : Nat → Option ee_me) (Γ : List ee_ct) (K : List (Nat × Nat × List Nat)) (S : List (Nat × Nat × Nat)) (f d : Nat) (hs : List ee_H) (y : Nat) (N : ee_me) (np n : Nat) (stops : List Nat) (ts : List ee_tg) (st : ee_tg) : Bool := match ee_exec mt Γ K S f d stops false hs y N (st.1, st.2.1, st.2.2.1, st.2.2.2.1, st.2.2.2.2, 0, 0, []) with
  | some outs => outs.all (fun q => decide (q.2.2.2.2.2.1 = 0 ∧ q.2.2.2.2.2.2.1 = 0) && ts.any (fun t => Nat.beq t.1 q.1 && (ee_mat np n t.2.1 t.2.2.1 t.2.2.2.1 t.2.2.2.2 q).isSome))
  | none => false
theorem ee_run {mt : Nat → Option ee_me} {Γ : List ee_ct} {K : List (Nat × Nat × List Nat)} {S : List (Nat × Nat × Nat)} {f d : Nat} {hs : List ee_H} {y : Nat} {N : ee_me} {np n : Nat} {stops : List Nat} {ts : List ee_tg} {st : ee_tg} {p : Program} {l : Launch} {e : Env} {R : Room} {s : State} {m : MethodId} {args : Array Value} {below : List Frame} {meth : Method} {cd : Code} {A : Nat → Prop} {D : va_G} {dA : Nat → ClassId} {ex : Nat → Nat} {x0 : List Int32} {as : List Nat} {Q : State → Prop} {H : Heap} {lc : List Loc} {ls : Array Slot} {vs : List Value}
    (hT : ee_Tb mt) (hΓ : ∀ c ∈ Γ, ee_Ct mt c) (hN : mt y = some N) (h : ee_rn mt Γ K S f d hs y N np n stops ts st = true) (hnp : np = x0.length) (hw : as.length = n)
    (hsx : ∀ g ∈ hs, ee_SndX (p, l, e, R, s, m, args, below, meth, cd) (A, D, dA, ex, x0, as, [], N.2.2.2.1) g)
    (hF : ee_F (p, l, e, R, s, m, args, below, meth, cd) (A, D, dA, ex, x0, as, [], N.2.2.2.1) N.2.1.cls N.2.2.1 ee_tbl (N.2.1.name = "<init>") (d + 1) N.2.2.2.2.2.2.1 N.2.2.2.2.2.2.2)
    (k : ∀ t ∈ ts, ∀ (r : List Int32) (H : Heap) (lc : List Loc) (ls : Array Slot) (vs : List Value), ee_Con s A D dA ex x0 as [] N.2.2.2.1 t.2.1 t.2.2.1 t.2.2.2.1 t.2.2.2.2 [] (x0 ++ r) as H lc ls vs → W p l e R s m args below meth cd H lc 0 0 Q (F0 m t.1 ls vs))
    (C : ee_Con s A D dA ex x0 as [] N.2.2.2.1 st.2.1 st.2.2.1 st.2.2.2.1 st.2.2.2.2 [] x0 as H lc ls vs) : W p l e R s m args below meth cd H lc 0 0 Q (F0 m st.1 ls vs) := by
  unfold ee_rn at h
  split at h
  · rename_i outs hex
    refine ee_sound (K := K) (S := S) hT hΓ f _ _ _ _ _ _ outs N (p, l, e, R, s, m, args, below, meth, cd) (A, D, dA, ex, x0, as, [], N.2.2.2.1) Q hex hN hsx hF rfl (fun q hq => ?_) x0 as H lc ls vs C
    have hoo := List.all_eq_true.mp h q hq
    obtain ⟨k1, k2⟩ := ee_and hoo
    obtain ⟨k1, k3⟩ := of_decide_eq_true k1
    obtain ⟨t2, ht2, k4⟩ := List.any_eq_true.mp k2
    obtain ⟨k4, k5⟩ := ee_and k4
    have k4 := Nat.eq_of_beq_eq_true k4
    obtain ⟨σ, hσ⟩ := Option.isSome_iff_exists.mp k5
    obtain ⟨pc, lo, stk, w, iv, kc, ks, sv⟩ := q
    have k1 : kc = 0 := k1
    have k3 : ks = 0 := k3
    subst k1
    subst k3
    intro n3 as3 H3 lc3 ls3 vs3 C3
    obtain ⟨⟨r3, e4⟩, ⟨r4, e5⟩⟩ := C3.2.1
    have hn3 : np ≤ n3.length := by rw [hnp, e4, List.length_append]; omega
    obtain ⟨m1, m2, m3, m4, m5, m6⟩ := ee_mat.ok (q := (pc, lo, stk, w, iv, 0, 0, sv)) C3 hn3 hσ
    have has : as3 = as := by
      rw [e5, List.length_append] at m1
      have : r4 = [] := List.length_eq_zero_iff.mp (by omega)
      rw [e5, this, List.append_nil]
    subst has
    have k4 : t2.1 = pc := k4
    show W p l e R s m args below meth cd H3 lc3 0 0 Q (F0 m pc ls3 vs3)
    rw [← k4]
    have hpre := ee_prefix (σ := σ) e4 hnp.symm
    rw [hpre] at m3 m4 m5 m6
    exact k t2 ht2 _ H3 lc3 ls3 vs3 ⟨m3, ⟨⟨_, rfl⟩, [], (List.append_nil _).symm⟩, m4, m5, trivial, m6⟩
  · cases h
