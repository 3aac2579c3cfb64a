/-! the law: stretches in which cells may be made -/
def ee_rnK (mt : Nat → Option ee_me) (Γ : List ee_ct) (K : List (Nat × Nat × List Nat)) (S : List (Nat × Nat × Nat)) (f d : Nat) (hs : List ee_H) (y : Nat) (N : ee_me) (np : Nat) (stops : List Nat) (ts : List ee_tg) (kc0 ks0 kc1 ks1 : Nat) (st : ee_tg) : Bool := match ee_exec mt Γ K S f d stops false hs y N (st.1, st.2.1, st.2.2.1, st.2.2.2.1, st.2.2.2.2, kc0, ks0, []) with
  | some outs => outs.all (fun q => decide (q.2.2.2.2.2.1 = kc1 ∧ q.2.2.2.2.2.2.1 = ks1) && ts.any (fun t => Nat.beq t.1 q.1 && (ee_mat np t.2.2.2.1.length t.2.1 t.2.2.1 t.2.2.2.1 t.2.2.2.2 q).isSome))
  | none => false
def ee_rnKs (mt : Nat → Option ee_me) (Γ : List ee_ct) (K : List (Nat × Nat × List Nat)) (S : List (Nat × Nat × Nat)) (f d : Nat) (hs : List ee_H) (y : Nat) (N : ee_me) (np : Nat) (stops : List Nat) (ts : List ee_tg) (kc0 ks0 kc1 ks1 : Nat) (st : ee_tg) (b i : Nat) : Bool := match ee_exec mt Γ K S f d stops false hs y N (st.1, st.2.1, st.2.2.1, st.2.2.2.1, st.2.2.2.2, kc0, ks0, []) with
  | some outs => ((outs.drop (i * b)).take b).all (fun q => decide (q.2.2.2.2.2.1 = kc1 ∧ q.2.2.2.2.2.2.1 = ks1) && ts.any (fun t => Nat.beq t.1 q.1 && (ee_mat np t.2.2.2.1.length t.2.1 t.2.2.1 t.2.2.2.1 t.2.2.2.2 q).isSome))
  | none => false
def ee_rnKn (mt : Nat → Option ee_me) (Γ : List ee_ct) (K : List (Nat × Nat × List Nat)) (S : List (Nat × Nat × Nat)) (f d : Nat) (hs : List ee_H) (y : Nat) (N : ee_me) (_np : Nat) (stops : List Nat) (_ts : List ee_tg) (kc0 ks0 _kc1 _ks1 : Nat) (st : ee_tg) (n : Nat) : Bool := match ee_exec mt Γ K S f d stops false hs y N (st.1, st.2.1, st.2.2.1, st.2.2.2.1, st.2.2.2.2, kc0, ks0, []) with
  | some outs => Nat.ble outs.length n
  | none => false
/-- the ends of a stretch, some at a time -/
theorem ee_rnKs.all {mt : Nat → Option ee_me} {Γ : List ee_ct} {K : List (Nat × Nat × List Nat)} {S : List (Nat × Nat × Nat)} {f d : Nat} {hs : List ee_H} {y : Nat} {N : ee_me} {np : Nat} {stops : List Nat} {ts : List ee_tg} {kc0 ks0 kc1 ks1 : Nat} {st : ee_tg} {b n : Nat} (h0 : ee_rnKn mt Γ K S f d hs y N np stops ts kc0 ks0 kc1 ks1 st (n * b) = true) (h : ∀ i, i < n → ee_rnKs mt Γ K S f d hs y N np stops ts kc0 ks0 kc1 ks1 st b i = true) : ee_rnK mt Γ K S f d hs y N np stops ts kc0 ks0 kc1 ks1 st = true := by
  unfold ee_rnKn at h0
  unfold ee_rnKs at h
  unfold ee_rnK
  generalize ee_exec mt Γ K S f d stops false hs y N (st.1, st.2.1, st.2.2.1, st.2.2.2.1, st.2.2.2.2, kc0, ks0, []) = o at h0 h ⊢
  cases o with
  | none => cases h0
  | some outs =>
    have h0 : outs.length ≤ n * b := Nat.le_of_ble_eq_true h0
    refine List.all_eq_true.mpr (fun q hq => ?_)
    obtain ⟨j, hj, e⟩ := List.getElem_of_mem hq
    have hb : 0 < b := by
      rcases Nat.eq_zero_or_pos b with hb | hb
      · rw [hb, Nat.mul_zero] at h0
        omega
      · exact hb
    have hi : j / b < n := Nat.div_lt_of_lt_mul (by rw [Nat.mul_comm]; omega)
    have h2 : ((outs.drop (j / b * b)).take b)[j % b]? = some q := by
      rw [List.getElem?_take_of_lt (Nat.mod_lt j hb), List.getElem?_drop, Nat.div_add_mod' j b]
      exact List.getElem?_eq_some_iff.mpr ⟨hj, e⟩
    exact List.all_eq_true.mp (h (j / b) hi) q (List.mem_of_getElem? h2)
theorem ee_runK {mt : Nat → Option ee_me} {Γ : List ee_ct} {K : List (Nat × Nat × List Nat)} {S : List (Nat × Nat × Nat)} {f d : Nat} {hs : List ee_H} {y : Nat} {N : ee_me} {np kc0 ks0 kc1 ks1 : Nat} {stops : List Nat} {ts : List ee_tg} {st : ee_tg} {p : Program} {l : Launch} {e : Env} {R : Room} {s : State} {m : MethodId} {args : Array Value} {below : List Frame} {meth : Method} {cd : Code} {A : Nat → Prop} {D : va_G} {dA : Nat → ClassId} {ex : Nat → Nat} {x0 : List Int32} {as : List Nat} {Q : State → Prop} {H : Heap} {lc : List Loc} {ls : Array Slot} {vs : List Value}
    (hT : ee_Tb mt) (hΓ : ∀ c ∈ Γ, ee_Ct mt c) (hN : mt y = some N) (h : ee_rnK mt Γ K S f d hs y N np stops ts kc0 ks0 kc1 ks1 st = true) (hnp : np = x0.length)
    (hsx : ∀ g ∈ hs, ee_SndX (p, l, e, R, s, m, args, below, meth, cd) (A, D, dA, ex, x0, [], [], N.2.2.2.1) g)
    (hF : ee_F (p, l, e, R, s, m, args, below, meth, cd) (A, D, dA, ex, x0, [], [], N.2.2.2.1) N.2.1.cls N.2.2.1 ee_tbl (N.2.1.name = "<init>") (d + 1) N.2.2.2.2.2.2.1 N.2.2.2.2.2.2.2)
    (k : ∀ t ∈ ts, ∀ (r : List Int32) (as : List Nat) (H : Heap) (lc : List Loc) (ls : Array Slot) (vs : List Value), ee_Con s A D dA ex x0 [] [] N.2.2.2.1 t.2.1 t.2.2.1 t.2.2.2.1 t.2.2.2.2 [] (x0 ++ r) as H lc ls vs → W p l e R s m args below meth cd H lc kc1 ks1 Q (F0 m t.1 ls vs))
    (C : ee_Con s A D dA ex x0 [] [] N.2.2.2.1 st.2.1 st.2.2.1 st.2.2.2.1 st.2.2.2.2 [] x0 as H lc ls vs) : W p l e R s m args below meth cd H lc kc0 ks0 Q (F0 m st.1 ls vs) := by
  unfold ee_rnK at h
  split at h
  · rename_i outs hex
    refine ee_sound (K := K) (S := S) hT hΓ f _ _ _ _ _ _ outs N (p, l, e, R, s, m, args, below, meth, cd) (A, D, dA, ex, x0, [], [], N.2.2.2.1) Q hex hN hsx hF rfl (fun q hq => ?_) x0 as H lc ls vs C
    have hoo := List.all_eq_true.mp h q hq
    obtain ⟨k1, k2⟩ := ee_and hoo
    obtain ⟨k1, k3⟩ := of_decide_eq_true k1
    obtain ⟨t2, ht2, k4⟩ := List.any_eq_true.mp k2
    obtain ⟨k4, k5⟩ := ee_and k4
    have k4 := Nat.eq_of_beq_eq_true k4
    obtain ⟨σ, hσ⟩ := Option.isSome_iff_exists.mp k5
    obtain ⟨pc, lo, stk, w, iv, kc, ks, sv⟩ := q
    have k1 : kc = kc1 := k1
    have k3 : ks = ks1 := k3
    subst k1
    subst k3
    intro n3 as3 H3 lc3 ls3 vs3 C3
    obtain ⟨⟨r3, e4⟩, -⟩ := C3.2.1
    have hn3 : np ≤ n3.length := by rw [hnp, e4, List.length_append]; omega
    obtain ⟨m1, m2, m3, m4, m5, m6⟩ := ee_mat.ok (q := (pc, lo, stk, w, iv, kc, ks, sv)) C3 hn3 hσ
    have k4 : t2.1 = pc := k4
    show W p l e R s m args below meth cd H3 lc3 kc ks Q (F0 m pc ls3 vs3)
    rw [← k4]
    have hpre := ee_prefix (σ := σ) e4 hnp.symm
    rw [hpre] at m3 m4 m5 m6
    exact k t2 ht2 _ as3 H3 lc3 ls3 vs3 ⟨m3, ⟨⟨_, rfl⟩, as3, rfl⟩, m4, m5, trivial, m6⟩
  · cases h
section CON
variable {s : State} {A : Nat → Prop} {D : va_G} {dA : Nat → ClassId} {ex : Nat → Nat} {x0 : List Int32} {nL : Nat} {lo : List (Nat × Value)} {stk : List Value} {w : ee_w} {iv : ee_iv} {ns : List Int32} {as : List Nat} {H : Heap} {lc : List Loc} {ls : Array Slot} {vs : List Value}
/-- another pattern, the stack left out -/
theorem ee_Con.re (C : ee_Con s A D dA ex x0 [] [] nL lo stk w iv [] ns as H lc ls vs) {n : Nat} {tlo : List (Nat × Value)} {tw : ee_w} {tiv : ee_iv} (h : (ee_mat 0 n tlo [] tw tiv (0, lo, [], w, iv, 0, 0, [])).isSome = true) : ∃ ns', ee_Con s A D dA ex [] [] [] nL tlo [] tw tiv [] ns' as H lc ls [] := by
  obtain ⟨σ, hσ⟩ := Option.isSome_iff_exists.mp h
  obtain ⟨c1, c2, c3, c4, c5, c6⟩ := C
  have C' : ee_Con s A D dA ex x0 [] [] nL lo [] w iv [] ns as H lc ls [] := ⟨c1, c2, c3, trivial, c5, c6⟩
  obtain ⟨m1, m2, m3, m4, m5, m6⟩ := ee_mat.ok (q := (0, lo, [], w, iv, 0, 0, [])) C' (Nat.zero_le _) hσ
  exact ⟨_, m3, ⟨⟨_, rfl⟩, _, rfl⟩, m4, trivial, trivial, m6⟩
/-- numbers ahead, and one more value of the frame -/
theorem ee_Con.ext3 (C : ee_Con s A D dA ex x0 [] [] nL lo stk w iv [] ns as H lc ls vs) {e : List Int32} {iv' : ee_iv} (h : ee_ok (ns ++ e) iv') {i : Nat} {v x : Value} (l3 : ∃ lv, lv_has ls nL lv ∧ (i, v) ∈ lv) (hx : ee_v (ns ++ e) as ex x v) : ee_Con s A D dA ex (ns ++ e) [] [] nL (lo ++ [(i, x)]) stk w iv' [] (ns ++ e) as H lc ls vs := by
  obtain ⟨c1, c2, ⟨lv, c3, c3l⟩, c4, c5, ws, c6w, hP, hD, hS⟩ := C
  have mv : ∀ x v, ee_v ns as ex x v → ee_v (ns ++ e) as ex x v := fun x v q => by simpa using ee_v.mono e [] q
  obtain ⟨lv2, h1, h2⟩ := l3
  refine ⟨h, ⟨⟨[], (List.append_nil _).symm⟩, _, rfl⟩, ⟨lv ++ [(i, v)], ⟨c3.1, c3.2.1, fun q hq => ?_⟩, (c3l.imp (fun a b q => ⟨q.1, mv _ _ q.2⟩)).app ⟨⟨rfl, hx⟩, trivial⟩⟩, c4.imp mv, trivial, ws, c6w.mono e, hP, hD, hS⟩
  rcases List.mem_append.mp hq with hq | hq
  · exact c3.2.2 q hq
  · have := List.mem_singleton.mp hq
    subst this
    exact h1.2.2 _ h2
theorem ee_Con.rig (C : ee_Con s A D dA ex x0 [] [] nL lo stk w iv [] ns as H lc ls vs) : ee_Con s A D dA ex ns [] [] nL lo stk w iv [] ns as H lc ls vs := by
  obtain ⟨c1, c2, c⟩ := C
  exact ⟨c1, ⟨⟨[], (List.append_nil _).symm⟩, _, rfl⟩, c⟩
theorem ee_Con.restk (C : ee_Con s A D dA ex x0 [] [] nL lo stk w iv [] ns as H lc ls vs) {stk' vs' : List Value} (h : ee_all (ee_v ns as ex) stk' vs') : ee_Con s A D dA ex x0 [] [] nL lo stk' w iv [] ns as H lc ls vs' := by
  obtain ⟨c1, c2, c3, -, c⟩ := C
  exact ⟨c1, c2, c3, h, c⟩
theorem ee_Con.getl (C : ee_Con s A D dA ex x0 [] [] nL lo stk w iv [] ns as H lc ls vs) {i : Nat} {x : Value} (hx : lo.lookup i = some x) : ∃ v, (∃ lv, lv_has ls nL lv ∧ (i, v) ∈ lv) ∧ ee_v ns as ex x v := by
  obtain ⟨c1, c2, ⟨lv, c3, c3l⟩, -⟩ := C
  obtain ⟨v, h1, h2⟩ := ee_look c3l hx
  exact ⟨v, ⟨lv, c3, h1⟩, h2⟩
end CON
/-! arrays that are all 0 -/
theorem ee_c.zz {ns : List Int32} {as : List Nat} {ex : Nat → Nat} {dA : Nat → ClassId} {n : Nat} {ov : List (Nat × Value)} {e : va_E} (h : ee_c ns as ex dA (.inr (0, n, 0, [(n, 0, 0)], ov)) e) (ho : ov.all (fun q => decide (q.2 = .int 0)) = true) : ∃ f : Nat → Int32, e = .inl (dA 0, n, .inl f) ∧ ∀ j, j < n → f j = 0 := by
  obtain ⟨f, rfl, hf⟩ := h.ints (by decide)
  refine ⟨f, rfl, fun j hj => ?_⟩
  have h1 := hf j hj
  unfold ee_el at h1
  cases hl : ov.lookup j with
  | some x =>
    rw [hl] at h1
    have hx : x = .int 0 := of_decide_eq_true (List.all_eq_true.mp ho (j, x) (ee_mem_lookup hl))
    subst hx
    exact Value.int.inj (show Value.int (f j) = Value.int 0 from h1)
  | none =>
    rw [hl] at h1
    simp only at h1
    rw [ee_sgp_eq, ee_sg1_cons, if_pos (show ee_rj 0 j < n from hj)] at h1
    have h1 : (0 : Int) ≤ (f j).toInt ∧ (f j).toInt ≤ 0 := h1
    have e0 : (0 : Int32).toInt = 0 := by decide
    exact ee_int_inj (by rw [e0]; omega)
theorem ee_wr.z2 {ns : List Int32} {as : List Nat} {ex : Nat → Nat} {dA : Nat → ClassId} {w : ee_w} {ws : va_W} {i : Nat} {ov : List (Nat × Value)} (h : ee_wr ns as ex dA w ws) (hi : w[i]? = some (.inr (0, 2, 0, [(2, 0, 0)], ov))) (ho : ov.all (fun q => decide (q.2 = .int 0)) = true) : ee_wr ns as ex dA (w.set i (.inr (0, 2, 0, [(2, 0, 0)], [(0, .int 0), (1, .int 0)]))) ws := by
  obtain ⟨⟨a, e⟩, g1, g2⟩ := h.2.get hi
  obtain ⟨f, e1, hf⟩ := ee_c.zz g2 ho
  have e1 : e = .inl (dA 0, 2, .inl f) := e1
  subst e1
  refine h.same g1 (ee_c.mk (by decide) (fun j hj => ?_))
  match j, hj with
  | 0, hj => exact (show Value.int (f 0) = Value.int 0 by rw [hf 0 hj])
  | 1, hj => exact (show Value.int (f 1) = Value.int 0 by rw [hf 1 hj])
  | j + 2, hj => omega
theorem ee_wr.z4 {ns : List Int32} {as : List Nat} {ex : Nat → Nat} {dA : Nat → ClassId} {w : ee_w} {ws : va_W} {i n : Nat} {ov : List (Nat × Value)} (h : ee_wr ns as ex dA w ws) (hi : w[i]? = some (.inr (0, n, 0, [(n, 0, 0)], ov))) : ee_wr ns as ex dA (w.set i (.inr (4, n, 0, [], [(0, .int 0), (1, .int 0), (2, .int 0), (3, .int 0), (4, .int 0), (5, .int 0), (6, .int 0), (7, .int 0)]))) ws := by
  obtain ⟨⟨a, e⟩, g1, g2⟩ := h.2.get hi
  obtain ⟨f, e1, -⟩ := ee_c.ints g2 (by decide)
  have e1 : e = .inl (dA 0, n, .inl f) := e1
  subst e1
  exact h.same g1 (ee_c.mkc ⟨0, 0, 0, 0, 0, 0, 0, 0, rfl, rfl, ⟨rfl, rfl, rfl⟩, ⟨rfl, rfl, rfl⟩, fun _ h => absurd h (by decide), fun _ h => absurd h (by decide)⟩)
/-! the law's entry -/
theorem ee_arrK {s : State} {args : Array Value} {ty : FieldType} (hp : ∀ C, ty ≠ .object C) (h : (Cond.arrayClass ty).before args s = true) : ∃ cA : ClassId, ArrOfT s cA ty ∧ va_RA s cA ty := by
  obtain ⟨cA, kA, comp, hfind, hk, hkind⟩ := Cond.arrayClass_spec h
  refine ⟨cA, fun n z => ⟨fun k h => (by cases h), kA, hk, comp, hkind⟩, ?_⟩
  cases ty with
  | object C => exact absurd rfl (hp C)
  | _ => exact hfind
def ee_tm (i : Nat) : Term := .string RX5 (ee_six.getD i 0)
theorem ee_tt1 : ∀ i, i < 2 → Cond.exactly (ee_tm i) "java/lang/String" ∈ flatC (Jvm.Cond.and given_1 narrow_1) := by decide +kernel
theorem ee_tt2 : ∀ i, i < 2 → Cond.eq (.field (ee_tm i) "java/lang/String" "coder" "B") (.int 0) ∈ flatC (Jvm.Cond.and given_1 narrow_1) := by decide +kernel
theorem ee_tt3 : ∀ i, i < 2 → Cond.arrayOf (.field (ee_tm i) "java/lang/String" "value" "[B") .byte ∈ flatC (Jvm.Cond.and given_1 narrow_1) := by decide +kernel
theorem ee_tt4 : ∀ i, i < 2 → Cond.eq (.length (.field (ee_tm i) "java/lang/String" "value" "[B")) (.int (Int32.ofNat (ee_len.getD i 0))) ∈ flatC (Jvm.Cond.and given_1 narrow_1) := by decide +kernel
theorem ee_tt5 : ∀ i, i < 2 → ∀ j, j < ee_len.getD i 0 → Cond.eq (.elem (.field (ee_tm i) "java/lang/String" "value" "[B") (.int (Int32.ofNat j))) (.int ((ee_byt.getD i []).getD j 0)) ∈ flatC (Jvm.Cond.and given_1 narrow_1) := by decide +kernel
theorem ee_tt6 : Cond.not (Cond.eq (ee_tm 0) (ee_tm 1)) ∈ flatC (Jvm.Cond.and given_1 narrow_1) := by decide +kernel
theorem ee_tt7 : Cond.eq (.static "java/lang/String" "COMPACT_STRINGS" "Z") (.int 1) ∈ flatC (Jvm.Cond.and given_1 narrow_1) := by decide +kernel
theorem ee_tt8 : Cond.isRef (.static "jdk/internal/util/Preconditions" "SIOOBE_FORMATTER" "Ljava/util/function/BiFunction;") ∈ flatC (Jvm.Cond.and given_1 narrow_1) := by decide +kernel
set_option maxHeartbeats 2000000 in
theorem ee_ext {s : State} {b L : Nat} {xs : Nat → Int32} (hts : ∀ w ∈ lw_tbl, w.before #[Value.ref b] s = true) (hX : va_X b L xs s s.heap) (hbl : b < s.heap.size) (hgv : (Jvm.Cond.and given_1 narrow_1).before #[Value.ref b] s = true) :
    ∃ ex : Nat → Nat, ex 2000000 = b ∧ ee_Ext s (fun q : Nat => s.heap.size ≤ q) ex := by
  have hs := flat_of_before _ hgv
  have hA : ∀ a : Nat, a < s.heap.size → ¬ (fun q : Nat => s.heap.size ≤ q) a := fun a h => Nat.not_le.mpr h
  obtain ⟨adK, adV, g1, g2⟩ := vk_Sof (N := 2) (tm := ee_tm) (len := ee_len) (byt := ee_byt) (A := fun q : Nat => s.heap.size ≤ q) (by decide) (fun i hi => hs _ (ee_tt1 i hi)) (fun i hi => hs _ (ee_tt2 i hi)) (fun i hi => hs _ (ee_tt3 i hi)) (fun i hi => hs _ (ee_tt4 i hi)) (fun i hi j hj => hs _ (ee_tt5 i hi j hj)) (fun i j hi hj hne => by
    rcases (show i = 0 ∨ i = 1 by omega) with rfl | rfl
    · rcases (show j = 0 ∨ j = 1 by omega) with rfl | rfl
      · exact absurd rfl hne
      · exact Or.inl (hs _ ee_tt6)
    · rcases (show j = 0 ∨ j = 1 by omega) with rfl | rfl
      · exact Or.inr (hs _ ee_tt6)
      · exact absurd rfl hne) hA
  obtain ⟨ex, e1, e2, e3⟩ : ∃ ex : Nat → Nat, ex 2000000 = b ∧ (∀ i, i < 2 → ex (1000000 + i) = adK i) ∧ (∀ i, i < 2 → ex (1000100 + i) = adV i) :=
    ⟨fun k => if k = 2000000 then b else if k < 1000100 then adK (k - 1000000) else adV (k - 1000100), by simp, fun i hi => by
      show (if 1000000 + i = 2000000 then b else if 1000000 + i < 1000100 then adK (1000000 + i - 1000000) else adV (1000000 + i - 1000100)) = adK i
      rw [if_neg (by omega), if_pos (by omega), Nat.add_sub_cancel_left], fun i hi => by
      show (if 1000100 + i = 2000000 then b else if 1000100 + i < 1000100 then adK (1000100 + i - 1000000) else adV (1000100 + i - 1000100)) = adV i
      rw [if_neg (by omega), if_neg (by omega), Nat.add_sub_cancel_left]⟩
  refine ⟨ex, e1, ⟨fun i hi => ?_, fun i j hi hj h => ?_⟩, fun i hi => ?_, va_Zof (hts _ ee_ls0) (hts _ ee_ini0) (va_eqi (hs _ ee_tt7)) hA, va_Zqof (hts _ ee_ls1) (hts _ ee_ini1) (hs _ ee_tt8) hA⟩
  · simp only [e2 i hi, e3 i hi]
    exact g1.1 i hi
  · simp only [e2 i hi, e2 j hj] at h
    exact g1.2 i j hi hj h
  · rw [e2 i hi]
    exact vk_R.of (hts _ (ee_srf i hi)) (g2 i hi)
