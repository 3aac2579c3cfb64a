/-! handlers: arithmetic, comparisons -/
theorem ee_rng (x : Int32) : -2147483648 ≤ x.toInt ∧ x.toInt ≤ 2147483647 := by
  have h1 := Int32.le_toInt x
  have h2 := Int32.toInt_lt x
  omega
theorem ee_bmod {z : Int} (h1 : -2147483648 ≤ z) (h2 : z ≤ 2147483647) : z.bmod (2 ^ 32) = z := by
  rw [Int.bmod_eq_of_le (by omega) (by omega)]
def ee_op (ins : ClassFile.Instr) (x y : Int32) : Int32 := match ins with
  | .iadd => x + y
  | .isub => x - y
  | .imul => x * y
  | .iand => x &&& y
  | .ior => x ||| y
  | .ixor => x ^^^ y
  | .ishl => x <<< (y &&& 31)
  | .ishr => x >>> (y &&& 31)
  | .iushr => (x.toUInt32 >>> (y.toUInt32 &&& Int32.toUInt32 31)).toInt32
  | .idiv => x / y
  | .irem => x - x / y * y
  | _ => 0
def ee_rg (a b : Int) : Int × Int := if -2147483648 ≤ a ∧ b ≤ 2147483647 then (a, b) else (-2147483648, 2147483647)
theorem ee_rg.ok {a b : Int} {z : Int32} {t : Int} (e : z.toInt = t.bmod (2 ^ 32)) (h1 : a ≤ t) (h2 : t ≤ b) : (ee_rg a b).1 ≤ z.toInt ∧ z.toInt ≤ (ee_rg a b).2 := by
  unfold ee_rg
  by_cases h : -2147483648 ≤ a ∧ b ≤ 2147483647
  · rw [if_pos h, e, ee_bmod (by omega) (by omega)]
    exact ⟨h1, h2⟩
  · rw [if_neg h]
    exact ee_rng z
theorem ee_toNat {y : Int32} (h : 0 ≤ y.toInt) : (y.toBitVec.toNat : Int) = y.toInt ∧ y.toBitVec.toNat < 2 ^ 31 := by
  have h1 : y.toInt = y.toBitVec.toInt := rfl
  have h2 := BitVec.toInt_eq_toNat_cond y.toBitVec
  have h3 := y.toBitVec.isLt
  rw [h1] at h ⊢
  rw [h2] at h ⊢
  split at h
  · rename_i q
    rw [if_pos q]
    exact ⟨rfl, by omega⟩
  · omega
theorem ee_and_le (x y : Int32) (h : 0 ≤ y.toInt) : 0 ≤ (x &&& y).toInt ∧ (x &&& y).toInt ≤ y.toInt := by
  obtain ⟨h1, h2⟩ := ee_toNat h
  have e : (x &&& y).toBitVec.toNat = x.toBitVec.toNat &&& y.toBitVec.toNat := by
    rw [show (x &&& y).toBitVec = x.toBitVec &&& y.toBitVec from rfl, BitVec.toNat_and]
  have hle : (x &&& y).toBitVec.toNat ≤ y.toBitVec.toNat := by rw [e]; exact Nat.and_le_right
  have q : (x &&& y).toInt = ((x &&& y).toBitVec.toNat : Int) := by
    show (x &&& y).toBitVec.toInt = _
    rw [BitVec.toInt_eq_toNat_cond, if_pos (by omega)]
  omega
theorem ee_and_comm (x y : Int32) : x &&& y = y &&& x := by
  apply Int32.toBitVec_inj.mp
  show x.toBitVec &&& y.toBitVec = y.toBitVec &&& x.toBitVec
  exact BitVec.and_comm _ _
theorem ee_zero {z : Int32} (h1 : 0 ≤ z.toInt) (h2 : z.toInt ≤ 0) : z = 0 := Int32.toInt_inj.mp (by rw [Int32.toInt_zero]; omega)
theorem ee_cast {x : Int32} (h1 : 0 ≤ x.toInt) : (x.toBitVec.toNat : Int) = x.toInt := (ee_toNat h1).1
theorem ee_ofBits {x : Int32} {n : Nat} (h : x.toBitVec.toNat = n) (hn : n < 2 ^ 31) : x.toInt = (n : Int) := by
  show x.toBitVec.toInt = _
  rw [BitVec.toInt_eq_toNat_cond, if_pos (by omega), h]
/-- the least 2^k - 1 that is no less -/
def ee_up (m : Int) : Int := match [(1 : Int), 3, 7, 15, 31, 63, 127, 255, 511, 1023, 65535].find? (fun k => decide (m ≤ k)) with
  | some k => k
  | none => 2147483647
theorem ee_up.ok {m : Int} (h : m ≤ 2147483647) : m ≤ ee_up m ∧ ∃ n : Nat, n ≤ 31 ∧ ee_up m = 2 ^ n - 1 := by
  unfold ee_up
  cases hf : [(1 : Int), 3, 7, 15, 31, 63, 127, 255, 511, 1023, 65535].find? (fun k => decide (m ≤ k)) with
  | none => exact ⟨h, 31, by decide, by decide⟩
  | some k =>
    have h1 : decide (m ≤ k) = true := List.find?_some (p := fun k : Int => decide (m ≤ k)) hf
    have h1 := of_decide_eq_true h1
    have h2 := List.mem_of_find?_eq_some hf
    refine ⟨h1, ?_⟩
    simp only [List.mem_cons, List.not_mem_nil, or_false] at h2
    rcases h2 with rfl | rfl | rfl | rfl | rfl | rfl | rfl | rfl | rfl | rfl | rfl
    · exact ⟨1, by decide, by decide⟩
    · exact ⟨2, by decide, by decide⟩
    · exact ⟨3, by decide, by decide⟩
    · exact ⟨4, by decide, by decide⟩
    · exact ⟨5, by decide, by decide⟩
    · exact ⟨6, by decide, by decide⟩
    · exact ⟨7, by decide, by decide⟩
    · exact ⟨8, by decide, by decide⟩
    · exact ⟨9, by decide, by decide⟩
    · exact ⟨10, by decide, by decide⟩
    · exact ⟨16, by decide, by decide⟩
theorem ee_pow_lt {n k : Nat} {a : Int} (hk : k ≤ 31) (ha : (n : Int) ≤ a) (he : a = 2 ^ k - 1) : n < 2 ^ k := by
  have h1 : (n : Int) < 2 ^ k := by omega
  have h2 : ((2 ^ k : Nat) : Int) = 2 ^ k := by simp
  omega
theorem ee_orx {x y z : Int32} {b e : Int} (op : Nat → Nat → Nat) (hop : ∀ {m n k : Nat}, m < 2 ^ k → n < 2 ^ k → op m n < 2 ^ k) (hz : z.toBitVec.toNat = op x.toBitVec.toNat y.toBitVec.toNat) (h1 : 0 ≤ x.toInt) (h2 : x.toInt ≤ b) (h3 : 0 ≤ y.toInt) (h4 : y.toInt ≤ e) : 0 ≤ z.toInt ∧ z.toInt ≤ ee_up (ee_mx b e) := by
  have hb := ee_rng x
  have he := ee_rng y
  by_cases hm : ee_mx b e ≤ 2147483647
  · obtain ⟨g1, k, g2, g3⟩ := ee_up.ok hm
    have m1 : b ≤ ee_mx b e := by unfold ee_mx; split <;> omega
    have m2 : e ≤ ee_mx b e := by unfold ee_mx; split <;> omega
    have x1 := ee_cast h1
    have y1 := ee_cast h3
    have l1 : x.toBitVec.toNat < 2 ^ k := ee_pow_lt g2 (a := ee_up (ee_mx b e)) (by omega) g3
    have l2 : y.toBitVec.toNat < 2 ^ k := ee_pow_lt g2 (a := ee_up (ee_mx b e)) (by omega) g3
    have l3 := hop l1 l2
    have l4 : 2 ^ k ≤ 2 ^ 31 := Nat.pow_le_pow_right (by decide) g2
    rw [ee_ofBits hz (by omega)]
    have h2 : ((2 ^ k : Nat) : Int) = 2 ^ k := by simp
    omega
  · have e0 : ee_up (ee_mx b e) = 2147483647 := by
      unfold ee_up
      rw [show [(1 : Int), 3, 7, 15, 31, 63, 127, 255, 511, 1023, 65535].find? (fun k => decide (ee_mx b e ≤ k)) = none from ?_]
      rw [List.find?_eq_none]
      intro k hk
      simp only [List.mem_cons, List.not_mem_nil, or_false] at hk
      rcases hk with rfl | rfl | rfl | rfl | rfl | rfl | rfl | rfl | rfl | rfl | rfl <;> simp <;> omega
    rw [e0]
    have x1 := (ee_toNat h1).2
    have y1 := (ee_toNat h3).2
    have l3 := hop x1 y1
    rw [ee_ofBits hz l3]
    omega
theorem ee_or {x y : Int32} {b e : Int} (h1 : 0 ≤ x.toInt) (h2 : x.toInt ≤ b) (h3 : 0 ≤ y.toInt) (h4 : y.toInt ≤ e) : 0 ≤ (x ||| y).toInt ∧ (x ||| y).toInt ≤ ee_up (ee_mx b e) :=
  ee_orx (fun m n => m ||| n) (fun h1 h2 => Nat.or_lt_two_pow h1 h2) (by rw [show (x ||| y).toBitVec = x.toBitVec ||| y.toBitVec from rfl, BitVec.toNat_or]) h1 h2 h3 h4
theorem ee_xor {x y : Int32} {b e : Int} (h1 : 0 ≤ x.toInt) (h2 : x.toInt ≤ b) (h3 : 0 ≤ y.toInt) (h4 : y.toInt ≤ e) : 0 ≤ (x ^^^ y).toInt ∧ (x ^^^ y).toInt ≤ ee_up (ee_mx b e) :=
  ee_orx (fun m n => m ^^^ n) (fun h1 h2 => Nat.xor_lt_two_pow h1 h2) (by rw [show (x ^^^ y).toBitVec = x.toBitVec ^^^ y.toBitVec from rfl, BitVec.toNat_xor]) h1 h2 h3 h4
theorem ee_of {x : Int32} {n : Nat} (h : x.toInt = (n : Int)) : x = Int32.ofNat n := by
  rw [← Int32.ofInt_toInt x, h]; rfl
theorem ee_shl0 : ∀ n, n < 4 → ∀ k, k < 21 → ((Int32.ofNat n) <<< ((Int32.ofNat k) &&& 31)).toInt = (n : Int) * 2 ^ k := by decide +kernel
theorem ee_shl {x y : Int32} (h1 : 0 ≤ x.toInt) (h2 : x.toInt ≤ 3) (h3 : 0 ≤ y.toInt) (h4 : y.toInt ≤ 20) : (x <<< (y &&& 31)).toInt = x.toInt * 2 ^ y.toInt.toNat := by
  have e1 := ee_of (x := x) (n := x.toInt.toNat) (by omega)
  have e2 := ee_of (x := y) (n := y.toInt.toNat) (by omega)
  have h := ee_shl0 x.toInt.toNat (by omega) y.toInt.toNat (by omega)
  rw [← e1, ← e2] at h
  rw [h, show ((x.toInt.toNat : Nat) : Int) = x.toInt by omega]
theorem ee_shr {x y : Int32} (h1 : 0 ≤ x.toInt) : 0 ≤ (x >>> y).toInt ∧ (x >>> y).toInt ≤ x.toInt := by
  have e : (x >>> y).toInt = x.toInt >>> (y.toBitVec.smod 32).toNat := by
    show (x >>> y).toBitVec.toInt = x.toBitVec.toInt >>> _
    rw [show (x >>> y).toBitVec = x.toBitVec.sshiftRight' (y.toBitVec.smod 32) from rfl]
    exact BitVec.toInt_sshiftRight'
  rw [e, Int.shiftRight_eq_div_pow]
  have hp : (0 : Int) < ((2 ^ (y.toBitVec.smod 32).toNat : Nat) : Int) := by
    have := Nat.two_pow_pos (y.toBitVec.smod 32).toNat
    omega
  exact ⟨Int.ediv_nonneg h1 (by omega), Int.ediv_le_self _ h1⟩
theorem ee_div {x y : Int32} (h1 : 0 ≤ x.toInt) (h2 : 1 ≤ y.toInt) : (x / y).toInt = x.toInt / y.toInt := by
  have hx := ee_rng x
  rw [Int32.toInt_div, Int.tdiv_eq_ediv_of_nonneg h1]
  have g1 : 0 ≤ x.toInt / y.toInt := Int.ediv_nonneg h1 (by omega)
  have g2 : x.toInt / y.toInt ≤ x.toInt := Int.ediv_le_self _ h1
  exact ee_bmod (by omega) (by omega)
theorem ee_rem {x y : Int32} (h1 : 0 ≤ x.toInt) (h2 : 1 ≤ y.toInt) : (x - x / y * y).toInt = x.toInt % y.toInt := by
  have hx := ee_rng x
  have g1 : 0 ≤ x.toInt / y.toInt := Int.ediv_nonneg h1 (by omega)
  have g3 : 0 ≤ x.toInt % y.toInt := Int.emod_nonneg _ (by omega)
  have g4 : x.toInt % y.toInt + x.toInt / y.toInt * y.toInt = x.toInt := Int.emod_add_ediv_mul x.toInt y.toInt
  have g5 : 0 ≤ x.toInt / y.toInt * y.toInt := Int.mul_nonneg g1 (by omega)
  rw [Int32.toInt_sub, Int32.toInt_mul, ee_div h1 h2]
  generalize x.toInt / y.toInt * y.toInt = t at g4 g5 ⊢
  rw [ee_bmod (z := t) (by omega) (by omega), ee_bmod (by omega) (by omega)]
  omega
/-- bounds of what comes -/
def ee_ap (ins : ClassFile.Instr) (a b d e : Int) : Int × Int := match ins with
  | .iadd => ee_rg (a + d) (b + e)
  | .isub => ee_rg (a - e) (b - d)
  | .imul => if 0 ≤ a ∧ 0 ≤ d then ee_rg (a * d) (b * e) else (-2147483648, 2147483647)
  | .idiv => if 0 ≤ a ∧ 1 ≤ d then (0, b / d) else (-2147483648, 2147483647)
  | .irem => if 0 ≤ a ∧ 1 ≤ d then (0, ee_mn b (e - 1)) else (-2147483648, 2147483647)
  | .iand => if 0 ≤ d then (0, e) else if 0 ≤ a then (0, b) else (-2147483648, 2147483647)
  | .ior => if 0 ≤ a ∧ 0 ≤ d then (0, ee_up (ee_mx b e)) else (-2147483648, 2147483647)
  | .ixor => if 0 ≤ a ∧ 0 ≤ d then (0, ee_up (ee_mx b e)) else (-2147483648, 2147483647)
  | .ishl => if (0 ≤ a ∧ b ≤ 3) ∧ 0 ≤ d ∧ e ≤ 20 then (a * 2 ^ d.toNat, b * 2 ^ e.toNat) else (-2147483648, 2147483647)
  | .ishr => if 0 ≤ a then (0, b) else (-2147483648, 2147483647)
  | _ => (-2147483648, 2147483647)
theorem ee_mulb {a b d e p q : Int} (h0 : 0 ≤ a) (h0' : 0 ≤ d) (h1 : a ≤ p) (h2 : p ≤ b) (h3 : d ≤ q) (h4 : q ≤ e) : a * d ≤ p * q ∧ p * q ≤ b * e :=
  ⟨Int.mul_le_mul h1 h3 h0' (by omega), Int.mul_le_mul h2 h4 (by omega) (by omega)⟩
theorem ee_ap.ok {ins : ClassFile.Instr} {a b d e : Int} {x y : Int32} (h1 : a ≤ x.toInt) (h2 : x.toInt ≤ b) (h3 : d ≤ y.toInt) (h4 : y.toInt ≤ e) : (ee_ap ins a b d e).1 ≤ (ee_op ins x y).toInt ∧ (ee_op ins x y).toInt ≤ (ee_ap ins a b d e).2 := by
  cases ins with
  | iadd => exact ee_rg.ok (Int32.toInt_add x y) (by omega) (by omega)
  | isub => exact ee_rg.ok (Int32.toInt_sub x y) (by omega) (by omega)
  | imul =>
    simp only [ee_ap, ee_op]
    by_cases q : 0 ≤ a ∧ 0 ≤ d
    · rw [if_pos q]
      have := ee_mulb q.1 q.2 h1 h2 h3 h4
      exact ee_rg.ok (Int32.toInt_mul x y) this.1 this.2
    · rw [if_neg q]; exact ee_rng _
  | idiv =>
    simp only [ee_ap, ee_op]
    by_cases q : 0 ≤ a ∧ 1 ≤ d
    · rw [if_pos q, ee_div (by omega) (by omega)]
      refine ⟨Int.ediv_nonneg (by omega) (by omega), ?_⟩
      show x.toInt / y.toInt ≤ b / d
      have g0 : 0 ≤ x.toInt / y.toInt := Int.ediv_nonneg (by omega) (by omega)
      have g3 : x.toInt / y.toInt * d ≤ x.toInt / y.toInt * y.toInt := Int.mul_le_mul_of_nonneg_left h3 g0
      have g4 : x.toInt / y.toInt * y.toInt ≤ x.toInt := Int.ediv_mul_le _ (by omega)
      have g1 : x.toInt / y.toInt ≤ x.toInt / d := Int.le_ediv_of_mul_le (by omega) (by omega)
      have g2 : x.toInt / d ≤ b / d := Int.ediv_le_ediv (by omega) h2
      omega
    · rw [if_neg q]; exact ee_rng _
  | irem =>
    simp only [ee_ap, ee_op]
    by_cases q : 0 ≤ a ∧ 1 ≤ d
    · rw [if_pos q, ee_rem (by omega) (by omega)]
      have g1 : 0 ≤ x.toInt % y.toInt := Int.emod_nonneg _ (by omega)
      have g2 : x.toInt % y.toInt < y.toInt := Int.emod_lt_of_pos _ (by omega)
      have g0 : 0 ≤ x.toInt / y.toInt := Int.ediv_nonneg (by omega) (by omega)
      have g5 : 0 ≤ x.toInt / y.toInt * y.toInt := Int.mul_nonneg g0 (by omega)
      have g4 : x.toInt % y.toInt + x.toInt / y.toInt * y.toInt = x.toInt := Int.emod_add_ediv_mul x.toInt y.toInt
      have g3 : x.toInt % y.toInt ≤ x.toInt := by omega
      exact ⟨g1, ee_le_mn (by omega) (by omega)⟩
    · rw [if_neg q]; exact ee_rng _
  | iand =>
    simp only [ee_ap, ee_op]
    by_cases q : 0 ≤ d
    · rw [if_pos q]
      have := ee_and_le x y (by omega)
      exact ⟨this.1, by show (x &&& y).toInt ≤ e; omega⟩
    · rw [if_neg q]
      by_cases r : 0 ≤ a
      · rw [if_pos r]
        have := ee_and_le y x (by omega)
        rw [ee_and_comm y x] at this
        exact ⟨this.1, by show (x &&& y).toInt ≤ b; omega⟩
      · rw [if_neg r]
        exact ee_rng _
  | ior =>
    simp only [ee_ap, ee_op]
    by_cases q : 0 ≤ a ∧ 0 ≤ d
    · rw [if_pos q]; exact ee_or (by omega) h2 (by omega) h4
    · rw [if_neg q]; exact ee_rng _
  | ixor =>
    simp only [ee_ap, ee_op]
    by_cases q : 0 ≤ a ∧ 0 ≤ d
    · rw [if_pos q]; exact ee_xor (by omega) h2 (by omega) h4
    · rw [if_neg q]; exact ee_rng _
  | ishl =>
    simp only [ee_ap, ee_op]
    by_cases q : (0 ≤ a ∧ b ≤ 3) ∧ 0 ≤ d ∧ e ≤ 20
    · rw [if_pos q, ee_shl (by omega) (by omega) (by omega) (by omega)]
      obtain ⟨⟨q1, q2⟩, q3, q4⟩ := q
      have pw : ∀ {m n : Nat}, m ≤ n → (2 : Int) ^ m ≤ 2 ^ n := fun {m n} hmn => by
        have := Nat.pow_le_pow_right (show 0 < 2 by decide) hmn
        have e1 : ((2 ^ m : Nat) : Int) = 2 ^ m := by simp
        have e2 : ((2 ^ n : Nat) : Int) = 2 ^ n := by simp
        omega
      have p0 : ∀ m : Nat, (0 : Int) ≤ 2 ^ m := fun m => Int.pow_nonneg (by decide)
      exact ee_mulb q1 (p0 _) h1 h2 (pw (by omega)) (pw (by omega))
    · rw [if_neg q]; exact ee_rng _
  | ishr =>
    simp only [ee_ap, ee_op]
    by_cases q : 0 ≤ a
    · rw [if_pos q]
      have := ee_shr (x := x) (y := y &&& 31) (by omega)
      exact ⟨this.1, by show (x >>> (y &&& 31)).toInt ≤ b; omega⟩
    · rw [if_neg q]; exact ee_rng _
  | _ => exact ee_rng _
def ee_add (ins : ClassFile.Instr) : Bool := match ins with
  | .iadd => true
  | _ => false
