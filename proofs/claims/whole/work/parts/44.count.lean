/-! bitCount of a set of at most twenty rules -/
theorem k_add {x y : Int32} (h : x &&& y = 0) : x ||| y = x + y := by
  apply Int32.toBitVec.inj
  have h2 : x.toBitVec &&& y.toBitVec = 0#32 := congrArg Int32.toBitVec h
  show x.toBitVec ||| y.toBitVec = x.toBitVec + y.toBitVec
  exact (BitVec.add_eq_or_of_and_eq_zero _ _ h2).symm
theorem tb_nat (x : Int32) (k : Nat) : tb x k = x.toBitVec.toNat.testBit k := rfl
theorem tb_us (x s : Int32) (k : Nat) (hs : ((s.toUInt32 &&& Int32.toUInt32 31).toBitVec % 32).toNat = k) (j : Nat) : tb (x.toUInt32 >>> (s.toUInt32 &&& Int32.toUInt32 31)).toInt32 j = tb x (k + j) := by
  rw [tb_nat, pk_ushr x s k hs, tb_nat, Nat.testBit_div_two_pow, Nat.add_comm]
theorem k_usor (x y s M : Int32) (k : Nat) (hs : ((s.toUInt32 &&& Int32.toUInt32 31).toBitVec % 32).toNat = k) : ((x ||| y).toUInt32 >>> (s.toUInt32 &&& Int32.toUInt32 31)).toInt32 &&& M = ((x.toUInt32 >>> (s.toUInt32 &&& Int32.toUInt32 31)).toInt32 &&& M) ||| ((y.toUInt32 >>> (s.toUInt32 &&& Int32.toUInt32 31)).toInt32 &&& M) := by
  apply tb_ext
  intro j hj
  rw [tb_and, tb_or, tb_and, tb_and, tb_us _ s k hs, tb_us _ s k hs, tb_us _ s k hs, tb_or]
  cases tb x (k + j) <;> cases tb y (k + j) <;> cases tb M j <;> rfl
theorem k_dis {x y : Int32} (h : x &&& y = 0) (k : Nat) : tb x k = false ∨ tb y k = false := by
  rcases Nat.lt_or_ge k 32 with hk | hk
  · have := tb_zero.mp h k hk
    rw [tb_and] at this
    cases h1 : tb x k <;> simp_all
  · exact Or.inl (tb_hi x hk)
theorem k_usdis {x y : Int32} (h : x &&& y = 0) (s M : Int32) (k : Nat) (hs : ((s.toUInt32 &&& Int32.toUInt32 31).toBitVec % 32).toNat = k) : ((x.toUInt32 >>> (s.toUInt32 &&& Int32.toUInt32 31)).toInt32 &&& M) &&& ((y.toUInt32 >>> (s.toUInt32 &&& Int32.toUInt32 31)).toInt32 &&& M) = 0 := by
  apply tb_zero.mpr
  intro j hj
  rw [tb_and, tb_and, tb_and, tb_us _ s k hs, tb_us _ s k hs]
  rcases k_dis h (k + j) with h1 | h1 <;> rw [h1] <;> simp
theorem k_bc1 {x y : Int32} (h : x &&& y = 0) : bc1 (x ||| y) = bc1 x + bc1 y := by
  unfold bc1
  rw [k_usor x y 1 1431655765 1 (by decide), k_add (k_usdis h 1 1431655765 1 (by decide)), k_add h]
  generalize (x.toUInt32 >>> (Int32.toUInt32 1 &&& Int32.toUInt32 31)).toInt32 &&& 1431655765 = a
  generalize (y.toUInt32 >>> (Int32.toUInt32 1 &&& Int32.toUInt32 31)).toInt32 &&& 1431655765 = b
  grind
theorem k_bc2 {x y : Int32} (h : x &&& y = 0) : bc2 (x ||| y) = bc2 x + bc2 y := by
  unfold bc2
  have e : (x ||| y) &&& 858993459 = (x &&& 858993459) ||| (y &&& 858993459) := by
    apply tb_ext
    intro j hj
    rw [tb_and, tb_or, tb_or, tb_and, tb_and]
    cases tb x j <;> cases tb y j <;> cases tb 858993459 j <;> rfl
  have d : (x &&& 858993459) &&& (y &&& 858993459) = 0 := by
    apply tb_zero.mpr
    intro j hj
    rw [tb_and, tb_and, tb_and]
    rcases k_dis h j with h1 | h1 <;> rw [h1] <;> simp
  rw [e, k_add d, k_usor x y 2 858993459 2 (by decide), k_add (k_usdis h 2 858993459 2 (by decide))]
  generalize (x.toUInt32 >>> (Int32.toUInt32 2 &&& Int32.toUInt32 31)).toInt32 &&& 858993459 = a
  generalize (y.toUInt32 >>> (Int32.toUInt32 2 &&& Int32.toUInt32 31)).toInt32 &&& 858993459 = b
  grind
def inM (u m : Int32) : Prop := u &&& (m ^^^ (-1)) = 0
theorem k_two {u v m m' : Int32} (huv : u &&& v = 0) (h1 : inM (bc1 u) m) (h2 : inM (bc1 v) m') (hm : m &&& m' = 0) : bc2 (bc1 (u ||| v)) = bc2 (bc1 u) + bc2 (bc1 v) ∧ inM (bc1 (u ||| v)) (m ||| m') := by
  have q1 := g_imp.mp h1
  have q2 := g_imp.mp h2
  have hd : bc1 u &&& bc1 v = 0 := tb_zero.mpr fun k hk => by
    rw [tb_and]
    cases e1 : tb (bc1 u) k
    · rfl
    · cases e2 : tb (bc1 v) k
      · rfl
      · have a1 := q1 k hk e1
        have a2 := q2 k hk e2
        rw [tb_not _ hk] at a1 a2
        rcases k_dis hm k with h9 | h9
        · rw [h9] at a1; exact absurd a1 (by decide)
        · rw [h9] at a2; exact absurd a2 (by decide)
  rw [k_bc1 huv, ← k_add hd]
  refine ⟨k_bc2 hd, ?_⟩
  unfold inM
  rw [g_imp]
  intro k hk h9
  rw [tb_not _ hk, tb_or]
  rw [tb_or] at h9
  cases e1 : tb (bc1 u) k
  · rw [e1] at h9
    have a2 := q2 k hk (by simpa using h9)
    rw [tb_not _ hk] at a2
    cases e3 : tb m' k
    · rw [e3] at a2; exact absurd a2 (by decide)
    · simp
  · have a1 := q1 k hk e1
    rw [tb_not _ hk] at a1
    cases e3 : tb m k
    · rw [e3] at a1; exact absurd a1 (by decide)
    · simp
def mi (i : Nat) : Int32 := nI (15 * 16 ^ i)
def nb (x : Int32) (i : Nat) : Nat := x.toBitVec.toNat / 16 ^ i % 16
def pc4 (n : Nat) : Nat := n % 2 + n / 2 % 2 + n / 4 % 2 + n / 8 % 2
theorem k_d1 : ∀ i, i < 5 → ∀ n, n < 16 → bc1 (nI (16 ^ i * n)) &&& (mi i ^^^ (-1)) = 0 := by decide +kernel
theorem k_d2 : ∀ i, i < 5 → ∀ n, n < 16 → bc2 (bc1 (nI (16 ^ i * n))) = nI (16 ^ i * pc4 n) := by decide +kernel
set_option maxRecDepth 100000 in
theorem k_d3 : ∀ a, a < 5 → ∀ b, b < 5 → ∀ c, c < 5 → ∀ d, d < 5 → ∀ e, e < 5 → bc5 (bc4 (bc3 (nI (a + 16 * b + 256 * c + 4096 * d + 65536 * e)))) &&& 63 = nI (a + b + c + d + e) := by decide +kernel
theorem k_mi : ∀ i, i < 5 → ∀ k, k < 32 → tb (mi i) k = decide (4 * i ≤ k ∧ k < 4 * i + 4) := by decide +kernel
theorem k_p16 (i : Nat) : 16 ^ i = 2 ^ (4 * i) := by rw [show (16 : Nat) = 2 ^ 4 from rfl, ← Nat.pow_mul]
theorem k_nib (x : Int32) (i : Nat) (hi : i < 5) : x &&& mi i = nI (16 ^ i * nb x i) := by
  apply tb_ext
  intro k hk
  rw [tb_and, k_mi i hi k hk, g_tbn _ k hk]
  unfold nb
  rw [k_p16, Nat.testBit_two_pow_mul, show (16 : Nat) = 2 ^ 4 from rfl, Nat.testBit_mod_two_pow, Nat.testBit_div_two_pow]
  by_cases h1 : 4 * i ≤ k
  · rw [show k - 4 * i + 4 * i = k by omega, tb_nat]
    by_cases h2 : k < 4 * i + 4
    · have h3 : k - 4 * i < 4 := by omega
      simp [h1, h2, h3]
    · have h3 : ¬ k - 4 * i < 4 := by omega
      simp [h2, h3]
  · simp [h1]
theorem k_all {x : Int32} (h : ∀ k, 20 ≤ k → tb x k = false) : x = (x &&& mi 0) ||| ((x &&& mi 1) ||| ((x &&& mi 2) ||| ((x &&& mi 3) ||| (x &&& mi 4)))) := by
  apply tb_ext
  intro k hk
  rw [tb_or, tb_or, tb_or, tb_or, tb_and, tb_and, tb_and, tb_and, tb_and, k_mi 0 (by decide) k hk, k_mi 1 (by decide) k hk, k_mi 2 (by decide) k hk, k_mi 3 (by decide) k hk, k_mi 4 (by decide) k hk]
  cases e : tb x k
  · simp
  · have hk2 : k < 20 := Nat.lt_of_not_le fun h9 => by rw [h k h9] at e; exact absurd e (by decide)
    simp only [Bool.true_and]
    have : (4 * 0 ≤ k ∧ k < 4 * 0 + 4) ∨ (4 * 1 ≤ k ∧ k < 4 * 1 + 4) ∨ (4 * 2 ≤ k ∧ k < 4 * 2 + 4) ∨ (4 * 3 ≤ k ∧ k < 4 * 3 + 4) ∨ (4 * 4 ≤ k ∧ k < 4 * 4 + 4) := by omega
    rcases this with h9 | h9 | h9 | h9 | h9 <;> rw [decide_eq_true h9] <;> simp
/-- how many of the first n bits are set -/
def pcN (x : Int32) : Nat → Nat
  | 0 => 0
  | k + 1 => pcN x k + (if tb x k = true then 1 else 0)
theorem k_pc4 (n : Nat) : pc4 n ≤ 4 := by unfold pc4; omega
theorem k_andor {x a b : Int32} (h : a &&& b = 0) : (x &&& a) &&& (x &&& b) = 0 := tb_zero.mpr fun k hk => by
  rw [tb_and, tb_and, tb_and]
  rcases k_dis h k with h1 | h1 <;> rw [h1] <;> simp
theorem k_or0 {a b c : Int32} (h1 : a &&& b = 0) (h2 : a &&& c = 0) : a &&& (b ||| c) = 0 := tb_zero.mpr fun k hk => by
  rw [tb_and, tb_or]
  rcases k_dis h1 k with h3 | h3
  · rw [h3]; rfl
  · rcases k_dis h2 k with h4 | h4
    · rw [h4]; rfl
    · rw [h3, h4]; simp
theorem k_bc {x : Int32} (h : ∀ k, 20 ≤ k → tb x k = false) : bcF x = nI (pc4 (nb x 0) + pc4 (nb x 1) + pc4 (nb x 2) + pc4 (nb x 3) + pc4 (nb x 4)) := by
  have hm : ∀ i, i < 5 → inM (bc1 (x &&& mi i)) (mi i) := fun i hi => by
    rw [k_nib x i hi]; exact k_d1 i hi _ (Nat.mod_lt _ (by decide))
  have hv : ∀ i, i < 5 → bc2 (bc1 (x &&& mi i)) = nI (16 ^ i * pc4 (nb x i)) := fun i hi => by
    rw [k_nib x i hi]; exact k_d2 i hi _ (Nat.mod_lt _ (by decide))
  have d01 : mi 0 &&& mi 1 = 0 := by decide
  have d02 : mi 0 &&& mi 2 = 0 := by decide
  have d03 : mi 0 &&& mi 3 = 0 := by decide
  have d04 : mi 0 &&& mi 4 = 0 := by decide
  have d12 : mi 1 &&& mi 2 = 0 := by decide
  have d13 : mi 1 &&& mi 3 = 0 := by decide
  have d14 : mi 1 &&& mi 4 = 0 := by decide
  have d23 : mi 2 &&& mi 3 = 0 := by decide
  have d24 : mi 2 &&& mi 4 = 0 := by decide
  have d34 : mi 3 &&& mi 4 = 0 := by decide
  obtain ⟨a1, b1⟩ := k_two (k_andor d34) (hm 3 (by decide)) (hm 4 (by decide)) d34
  obtain ⟨a2, b2⟩ := k_two (k_or0 (k_andor d23) (k_andor d24)) (hm 2 (by decide)) b1 (k_or0 d23 d24)
  obtain ⟨a3, b3⟩ := k_two (k_or0 (k_andor d12) (k_or0 (k_andor d13) (k_andor d14))) (hm 1 (by decide)) b2 (k_or0 d12 (k_or0 d13 d14))
  obtain ⟨a4, b4⟩ := k_two (k_or0 (k_andor d01) (k_or0 (k_andor d02) (k_or0 (k_andor d03) (k_andor d04)))) (hm 0 (by decide)) b3 (k_or0 d01 (k_or0 d02 (k_or0 d03 d04)))
  rw [← k_all h] at a4
  rw [a3, a2, a1, hv 0 (by decide), hv 1 (by decide), hv 2 (by decide), hv 3 (by decide), hv 4 (by decide), nI_add, nI_add, nI_add, nI_add] at a4
  unfold bcF
  rw [a4]
  have := k_d3 (pc4 (nb x 0)) (by have := k_pc4 (nb x 0); omega) (pc4 (nb x 1)) (by have := k_pc4 (nb x 1); omega) (pc4 (nb x 2)) (by have := k_pc4 (nb x 2); omega) (pc4 (nb x 3)) (by have := k_pc4 (nb x 3); omega) (pc4 (nb x 4)) (by have := k_pc4 (nb x 4); omega)
  rw [← this]
  congr 5
  omega
theorem k_bits (x : Int32) : pcN x 20 = pc4 (nb x 0) + pc4 (nb x 1) + pc4 (nb x 2) + pc4 (nb x 3) + pc4 (nb x 4) := by
  have t : ∀ k, (if tb x k = true then 1 else 0) = x.toBitVec.toNat / 2 ^ k % 2 := fun k => by
    rw [tb_nat, Nat.testBit_eq_decide_div_mod_eq]
    by_cases h : x.toBitVec.toNat / 2 ^ k % 2 = 1
    · rw [decide_eq_true h, if_pos rfl, h]
    · rw [decide_eq_false h, if_neg (by decide)]; omega
  have st : ∀ i, pcN x (4 * i + 4) = pcN x (4 * i) + pc4 (nb x i) := fun i => by
    have e : ∀ m, x.toBitVec.toNat / 2 ^ (4 * i + m) = x.toBitVec.toNat / 16 ^ i / 2 ^ m := fun m => by rw [Nat.pow_add, ← k_p16, Nat.div_div_eq_div_mul]
    have e4 : pcN x (4 * i + 4) = pcN x (4 * i) + (if tb x (4 * i) = true then 1 else 0) + (if tb x (4 * i + 1) = true then 1 else 0) + (if tb x (4 * i + 2) = true then 1 else 0) + (if tb x (4 * i + 3) = true then 1 else 0) := rfl
    have e0 := e 0
    rw [Nat.add_zero, Nat.pow_zero, Nat.div_one] at e0
    rw [e4, t, t, t, t, e0, e 1, e 2, e 3]
    unfold pc4 nb
    generalize x.toBitVec.toNat / 16 ^ i = Y
    omega
  have s0 := st 0
  have s1 := st 1
  have s2 := st 2
  have s3 := st 3
  have s4 := st 4
  have z : pcN x (4 * 0) = 0 := rfl
  have f1 : pcN x (4 * 0 + 4) = pcN x (4 * 1) := rfl
  have f2 : pcN x (4 * 1 + 4) = pcN x (4 * 2) := rfl
  have f3 : pcN x (4 * 2 + 4) = pcN x (4 * 3) := rfl
  have f4 : pcN x (4 * 3 + 4) = pcN x (4 * 4) := rfl
  have f5 : pcN x (4 * 4 + 4) = pcN x 20 := rfl
  omega
theorem k_count {x : Int32} (h : ∀ k, 20 ≤ k → tb x k = false) : bcF x = nI (pcN x 20) := by rw [k_bc h, k_bits]
