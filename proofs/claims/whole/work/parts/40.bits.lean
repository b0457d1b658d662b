/-! bits of an int -/
def tb (x : Int32) (k : Nat) : Bool := x.toBitVec.getLsbD k
theorem tb_and (a b : Int32) (k : Nat) : tb (a &&& b) k = (tb a k && tb b k) := by simp [tb]
theorem tb_or (a b : Int32) (k : Nat) : tb (a ||| b) k = (tb a k || tb b k) := by simp [tb]
theorem tb_xor (a b : Int32) (k : Nat) : tb (a ^^^ b) k = (tb a k ^^ tb b k) := by simp [tb]
theorem tb_m1 : ∀ k, k < 32 → tb (-1) k = true := by decide +kernel
theorem tb_0 (k : Nat) : tb 0 k = false := by simp [tb]
theorem tb_not (a : Int32) {k : Nat} (hk : k < 32) : tb (a ^^^ (-1)) k = !tb a k := by rw [tb_xor, tb_m1 k hk]; cases tb a k <;> rfl
theorem tb_hi (a : Int32) {k : Nat} (hk : 32 ≤ k) : tb a k = false := by unfold tb; exact BitVec.getLsbD_of_ge _ _ hk
theorem tb_ext {a b : Int32} (h : ∀ k, k < 32 → tb a k = tb b k) : a = b := by
  apply Int32.toBitVec.inj
  apply BitVec.eq_of_getLsbD_eq
  intro i hi
  exact h i hi
theorem tb_zero {a : Int32} : a = 0 ↔ ∀ k, k < 32 → tb a k = false := ⟨fun h k _ => by rw [h]; exact tb_0 k, fun h => tb_ext (fun k hk => by rw [h k hk, tb_0])⟩
theorem tb_ne {a : Int32} (h : ¬ a = 0) : ∃ k, k < 32 ∧ tb a k = true := by
  refine Classical.byContradiction fun h1 => h (tb_zero.mpr fun k hk => ?_)
  rcases Bool.eq_false_or_eq_true (tb a k) with h2 | h2
  · exact absurd ⟨k, hk, h2⟩ h1
  · exact h2
def b1 (j : Nat) : Int32 := (1 : Int32) <<< (nI j &&& 31)
theorem tb_b1 : ∀ j, j < 32 → ∀ k, k < 32 → tb (b1 j) k = decide (j = k) := by decide +kernel
theorem tb_and_b1 {a : Int32} {j : Nat} (hj : j < 32) : a &&& b1 j = 0 ↔ tb a j = false := by
  refine ⟨fun h => ?_, fun h => tb_zero.mpr fun k hk => ?_⟩
  · have h1 := tb_zero.mp h j hj
    rw [tb_and, tb_b1 j hj j hj] at h1
    simpa using h1
  · rw [tb_and, tb_b1 j hj k hk]
    by_cases e : j = k
    · subst e; rw [h]; rfl
    · simp [e]
theorem nat_or_int (x : Int32) : ((x.toBitVec.toNat : Int) = x.toInt ∧ 0 ≤ x.toInt) ∨ ((x.toBitVec.toNat : Int) = x.toInt + 4294967296 ∧ x.toInt < 0) := by
  have h1 : x.toInt = x.toBitVec.toInt := rfl
  have h2 := BitVec.toInt_eq_toNat_cond x.toBitVec
  have h3 := x.toBitVec.isLt
  rw [h1, h2]
  split <;> omega
theorem nI_nat {x : Int32} : x = nI x.toBitVec.toNat := by
  apply Int32.toBitVec.inj
  show x.toBitVec = (Int32.ofNat x.toBitVec.toNat).toBitVec
  simp [Int32.ofNat]
