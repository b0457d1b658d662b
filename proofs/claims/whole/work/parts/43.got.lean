/-! asks: what the class answers at a point is what the reference gets there -/
theorem g_tbn (n k : Nat) (hk : k < 32) : tb (nI n) k = n.testBit k := by
  unfold tb nI
  show (BitVec.ofNat 32 n).getLsbD k = _
  rw [BitVec.getLsbD_ofNat]
  simp [hk]
theorem g_rec : ∀ K, K < 4 → ∀ c, c < 9 → ∀ j, j < 32 → tb (recF (nI K) (nI c - 1)) j = (decide (j = 8 + K) || decide (j + 1 = 22 + c ∧ 0 < c)) := by decide +kernel
theorem g_ff : ∀ f, f < 6 → ∀ q, q < 4 → ∀ j, j < 32 → tb (ffacts (nI f) (nI q)) j = (decide (j = 12 + f) || decide (j = 18 + q)) := by decide +kernel
theorem g_ag : ∀ j, j < 32 → tb 1073741824 j = decide (j = 30) := by decide +kernel
theorem g_field : ∀ j, j < 32 → tb 4190208 j = decide (12 ≤ j ∧ j < 22) := by decide +kernel
theorem g_pair : ∀ j, j < 32 → tb (-4190209) j = !decide (12 ≤ j ∧ j < 22) := by decide +kernel
theorem g_sh0 (x : Int32) : x <<< ((0 : Int32) &&& 31) = x := by
  have e : (0 : Int32) &&& 31 = 0 := by decide
  rw [e]
  apply Int32.toBitVec.inj
  have := pk_shl x 0 0 (by decide)
  apply BitVec.eq_of_toNat_eq
  rw [this]
  have h := x.toBitVec.isLt
  simp only [Nat.pow_zero, Nat.mul_one]
  exact Nat.mod_eq_of_lt h
/-- a person's roles and a record's facts are in their bounds -/
def inR (ro : Int32) : Prop := ∃ n, n < 256 ∧ ro = nI n
def inK (ki co fa : Int32) : Prop := ∃ K c, K < 4 ∧ c < 9 ∧ ki = nI K ∧ co = nI c - 1 ∧ fa = recF ki co
def agI (b : Bool) : Int32 := if b then 1073741824 else 0
def ptF (ro fa : Int32) (b : Bool) (f q : Nat) : Int32 := pfacts ro fa (agI b) ||| ffacts (nI f) (nI q)
theorem g_pf {ro ki co fa : Int32} {b : Bool} {n K c : Nat} (hn : n < 256) (er : ro = nI n) (hK : K < 4) (hc : c < 9) (ek : ki = nI K) (ec : co = nI c - 1) (ef : fa = recF ki co) (j : Nat) (hj : j < 32) : tb (pfacts ro fa (agI b)) j = (n.testBit j || decide (j = 8 + K) || decide (j + 1 = 22 + c ∧ 0 < c) || (b && decide (j = 30))) := by
  unfold pfacts
  rw [g_sh0, tb_or, tb_or, er, g_tbn n j hj, ef, ek, ec, g_rec K hK c hc j hj]
  have e : tb (agI b) j = (b && decide (j = 30)) := by
    unfold agI
    cases b
    · rw [if_neg (by decide), tb_0]; rfl
    · rw [if_pos rfl, g_ag j hj]; rfl
  rw [e]
  simp only [Bool.or_assoc]
theorem g_lt {n j : Nat} (hn : n < 256) (hj : 8 ≤ j) : n.testBit j = false := Nat.testBit_lt_two_pow (Nat.lt_of_lt_of_le hn (show 2 ^ 8 ≤ 2 ^ j from Nat.pow_le_pow_right (n := 2) (by decide) hj))
/-- a pair's facts lie outside the fields' scope, a field's inside -/
theorem g_out {ro ki co fa : Int32} {b : Bool} (h1 : inR ro) (h2 : inK ki co fa) {j : Nat} (hj : j < 32) (h : 12 ≤ j ∧ j < 22) : tb (pfacts ro fa (agI b)) j = false := by
  obtain ⟨n, hn, er⟩ := h1
  obtain ⟨K, c, hK, hc, ek, ec, ef⟩ := h2
  rw [g_pf hn er hK hc ek ec ef j hj, g_lt hn (by omega)]
  simp only [Bool.false_or, Bool.or_eq_false_iff, decide_eq_false_iff_not, Bool.and_eq_false_iff]
  omega
theorem g_in {f q : Nat} (hf : f < 6) (hq : q < 4) {j : Nat} (hj : j < 32) (h : ¬ (12 ≤ j ∧ j < 22)) : tb (ffacts (nI f) (nI q)) j = false := by
  rw [g_ff f hf q hq j hj]
  simp only [Bool.or_eq_false_iff, decide_eq_false_iff_not]
  omega
theorem g_bit (F : Int32) (f0 dg j : Nat) (hj : j < 32) (e : f0 + dg = j) : (if F &&& ((1 : Int32) <<< ((nI f0 + nI dg) &&& 31)) = 0 then (0 : Int32) else 1) = if tb F j = true then 1 else 0 := by
  rw [nI_add, e, show (1 : Int32) <<< (nI j &&& 31) = b1 j from rfl]
  by_cases h : tb F j = true
  · rw [if_pos h, if_neg (fun h9 => by rw [(tb_and_b1 hj).mp h9] at h; exact absurd h (by decide))]
  · rw [if_neg h, if_pos ((tb_and_b1 hj).mpr (by simpa using h))]
theorem g_digit {s D : Int32} {n : Nat} (hn : n ≤ 8) (hD : D = nI n) (h : ¬ inF s 48 (47 + D) = 0) : ∃ dg, dg < n ∧ s - 48 = nI dg := by
  have h1 : ¬ s < 48 := fun h9 => h (if_pos h9)
  have h2 : ¬ 47 + D < s := fun h9 => h ((if_neg h1).trans (if_pos h9))
  rw [Int32.lt_iff_toInt_lt] at h1 h2
  have e1 : (47 + D : Int32) = nI (47 + n) := by rw [hD]; exact nI_add 47 n
  rw [e1, nI_toInt (by omega)] at h2
  rw [show (48 : Int32).toInt = 48 from by decide] at h1
  have hs : s = nI s.toInt.toNat := by
    apply Int32.toInt_inj.mp
    rw [nI_toInt (by omega)]
    omega
  refine ⟨s.toInt.toNat - 48, by omega, ?_⟩
  rw [hs, show (48 : Int32) = nI 48 from rfl, pk_sub (by omega)]
  congr 1
  rw [← hs]
theorem g_eqF (a b : Nat) (ha : a < 100) (hb : b < 100) : eqF (nI a) (nI b) = if a = b then 1 else 0 := by
  unfold eqF
  by_cases h : a = b
  · rw [if_pos h, if_pos (by rw [h])]
  · rw [if_neg h, if_neg (fun h9 => h ((nI_eq (by omega) (by omega)).mp h9))]
theorem g_hold {ro ki co : Nat → Int32} {u r f q : Nat} {fa ag : Int32} {b : Bool} (h1 : inR (ro u)) (h2 : inK (ki r) (co r) fa) (hf : f < 6) (hq : q < 4) (hag : ag = if b then 1 else 0) : hOk (holdM ro ki co u r (nI f) (nI q) ag) (ptF (ro u) fa b f q) := by
  obtain ⟨n, hn, er⟩ := h1
  obtain ⟨K, c, hK, hc, ek, ec, ef⟩ := h2
  have tF : ∀ j, j < 32 → tb (ptF (ro u) fa b f q) j = (n.testBit j || decide (j = 8 + K) || decide (j + 1 = 22 + c ∧ 0 < c) || (b && decide (j = 30)) || (decide (j = 12 + f) || decide (j = 18 + q))) := fun j hj => by
    unfold ptF
    rw [tb_or, g_pf hn er hK hc ek ec ef j hj, g_ff f hf q hq j hj]
  refine ⟨?_, fun z s hz hd hs => ?_⟩
  · have e := g_bit (ptF (ro u) fa b f q) 30 0 30 (by decide) rfl
    rw [show nI 30 + nI 0 = 30 from rfl] at e
    rw [e, tF 30 (by decide), g_lt hn (by decide)]
    rw [show holdM ro ki co u r (nI f) (nI q) ag 103 0 = ag from rfl, hag]
    have g1 : decide (30 = 8 + K) = false := by simp; omega
    have g2 : decide (30 + 1 = 22 + c ∧ 0 < c) = false := by simp; omega
    have g3 : decide (30 = 12 + f) = false := by simp; omega
    have g4 : decide (30 = 18 + q) = false := by simp; omega
    rw [g1, g2, g3, g4]
    cases b <;> rfl
  · by_cases z1 : z = 99
    · subst z1
      obtain ⟨dg, hdg, e⟩ := g_digit (n := 8) (by decide) rfl hs
      rw [e, show frst 99 = nI 22 from rfl, g_bit _ 22 dg (22 + dg) (by omega) rfl, tF _ (by omega), g_lt hn (by omega)]
      rw [show holdM ro ki co u r (nI f) (nI q) ag 99 (nI dg) = eqF (co r) (nI dg) from rfl, ec]
      have g1 : decide (22 + dg = 8 + K) = false := by simp; omega
      have g3 : decide (22 + dg = 12 + f) = false := by simp; omega
      have g4 : decide (22 + dg = 18 + q) = false := by simp; omega
      have g5 : decide (22 + dg = 30) = false := by simp; omega
      rw [g1, g3, g4, g5]
      unfold eqF
      by_cases hc0 : c = 0
      · subst hc0
        have : ¬ nI 0 - 1 = nI dg := fun h9 => by
          have := congrArg Int32.toInt h9
          rw [nI_toInt (show dg < 2 ^ 31 by omega), show (nI 0 - 1).toInt = -1 from by decide] at this
          omega
        rw [if_neg this]
        cases b <;> simp
      · rw [show nI c - 1 = nI (c - 1) from by rw [← nI_pred (c - 1), show c - 1 + 1 = c by omega]]
        by_cases h9 : c - 1 = dg
        · rw [if_pos (by rw [h9])]
          have : (22 + dg + 1 = 22 + c ∧ 0 < c) := by omega
          simp [this]
        · rw [if_neg (fun h8 => h9 ((nI_eq (by omega) (by omega)).mp h8))]
          have : ¬ (22 + dg + 1 = 22 + c ∧ 0 < c) := by omega
          simp only [decide_eq_false this]
          cases b <;> rfl
    by_cases z2 : z = 102
    · subst z2
      obtain ⟨dg, hdg, e⟩ := g_digit (n := 6) (by decide) rfl hs
      rw [e, show frst 102 = nI 12 from rfl, g_bit _ 12 dg (12 + dg) (by omega) rfl, tF _ (by omega), g_lt hn (by omega)]
      rw [show holdM ro ki co u r (nI f) (nI q) ag 102 (nI dg) = eqF (nI f) (nI dg) from rfl, g_eqF f dg (by omega) (by omega)]
      have g1 : decide (12 + dg = 8 + K) = false := by simp; omega
      have g2 : decide (12 + dg + 1 = 22 + c ∧ 0 < c) = false := by simp; omega
      have g4 : decide (12 + dg = 18 + q) = false := by simp; omega
      have g5 : decide (12 + dg = 30) = false := by simp; omega
      rw [g1, g2, g4, g5]
      by_cases h9 : f = dg
      · subst h9; cases b <;> simp
      · have : ¬ (12 + dg = 12 + f) := by omega
        rw [if_neg h9, decide_eq_false this]; cases b <;> rfl
    by_cases z4 : z = 107
    · subst z4
      obtain ⟨dg, hdg, e⟩ := g_digit (n := 4) (by decide) rfl hs
      rw [e, show frst 107 = nI 8 from rfl, g_bit _ 8 dg (8 + dg) (by omega) rfl, tF _ (by omega), g_lt hn (by omega)]
      rw [show holdM ro ki co u r (nI f) (nI q) ag 107 (nI dg) = eqF (ki r) (nI dg) from rfl, ek, g_eqF K dg (by omega) (by omega)]
      have g2 : decide (8 + dg + 1 = 22 + c ∧ 0 < c) = false := by simp; omega
      have g3 : decide (8 + dg = 12 + f) = false := by simp; omega
      have g4 : decide (8 + dg = 18 + q) = false := by simp; omega
      have g5 : decide (8 + dg = 30) = false := by simp; omega
      rw [g2, g3, g4, g5]
      by_cases h9 : K = dg
      · subst h9; cases b <;> simp
      · have : ¬ (8 + dg = 8 + K) := by omega
        rw [if_neg h9, decide_eq_false this]; cases b <;> rfl
    by_cases z5 : z = 112
    · subst z5
      obtain ⟨dg, hdg, e⟩ := g_digit (n := 4) (by decide) rfl hs
      rw [e, show frst 112 = nI 18 from rfl, g_bit _ 18 dg (18 + dg) (by omega) rfl, tF _ (by omega), g_lt hn (by omega)]
      rw [show holdM ro ki co u r (nI f) (nI q) ag 112 (nI dg) = eqF (nI q) (nI dg) from rfl, g_eqF q dg (by omega) (by omega)]
      have g1 : decide (18 + dg = 8 + K) = false := by simp; omega
      have g2 : decide (18 + dg + 1 = 22 + c ∧ 0 < c) = false := by simp; omega
      have g3 : decide (18 + dg = 12 + f) = false := by simp; omega
      have g5 : decide (18 + dg = 30) = false := by simp; omega
      rw [g1, g2, g3, g5]
      by_cases h9 : q = dg
      · subst h9; cases b <;> simp
      · have : ¬ (18 + dg = 18 + q) := by omega
        rw [if_neg h9, decide_eq_false this]; cases b <;> rfl
    by_cases z6 : z = 114
    · subst z6
      obtain ⟨dg, hdg, e⟩ := g_digit (n := 8) (by decide) rfl hs
      rw [e, show frst 114 = nI 0 from rfl, g_bit _ 0 dg dg (by omega) (by omega), tF _ (by omega)]
      rw [show holdM ro ki co u r (nI f) (nI q) ag 114 (nI dg) = eqF ((ro u >>> (nI dg &&& 31)) &&& 1) 1 from rfl, er]
      have e2 : nI dg &&& 31 = nI dg := by rw [pk_andN (show dg < 2 ^ 32 by omega) (m := 31) 5 (by decide), Nat.mod_eq_of_lt (by omega)]
      have e3 : ((nI dg).toBitVec.smod 32).toNat = dg := by
        have : ∀ dg, dg < 8 → ((nI dg).toBitVec.smod 32).toNat = dg := by decide +kernel
        exact this dg hdg
      rw [e2, pk_shrN (by omega) (nI dg) dg e3, pk_andN (show n / 2 ^ dg < 2 ^ 32 from Nat.lt_of_le_of_lt (Nat.div_le_self _ _) (by omega)) (m := 1) 1 (by decide), show (1 : Int32) = nI 1 from rfl, g_eqF _ 1 (by have := Nat.mod_lt (n / 2 ^ dg) (show 0 < 2 ^ 1 by decide); omega) (by decide)]
      have g1 : decide (dg = 8 + K) = false := by simp; omega
      have g2 : decide (dg + 1 = 22 + c ∧ 0 < c) = false := by simp; omega
      have g3 : decide (dg = 12 + f) = false := by simp; omega
      have g4 : decide (dg = 18 + q) = false := by simp; omega
      have g5 : decide (dg = 30) = false := by simp; omega
      rw [g1, g2, g3, g4, g5, Nat.testBit_eq_decide_div_mod_eq]
      rw [show (2 : Nat) ^ 1 = 2 from rfl]
      by_cases h9 : n / 2 ^ dg % 2 = 1
      · rw [if_pos h9, decide_eq_true h9]; cases b <;> rfl
      · rw [if_neg h9, decide_eq_false h9]; cases b <;> rfl
    · exact absurd (by unfold digF; simp [z1, z2, z4, z5, z6]) hd

/-! the sets of rules -/
theorem g_suitN (nd br : Nat → Int32) (ms fc : Int32) : ∀ n, n ≤ 32 → ∀ j, j < 32 → tb (suitN nd br ms fc n) j = decide (j < n ∧ nd j &&& ms = 0 ∧ br j &&& fc = 0) := by
  intro n
  induction n with
  | zero => intro _ j _; rw [show suitN nd br ms fc 0 = 0 from rfl, tb_0]; simp
  | succ n ih =>
    intro hn j hj
    have e : suitN nd br ms fc (n + 1) = if nd n &&& ms = 0 ∧ br n &&& fc = 0 then suitN nd br ms fc n ||| b1 n else suitN nd br ms fc n := rfl
    have h1 := ih (by omega) j hj
    rw [e]
    by_cases c : nd n &&& ms = 0 ∧ br n &&& fc = 0
    · rw [if_pos c, tb_or, h1, tb_b1 n (by omega) j hj]
      by_cases h2 : n = j
      · subst h2
        simp [c]
      · have h3 : (j < n + 1) = (j < n) := by apply propext; omega
        simp only [h3, decide_eq_false h2, Bool.or_false]
    · rw [if_neg c, h1]
      by_cases h2 : n = j
      · subst h2
        have h3 : ¬ (n < n ∧ nd n &&& ms = 0 ∧ br n &&& fc = 0) := fun h9 => absurd h9.1 (by omega)
        have h4 : ¬ (n < n + 1 ∧ nd n &&& ms = 0 ∧ br n &&& fc = 0) := fun h9 => c h9.2
        rw [decide_eq_false h3, decide_eq_false h4]
      · have h3 : (j < n + 1) = (j < n) := by apply propext; omega
        simp only [h3]
theorem g_imp {a m : Int32} : a &&& m = 0 ↔ ∀ k, k < 32 → tb a k = true → tb m k = false := by
  refine ⟨fun h k hk h1 => ?_, fun h => tb_zero.mpr fun k hk => ?_⟩
  · have := tb_zero.mp h k hk
    rw [tb_and, h1] at this
    simpa using this
  · rw [tb_and]
    cases h1 : tb a k
    · rfl
    · rw [h k hk h1]; rfl
/-- a rule suits at a point if it suits in both scopes -/
theorem g_both {nd br pf ff : Int32} (h1 : ∀ j, j < 32 → (12 ≤ j ∧ j < 22) → tb pf j = false) (h2 : ∀ j, j < 32 → ¬ (12 ≤ j ∧ j < 22) → tb ff j = false) :
    (nd &&& ((pf ||| ff) ^^^ (-1)) = 0 ∧ br &&& (pf ||| ff) = 0) ↔ ((nd &&& ((-4190209) &&& (pf ^^^ (-1))) = 0 ∧ br &&& pf = 0) ∧ (nd &&& (4190208 &&& (ff ^^^ (-1))) = 0 ∧ br &&& ff = 0)) := by
  simp only [g_imp]
  refine ⟨fun ⟨a, b⟩ => ⟨⟨fun k hk h => ?_, fun k hk h => ?_⟩, ⟨fun k hk h => ?_, fun k hk h => ?_⟩⟩, fun ⟨⟨a, b⟩, c, d⟩ => ⟨fun k hk h => ?_, fun k hk h => ?_⟩⟩
  · have := a k hk h
    rw [tb_not _ hk, tb_or] at this
    rw [tb_and, g_pair k hk, tb_not _ hk]
    by_cases h9 : 12 ≤ k ∧ k < 22
    · simp [h9]
    · rw [h2 k hk h9] at this
      simpa [h9] using this
  · have := b k hk h
    rw [tb_or] at this
    cases h3 : tb pf k <;> simp_all
  · have := a k hk h
    rw [tb_not _ hk, tb_or] at this
    rw [tb_and, g_field k hk, tb_not _ hk]
    by_cases h9 : 12 ≤ k ∧ k < 22
    · rw [h1 k hk h9] at this
      simpa [h9] using this
    · simp [h9]
  · have := b k hk h
    rw [tb_or] at this
    cases h3 : tb ff k <;> simp_all
  · rw [tb_not _ hk, tb_or]
    by_cases h9 : 12 ≤ k ∧ k < 22
    · have := c k hk h
      rw [tb_and, g_field k hk, tb_not _ hk] at this
      simp [h9] at this
      simp [this]
    · have := a k hk h
      rw [tb_and, g_pair k hk, tb_not _ hk] at this
      simp [h9] at this
      simp [this]
  · rw [tb_or, b k hk h, d k hk h]; rfl
/-- the answer's letters, as sets -/
def ansInv (ab mk sh : Int32) (sg : Nat → Int32) (bn : Nat) : Prop := (∀ j, j < bn → (sg (40 * j) = 115 ∧ tb sh j = true ∧ tb mk j = false ∧ tb ab j = false) ∨ (sg (40 * j) = 109 ∧ tb sh j = false ∧ tb mk j = true ∧ tb ab j = false) ∨ (sg (40 * j) = 97 ∧ tb sh j = false ∧ tb mk j = false ∧ tb ab j = true)) ∧ ∀ j, bn ≤ j → tb sh j = false ∧ tb mk j = false ∧ tb ab j = false
/-- Y is the set of the rules that the reference counts -/
def setOf (Y : Int32) (S to : Nat → Int32) (wo : Int32) (bn : Nat) : Prop := ∀ j, j < 32 → (tb Y j = true ↔ j < bn ∧ ¬ (to j = 0 ∨ nI j = wo ∨ S j = 0))
theorem g_gotP {Y ab mk sh : Int32} {S to sg : Nat → Int32} {wo : Int32} {bn : Nat} (hbn : bn ≤ 20) (hY : setOf Y S to wo bn) (hA : ansInv ab mk sh sg bn) : ∀ n, n ≤ bn →
    (((gotP S to sg wo n).2 = 0 ∧ ∀ j, j < n → tb Y j = true → tb ab j = false) ∨ (¬ (gotP S to sg wo n).2 = 0 ∧ ∃ j, j < n ∧ tb Y j = true ∧ tb ab j = true)) ∧
    ((gotP S to sg wo n).1 = 0 ∧ (∀ j, j < n → tb Y j = false) ∨ ∃ j, j < n ∧ tb Y j = true ∧ (∀ k, j < k → k < n → tb Y k = false) ∧ (gotP S to sg wo n).1 = if sg (40 * j) = 115 then 2 else 1) := by
  intro n
  induction n with
  | zero => intro _; exact ⟨Or.inl ⟨rfl, fun j hj => absurd hj (by omega)⟩, Or.inl ⟨rfl, fun j hj => absurd hj (by omega)⟩⟩
  | succ n ih =>
    intro hn
    obtain ⟨i1, i2⟩ := ih (by omega)
    have e : gotP S to sg wo (n + 1) = if to n = 0 ∨ nI n = wo ∨ S n = 0 then gotP S to sg wo n else (if sg (40 * n) = 115 then 2 else 1, if ¬ (gotP S to sg wo n).2 = 0 then 1 else if sg (40 * n) = 97 then 1 else 0) := rfl
    by_cases c : to n = 0 ∨ nI n = wo ∨ S n = 0
    · have hy : tb Y n = false := by
        rcases Bool.eq_false_or_eq_true (tb Y n) with h | h
        · exact absurd c ((hY n (by omega)).mp h).2
        · exact h
      rw [e, if_pos c]
      refine ⟨?_, ?_⟩
      · rcases i1 with ⟨a, b⟩ | ⟨a, j, b1, b2, b3⟩
        · exact Or.inl ⟨a, fun j hj h => by
            rcases Nat.lt_or_ge j n with h9 | h9
            · exact b j h9 h
            · rw [show j = n by omega, hy] at h; exact absurd h (by decide)⟩
        · exact Or.inr ⟨a, j, by omega, b2, b3⟩
      · rcases i2 with ⟨a, b⟩ | ⟨j, b1, b2, b3, b4⟩
        · exact Or.inl ⟨a, fun j hj => by
            rcases Nat.lt_or_ge j n with h9 | h9
            · exact b j h9
            · rw [show j = n by omega, hy]⟩
        · exact Or.inr ⟨j, by omega, b2, fun k h1 h2 => by
            rcases Nat.lt_or_ge k n with h9 | h9
            · exact b3 k h1 h9
            · rw [show k = n by omega, hy], b4⟩
    · have hy : tb Y n = true := (hY n (by omega)).mpr ⟨by omega, c⟩
      rw [e, if_neg c]
      refine ⟨?_, Or.inr ⟨n, by omega, hy, fun k h1 h2 => absurd h1 (by omega), rfl⟩⟩
      show (((if ¬ (gotP S to sg wo n).2 = 0 then (1 : Int32) else if sg (40 * n) = 97 then 1 else 0) = 0 ∧ _) ∨ (¬ (if ¬ (gotP S to sg wo n).2 = 0 then (1 : Int32) else if sg (40 * n) = 97 then 1 else 0) = 0 ∧ _))
      rcases i1 with ⟨a, b⟩ | ⟨a, j, b1, b2, b3⟩
      · rw [if_neg (fun h9 => h9 a)]
        rcases hA.1 n (by omega) with ⟨s1, s2, s3, s4⟩ | ⟨s1, s2, s3, s4⟩ | ⟨s1, s2, s3, s4⟩
        · rw [if_neg (by rw [s1]; decide)]
          exact Or.inl ⟨rfl, fun j hj h => by
            rcases Nat.lt_or_ge j n with h9 | h9
            · exact b j h9 h
            · rw [show j = n by omega]; exact s4⟩
        · rw [if_neg (by rw [s1]; decide)]
          exact Or.inl ⟨rfl, fun j hj h => by
            rcases Nat.lt_or_ge j n with h9 | h9
            · exact b j h9 h
            · rw [show j = n by omega]; exact s4⟩
        · rw [if_pos s1]
          exact Or.inr ⟨by decide, n, by omega, hy, s4⟩
      · rw [if_pos a]
        exact Or.inr ⟨by decide, j, by omega, b2, b3⟩
theorem nat_or_int2 (x : Int32) : ((x.toBitVec.toNat : Int) = x.toInt ∧ x.toBitVec.toNat < 2147483648) ∨ ((x.toBitVec.toNat : Int) = x.toInt + 4294967296 ∧ 2147483648 ≤ x.toBitVec.toNat) := by
  have h1 : x.toInt = x.toBitVec.toInt := rfl
  have h2 := BitVec.toInt_eq_toNat_cond x.toBitVec
  have h3 := x.toBitVec.isLt
  rw [h1, h2]
  split <;> omega
theorem g_top {A B : Int32} {j : Nat} (hj : j < 31) (h1 : tb A j = true) (h2 : ∀ k, j ≤ k → k < 32 → tb B k = false) (h3 : tb A 31 = false) : B < A := by
  have t : ∀ (x : Int32) (k : Nat), tb x k = x.toBitVec.toNat.testBit k := fun x k => rfl
  have hB : B.toBitVec.toNat < 2 ^ j := Nat.lt_pow_two_of_testBit _ (fun i hi => by
    rcases Nat.lt_or_ge i 32 with h | h
    · exact h2 i hi h
    · exact tb_hi B h)
  have hA : 2 ^ j ≤ A.toBitVec.toNat := by
    refine Nat.le_of_not_lt fun h => ?_
    have := Nat.testBit_lt_two_pow h
    rw [← t, h1] at this
    exact absurd this (by decide)
  have hA2 : A.toBitVec.toNat < 2 ^ 31 := Nat.lt_pow_two_of_testBit _ (fun i hi => by
    rcases Nat.lt_or_ge i 32 with h | h
    · rw [show i = 31 by omega]; exact h3
    · exact tb_hi A h)
  rw [Int32.lt_iff_toInt_lt]
  have a1 := nat_or_int2 A
  have b1 := nat_or_int2 B
  have hj2 : 2 ^ j ≤ 2 ^ 31 := Nat.pow_le_pow_right (by decide) (by omega)
  omega
theorem g_ans {Y ab mk sh : Int32} {S to sg : Nat → Int32} {wo : Int32} {bn : Nat} (hbn : bn ≤ 20) (hY : setOf Y S to wo bn) (hA : ansInv ab mk sh sg bn) : ansF ab mk sh Y = if (gotP S to sg wo bn).2 = 0 then (gotP S to sg wo bn).1 else 0 := by
  obtain ⟨i1, i2⟩ := g_gotP hbn hY hA bn (Nat.le_refl _)
  have hi : ∀ j, bn ≤ j → j < 32 → tb Y j = false := fun j h1 h2 => by
    rcases Bool.eq_false_or_eq_true (tb Y j) with h | h
    · exact absurd ((hY j h2).mp h).1 (by omega)
    · exact h
  unfold ansF
  rcases i1 with ⟨a, b⟩ | ⟨a, j, c1, c2, c3⟩
  · rw [if_pos a]
    have hab : Y &&& ab = 0 := tb_zero.mpr fun k hk => by
      rw [tb_and]
      rcases Nat.lt_or_ge k bn with h | h
      · cases h9 : tb Y k
        · rfl
        · rw [b k h h9]; rfl
      · rw [hi k h hk]; rfl
    rcases i2 with ⟨d1, d2⟩ | ⟨j, d1, d2, d3, d4⟩
    · rw [d1, if_pos (tb_zero.mpr fun k hk => by
        rcases Nat.lt_or_ge k bn with h | h
        · exact d2 k h
        · exact hi k h hk)]
    · have hY0 : ¬ Y = 0 := fun h9 => by rw [h9, tb_0] at d2; exact absurd d2 (by decide)
      have d3' : ∀ k, j < k → k < 32 → tb Y k = false := fun k h1 h2 => by
        rcases Nat.lt_or_ge k bn with h | h
        · exact d3 k h1 h
        · exact hi k h h2
      rw [if_neg hY0, if_pos hab, d4]
      rcases hA.1 j d1 with ⟨s1, s2, s3, s4⟩ | ⟨s1, s2, s3, s4⟩ | ⟨s1, s2, s3, s4⟩
      · rw [if_pos s1, if_neg (Int32.not_le.mpr (g_top (j := j) (by omega) (by rw [tb_and, d2, s2]; rfl) (fun k h1 h2 => by
          rw [tb_and]
          rcases Nat.lt_or_ge j k with h | h
          · rw [d3' k h h2]; rfl
          · rw [show k = j by omega, s3]; simp) (by rw [tb_and, hi 31 (by omega) (by decide)]; rfl)))]
      · have hlt : Y &&& sh < Y &&& mk := g_top (j := j) (by omega) (by rw [tb_and, d2, s3]; rfl) (fun k h1 h2 => by
          rw [tb_and]
          rcases Nat.lt_or_ge j k with h | h
          · rw [d3' k h h2]; rfl
          · rw [show k = j by omega, s2]; simp) (by rw [tb_and, hi 31 (by omega) (by decide)]; rfl)
        rw [if_pos (Int32.le_of_lt hlt), if_neg (show ¬ sg (40 * j) = 115 by rw [s1]; decide)]
      · rw [b j d1 d2] at s4; exact absurd s4 (by decide)
  · rw [if_neg a]
    have hY0 : ¬ Y = 0 := fun h9 => by rw [h9, tb_0] at c2; exact absurd c2 (by decide)
    have hab : ¬ Y &&& ab = 0 := fun h9 => by
      have := tb_zero.mp h9 j (by omega)
      rw [tb_and, c2, c3] at this
      exact absurd this (by decide)
    rw [if_neg hY0, if_neg hab]
/-- what is kept of the rules -/
def rlInv (nd br : Nat → Int32) (tl ab mk sh : Int32) (sg sz to : Nat → Int32) (mz : Nat → Nat) (bn : Nat) : Prop :=
  bn ≤ 20 ∧ rulesOk sg sz mz bn ∧ (∀ k, to k = 0 ∨ to k = 1) ∧ ansInv ab mk sh sg bn ∧ (∀ j, j < bn → (tb tl j = true ↔ ¬ to j = 0)) ∧ (∀ j, bn ≤ j → tb tl j = false) ∧ ∀ j, j < bn → ∀ h F, hOk h F → suM h sg (40 * j + mz j) 40 (40 * j + 1) 1 = sutI (nd j) (br j) F
theorem g_has {ap ar af at_ : Nat → Int32} {w r d : Int32} : ∀ n, hasM ap ar af at_ w r d n = if hasAg ap ar af at_ n w r d = true then 1 else 0 := by
  intro n
  unfold hasAg
  induction n with
  | zero => rfl
  | succ n ih =>
    rw [List.range_succ, List.any_append]
    show (if ¬ hasM ap ar af at_ w r d n = 0 then _ else _) = _
    rw [ih]
    cases h : (List.range n).any fun k => decide (ap k = w) && decide (ar k = r) && decide (af k ≤ d) && decide (d ≤ at_ k)
    · rw [if_neg (by decide)]
      simp only [List.any_cons, List.any_nil, Bool.or_false, Bool.false_or, Bool.and_eq_true, decide_eq_true_eq]
      by_cases c : ap n = w ∧ ar n = r ∧ af n ≤ d ∧ d ≤ at_ n
      · rw [if_pos c, if_pos (by simp [c])]
      · rw [if_neg c, if_neg (by intro h9; exact c ⟨h9.1.1.1, h9.1.1.2, h9.1.2, h9.2⟩)]
    · rfl
