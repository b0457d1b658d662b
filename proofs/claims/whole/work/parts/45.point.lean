/-! at a point: the class's set of rules and the reference's; what a rule decides alone; idle -/
theorem p_emb {x : Int32} (h : inR x) : x &&& 128 = 0 ↔ x < 128 := by
  obtain ⟨n, hn, rfl⟩ := h
  have : ∀ n, n < 256 → (nI n &&& 128 = 0 ↔ nI n < 128) := by decide +kernel
  exact this n hn
theorem p_sut {nd br F : Int32} : ¬ sutI nd br F = 0 ↔ nd &&& (F ^^^ (-1)) = 0 ∧ br &&& F = 0 := by
  unfold sutI
  by_cases h : nd &&& (F ^^^ (-1)) = 0 ∧ br &&& F = 0
  · rw [if_pos h]; exact ⟨fun _ => h, fun _ => by decide⟩
  · rw [if_neg h]; exact ⟨fun h9 => absurd rfl h9, fun h9 => absurd h9 h⟩
section PP
variable {nd br ro em fa ki co ap ar af at_ sg sz to : Nat → Int32} {tl ab mk sh d : Int32} {bn an u r f q : Nat} {mz : Nat → Nat}
theorem p_set (I : rlInv nd br tl ab mk sh sg sz to mz bn) (hR : inR (ro u)) (hK : inK (ki r) (co r) (fa r)) (hf : f < 6) (hq : q < 4) (hem : ¬ (d ≤ em r ∧ ro u &&& 128 = 0)) : ∀ j, j < 32 →
    (tb (openF nd br tl bn (ro u) (em r) (fa r) d (hasAg ap ar af at_ an (nI u) (nI r) d) &&& ruleFF nd br tl bn (nI f) (nI q)) j = true ↔ j < bn ∧ ¬ to j = 0 ∧ ¬ suitW sg ro ki co ap ar af at_ an mz u r (nI f) (nI q) d j = 0) := by
  intro j hj
  obtain ⟨hbn, I1, I2, I3, I4, I5, I6⟩ := I
  unfold openF
  rw [if_neg hem]
  unfold rulePF ruleFF
  rw [tb_and, tb_and, tb_and, g_suitN _ _ _ _ bn (by omega) j hj, g_suitN _ _ _ _ bn (by omega) j hj]
  by_cases hjb : j < bn
  · have hS : suitW sg ro ki co ap ar af at_ an mz u r (nI f) (nI q) d j = sutI (nd j) (br j) (ptF (ro u) (fa r) (hasAg ap ar af at_ an (nI u) (nI r) d) f q) := I6 j hjb _ _ (g_hold hR hK hf hq (g_has an))
    rw [hS, p_sut]
    unfold ptF
    rw [g_both (fun j hj h => g_out hR hK hj h) (fun j hj h => g_in hf hq hj h), ← I4 j hjb]
    unfold agI
    simp only [Bool.and_eq_true, decide_eq_true_eq]
    constructor
    · rintro ⟨⟨⟨_, a1, a2⟩, a3⟩, ⟨_, a4, a5⟩, a6⟩
      exact ⟨hjb, a3, ⟨a1, a2⟩, a4, a5⟩
    · rintro ⟨_, a3, ⟨a1, a2⟩, a4, a5⟩
      exact ⟨⟨⟨hjb, a1, a2⟩, a3⟩, ⟨hjb, a4, a5⟩, a3⟩
  · rw [I5 j (by omega)]
    simp [hjb]
theorem p_got1 (I : rlInv nd br tl ab mk sh sg sz to mz bn) (hR : inR (ro u)) (hK : inK (ki r) (co r) (fa r)) (hf : f < 6) (hq : q < 4) :
    gotW to sg em ro ki co ap ar af at_ an bn mz u r (nI f) (nI q) d (-1) = ansF ab mk sh (openF nd br tl bn (ro u) (em r) (fa r) d (hasAg ap ar af at_ an (nI u) (nI r) d) &&& ruleFF nd br tl bn (nI f) (nI q)) := by
  unfold gotW gotM
  by_cases hem : d ≤ em r ∧ ro u &&& 128 = 0
  · rw [if_pos ⟨hem.1, (p_emb hR).mp hem.2⟩]
    unfold openF
    rw [if_pos hem, Int32.zero_and]
    rfl
  · rw [if_neg (fun h9 => hem ⟨h9.1, (p_emb hR).mpr h9.2⟩)]
    have hbn := I.1
    refine (g_ans hbn (fun j hj => ?_) I.2.2.2.1).symm
    rw [p_set I hR hK hf hq hem j hj]
    refine ⟨fun h => ⟨h.1, fun h9 => ?_⟩, fun h => ⟨h.1, fun h9 => h.2 (Or.inl h9), fun h9 => h.2 (Or.inr (Or.inr h9))⟩⟩
    rcases h9 with h9 | h9 | h9
    · exact h.2.1 h9
    · have := congrArg Int32.toInt h9
      rw [nI_toInt (by omega), show (-1 : Int32).toInt = -1 from by decide] at this
      omega
    · exact h.2.2 h9
theorem p_got2 (I : rlInv nd br tl ab mk sh sg sz to mz bn) (hR : inR (ro u)) (hK : inK (ki r) (co r) (fa r)) (hf : f < 6) (hq : q < 4) {i : Nat} (hi : i < bn) :
    gotW to sg em ro ki co ap ar af at_ an bn mz u r (nI f) (nI q) d (nI i) = ansF ab mk sh ((openF nd br tl bn (ro u) (em r) (fa r) d (hasAg ap ar af at_ an (nI u) (nI r) d) &&& ruleFF nd br tl bn (nI f) (nI q)) &&& (b1 i ^^^ (-1))) := by
  unfold gotW gotM
  by_cases hem : d ≤ em r ∧ ro u &&& 128 = 0
  · rw [if_pos ⟨hem.1, (p_emb hR).mp hem.2⟩]
    unfold openF
    rw [if_pos hem, Int32.zero_and, Int32.zero_and]
    rfl
  · rw [if_neg (fun h9 => hem ⟨h9.1, (p_emb hR).mpr h9.2⟩)]
    have hbn := I.1
    refine (g_ans hbn (fun j hj => ?_) I.2.2.2.1).symm
    rw [tb_and, Bool.and_eq_true, p_set I hR hK hf hq hem j hj, tb_not _ hj, tb_b1 i (by omega) j hj]
    simp only [Bool.not_eq_true', decide_eq_false_iff_not]
    refine ⟨fun h => ⟨h.1.1, fun h9 => ?_⟩, fun h => ⟨⟨h.1, fun h9 => h.2 (Or.inl h9), fun h9 => h.2 (Or.inr (Or.inr h9))⟩, fun h9 => h.2 (Or.inr (Or.inl (by rw [h9])))⟩⟩
    rcases h9 with h9 | h9 | h9
    · exact h.1.2.1 h9
    · exact h.2 ((nI_eq (by omega) (by omega)).mp h9).symm
    · exact h.1.2.2 h9
end PP
/-! a rule that decides alone -/
theorem n_top {Y ab mk sh : Int32} {sg : Nat → Int32} {bn l : Nat} (hbn : bn ≤ 20) (hA : ansInv ab mk sh sg bn) (hl : l < bn) (h1 : tb Y l = true) (h2 : ∀ k, l < k → k < 32 → tb Y k = false) (hab : Y &&& ab = 0) : ansF ab mk sh Y = if sg (40 * l) = 115 then 2 else 1 := by
  have hY0 : ¬ Y = 0 := fun h9 => by rw [h9, tb_0] at h1; exact absurd h1 (by decide)
  unfold ansF
  rw [if_neg hY0, if_pos hab]
  rcases hA.1 l hl with ⟨s1, s2, s3, s4⟩ | ⟨s1, s2, s3, s4⟩ | ⟨s1, s2, s3, s4⟩
  · have hlt : Y &&& mk < Y &&& sh := g_top (j := l) (by omega) (by rw [tb_and, h1, s2]; rfl) (fun k h3 h4 => by
      rw [tb_and]
      rcases Nat.lt_or_ge l k with h | h
      · rw [h2 k h h4]; rfl
      · rw [show k = l by omega, s3]; simp) (by rw [tb_and, h2 31 (by omega) (by decide)]; rfl)
    rw [if_neg (Int32.not_le.mpr hlt), if_pos s1]
  · have hlt : Y &&& sh < Y &&& mk := g_top (j := l) (by omega) (by rw [tb_and, h1, s3]; rfl) (fun k h3 h4 => by
      rw [tb_and]
      rcases Nat.lt_or_ge l k with h | h
      · rw [h2 k h h4]; rfl
      · rw [show k = l by omega, s2]; simp) (by rw [tb_and, h2 31 (by omega) (by decide)]; rfl)
    rw [if_pos (Int32.le_of_lt hlt), if_neg (show ¬ sg (40 * l) = 115 by rw [s1]; decide)]
  · have := tb_zero.mp hab l (by omega)
    rw [tb_and, h1, s4] at this
    exact absurd this (by decide)
theorem n_last (Y : Int32) : ∀ n, n ≤ 32 → ((∀ k, k < n → tb Y k = false) ∧ lastN Y n = 0) ∨ ∃ l, l < n ∧ tb Y l = true ∧ (∀ k, l < k → k < n → tb Y k = false) ∧ lastN Y n = b1 l := by
  intro n
  induction n with
  | zero => intro _; exact Or.inl ⟨fun k hk => absurd hk (by omega), rfl⟩
  | succ n ih =>
    intro hn
    have e : lastN Y (n + 1) = if Y &&& b1 n = 0 then lastN Y n else b1 n := rfl
    rw [e]
    by_cases c : Y &&& b1 n = 0
    · have c1 := (tb_and_b1 (by omega)).mp c
      rw [if_pos c]
      rcases ih (by omega) with ⟨a, b⟩ | ⟨l, a1, a2, a3, a4⟩
      · refine Or.inl ⟨fun k hk => ?_, b⟩
        rcases Nat.lt_or_ge k n with h | h
        · exact a k h
        · rw [show k = n by omega]; exact c1
      · refine Or.inr ⟨l, by omega, a2, fun k h1 h2 => ?_, a4⟩
        rcases Nat.lt_or_ge k n with h | h
        · exact a3 k h1 h
        · rw [show k = n by omega]; exact c1
    · rw [if_neg c]
      refine Or.inr ⟨n, by omega, ?_, fun k h1 h2 => absurd h1 (by omega), rfl⟩
      rcases Bool.eq_false_or_eq_true (tb Y n) with h | h
      · exact h
      · exact absurd ((tb_and_b1 (by omega)).mpr h) c
theorem n_le (x : Int32) (n : Nat) : pcN x n ≤ n := by
  induction n with
  | zero => exact Nat.le_refl 0
  | succ n ih => unfold pcN; split <;> omega
theorem n_one {x : Int32} {a n : Nat} (ha : a < n) (h : tb x a = true) : 1 ≤ pcN x n := by
  induction n with
  | zero => omega
  | succ n ih =>
    unfold pcN
    rcases Nat.lt_or_ge a n with h9 | h9
    · have := ih h9; omega
    · rw [show a = n by omega] at h; rw [h, if_pos rfl]; omega
theorem n_two {x : Int32} {a b n : Nat} (hab : a < b) (hb : b < n) (h1 : tb x a = true) (h2 : tb x b = true) : 2 ≤ pcN x n := by
  induction n with
  | zero => omega
  | succ n ih =>
    unfold pcN
    rcases Nat.lt_or_ge b n with h9 | h9
    · have := ih h9; omega
    · rw [show b = n by omega] at h2; rw [h2, if_pos rfl]
      have := n_one (n := n) (by omega) h1
      omega
theorem n_ex1 {x : Int32} {n : Nat} (h : 1 ≤ pcN x n) : ∃ a, a < n ∧ tb x a = true := by
  induction n with
  | zero => exact absurd (show _ ≤ 0 from h) (by decide)
  | succ n ih =>
    unfold pcN at h
    rcases Bool.eq_false_or_eq_true (tb x n) with h9 | h9
    · exact ⟨n, by omega, h9⟩
    · rw [h9, if_neg (by decide)] at h
      obtain ⟨a, a1, a2⟩ := ih (by omega)
      exact ⟨a, by omega, a2⟩
theorem n_ex2 {x : Int32} {n : Nat} (h : 2 ≤ pcN x n) (j : Nat) : ∃ a, a < n ∧ ¬ a = j ∧ tb x a = true := by
  induction n with
  | zero => exact absurd (show _ ≤ 0 from h) (by decide)
  | succ n ih =>
    unfold pcN at h
    rcases Bool.eq_false_or_eq_true (tb x n) with h9 | h9
    · rw [h9, if_pos rfl] at h
      by_cases e : n = j
      · obtain ⟨a, a1, a2⟩ := n_ex1 (x := x) (n := n) (by omega)
        exact ⟨a, by omega, by omega, a2⟩
      · exact ⟨n, by omega, e, h9⟩
    · rw [h9, if_neg (by decide)] at h
      obtain ⟨a, a1, a2, a3⟩ := ih (by omega)
      exact ⟨a, by omega, a2, a3⟩
theorem n_ab {Y ab mk sh : Int32} {a : Nat} (ha : a < 32) (h1 : tb Y a = true) (h2 : tb ab a = true) : ansF ab mk sh Y = 0 := by
  have hY0 : ¬ Y = 0 := fun h9 => by rw [h9, tb_0] at h1; exact absurd h1 (by decide)
  have hab : ¬ Y &&& ab = 0 := fun h9 => by
    have := tb_zero.mp h9 a ha
    rw [tb_and, h1, h2] at this
    exact absurd this (by decide)
  unfold ansF
  rw [if_neg hY0, if_neg hab]
theorem n_wo {Y : Int32} {i k : Nat} (hi : i < 32) (hk : k < 32) : tb (Y &&& (b1 i ^^^ (-1))) k = (tb Y k && !decide (i = k)) := by rw [tb_and, tb_not _ hk, tb_b1 i hi k hk]
theorem n_need {Y ab mk sh : Int32} {sg : Nat → Int32} {bn : Nat} (hbn : bn ≤ 20) (hA : ansInv ab mk sh sg bn) (hY : ∀ j, bn ≤ j → tb Y j = false) (j : Nat) (hj : j < 32) :
    tb (needF ab mk sh bn Y) j = true ↔ tb Y j = true ∧ ¬ ansF ab mk sh (Y &&& (b1 j ^^^ (-1))) = ansF ab mk sh Y := by
  have hYab : ∀ k, 20 ≤ k → tb (Y &&& ab) k = false := fun k hk => by rw [tb_and, hY k (by omega)]; rfl
  have hcnt := k_count hYab
  have hle := n_le (Y &&& ab) 20
  have hb1 : bcF (Y &&& ab) ≤ 1 ↔ pcN (Y &&& ab) 20 ≤ 1 := by
    rw [hcnt, show (1 : Int32) = nI 1 from rfl]
    exact nI_leI (by omega) (by decide)
  unfold needF
  by_cases hab : Y &&& ab = 0
  · have e0 : decF ab bn Y = lastN Y bn := if_pos hab
    have hp : pcN (Y &&& ab) 20 ≤ 1 := by
      refine Nat.le_of_not_lt fun h9 => ?_
      obtain ⟨a, a1, a2⟩ := n_ex1 (x := Y &&& ab) (n := 20) (by omega)
      rw [hab, tb_0] at a2
      exact absurd a2 (by decide)
    rw [if_pos (hb1.mpr hp), e0]
    rcases n_last Y bn (by omega) with ⟨a, b⟩ | ⟨l, a1, a2, a3, a4⟩
    · have hyj : tb Y j = false := by
        rcases Nat.lt_or_ge j bn with h | h
        · exact a j h
        · exact hY j h
      rw [b, hyj, ite_self, tb_0]
      simp
    · have a3' : ∀ k, l < k → k < 32 → tb Y k = false := fun k h1 h2 => by
        rcases Nat.lt_or_ge k bn with h | h
        · exact a3 k h1 h
        · exact hY k h
      rw [a4]
      by_cases e : l = j
      · subst e
        by_cases c : ansF ab mk sh (Y &&& (b1 l ^^^ (-1))) = ansF ab mk sh Y
        · rw [if_pos c, tb_0]; exact ⟨fun h => absurd h (by decide), fun h => absurd c h.2⟩
        · rw [if_neg c, tb_b1 l hj l hj]; exact ⟨fun _ => ⟨a2, c⟩, fun _ => by simp⟩
      · have hz : tb (if ansF ab mk sh (Y &&& (b1 l ^^^ (-1))) = ansF ab mk sh Y then 0 else b1 l) j = false := by
          split
          · exact tb_0 j
          · rw [tb_b1 l (by omega) j hj, decide_eq_false e]
        rw [hz]
        refine ⟨fun h => absurd h (by decide), fun ⟨h1, h2⟩ => absurd ?_ h2⟩
        rw [n_top hbn hA a1 a2 a3' hab]
        refine n_top hbn hA a1 ?_ (fun k h3 h4 => ?_) ?_
        · rw [n_wo hj (by omega), a2, decide_eq_false (fun h9 => e h9.symm)]; rfl
        · rw [n_wo hj h4, a3' k h3 h4]; rfl
        · refine tb_zero.mpr fun k hk => ?_
          have := tb_zero.mp hab k hk
          rw [tb_and] at this
          rw [tb_and, n_wo hj hk]
          cases h5 : tb Y k
          · rfl
          · rw [h5] at this
            simp at this
            rw [this]; simp
  · have e0 : decF ab bn Y = Y &&& ab := if_neg hab
    obtain ⟨a0, ha0, ta0⟩ := tb_ne hab
    have t0 : tb Y a0 = true ∧ tb ab a0 = true := by rw [tb_and] at ta0; simpa using ta0
    have ea : ansF ab mk sh Y = 0 := n_ab ha0 t0.1 t0.2
    rw [e0, ea]
    by_cases hp : pcN (Y &&& ab) 20 ≤ 1
    · rw [if_pos (hb1.mpr hp)]
      have hl20 : ∀ k, tb (Y &&& ab) k = true → k < 20 := fun k h => Nat.lt_of_not_le fun h9 => by rw [hYab k h9] at h; exact absurd h (by decide)
      have huniq : ∀ k, tb (Y &&& ab) k = true → k = a0 := fun k h => by
        rcases Nat.lt_trichotomy k a0 with h9 | h9 | h9
        · exact absurd (n_two h9 (hl20 a0 ta0) h ta0) (by omega)
        · exact h9
        · exact absurd (n_two h9 (hl20 k h) ta0 h) (by omega)
      have em : Y &&& ab = b1 a0 := tb_ext fun k hk => by
        rw [tb_b1 a0 ha0 k hk]
        by_cases e : a0 = k
        · rw [← e, ta0]; simp
        · rw [decide_eq_false e]
          rcases Bool.eq_false_or_eq_true (tb (Y &&& ab) k) with h | h
          · exact absurd (huniq k h).symm e
          · exact h
      rw [em]
      by_cases e : a0 = j
      · subst e
        by_cases c : ansF ab mk sh (Y &&& (b1 a0 ^^^ (-1))) = 0
        · rw [if_pos c, tb_0]; exact ⟨fun h => absurd h (by decide), fun h => absurd c h.2⟩
        · rw [if_neg c, tb_b1 a0 hj a0 hj]; exact ⟨fun _ => ⟨t0.1, c⟩, fun _ => by simp⟩
      · have hz : tb (if ansF ab mk sh (Y &&& (b1 a0 ^^^ (-1))) = 0 then 0 else b1 a0) j = false := by
          split
          · exact tb_0 j
          · rw [tb_b1 a0 ha0 j hj, decide_eq_false e]
        rw [hz]
        refine ⟨fun h => absurd h (by decide), fun ⟨h1, h2⟩ => absurd ?_ h2⟩
        refine n_ab ha0 ?_ t0.2
        rw [n_wo hj ha0, t0.1, decide_eq_false (fun h9 => e h9.symm)]; rfl
    · rw [if_neg (fun h9 => hp (hb1.mp h9)), tb_0]
      refine ⟨fun h => absurd h (by decide), fun ⟨h1, h2⟩ => absurd ?_ h2⟩
      obtain ⟨a, a1, a2, a3⟩ := n_ex2 (x := Y &&& ab) (n := 20) (by omega) j
      have t1 : tb Y a = true ∧ tb ab a = true := by rw [tb_and] at a3; simpa using a3
      refine n_ab (a := a) (by omega) ?_ t1.2
      rw [n_wo hj (by omega), t1.1, decide_eq_false (fun h9 => a2 h9.symm)]; rfl

/-! idle -/
theorem i_needN (g : Nat → Int32) (ab mk sh : Int32) (n : Nat) (op : Int32) (j : Nat) : ∀ k, tb (needN g ab mk sh n op k) j = true ↔ ∃ i, i < k ∧ tb (needF ab mk sh n (op &&& g i)) j = true := by
  intro k
  induction k with
  | zero => rw [show needN g ab mk sh n op 0 = 0 from rfl, tb_0]; exact ⟨fun h => absurd h (by decide), fun ⟨i, h, _⟩ => absurd h (by omega)⟩
  | succ k ih =>
    rw [show needN g ab mk sh n op (k + 1) = needN g ab mk sh n op k ||| needF ab mk sh n (op &&& g k) from rfl, tb_or, Bool.or_eq_true, ih]
    constructor
    · rintro (⟨i, h1, h2⟩ | h)
      · exact ⟨i, by omega, h2⟩
      · exact ⟨k, by omega, h⟩
    · rintro ⟨i, h1, h2⟩
      rcases Nat.lt_or_ge i k with h | h
      · exact Or.inl ⟨i, h, h2⟩
      · rw [show i = k by omega] at h2; exact Or.inr h2
theorem i_idR (F : Nat → Int32) (sp : Int32) (j : Nat) (hj : j < 32) : ∀ k, tb (idR F sp k) j = true ↔ tb sp j = true ∧ ∀ i, i < k → tb (F i) j = false := by
  intro k
  induction k with
  | zero => exact ⟨fun h => ⟨h, fun i hi => absurd hi (by omega)⟩, fun h => h.1⟩
  | succ k ih =>
    rw [show idR F sp (k + 1) = idR F sp k &&& (F k ^^^ (-1)) from rfl, tb_and, Bool.and_eq_true, ih, tb_not _ hj]
    simp only [Bool.not_eq_true']
    constructor
    · rintro ⟨⟨h1, h2⟩, h3⟩
      exact ⟨h1, fun i hi => by
        rcases Nat.lt_or_ge i k with h | h
        · exact h2 i h
        · rw [show i = k by omega]; exact h3⟩
    · rintro ⟨h1, h2⟩
      exact ⟨⟨h1, fun i hi => h2 i (by omega)⟩, h2 k (by omega)⟩
theorem i_idP (F : Nat → Nat → Int32) (tl : Int32) (n j : Nat) (hj : j < 32) : ∀ p, tb (idP F tl n p) j = true ↔ tb tl j = true ∧ ∀ q, q < p → ∀ i, i < n → tb (F q i) j = false := by
  intro p
  induction p with
  | zero => exact ⟨fun h => ⟨h, fun i hi => absurd hi (by omega)⟩, fun h => h.1⟩
  | succ p ih =>
    rw [show idP F tl n (p + 1) = idR (F p) (idP F tl n p) n from rfl, i_idR _ _ j hj, ih]
    constructor
    · rintro ⟨⟨h1, h2⟩, h3⟩
      exact ⟨h1, fun q hq => by
        rcases Nat.lt_or_ge q p with h | h
        · exact h2 q h
        · rw [show q = p by omega]; exact h3⟩
    · rintro ⟨h1, h2⟩
      exact ⟨⟨h1, fun q hq => h2 q (by omega)⟩, h2 p (by omega)⟩
theorem i_first {su : Int32} {D : Nat → Int32} : ∀ n k, k + n ≤ 32 → (∀ j, j < k + n → (tb su j = true ↔ ¬ D j = 0)) → firstN su k n = fstM D k n := by
  intro n
  induction n with
  | zero => intro k _ _; rfl
  | succ n ih =>
    intro k hk h
    have e1 : firstN su k (n + 1) = if su &&& b1 k = 0 then firstN su (k + 1) n else nI k := rfl
    have e2 : fstM D k (n + 1) = if D k = 0 then fstM D (k + 1) n else nI k := rfl
    rw [e1, e2, ih (k + 1) (by omega) (fun j hj => h j (by omega))]
    have h1 := h k (by omega)
    by_cases c : D k = 0
    · rw [if_pos c, if_pos ((tb_and_b1 (by omega)).mpr (by
        rcases Bool.eq_false_or_eq_true (tb su k) with h9 | h9
        · exact absurd c (h1.mp h9)
        · exact h9))]
    · rw [if_neg c, if_neg (fun h9 => by
        have := (tb_and_b1 (show k < 32 by omega)).mp h9
        rw [h1.mpr c] at this
        exact absurd this (by decide))]
theorem i_idlQ (t : Int32) (C : Nat → Int32) : ∀ n, ¬ idlQ t C n = 0 ↔ ¬ t = 0 ∧ ∀ q, q < n → C q = 0 := by
  intro n
  induction n with
  | zero => exact ⟨fun h => ⟨h, fun q hq => absurd hq (by omega)⟩, fun h => h.1⟩
  | succ n ih =>
    have e : idlQ t C (n + 1) = if idlQ t C n = 0 then 0 else notF (C n) := rfl
    rw [e]
    by_cases c : idlQ t C n = 0
    · rw [if_pos c]
      refine ⟨fun h => absurd rfl h, fun h => absurd c (ih.mpr ⟨h.1, fun q hq => h.2 q (by omega)⟩)⟩
    · rw [if_neg c]
      obtain ⟨a, b⟩ := ih.mp c
      unfold notF
      by_cases c2 : C n = 0
      · rw [if_pos c2]
        refine ⟨fun _ => ⟨a, fun q hq => ?_⟩, fun _ => by decide⟩
        rcases Nat.lt_or_ge q n with h | h
        · exact b q h
        · rw [show q = n by omega]; exact c2
      · rw [if_neg c2]
        exact ⟨fun h => absurd rfl h, fun h => absurd (h.2 n (by omega)) c2⟩
theorem i_chgM (F : Nat → Int32) : ∀ n, chgM F n = 0 ↔ ∀ k, k < n → F k = 0 := by
  intro n
  induction n with
  | zero => exact ⟨fun _ k hk => absurd hk (by omega), fun _ => rfl⟩
  | succ n ih =>
    have e : chgM F (n + 1) = if chgM F n = 0 then F n else chgM F n := rfl
    rw [e]
    by_cases c : chgM F n = 0
    · rw [if_pos c]
      refine ⟨fun h k hk => ?_, fun h => h n (by omega)⟩
      rcases Nat.lt_or_ge k n with h9 | h9
      · exact ih.mp c k h9
      · rw [show k = n by omega]; exact h
    · rw [if_neg c]
      exact ⟨fun h => absurd h c, fun h => absurd (ih.mpr fun k hk => h k (by omega)) c⟩
section II
variable {nd br ro em fa ki co ap ar af at_ sg sz to : Nat → Int32} {tl ab mk sh d : Int32} {bn an en hn : Nat} {mz : Nat → Nat}
theorem i_point (I : rlInv nd br tl ab mk sh sg sz to mz bn) {u r : Nat} (hR : inR (ro u)) (hK : inK (ki r) (co r) (fa r)) {j k : Nat} (hj : j < bn) (ht : ¬ to j = 0) (hk : k < 24) :
    tb (needF ab mk sh bn (openF nd br tl bn (ro u) (em r) (fa r) d (hasAg ap ar af at_ an (nI u) (nI r) d) &&& frC nd br tl bn k)) j = false ↔ chgW to sg em ro ki co ap ar af at_ an bn mz u r d j k = 0 := by
  have hbn := I.1
  have hf : k / 4 < 6 := by omega
  have hq : k % 4 < 4 := Nat.mod_lt _ (by decide)
  have e1 := p_got1 (em := em) (ap := ap) (ar := ar) (af := af) (at_ := at_) (an := an) (d := d) I hR hK hf hq
  have e2 := p_got2 (em := em) (ap := ap) (ar := ar) (af := af) (at_ := at_) (an := an) (d := d) I hR hK hf hq hj
  rw [show frC nd br tl bn k = ruleFF nd br tl bn (nI (k / 4)) (nI (k % 4)) from rfl]
  unfold chgW
  rw [e1, e2]
  have hset : ∀ i, bn ≤ i → tb (openF nd br tl bn (ro u) (em r) (fa r) d (hasAg ap ar af at_ an (nI u) (nI r) d) &&& ruleFF nd br tl bn (nI (k / 4)) (nI (k % 4))) i = false := fun i hi => by
    unfold ruleFF
    rw [tb_and, tb_and, I.2.2.2.2.2.1 i hi]
    simp
  have hn := n_need hbn I.2.2.2.1 hset j (by omega)
  by_cases hem : d ≤ em r ∧ ro u &&& 128 = 0
  · have hX : openF nd br tl bn (ro u) (em r) (fa r) d (hasAg ap ar af at_ an (nI u) (nI r) d) = 0 := if_pos hem
    rw [hX] at hn ⊢
    rw [Int32.zero_and] at hn ⊢
    rw [Int32.zero_and] at hn ⊢
    refine ⟨fun _ => ?_, fun _ => ?_⟩
    · rw [if_pos rfl, ite_self]
    · rcases Bool.eq_false_or_eq_true (tb (needF ab mk sh bn 0) j) with h | h
      · have := (hn.mp h).1
        rw [tb_0] at this
        exact absurd this (by decide)
      · exact h
  · have hs := p_set (ap := ap) (ar := ar) (af := af) (at_ := at_) (an := an) I hR hK hf hq hem j (by omega)
    generalize hX : openF nd br tl bn (ro u) (em r) (fa r) d (hasAg ap ar af at_ an (nI u) (nI r) d) &&& ruleFF nd br tl bn (nI (k / 4)) (nI (k % 4)) = X at *
    by_cases c1 : suitW sg ro ki co ap ar af at_ an mz u r (nI (k / 4)) (nI (k % 4)) d j = 0
    · rw [if_pos c1]
      refine ⟨fun _ => rfl, fun _ => ?_⟩
      rcases Bool.eq_false_or_eq_true (tb (needF ab mk sh bn X) j) with h | h
      · exact absurd c1 (hs.mp (hn.mp h).1).2.2
      · exact h
    · rw [if_neg c1]
      have hXj : tb X j = true := hs.mpr ⟨hj, ht, c1⟩
      by_cases c2 : ansF ab mk sh X = ansF ab mk sh (X &&& (b1 j ^^^ (-1)))
      · rw [if_pos c2]
        refine ⟨fun _ => rfl, fun _ => ?_⟩
        rcases Bool.eq_false_or_eq_true (tb (needF ab mk sh bn X) j) with h | h
        · exact absurd c2.symm (hn.mp h).2
        · exact h
      · rw [if_neg c2]
        refine ⟨fun h => ?_, fun h => absurd h (by decide)⟩
        rw [hn.mpr ⟨hXj, fun h9 => c2 h9.symm⟩] at h
        exact absurd h (by decide)
theorem i_idle (I : rlInv nd br tl ab mk sh sg sz to mz bn) (hR : ∀ u, u < en → inR (ro u)) (hK : ∀ r, r < hn → inK (ki r) (co r) (fa r)) :
    firstN (idP (fun q j => needN (frC nd br tl bn) ab mk sh bn (openF nd br tl bn (ro q) (em j) (fa j) d (hasAg ap ar af at_ an (nI q) (nI j) d)) 24) tl hn en) 0 bn = fstM (fun k => idlQ (to k) (fun q => chgM (chgW to sg em ro ki co ap ar af at_ an bn mz (q / hn) (q % hn) d k) 24) (en * hn)) 0 bn := by
  have hbn := I.1
  refine i_first bn 0 (by omega) (fun j hj => ?_)
  rw [i_idP _ _ _ j (by omega), i_idlQ, I.2.2.2.2.1 j (by omega)]
  refine ⟨fun ⟨h1, h2⟩ => ⟨h1, fun q hq => ?_⟩, fun ⟨h1, h2⟩ => ⟨h1, fun u hu r hr => ?_⟩⟩
  · rw [i_chgM]
    intro k hk
    have hpos := pos_of_lt_mul hq
    have h3 := h2 (q / hn) (div_of_lt_mul hq) (q % hn) (Nat.mod_lt q hpos)
    refine (i_point I (hR _ (div_of_lt_mul hq)) (hK _ (Nat.mod_lt q hpos)) (by omega) h1 hk).mp ?_
    rcases Bool.eq_false_or_eq_true (tb (needF ab mk sh bn (openF nd br tl bn (ro (q / hn)) (em (q % hn)) (fa (q % hn)) d (hasAg ap ar af at_ an (nI (q / hn)) (nI (q % hn)) d) &&& frC nd br tl bn k)) j) with h | h
    · rw [(i_needN _ _ _ _ _ _ j 24).mpr ⟨k, hk, h⟩] at h3
      exact absurd h3 (by decide)
    · exact h
  · have hpos : 0 < hn := by omega
    have e1 : (u * hn + r) / hn = u := by rw [Nat.add_comm, Nat.add_mul_div_right _ _ hpos, Nat.div_eq_of_lt hr, Nat.zero_add]
    have e2 : (u * hn + r) % hn = r := by rw [Nat.add_comm, Nat.add_mul_mod_self_right, Nat.mod_eq_of_lt hr]
    have hlt : u * hn + r < en * hn := by
      have : (u + 1) * hn ≤ en * hn := Nat.mul_le_mul_right hn (by omega)
      rw [Nat.add_mul, Nat.one_mul] at this
      omega
    have h3 := h2 (u * hn + r) hlt
    rw [e1, e2, i_chgM] at h3
    rcases Bool.eq_false_or_eq_true (tb (needN (frC nd br tl bn) ab mk sh bn (openF nd br tl bn (ro u) (em r) (fa r) d (hasAg ap ar af at_ an (nI u) (nI r) d)) 24) j) with h | h
    · obtain ⟨k, hk, h4⟩ := (i_needN _ _ _ _ _ _ j 24).mp h
      rw [(i_point I (hR u hu) (hK r hr) (by omega) h1 hk).mpr (h3 k hk)] at h4
      exact absurd h4 (by decide)
    · exact h
end II
