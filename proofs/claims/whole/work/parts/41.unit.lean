/-! unit: the class's signs and pad are the reference's -/
theorem u_shr (w s : Int32) (k : Nat) (hk : k = 0 ∨ k = 8 ∨ k = 16 ∨ k = 24) (hs : (s.toBitVec.smod 32).toNat = k) : (w >>> s) &&& 255 = nI (w.toBitVec.toNat / 2 ^ k % 256) := by
  rw [pk_and (w >>> s) 8 (by decide)]
  congr 1
  have h1 := pk_shr w s k hs
  rw [Int.shiftRight_eq_div_pow] at h1
  have h2 := nat_or_int w
  have h3 := nat_or_int (w >>> s)
  rw [h1] at h3
  have h4 := (w >>> s).toBitVec.isLt
  have h5 := w.toBitVec.isLt
  generalize (w >>> s).toBitVec.toNat = y at *
  generalize w.toBitVec.toNat = n at *
  generalize w.toInt = t at *
  rcases hk with rfl | rfl | rfl | rfl <;> omega
theorem u_sgn (w : Int32) : ∀ i, i < 4 → sgn w i = nI (w.toBitVec.toNat / 2 ^ (8 * i) % 256) := by
  intro i hi
  unfold sgn
  rw [pk_and _ 8 (by decide)]
  match i, hi with
  | 0, _ => rw [pk_ushr w (nI (8 * 0)) 0 (by decide)]
  | 1, _ => rw [pk_ushr w (nI (8 * 1)) 8 (by decide)]
  | 2, _ => rw [pk_ushr w (nI (8 * 2)) 16 (by decide)]
  | 3, _ => rw [pk_ushr w (nI (8 * 3)) 24 (by decide)]
theorem u_sgM (w : Int32) : ∀ i, i < 4 → sgM w (nI i) = sgn w i := by
  intro i hi
  rw [u_sgn w i hi]
  unfold sgM
  match i, hi with
  | 0, _ => exact u_shr w _ 0 (Or.inl rfl) (by decide)
  | 1, _ => exact u_shr w _ 8 (Or.inr (Or.inl rfl)) (by decide)
  | 2, _ => exact u_shr w _ 16 (Or.inr (Or.inr (Or.inl rfl))) (by decide)
  | 3, _ => exact u_shr w _ 24 (Or.inr (Or.inr (Or.inr rfl))) (by decide)
theorem u_lt (w : Int32) (i : Nat) (hi : i < 4) : ∃ q, q < 256 ∧ sgn w i = nI q := ⟨_, Nat.mod_lt _ (by decide), u_sgn w i hi⟩
theorem u_char (w : Int32) (i : Nat) (hi : i < 4) : vp_nar .char ((sgn w i).toUInt32 % 65536).toInt32 = sgn w i := by
  obtain ⟨q, hq, e⟩ := u_lt w i hi
  rw [pk_char, e, pk_tn (by omega), Nat.mod_eq_of_lt (show q < 65536 by omega)]
  unfold vp_nar
  rw [(pk_charN (show q < 65536 by omega)).1]
def u_P (w : Int32) (i : Nat) : Nat := if sgn w i = 0 then 0 else 1
theorem u_pos (w : Int32) (i : Nat) (hi : i < 4) : posF (sgM w (nI i)) = nI (u_P w i) := by
  rw [u_sgM w i hi]
  obtain ⟨q, hq, e⟩ := u_lt w i hi
  unfold posF u_P
  rw [e]
  by_cases h : q = 0
  · subst h; rfl
  · rw [if_neg (nI_nle (by omega) (by omega)), if_neg (nI_ne0 (by omega) (by omega))]; rfl
theorem u_cnt (w : Int32) : sgnC w 4 = u_P w 0 + u_P w 1 + u_P w 2 + u_P w 3 := by
  have h : ∀ i, sgnC w (i + 1) = sgnC w i + u_P w i := fun i => by
    show (if sgn w i = 0 then sgnC w i else sgnC w i + 1) = _
    unfold u_P
    split <;> rfl
  rw [h 3, h 2, h 1, h 0]
  show 0 + _ + _ + _ + _ = _
  omega
theorem u_many (a b c d : Int32) : mnyM a b c d 4 = nI (sgn4 a b c d) := by
  have h : ∀ k, k < 4 → mnyM a b c d (k + 1) = mnyM a b c d k + nI (u_P a k + u_P b k + u_P c k + u_P d k) := fun k hk => by
    show mnyM a b c d k + (posF (sgM a (nI k)) + posF (sgM b (nI k)) + posF (sgM c (nI k)) + posF (sgM d (nI k))) = _
    rw [u_pos a k hk, u_pos b k hk, u_pos c k hk, u_pos d k hk, nI_add, nI_add, nI_add]
  have h0 : mnyM a b c d 0 = nI 0 := rfl
  rw [h 3 (by omega), h 2 (by omega), h 1 (by omega), h 0 (by omega), h0, nI_add, nI_add, nI_add, nI_add]
  unfold sgn4
  rw [u_cnt a, u_cnt b, u_cnt c, u_cnt d]
  congr 1
  omega
theorem u_appc (w : Int32) (f : Nat → Int32) (n : Nat) : ∀ i, i ≤ 4 → n + sgnC w i ≤ 40 → (appS w f n i).2 = n + sgnC w i := by
  intro i
  induction i with
  | zero => intro _ _; rfl
  | succ i ih =>
    intro hi h
    have e : sgnC w (i + 1) = if sgn w i = 0 then sgnC w i else sgnC w i + 1 := rfl
    show (if sgn w i = 0 then appS w f n i else if 40 ≤ (appS w f n i).2 then appS w f n i else (upd (appS w f n i).1 (appS w f n i).2 (vp_nar .char ((sgn w i).toUInt32 % 65536).toInt32), (appS w f n i).2 + 1)).2 = _
    rw [e] at h ⊢
    by_cases h1 : sgn w i = 0
    · rw [if_pos h1] at h ⊢; rw [if_pos h1]; exact ih (by omega) h
    · rw [if_neg h1] at h ⊢
      have h2 := ih (by omega) (by omega)
      rw [if_neg h1, if_neg (by omega)]
      show (appS w f n i).2 + 1 = _
      omega
theorem u_block (pd : Nat → Int32) (pn : Nat) (a b c d w : Int32) (b0 : Nat) (hw : ∀ i, i < 4 → sM4 a b c d (b0 + i) = sgn w i) (hb : (unM pd pn a b c d b0).2 + sgnC w 4 ≤ 40) : ∀ i, i ≤ 4 → unM pd pn a b c d (b0 + i) = appS w (unM pd pn a b c d b0).1 (unM pd pn a b c d b0).2 i := by
  have hm : ∀ i, i < 4 → sgnC w i + u_P w i ≤ sgnC w 4 := fun i hi => by
    have h : ∀ i, sgnC w (i + 1) = sgnC w i + u_P w i := fun i => by
      show (if sgn w i = 0 then sgnC w i else sgnC w i + 1) = _
      unfold u_P
      split <;> rfl
    have h3 : sgnC w 4 = sgnC w 3 + u_P w 3 := h 3
    have h2 : sgnC w 3 = sgnC w 2 + u_P w 2 := h 2
    have h1 : sgnC w 2 = sgnC w 1 + u_P w 1 := h 1
    have h0 : sgnC w 1 = sgnC w 0 + u_P w 0 := h 0
    match i, hi with
    | 0, _ => omega
    | 1, _ => omega
    | 2, _ => omega
    | 3, _ => omega
  intro i
  induction i with
  | zero => intro _; rfl
  | succ i ih =>
    intro hi
    have h1 := ih (by omega)
    show (if sM4 a b c d (b0 + i) = 0 then unM pd pn a b c d (b0 + i) else (upd (unM pd pn a b c d (b0 + i)).1 (unM pd pn a b c d (b0 + i)).2 (sM4 a b c d (b0 + i)), (unM pd pn a b c d (b0 + i)).2 + 1)) = (if sgn w i = 0 then _ else if 40 ≤ (appS w _ _ i).2 then _ else (upd (appS w _ _ i).1 (appS w _ _ i).2 (vp_nar .char ((sgn w i).toUInt32 % 65536).toInt32), (appS w _ _ i).2 + 1))
    rw [hw i (by omega), h1, u_char w i (by omega)]
    by_cases h2 : sgn w i = 0
    · rw [if_pos h2, if_pos h2]
    · have h4 := hm i (by omega)
      unfold u_P at h4
      rw [if_neg h2] at h4
      rw [if_neg h2, if_neg h2, if_neg (by rw [u_appc w _ _ i (by omega) (by omega)]; omega)]
theorem u_sM4 (a b c d : Int32) : (∀ i, i < 4 → sM4 a b c d (0 + i) = sgn a i) ∧ (∀ i, i < 4 → sM4 a b c d (4 + i) = sgn b i) ∧ (∀ i, i < 4 → sM4 a b c d (8 + i) = sgn c i) ∧ (∀ i, i < 4 → sM4 a b c d (12 + i) = sgn d i) := by
  refine ⟨fun i hi => ?_, fun i hi => ?_, fun i hi => ?_, fun i hi => ?_⟩
  · unfold sM4 pick4; rw [if_pos (by omega), show (0 + i) % 4 = i by omega]; exact u_sgM a i hi
  · unfold sM4 pick4; rw [if_neg (by omega), if_pos (by omega), show (4 + i) % 4 = i by omega]; exact u_sgM b i hi
  · unfold sM4 pick4; rw [if_neg (by omega), if_neg (by omega), if_pos (by omega), show (8 + i) % 4 = i by omega]; exact u_sgM c i hi
  · unfold sM4 pick4; rw [if_neg (by omega), if_neg (by omega), if_neg (by omega), show (12 + i) % 4 = i by omega]; exact u_sgM d i hi
theorem u_pad (pd : Nat → Int32) (pn : Nat) (a b c d : Int32) (h : pn + sgn4 a b c d ≤ 40) : unM pd pn a b c d 16 = pad4 pd pn a b c d ∧ (unM pd pn a b c d 16).2 = pn + sgn4 a b c d := by
  obtain ⟨s1, s2, s3, s4⟩ := u_sM4 a b c d
  unfold sgn4 at h ⊢
  have e0 : unM pd pn a b c d 0 = (pd, pn) := rfl
  have p0 : (unM pd pn a b c d 0).2 = pn := rfl
  have e1 := u_block pd pn a b c d a 0 s1 (by rw [p0]; omega) 4 (Nat.le_refl 4)
  have c1 := u_appc a (unM pd pn a b c d 0).1 (unM pd pn a b c d 0).2 4 (Nat.le_refl 4) (by rw [p0]; omega)
  rw [← e1, p0] at c1
  have c1' : (unM pd pn a b c d 4).2 = pn + sgnC a 4 := c1
  have e2 := u_block pd pn a b c d b 4 s2 (by rw [c1']; omega) 4 (Nat.le_refl 4)
  have c2 := u_appc b (unM pd pn a b c d 4).1 (unM pd pn a b c d 4).2 4 (Nat.le_refl 4) (by rw [c1']; omega)
  rw [← e2, c1'] at c2
  have c2' : (unM pd pn a b c d 8).2 = pn + sgnC a 4 + sgnC b 4 := c2
  have e3 := u_block pd pn a b c d c 8 s3 (by rw [c2']; omega) 4 (Nat.le_refl 4)
  have c3 := u_appc c (unM pd pn a b c d 8).1 (unM pd pn a b c d 8).2 4 (Nat.le_refl 4) (by rw [c2']; omega)
  rw [← e3, c2'] at c3
  have c3' : (unM pd pn a b c d 12).2 = pn + sgnC a 4 + sgnC b 4 + sgnC c 4 := c3
  have e4 := u_block pd pn a b c d d 12 s4 (by rw [c3']; omega) 4 (Nat.le_refl 4)
  have c4 := u_appc d (unM pd pn a b c d 12).1 (unM pd pn a b c d 12).2 4 (Nat.le_refl 4) (by rw [c3']; omega)
  rw [← e4, c3'] at c4
  refine ⟨?_, by have c4' : (unM pd pn a b c d 16).2 = _ := c4; omega⟩
  show unM pd pn a b c d (12 + 4) = appP d (appP c (appP b (appP a (pd, pn))))
  rw [e4]
  unfold appP
  rw [show unM pd pn a b c d 12 = appS c (unM pd pn a b c d 8).1 (unM pd pn a b c d 8).2 4 from e3, show unM pd pn a b c d 8 = appS b (unM pd pn a b c d 4).1 (unM pd pn a b c d 4).2 4 from e2, show unM pd pn a b c d 4 = appS a pd pn 4 from e1]
