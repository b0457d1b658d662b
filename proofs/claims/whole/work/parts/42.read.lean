/-! rule: the class's reader stops where the reference finds the pad wrong; what it needs and bars is what the text says -/
theorem r_mask (x : Int32) : ∃ j, j < 32 ∧ (1 : Int32) <<< (x &&& 31) = b1 j := by
  obtain ⟨j, hj, e⟩ := pk_andE x (m := 31) 5 (by decide)
  refine ⟨j, hj, ?_⟩
  unfold b1
  rw [e, pk_andN (show j < 2 ^ 32 by omega) (m := 31) 5 (by decide), Nat.mod_eq_of_lt hj]
def sutB (nd br F : Int32) : Prop := nd &&& (F ^^^ (-1)) = 0 ∧ br &&& F = 0
def sutI (nd br F : Int32) : Int32 := if nd &&& (F ^^^ (-1)) = 0 ∧ br &&& F = 0 then 1 else 0
theorem r_or {a b c : Int32} : (a ||| b) &&& c = 0 ↔ a &&& c = 0 ∧ b &&& c = 0 := by
  refine ⟨fun h => ⟨tb_zero.mpr fun k hk => ?_, tb_zero.mpr fun k hk => ?_⟩, fun h => tb_zero.mpr fun k hk => ?_⟩
  · have h1 := tb_zero.mp h k hk
    rw [tb_and, tb_or] at h1
    rw [tb_and]
    cases h2 : tb a k <;> cases h3 : tb c k <;> simp_all
  · have h1 := tb_zero.mp h k hk
    rw [tb_and, tb_or] at h1
    rw [tb_and]
    cases h2 : tb b k <;> cases h3 : tb c k <;> simp_all
  · have h1 := tb_zero.mp h.1 k hk
    have h2 := tb_zero.mp h.2 k hk
    rw [tb_and] at h1 h2
    rw [tb_and, tb_or]
    cases h3 : tb c k <;> simp_all
theorem r_bitn {j : Nat} (hj : j < 32) (F : Int32) : b1 j &&& (F ^^^ (-1)) = 0 ↔ ¬ F &&& b1 j = 0 := by
  rw [Int32.and_comm, tb_and_b1 hj, tb_and_b1 hj, tb_not F hj]
  cases tb F j <;> simp
theorem r_needs (nd br F fact : Int32) : sutI (nd ||| ((1 : Int32) <<< (fact &&& 31))) br F = if sutI nd br F = 0 then 0 else if F &&& ((1 : Int32) <<< (fact &&& 31)) = 0 then 0 else 1 := by
  obtain ⟨j, hj, e⟩ := r_mask fact
  rw [e]
  unfold sutI
  simp only [r_or, r_bitn hj]
  by_cases h1 : nd &&& (F ^^^ (-1)) = 0 <;> by_cases h2 : br &&& F = 0 <;> by_cases h3 : F &&& b1 j = 0 <;> simp [h1, h2, h3]
theorem r_bars (nd br F fact : Int32) : sutI nd (br ||| ((1 : Int32) <<< (fact &&& 31))) F = if sutI nd br F = 0 then 0 else if F &&& ((1 : Int32) <<< (fact &&& 31)) = 0 then 1 else 0 := by
  obtain ⟨j, hj, e⟩ := r_mask fact
  rw [e]
  unfold sutI
  simp only [r_or, Int32.and_comm (b1 j) F]
  by_cases h1 : nd &&& (F ^^^ (-1)) = 0 <;> by_cases h2 : br &&& F = 0 <;> by_cases h3 : F &&& b1 j = 0 <;> simp [h1, h2, h3]
/-- the first fact of a letter -/
def frst (z : Int32) : Int32 := if z = 99 then 22 else if z = 102 then 12 else if z = 107 then 8 else if z = 112 then 18 else 0
theorem r_let (y : RdS) (z : Int32) : (z = 103 ∧ rdLetR z = 1 ∧ rdLetS y z = rdAdd y 30) ∨ (¬ z = 103 ∧ digF z = 0 ∧ rdLetR z = 0) ∨ (¬ z = 103 ∧ ¬ digF z = 0 ∧ rdLetR z = 1 ∧ rdLetS y z = rdWait y (frst z) (digF z)) := by
  by_cases h1 : z = 99
  · subst h1; exact Or.inr (Or.inr ⟨by decide, by decide, rfl, rfl⟩)
  by_cases h2 : z = 102
  · subst h2; exact Or.inr (Or.inr ⟨by decide, by decide, rfl, rfl⟩)
  by_cases h3 : z = 103
  · subst h3; exact Or.inl ⟨rfl, rfl, rfl⟩
  by_cases h4 : z = 107
  · subst h4; exact Or.inr (Or.inr ⟨by decide, by decide, rfl, rfl⟩)
  by_cases h5 : z = 112
  · subst h5; exact Or.inr (Or.inr ⟨by decide, by decide, rfl, rfl⟩)
  by_cases h6 : z = 114
  · subst h6; exact Or.inr (Or.inr ⟨by decide, by decide, rfl, rfl⟩)
  · refine Or.inr (Or.inl ⟨h3, ?_, ?_⟩)
    · unfold digF; simp [h1, h2, h4, h5, h6]
    · unfold rdLetR; simp [h1, h2, h3, h4, h5, h6]
theorem r_dig {z s : Int32} (h : ¬ digF z = 0) : (inF s 48 (47 + digF z) = 0 ↔ (if s < 48 then (0 : Int32) else if s < 48 + digF z then 1 else 0) = 0) := by
  have hd : digF z = 8 ∨ digF z = 4 ∨ digF z = 6 := by
    unfold digF at h ⊢
    by_cases h1 : z = 114 <;> by_cases h2 : z = 99 <;> by_cases h3 : z = 107 <;> by_cases h4 : z = 112 <;> by_cases h5 : z = 102 <;> simp_all
  have key : ∀ D : Int32, (D = 8 ∨ D = 4 ∨ D = 6) → ((47 + D < s) ↔ ¬ s < 48 + D) := by
    intro D hD
    rw [Int32.lt_iff_toInt_lt, Int32.lt_iff_toInt_lt]
    rcases hD with rfl | rfl | rfl
    · rw [show (47 + 8 : Int32).toInt = 55 from by decide, show (48 + 8 : Int32).toInt = 56 from by decide]; omega
    · rw [show (47 + 4 : Int32).toInt = 51 from by decide, show (48 + 4 : Int32).toInt = 52 from by decide]; omega
    · rw [show (47 + 6 : Int32).toInt = 53 from by decide, show (48 + 6 : Int32).toInt = 54 from by decide]; omega
  have k1 := key (digF z) hd
  unfold inF
  by_cases h1 : s < 48
  · simp [h1]
  · by_cases h2 : s < 48 + digF z
    · have h3 : ¬ 47 + digF z < s := fun h9 => (k1.mp h9) h2
      simp [h1, h2, h3]
    · have h3 : 47 + digF z < s := k1.mpr h2
      simp [h1, h2, h3]
theorem rd_stop {f : Nat → Int32} {k d : Nat} {x : RdS} (h : rdTakR x (f k) = 0) : rdGo f k (d + 1) x = (nI k, rdTake x (f k), 0) := if_pos h
theorem rd_go {f : Nat → Int32} {k d : Nat} {x : RdS} (h : rdTakR x (f k) = 1) : rdGo f k (d + 1) x = rdGo f (k + 1) d (rdTake x (f k)) := if_neg (by rw [h]; decide)
theorem rd_end {f : Nat → Int32} {k : Nat} {x : RdS} (h : ¬ x.2.2.2.1 = 1) : rdGo f k 0 x = (nI k, x, 0) := by
  show (nI k, x, if x.2.2.2.1 = 1 then 1 else 0) = _
  rw [if_neg h]
/-- the letter and the digit -/
theorem rd_letter (pf : Nat → Int32) (pn k : Nat) (y : RdS) (hk : k ≤ pn) (hy : y.2.2.2.1 = 3 ∨ (y.2.2.2.1 = 2 ∧ (k < pn → ¬ pf k = 33))) :
    (k < pn ∧ pA pf pn k = 103 ∧ rdGo pf k (pn - k) y = rdGo pf (k + 1) (pn - (k + 1)) (rdAdd y 30)) ∨
    (¬ pA pf pn k = 103 ∧ digF (pA pf pn k) = 0 ∧ (rdGo pf k (pn - k) y).1 = nI k ∧ (rdGo pf k (pn - k) y).2.2 = 0) ∨
    (k < pn ∧ ¬ pA pf pn k = 103 ∧ ¬ digF (pA pf pn k) = 0 ∧ inF (pA pf pn (k + 1)) 48 (47 + digF (pA pf pn k)) = 0 ∧ (rdGo pf k (pn - k) y).1 = nI (k + 1) ∧ (rdGo pf k (pn - k) y).2.2 = 0) ∨
    (k + 1 < pn ∧ ¬ pA pf pn k = 103 ∧ ¬ digF (pA pf pn k) = 0 ∧ ¬ inF (pA pf pn (k + 1)) 48 (47 + digF (pA pf pn k)) = 0 ∧ rdGo pf k (pn - k) y = rdGo pf (k + 1 + 1) (pn - (k + 1 + 1)) (rdAdd (rdWait y (frst (pf k)) (digF (pf k))) (frst (pf k) + (pf (k + 1) - 48)))) := by
  have hne : ¬ y.2.2.2.1 = 1 := by rcases hy with h | h; rw [h]; decide; rw [h.1]; decide
  rcases Nat.lt_or_ge k pn with hlt | hge
  · obtain ⟨d, hd⟩ : ∃ d, pn - k = d + 1 := ⟨pn - k - 1, by omega⟩
    have hd1 : pn - (k + 1) = d := by omega
    have ea : pA pf pn k = pf k := if_pos hlt
    have tR : rdTakR y (pf k) = rdLetR (pf k) := by
      unfold rdTakR
      rcases hy with h | h
      · rw [h]; rfl
      · rw [h.1, if_neg (by decide), if_neg (by decide), if_pos rfl, if_neg (h.2 hlt)]
    have tS : rdTake y (pf k) = rdLetS y (pf k) := by
      unfold rdTake
      rcases hy with h | h
      · rw [h]; rfl
      · rw [h.1, if_neg (by decide), if_neg (by decide), if_pos rfl, if_neg (h.2 hlt)]
    rw [ea, hd, hd1]
    rcases r_let y (pf k) with ⟨c1, c2, c3⟩ | ⟨c1, c2, c3⟩ | ⟨c1, c2, c3, c4⟩
    · refine Or.inl ⟨hlt, c1, ?_⟩
      rw [rd_go (tR.trans c2), tS, c3]
    · refine Or.inr (Or.inl ⟨c1, c2, ?_, ?_⟩)
      · rw [rd_stop (tR.trans c3)]
      · rw [rd_stop (tR.trans c3)]
    · rw [rd_go (tR.trans c3), tS, c4]
      rcases Nat.lt_or_ge (k + 1) pn with hl2 | hg2
      · have eb : pA pf pn (k + 1) = pf (k + 1) := if_pos hl2
        obtain ⟨d2, hd2⟩ : ∃ d2, d = d2 + 1 := ⟨d - 1, by omega⟩
        have q1 : rdTakR (rdWait y (frst (pf k)) (digF (pf k))) (pf (k + 1)) = rdDigR (rdWait y (frst (pf k)) (digF (pf k))) (pf (k + 1)) := rfl
        have q2 : rdTake (rdWait y (frst (pf k)) (digF (pf k))) (pf (k + 1)) = rdDigS (rdWait y (frst (pf k)) (digF (pf k))) (pf (k + 1)) := rfl
        have q3 : rdDigR (rdWait y (frst (pf k)) (digF (pf k))) (pf (k + 1)) = (if pf (k + 1) < 48 then (0 : Int32) else if pf (k + 1) < 48 + digF (pf k) then 1 else 0) := rfl
        have q4 : rdDigS (rdWait y (frst (pf k)) (digF (pf k))) (pf (k + 1)) = (if pf (k + 1) < 48 then rdWait y (frst (pf k)) (digF (pf k)) else if pf (k + 1) < 48 + digF (pf k) then rdAdd (rdWait y (frst (pf k)) (digF (pf k))) (frst (pf k) + (pf (k + 1) - 48)) else rdWait y (frst (pf k)) (digF (pf k))) := rfl
        rw [hd2, eb]
        by_cases c5 : inF (pf (k + 1)) 48 (47 + digF (pf k)) = 0
        · refine Or.inr (Or.inr (Or.inl ⟨hlt, c1, c2, c5, ?_, ?_⟩))
          · rw [rd_stop (q1.trans (q3.trans ((r_dig c2).mp c5)))]
          · rw [rd_stop (q1.trans (q3.trans ((r_dig c2).mp c5)))]
        · refine Or.inr (Or.inr (Or.inr ⟨hl2, c1, c2, c5, ?_⟩))
          have c6 := mt (r_dig c2).mpr c5
          have c7 : ¬ pf (k + 1) < 48 := fun h9 => c6 (if_pos h9)
          have c8 : pf (k + 1) < 48 + digF (pf k) := Classical.byContradiction fun h9 => c6 (by rw [if_neg c7, if_neg h9])
          rw [rd_go (q1.trans (q3.trans (by rw [if_neg c7, if_pos c8]))), q2, q4, if_neg c7, if_pos c8, show pn - (k + 1 + 1) = d2 by omega]
      · have eb : pA pf pn (k + 1) = -1 := if_neg (by omega)
        rw [show d = 0 by omega, eb]
        refine Or.inr (Or.inr (Or.inl ⟨hlt, c1, c2, rfl, ?_, ?_⟩))
        · rw [rd_end (show ¬ (4 : Int32) = 1 by decide)]
        · rw [rd_end (show ¬ (4 : Int32) = 1 by decide)]
  · have ea : pA pf pn k = -1 := if_neg (by omega)
    rw [ea, show pn - k = 0 by omega, rd_end hne]
    exact Or.inr (Or.inl ⟨by decide, rfl, rfl, rfl⟩)
/-- h says of each condition whether its fact is in F -/
def hOk (h : Int32 → Int32 → Int32) (F : Int32) : Prop := h 103 0 = (if F &&& ((1 : Int32) <<< ((30 : Int32) &&& 31)) = 0 then 0 else 1) ∧ ∀ z s : Int32, ¬ z = 103 → ¬ digF z = 0 → ¬ inF s 48 (47 + digF z) = 0 → h z (s - 48) = (if F &&& ((1 : Int32) <<< ((frst z + (s - 48)) &&& 31)) = 0 then 0 else 1)
/-- one condition of a text, in a rule's signs -/
theorem rd_cond {h : Int32 → Int32 → Int32} {sg : Nat → Int32} {kk : Nat} {nd br F fact tu : Int32} (hh : h (sg (nx2 sg kk)) (if sg (nx2 sg kk) = 103 then 0 else sg (nx2 sg kk + 1) - 48) = (if F &&& ((1 : Int32) <<< (fact &&& 31)) = 0 then 0 else 1)) (ht : (tu = 0 ∧ ¬ sg (kk + 1) = 33) ∨ (tu = 1 ∧ sg (kk + 1) = 33)) :
    cndM h sg kk (sutI nd br F) = sutI (if tu = 0 then nd ||| ((1 : Int32) <<< (fact &&& 31)) else nd) (if tu = 0 then br else br ||| ((1 : Int32) <<< (fact &&& 31))) F := by
  unfold cndM
  rw [hh]
  rcases ht with ⟨rfl, h1⟩ | ⟨rfl, h1⟩
  · rw [if_pos rfl, if_pos rfl, r_needs]
    unfold eqF
    rw [if_neg h1]
    by_cases h2 : sutI nd br F = 0 <;> by_cases h3 : F &&& ((1 : Int32) <<< (fact &&& 31)) = 0 <;> simp [h2, h3]
  · rw [if_neg (show ¬ (1 : Int32) = 0 by decide), if_neg (show ¬ (1 : Int32) = 0 by decide), r_bars]
    unfold eqF
    rw [if_pos h1]
    by_cases h2 : sutI nd br F = 0 <;> by_cases h3 : F &&& ((1 : Int32) <<< (fact &&& 31)) = 0 <;> simp [h2, h3]

/-- what is known behind the reader, from a gap on -/
def rdOk (pf sg : Nat → Int32) (pn b n k : Nat) (x : RdS) : Prop :=
  (wrM pf pn n k = -1 ∧ (rdGo pf k (pn - k) x).2.2 = 1 ∧ (rdGo pf k (pn - k) x).2.1.1 = x.1 ∧ wfM sg (b + pn) n (b + k) ∧ ∀ h F, hOk h F → suM h sg (b + pn) n (b + k) (sutI x.2.1 x.2.2.1 F) = sutI (rdGo pf k (pn - k) x).2.1.2.1 (rdGo pf k (pn - k) x).2.1.2.2.1 F) ∨
  (∃ j, j ≤ pn ∧ wrM pf pn n k = nI j ∧ (rdGo pf k (pn - k) x).1 = nI j ∧ (rdGo pf k (pn - k) x).2.2 = 0)
theorem rd_pass {pf sg : Nat → Int32} {pn b n k k1 : Nat} {x y : RdS} {fact tu : Int32} (hk : k < pn) (hg : rdGo pf k (pn - k) x = rdGo pf k1 (pn - k1) y) (hw : wrM pf pn (n + 1) k = wrM pf pn n k1) (ha : y.1 = x.1) (hk1 : k1 ≤ pn) (hnx : nx3 sg (b + k) = b + k1)
    (hy1 : y.2.1 = if tu = 0 then x.2.1 ||| ((1 : Int32) <<< (fact &&& 31)) else x.2.1) (hy2 : y.2.2.1 = if tu = 0 then x.2.2.1 else x.2.2.1 ||| ((1 : Int32) <<< (fact &&& 31)))
    (hh : ∀ h F, hOk h F → h (sg (nx2 sg (b + k))) (if sg (nx2 sg (b + k)) = 103 then 0 else sg (nx2 sg (b + k) + 1) - 48) = (if F &&& ((1 : Int32) <<< (fact &&& 31)) = 0 then 0 else 1)) (ht : (tu = 0 ∧ ¬ sg (b + k + 1) = 33) ∨ (tu = 1 ∧ sg (b + k + 1) = 33))
    (ih : rdOk pf sg pn b n k1 y) : rdOk pf sg pn b (n + 1) k x := by
  unfold rdOk at ih ⊢
  rw [hg, hw]
  rcases ih with ⟨h1, h2, h3, h4, h5⟩ | h
  · refine Or.inl ⟨h1, h2, h3.trans ha, Or.inr ⟨by rw [hnx]; omega, by rw [hnx]; exact h4⟩, fun h F hF => ?_⟩
    show (if b + k < b + pn then suM h sg (b + pn) n (nx3 sg (b + k)) (cndM h sg (b + k) (sutI x.2.1 x.2.2.1 F)) else _) = _
    rw [if_pos (by omega), hnx, rd_cond (hh h F hF) ht, ← hy1, ← hy2]
    exact h5 h F hF
  · exact Or.inr h
theorem rd_main (pf sg : Nat → Int32) (pn b : Nat) (hsg : ∀ i, i < pn → sg (b + i) = pf i) : ∀ (n k : Nat) (x : RdS), k ≤ pn → pn ≤ k + n → x.2.2.2.1 = 1 → rdOk pf sg pn b n k x := by
  intro n
  induction n with
  | zero =>
    intro k x hk hn hx
    have e : k = pn := by omega
    subst e
    unfold rdOk
    rw [Nat.sub_self]
    exact Or.inl ⟨rfl, if_pos hx, rfl, rfl, fun h F _ => rfl⟩
  | succ n ih =>
    intro k x hk hn hx
    rcases Nat.lt_or_ge k pn with hlt | hge
    · obtain ⟨d, hd⟩ : ∃ d, pn - k = d + 1 := ⟨pn - k - 1, by omega⟩
      have hd1 : pn - (k + 1) = d := by omega
      have ea : pA pf pn k = pf k := if_pos hlt
      have tR : rdTakR x (pf k) = if pf k = 32 then 1 else 0 := by unfold rdTakR; rw [hx]; rfl
      have tS : rdTake x (pf k) = rdGap x := by unfold rdTake; rw [hx]; rfl
      by_cases c0 : pf k = 32
      · have g1 : rdGo pf k (pn - k) x = rdGo pf (k + 1) (pn - (k + 1)) (rdGap x) := by rw [hd, hd1, rd_go (tR.trans (if_pos c0)), tS]
        have w1 : wrM pf pn (n + 1) k = (if pA pf pn (k2M pf pn k) = 103 then wrM pf pn n (k2M pf pn k + 1) else if digF (pA pf pn (k2M pf pn k)) = 0 then nI (k2M pf pn k) else if inF (pA pf pn (k2M pf pn k + 1)) 48 (47 + digF (pA pf pn (k2M pf pn k))) = 0 then nI (k2M pf pn k + 1) else wrM pf pn n (k2M pf pn k + 1 + 1)) := (if_pos hlt).trans (if_pos (ea.trans c0))
        -- the place of the letter, and the reader's state there
        obtain ⟨k2, y, tu, hk2, e2, g2, y1, y2, y3, y4, yt, ys, hn2⟩ : ∃ (k2 : Nat) (y : RdS) (tu : Int32), k2 ≤ pn ∧ k2M pf pn k = k2 ∧ rdGo pf k (pn - k) x = rdGo pf k2 (pn - k2) y ∧ y.1 = x.1 ∧ y.2.1 = x.2.1 ∧ y.2.2.1 = x.2.2.1 ∧ y.2.2.2.2.1 = tu ∧ (k2 < pn → (tu = 0 ∧ ¬ sg (b + k + 1) = 33) ∨ (tu = 1 ∧ sg (b + k + 1) = 33)) ∧ (y.2.2.2.1 = 3 ∨ (y.2.2.2.1 = 2 ∧ (k2 < pn → ¬ pf k2 = 33))) ∧ (k2 < pn → nx2 sg (b + k) = b + k2 ∧ k < k2) := by
          rcases Nat.lt_or_ge (k + 1) pn with hl1 | hg1
          · have eb : pA pf pn (k + 1) = pf (k + 1) := if_pos hl1
            have es : sg (b + k + 1) = pf (k + 1) := hsg (k + 1) hl1
            by_cases c1 : pf (k + 1) = 33
            · obtain ⟨d2, hd2⟩ : ∃ d2, pn - (k + 1) = d2 + 1 := ⟨pn - (k + 1) - 1, by omega⟩
              refine ⟨k + 1 + 1, rdTurn (rdGap x), 1, by omega, if_pos (eb.trans c1), ?_, rfl, rfl, rfl, rfl, fun _ => Or.inr ⟨rfl, es.trans c1⟩, Or.inl rfl, fun _ => ⟨if_pos (es.trans c1), by omega⟩⟩
              have q1 : rdTakR (rdGap x) (pf (k + 1)) = 1 := (show _ = (if pf (k + 1) = 33 then (1 : Int32) else rdLetR (pf (k + 1))) from rfl).trans (if_pos c1)
              have q2 : rdTake (rdGap x) (pf (k + 1)) = rdTurn (rdGap x) := (show _ = (if pf (k + 1) = 33 then rdTurn (rdGap x) else rdLetS (rdGap x) (pf (k + 1))) from rfl).trans (if_pos c1)
              rw [g1, hd2, rd_go q1, q2, show pn - (k + 1 + 1) = d2 by omega]
            · exact ⟨k + 1, rdGap x, 0, by omega, if_neg (fun h9 => c1 (eb.symm.trans h9)), g1, rfl, rfl, rfl, rfl, fun _ => Or.inl ⟨rfl, fun h9 => c1 (es.symm.trans h9)⟩, Or.inr ⟨rfl, fun _ => c1⟩, fun _ => ⟨if_neg (fun h9 => c1 (es.symm.trans h9)), by omega⟩⟩
          · exact ⟨k + 1, rdGap x, 0, by omega, if_neg (fun h9 => absurd ((if_neg (show ¬ k + 1 < pn by omega) : pA pf pn (k + 1) = -1).symm.trans h9) (by decide)), g1, rfl, rfl, rfl, rfl, fun h9 => absurd h9 (by omega), Or.inr ⟨rfl, fun h9 => absurd h9 (by omega)⟩, fun h9 => absurd h9 (by omega)⟩
        rw [e2] at w1
        have add1 : ∀ (z : RdS) (fact : Int32), (rdAdd z fact).2.1 = if z.2.2.2.2.1 = 0 then z.2.1 ||| ((1 : Int32) <<< (fact &&& 31)) else z.2.1 := fun _ _ => rfl
        have add2 : ∀ (z : RdS) (fact : Int32), (rdAdd z fact).2.2.1 = if z.2.2.2.2.1 = 0 then z.2.2.1 else z.2.2.1 ||| ((1 : Int32) <<< (fact &&& 31)) := fun _ _ => rfl
        rcases rd_letter pf pn k2 y hk2 ys with ⟨p0, p1, p2⟩ | ⟨p1, p2, p3, p4⟩ | ⟨p0, p1, p2, p3, p4, p5⟩ | ⟨p0, p1, p2, p3, p4⟩
        · have es : sg (b + k2) = 103 := (hsg k2 p0).trans ((if_pos p0 : pA pf pn k2 = pf k2).symm.trans p1)
          obtain ⟨m1, m2⟩ := hn2 p0
          refine rd_pass (k1 := k2 + 1) (fact := 30) (tu := tu) hlt (g2.trans p2) (w1.trans (if_pos p1)) y1 (by omega) ?_ ?_ ?_ (fun h F hF => ?_) (yt p0) (ih (k2 + 1) _ (by omega) (by omega) rfl)
          · unfold nx3; rw [m1, if_pos es]; rfl
          · rw [add1, y4, y2]
          · rw [add2, y4, y3]
          · rw [m1, if_pos es, es]; exact hF.1
        · unfold rdOk
          rw [g2, w1, if_neg p1, if_pos p2]
          exact Or.inr ⟨k2, hk2, rfl, p3, p4⟩
        · unfold rdOk
          rw [g2, w1, if_neg p1, if_neg p2, if_pos p3]
          exact Or.inr ⟨k2 + 1, by omega, rfl, p4, p5⟩
        · have ez : pA pf pn k2 = pf k2 := if_pos (by omega)
          have ew : pA pf pn (k2 + 1) = pf (k2 + 1) := if_pos p0
          have es : sg (b + k2) = pf k2 := hsg k2 (by omega)
          have es1 : sg (b + k2 + 1) = pf (k2 + 1) := hsg (k2 + 1) p0
          obtain ⟨m1, m2⟩ := hn2 (by omega)
          rw [ez] at p1 p2 p3
          rw [ew] at p3
          refine rd_pass (k1 := k2 + 1 + 1) (fact := frst (pf k2) + (pf (k2 + 1) - 48)) (tu := tu) hlt (g2.trans p4) (w1.trans (by rw [ez, ew, if_neg p1, if_neg p2, if_neg p3])) y1 (by omega) ?_ ?_ ?_ (fun h F hF => ?_) (yt (by omega)) (ih (k2 + 1 + 1) _ (by omega) (by omega) rfl)
          · unfold nx3; rw [m1, if_neg (by rw [es]; exact p1)]; rfl
          · rw [add1]; show (if y.2.2.2.2.1 = 0 then y.2.1 ||| _ else y.2.1) = _; rw [y4, y2]
          · rw [add2]; show (if y.2.2.2.2.1 = 0 then y.2.2.1 else y.2.2.1 ||| _) = _; rw [y4, y3]
          · rw [m1, if_neg (by rw [es]; exact p1), es, es1]; exact hF.2 _ _ p1 p2 p3
      · unfold rdOk
        rw [hd, rd_stop (tR.trans (if_neg c0))]
        exact Or.inr ⟨k, hk, (if_pos hlt).trans (if_neg (fun h9 => c0 (ea.symm.trans h9))), rfl, rfl⟩
    · have e : k = pn := by omega
      subst e
      unfold rdOk
      rw [Nat.sub_self]
      exact Or.inl ⟨if_neg (by omega), if_pos hx, rfl, Or.inl rfl, fun h F _ => if_neg (by omega)⟩
/-- the whole text: from the answer's letter -/
theorem rd_whole (pf sg : Nat → Int32) (pn b : Nat) (hpn : pn ≤ 40) (hsg : ∀ i, i < pn → sg (b + i) = pf i) (x : RdS) (h1 : x.2.1 = 0) (h2 : x.2.2.1 = 0) (h3 : x.2.2.2.1 = 0) :
    (wrgM pf pn < 0 ∧ ¬ (rdGo pf 0 pn x).2.2 = 0 ∧ 1 ≤ pn ∧ (pf 0 = 115 ∧ (rdGo pf 0 pn x).2.1.1 = 2 ∨ pf 0 = 109 ∧ (rdGo pf 0 pn x).2.1.1 = 1 ∨ pf 0 = 97 ∧ (rdGo pf 0 pn x).2.1.1 = 0) ∧ wfM sg (b + pn) 40 (b + 1) ∧ ∀ h F, hOk h F → suM h sg (b + pn) 40 (b + 1) 1 = sutI (rdGo pf 0 pn x).2.1.2.1 (rdGo pf 0 pn x).2.1.2.2.1 F) ∨
    (¬ wrgM pf pn < 0 ∧ (rdGo pf 0 pn x).2.2 = 0 ∧ (rdGo pf 0 pn x).1 = wrgM pf pn) := by
  have neg : ∀ j, j ≤ pn → ¬ nI j < 0 := fun j hj => nI_pos (by omega)
  cases pn with
  | zero =>
    refine Or.inr ⟨?_, ?_, ?_⟩
    · rw [show wrgM pf 0 = 0 from rfl]; decide
    · show (if x.2.2.2.1 = 1 then (1 : Int32) else 0) = 0
      rw [h3]; rfl
    · rfl
  | succ m =>
    have tR : rdTakR x (pf 0) = rdAnsR (pf 0) := by unfold rdTakR; rw [h3]; rfl
    have tS : rdTake x (pf 0) = rdAnsS x (pf 0) := by unfold rdTake; rw [h3]; rfl
    have ea : pA pf (m + 1) 0 = pf 0 := if_pos (by omega)
    have s0 : ∀ F, sutI (rdAnsS x (pf 0)).2.1 (rdAnsS x (pf 0)).2.2.1 F = 1 := fun F => by
      show sutI x.2.1 x.2.2.1 F = 1
      rw [h1, h2]
      unfold sutI
      rw [if_pos ⟨Int32.zero_and, Int32.zero_and⟩]
    by_cases c : pf 0 = 115 ∨ pf 0 = 109 ∨ pf 0 = 97
    · have hR : rdAnsR (pf 0) = 1 := by rcases c with c | c | c <;> rw [c] <;> rfl
      have hg : rdGo pf 0 (m + 1) x = rdGo pf 1 (m + 1 - 1) (rdAnsS x (pf 0)) := by rw [rd_go (tR.trans hR), tS]; rfl
      have hw : wrgM pf (m + 1) = wrM pf (m + 1) 40 1 := if_pos (by rw [ea]; exact c)
      have h := rd_main pf sg (m + 1) b hsg 40 1 (rdAnsS x (pf 0)) (by omega) (by omega) rfl
      unfold rdOk at h
      rw [hg, hw]
      rcases h with ⟨q1, q2, q3, q4, q5⟩ | ⟨j, q1, q2, q3, q4⟩
      · refine Or.inl ⟨by rw [q1]; decide, by rw [q2]; decide, by omega, ?_, q4, fun h F hF => ?_⟩
        · rw [q3]
          rcases c with c | c | c
          · exact Or.inl ⟨c, by rw [c]; rfl⟩
          · exact Or.inr (Or.inl ⟨c, by rw [c]; rfl⟩)
          · exact Or.inr (Or.inr ⟨c, by rw [c]; rfl⟩)
        · rw [← q5 h F hF, s0 F]
      · exact Or.inr ⟨by rw [q2]; exact neg j q1, q4, by rw [q2, q3]⟩
    · have hR : rdAnsR (pf 0) = 0 := by
        unfold rdAnsR
        rw [if_neg (fun h9 => c (Or.inr (Or.inr h9))), if_neg (fun h9 => c (Or.inr (Or.inl h9))), if_neg (fun h9 => c (Or.inl h9))]
      have hw : wrgM pf (m + 1) = 0 := if_neg (by rw [ea]; exact c)
      rw [rd_stop (tR.trans hR), hw]
      exact Or.inr ⟨by decide, rfl, rfl⟩
