theorem wb_LW_law : ∀ w ∈ bigW, w ∈ lw_tbl := big_tbl
/-- what stays all the while -/
def LFix (p : Program) (l : Launch) (s : State) (m : MethodId) (c : Code) (b L : Nat) (xs : Nat → Int32) (A : Nat → Prop) (dC : Nat → ClassId) (dI : Nat → Nat → Nat) (cI cC cL cZ : ClassId) : Prop := l.stackTraces = false ∧ p.tables.exec = Jvm.exec ∧ c.code = code ∧ c.maxLocals = 8 ∧ s.vm.findClass R_LW = some m.cls ∧ (∀ w ∈ lw_tbl, w.before #[Value.ref b] s = true) ∧ va_K (dC, dI) vwCl [(cI, .int), (cC, .char), (cL, .long), (cZ, .boolean)] s ∧ (∀ q : Nat, s.heap.size ≤ q → A q) ∧ (∀ q : Nat, A q → s.heap.size ≤ q) ∧ va_X b L xs s s.heap ∧ b < s.heap.size ∧ xkE s.heap.size s ∧ xkNos s ∧ L ≤ 3072
/-- what is kept between the class and the reference -/
def LInv (pf : Nat → Int32) (pn : Nat) (pl : Int32) (x : RdS) (nd br : Nat → Int32) (bn : Nat) (tl ab mk sh : Int32) (ro li : Nat → Int32) (en : Nat) (fa em : Nat → Int32) (va : Nat → Int64) (hn : Nat) (ap ar af at_ : Nat → Int32) (an : Nat) (lp lk : Nat → Int32) (ln : Nat) (qp qd : Nat → Int32) (qn : Nat) (er : Nat → Int32) (xn : Nat) (fr : Nat → Int32) (sg_ sz_ to_ ki co : Nat → Int32) (th wh wt fd pp wn : Int32) (mz : Nat → Nat) (ov : Nat → Int64) : Prop := pn ≤ 40 ∧ rlInv nd br tl ab mk sh sg_ sz_ to_ mz bn ∧ en ≤ 12 ∧ (∀ u, u < en → inR (ro u)) ∧ hn ≤ 16 ∧ (∀ r, r < hn → inK (ki r) (co r) (fa r)) ∧ an ≤ 40 ∧ ln ≤ 100 ∧ lkInv lk lp ln en ∧ qn ≤ 60 ∧ xn ≤ 16
/-- the law stands at pc with this state -/
def LAt (p : Program) (l : Launch) (e : Env) (s : State) (m : MethodId) (below : List Frame) (meth : Method) (c : Code) (Q : State → Prop) (b : Nat) (A : Nat → Prop) (dC : Nat → ClassId) (dI : Nat → Nat → Nat) (cI cC cL cZ : ClassId) (h hPA hRD hRB hPE hHO hAG hLO hRQ hEX aFR aS aN aB aRo aLi aFa aEm aVa aAP aAR aAF aAT aLP aLL aQP aQD aER g mPd mSg mSz mTo mRo mLi mKi mCo mEm mVa mA1 mA2 mA3 mA4 mLk mEx mQp mQd aO : Nat) (i pc cells slots : Nat) (pf : Nat → Int32) (pn : Nat) (pl : Int32) (x : RdS) (nd br : Nat → Int32) (bn : Nat) (tl ab mk sh : Int32) (ro li : Nat → Int32) (en : Nat) (fa em : Nat → Int32) (va : Nat → Int64) (hn : Nat) (ap ar af at_ : Nat → Int32) (an : Nat) (lp lk : Nat → Int32) (ln : Nat) (qp qd : Nat → Int32) (qn : Nat) (er : Nat → Int32) (xn : Nat) (fr : Nat → Int32) (sg_ sz_ to_ ki co : Nat → Int32) (th wh wt fd pp wn : Int32) (mz : Nat → Nat) (ov : Nat → Int64) : Prop := ∀ (H : Heap) (locs : List Loc), va_P (dC, dI) vwCl [(h, .inr (9, [.ref hPA, .ref hRD, .ref hRB, .ref hPE, .ref hHO, .ref hAG, .ref hLO, .ref hRQ, .ref hEX, .ref aFR])), (hPA, .inr (4, [.ref aS, .int (nI pn)])), (aS, .inl (cC, 40, .inl pf)), (hRD, .inr (8, [.int pl, .int x.1, .int x.2.1, .int x.2.2.1, .int x.2.2.2.1, .int x.2.2.2.2.1, .int x.2.2.2.2.2.1, .int x.2.2.2.2.2.2])), (hRB, .inr (7, [.ref aN, .ref aB, .int (nI bn), .int tl, .int ab, .int mk, .int sh])), (aN, .inl (cI, 20, .inl nd)), (aB, .inl (cI, 20, .inl br)), (hPE, .inr (5, [.ref aRo, .ref aLi, .int (nI en)])), (aRo, .inl (cI, 12, .inl ro)), (aLi, .inl (cI, 12, .inl li)), (hHO, .inr (2, [.ref aFa, .ref aEm, .ref aVa, .int (nI hn)])), (aFa, .inl (cI, 16, .inl fa)), (aEm, .inl (cI, 16, .inl em)), (aVa, .inl (cL, 96, .inr (.inl va))), (hAG, .inr (0, [.ref aAP, .ref aAR, .ref aAF, .ref aAT, .int (nI an)])), (aAP, .inl (cI, 40, .inl ap)), (aAR, .inl (cI, 40, .inl ar)), (aAF, .inl (cI, 40, .inl af)), (aAT, .inl (cI, 40, .inl at_)), (hLO, .inr (3, [.ref aLP, .ref aLL, .int (nI ln)])), (aLP, .inl (cI, 600, .inl lp)), (aLL, .inl (cI, 16, .inl lk)), (hRQ, .inr (6, [.ref aQP, .ref aQD, .int (nI qn)])), (aQP, .inl (cI, 60, .inl qp)), (aQD, .inl (cI, 60, .inl qd)), (hEX, .inr (1, [.ref aER, .int (nI xn)])), (aER, .inl (cI, 16, .inl er)), (aFR, .inl (cI, 24, .inl fr)), (g, .inr (10, [.int th, .ref mPd, .int (nI pn), .int (nI bn), .ref mSg, .ref mSz, .ref mTo, .int (nI en), .ref mRo, .ref mLi, .int (nI hn), .ref mKi, .ref mCo, .ref mEm, .ref mVa, .int (nI an), .ref mA1, .ref mA2, .ref mA3, .ref mA4, .int (nI ln), .ref mLk, .int (nI xn), .ref mEx, .int (nI qn), .ref mQp, .ref mQd, .int wh, .int wt, .int fd, .int pp, .int wn])), (mPd, .inl (cI, 40, .inl pf)), (mSg, .inl (cI, 800, .inl sg_)), (mSz, .inl (cI, 20, .inl sz_)), (mTo, .inl (cZ, 20, .inl to_)), (mRo, .inl (cI, 12, .inl ro)), (mLi, .inl (cI, 12, .inl li)), (mKi, .inl (cI, 16, .inl ki)), (mCo, .inl (cI, 16, .inl co)), (mEm, .inl (cI, 16, .inl em)), (mVa, .inl (cL, 96, .inr (.inl va))), (mA1, .inl (cI, 40, .inl ap)), (mA2, .inl (cI, 40, .inl ar)), (mA3, .inl (cI, 40, .inl af)), (mA4, .inl (cI, 40, .inl at_)), (mLk, .inl (cI, 600, .inl lp)), (mEx, .inl (cI, 16, .inl er)), (mQp, .inl (cI, 60, .inl qp)), (mQd, .inl (cI, 60, .inl qd)), (aO, .inl (cL, 1, .inr (.inl ov)))] H → va_D A [(h, .inr (9, [.ref hPA, .ref hRD, .ref hRB, .ref hPE, .ref hHO, .ref hAG, .ref hLO, .ref hRQ, .ref hEX, .ref aFR])), (hPA, .inr (4, [.ref aS, .int (nI pn)])), (aS, .inl (cC, 40, .inl pf)), (hRD, .inr (8, [.int pl, .int x.1, .int x.2.1, .int x.2.2.1, .int x.2.2.2.1, .int x.2.2.2.2.1, .int x.2.2.2.2.2.1, .int x.2.2.2.2.2.2])), (hRB, .inr (7, [.ref aN, .ref aB, .int (nI bn), .int tl, .int ab, .int mk, .int sh])), (aN, .inl (cI, 20, .inl nd)), (aB, .inl (cI, 20, .inl br)), (hPE, .inr (5, [.ref aRo, .ref aLi, .int (nI en)])), (aRo, .inl (cI, 12, .inl ro)), (aLi, .inl (cI, 12, .inl li)), (hHO, .inr (2, [.ref aFa, .ref aEm, .ref aVa, .int (nI hn)])), (aFa, .inl (cI, 16, .inl fa)), (aEm, .inl (cI, 16, .inl em)), (aVa, .inl (cL, 96, .inr (.inl va))), (hAG, .inr (0, [.ref aAP, .ref aAR, .ref aAF, .ref aAT, .int (nI an)])), (aAP, .inl (cI, 40, .inl ap)), (aAR, .inl (cI, 40, .inl ar)), (aAF, .inl (cI, 40, .inl af)), (aAT, .inl (cI, 40, .inl at_)), (hLO, .inr (3, [.ref aLP, .ref aLL, .int (nI ln)])), (aLP, .inl (cI, 600, .inl lp)), (aLL, .inl (cI, 16, .inl lk)), (hRQ, .inr (6, [.ref aQP, .ref aQD, .int (nI qn)])), (aQP, .inl (cI, 60, .inl qp)), (aQD, .inl (cI, 60, .inl qd)), (hEX, .inr (1, [.ref aER, .int (nI xn)])), (aER, .inl (cI, 16, .inl er)), (aFR, .inl (cI, 24, .inl fr)), (g, .inr (10, [.int th, .ref mPd, .int (nI pn), .int (nI bn), .ref mSg, .ref mSz, .ref mTo, .int (nI en), .ref mRo, .ref mLi, .int (nI hn), .ref mKi, .ref mCo, .ref mEm, .ref mVa, .int (nI an), .ref mA1, .ref mA2, .ref mA3, .ref mA4, .int (nI ln), .ref mLk, .int (nI xn), .ref mEx, .int (nI qn), .ref mQp, .ref mQd, .int wh, .int wt, .int fd, .int pp, .int wn])), (mPd, .inl (cI, 40, .inl pf)), (mSg, .inl (cI, 800, .inl sg_)), (mSz, .inl (cI, 20, .inl sz_)), (mTo, .inl (cZ, 20, .inl to_)), (mRo, .inl (cI, 12, .inl ro)), (mLi, .inl (cI, 12, .inl li)), (mKi, .inl (cI, 16, .inl ki)), (mCo, .inl (cI, 16, .inl co)), (mEm, .inl (cI, 16, .inl em)), (mVa, .inl (cL, 96, .inr (.inl va))), (mA1, .inl (cI, 40, .inl ap)), (mA2, .inl (cI, 40, .inl ar)), (mA3, .inl (cI, 40, .inl af)), (mA4, .inl (cI, 40, .inl at_)), (mLk, .inl (cI, 600, .inl lp)), (mEx, .inl (cI, 16, .inl er)), (mQp, .inl (cI, 60, .inl qp)), (mQd, .inl (cI, 60, .inl qd)), (aO, .inl (cL, 1, .inr (.inl ov)))] → va_S A s.heap H locs → ∀ ls : Array Slot, lv_has ls 8 [(4, .int (nI i)), (0, .ref b), (1, .ref h), (2, .ref g), (3, .ref aO)] → W p l e room_1 s m #[Value.ref b] below meth c H locs cells slots Q (F0 m pc ls [])
theorem rg_bad {x a b : Int32} (h : x < a ∨ b < x) : inF x a b = 0 := by
  unfold inF
  rcases h with h | h
  · rw [if_pos h]
  · by_cases h1 : x < a
    · rw [if_pos h1]
    · rw [if_neg h1, if_pos h]
theorem rg_good {x a b : Int32} (h1 : ¬ x < a) (h2 : ¬ b < x) : inF x a b = 1 := by
  unfold inF
  rw [if_neg h1, if_neg h2]
theorem rg_badS {x a b b' : Int32} (hb : b.toInt + 1 = b'.toInt) (h : x < a ∨ b' ≤ x) : inF x a b = 0 := by
  refine rg_bad (h.imp id fun h => ?_)
  rw [Int32.le_iff_toInt_le] at h
  rw [Int32.lt_iff_toInt_lt]
  omega
theorem rg_goodS {x a b b' : Int32} (hb : b.toInt + 1 = b'.toInt) (h1 : ¬ x < a) (h2 : x < b') : inF x a b = 1 := by
  refine rg_good h1 fun h => ?_
  rw [Int32.lt_iff_toInt_lt] at h h2
  omega
theorem nI_p1 (n : Nat) (hn : n < 1073741824) : (nI n - 1).toInt + 1 = (nI n).toInt := by
  have h := pk_sub_toInt (a := n) (b := 1) (by omega) (by decide)
  rw [show nI n - 1 = nI n - nI 1 from rfl, h, nI_toInt (by omega)]
  omega
theorem in_bad {x : Int32} {n : Nat} (hn : n < 1073741824) (h : x < 0 ∨ nI n ≤ x) : inF x 0 (nI n - 1) = 0 := rg_badS (nI_p1 n hn) h
theorem in_good {j n : Nat} (hn : n < 1073741824) (h : j < n) : inF (nI j) 0 (nI n - 1) = 1 := rg_goodS (nI_p1 n hn) (nI_pos (by omega)) ((nI_ltI (by omega) (by omega)).mpr h)
theorem ix2 (x : Int32) {n : Nat} (hn : n < 1073741824) : (x < 0 ∨ nI n ≤ x) ∨ ∃ j : Nat, j < n ∧ x = nI j := by
  rcases pk_ix x (n := n) (by omega) with h | h | h
  · exact Or.inl (Or.inl h)
  · exact Or.inl (Or.inr h)
  · exact Or.inr h
theorem rg2 (x a b : Int32) : (x < a ∨ b ≤ x) ∨ (¬ x < a ∧ x < b) := by
  by_cases h1 : x < a
  · exact Or.inl (Or.inl h1)
  · by_cases h2 : x < b
    · exact Or.inr ⟨h1, h2⟩
    · exact Or.inl (Or.inr (Int32.not_lt.mp h2))
theorem rgd (x a b : Int32) : (x < a ∨ b < x) ∨ (¬ x < a ∧ x ≤ b) := by
  by_cases h1 : x < a
  · exact Or.inl (Or.inl h1)
  · by_cases h2 : b < x
    · exact Or.inl (Or.inr h2)
    · exact Or.inr ⟨h1, Int32.not_lt.mp h2⟩
theorem lg_self (x : Int64) : lg_cmp x x = 0 := by simp [lg_cmp]
theorem eqF_n {a b : Nat} (ha : a < 1073741824) (hb : b < 1073741824) (h : ¬ a = b) : eqF (nI a) (nI b) = 0 := if_neg (fun h9 => h ((nI_eq (by omega) (by omega)).mp h9))
theorem eqF_y {a b : Nat} (h : a = b) : eqF (nI a) (nI b) = 1 := if_pos (by rw [h])
theorem nI_of3 {x : Int32} (h0 : ¬ x < 0) {n : Nat} {M : Int32} (hM : M.toInt = n) (h1 : x < M) : ∃ j : Nat, j < n ∧ x = nI j := by
  rw [Int32.lt_iff_toInt_lt] at h1
  have h2 : ¬ x.toInt < 0 := fun h => h0 (by rw [Int32.lt_iff_toInt_lt]; exact h)
  refine ⟨x.toInt.toNat, by omega, ?_⟩
  apply Int32.toInt_inj.mp
  have h3 := Int32.toInt_lt x
  rw [nI_toInt (by omega)]
  omega

theorem thr_1 {a b c : Int32} (h : a = 1) : thrF a b c = 1 := by subst h; rfl
theorem thr_2 {a b c : Int32} (h : a = 0) (h2 : b = 1) : thrF a b c = 2 := by subst h; subst h2; rfl
theorem thr_3 {a b c : Int32} (h : a = 0) (h2 : b = 0) (h3 : c = 1) : thrF a b c = 3 := by subst h; subst h2; subst h3; rfl
theorem thr_0 {a b c : Int32} (h : a = 0) (h2 : b = 0) (h3 : c = 0) : thrF a b c = 0 := by subst h; subst h2; subst h3; rfl
theorem not_0 {a : Int32} (h : a = 0) : notF a = 1 := by subst h; rfl
theorem not_1 {a : Int32} (h : a = 1) : notF a = 0 := by subst h; rfl
theorem or_a {a b : Int32} (h : a = 0) : orN a b = 1 := by subst h; rfl
theorem or_b {a b : Int32} (h : a = 1) (h2 : b = 0) : orN a b = 1 := by subst h; subst h2; rfl
theorem or_g {a b : Int32} (h : a = 1) (h2 : b = 1) : orN a b = 0 := by subst h; subst h2; rfl
theorem o4_1 {a b c d : Int32} (h : a = 0) : or4 a b c d = 1 := by subst h; rfl
theorem o4_2 {a b c d : Int32} (h : a = 1) (h2 : b = 0) : or4 a b c d = 1 := by subst h; subst h2; rfl
theorem o4_3 {a b c d : Int32} (h : a = 1) (h2 : b = 1) (h3 : c = 0) : or4 a b c d = 1 := by subst h; subst h2; subst h3; rfl
theorem o4_4 {a b c d : Int32} (h : a = 1) (h2 : b = 1) (h3 : c = 1) (h4 : d = 0) : or4 a b c d = 1 := by subst h; subst h2; subst h3; subst h4; rfl
theorem o4_g {a b c d : Int32} (h : a = 1) (h2 : b = 1) (h3 : c = 1) (h4 : d = 1) : or4 a b c d = 0 := by subst h; subst h2; subst h3; subst h4; rfl
theorem eqF_N {a c : Nat} {C : Int32} (hC : C = nI c) (ha : a < 1073741824) (hc : c < 1073741824) (h : ¬ a = c) : eqF (nI a) C = 0 := by rw [hC]; exact eqF_n ha hc h
theorem eqF_Y {a c : Nat} {C : Int32} (hC : C = nI c) (h : a = c) : eqF (nI a) C = 1 := by rw [hC]; exact eqF_y h
theorem one_ne {a : Int32} (h : a = 1) : ¬ a = 0 := by subst h; decide
theorem in_lit {j n : Nat} {B : Int32} (hB : B.toInt + 1 = (n : Int)) (h : j < n) (hn : n < 1073741824) : inF (nI j) 0 B = 1 := by
  refine rg_good (nI_pos (by omega)) (fun h9 => ?_)
  rw [Int32.lt_iff_toInt_lt, nI_toInt (by omega)] at h9
  omega
theorem un_le {pn : Nat} (hpn : pn ≤ 40) (a b c d : Int32) : (if nI pn + mnyM a b c d 4 ≤ 40 then (0 : Int32) else 1) = if pn + sgn4 a b c d ≤ 40 then 0 else 1 := by
  have h := sgn4_le a b c d
  rw [u_many, nI_add]
  by_cases h1 : pn + sgn4 a b c d ≤ 40
  · rw [if_pos h1, if_pos (show nI (pn + sgn4 a b c d) ≤ 40 from (nI_leI (show pn + sgn4 a b c d < 2147483648 by omega) (show 40 < 2147483648 by omega)).mpr h1)]
  · rw [if_neg h1, if_neg (fun h9 : nI (pn + sgn4 a b c d) ≤ 40 => h1 ((nI_leI (show pn + sgn4 a b c d < 2147483648 by omega) (show 40 < 2147483648 by omega)).mp h9))]
theorem inR_up {ro : Nat → Int32} {en : Nat} {z : Int32} (h : ∀ u, u < en → inR (ro u)) (h0 : ¬ z < 0) (h1 : z < 256) : ∀ u, u < en + 1 → inR (upd ro en z u) := by
  intro u hu
  by_cases e : u = en
  · rw [e, pk_us]
    obtain ⟨j, hj, e1⟩ := nI_of3 (n := 256) h0 (by decide) h1
    exact ⟨j, hj, e1⟩
  · rw [pk_un e]
    exact h u (by omega)
theorem inK_up {ki co fa : Nat → Int32} {hn : Nat} {k z : Int32} (h : ∀ r, r < hn → inK (ki r) (co r) (fa r)) (h0 : ¬ k < 0) (h1 : k < 4) (h2 : ¬ z < -1) (h3 : z < 8) : ∀ r, r < hn + 1 → inK (upd ki hn k r) (upd co hn z r) (upd fa hn (recF k z) r) := by
  intro r hr
  by_cases e : r = hn
  · rw [e, pk_us, pk_us, pk_us]
    obtain ⟨j, hj, e1⟩ := nI_of3 (n := 4) h0 (by decide) h1
    have h4 : ¬ z.toInt < -1 := fun h9 => h2 (by rw [Int32.lt_iff_toInt_lt]; exact h9)
    have h5 : z.toInt < 8 := Int32.lt_iff_toInt_lt.mp h3
    refine ⟨j, (z.toInt + 1).toNat, hj, by omega, e1, ?_, rfl⟩
    apply Int32.toInt_inj.mp
    have h6 := pk_sub_toInt (a := (z.toInt + 1).toNat) (b := 1) (by omega) (by decide)
    rw [show nI (z.toInt + 1).toNat - 1 = nI (z.toInt + 1).toNat - nI 1 from rfl, h6]
    omega
  · rw [pk_un e, pk_un e, pk_un e]
    exact h r (by omega)
theorem em3 (d : Int32) : ((d < 0 ∨ 100000 < d) ∧ ¬ d = -1) ∨ (d = -1 ∨ (¬ d < 0 ∧ d ≤ 100000)) := by
  by_cases h : d = -1
  · exact Or.inr (Or.inl h)
  · rcases rgd d 0 100000 with h1 | h1
    · exact Or.inl ⟨h1, h⟩
    · exact Or.inr (Or.inr h1)
theorem em3g {d : Int32} (h : d = -1 ∨ (¬ d < 0 ∧ d ≤ 100000)) : (if d = -1 then (0 : Int32) else notF (inF d 0 100000)) = 0 := by
  by_cases h1 : d = -1
  · rw [if_pos h1]
  · rw [if_neg h1]
    obtain ⟨h2, h3⟩ := h.resolve_left h1
    exact not_1 (rg_good h2 (Int32.not_lt.mpr h3))
theorem cnt_eq {a b m m' e h l q x : Int32} (hm : m = m') : (if x = 0 then a else if x = 1 then b else if x = 2 then m else if x = 3 then e else if x = 4 then h else if x = 5 then l else q) = cntV a b m' e h l q x := by rw [hm]; rfl
theorem hd_le {L i : Nat} (hL : L ≤ 3072) (hi : i ≤ 3072) (h : ¬ nI L - 6 < nI i) : i + 6 ≤ L := by
  have h1 := pk_sub_toInt (a := L) (b := 6) (by omega) (by decide)
  rw [Int32.lt_iff_toInt_lt, show nI L - 6 = nI L - nI 6 from rfl, h1, nI_toInt (by omega)] at h
  omega
