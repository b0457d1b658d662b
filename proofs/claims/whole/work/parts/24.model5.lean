/-- the reference's unit: how many signs; the pad behind the first k of them -/
def posF (x : Int32) : Int32 := if x ≤ 0 then 0 else 1
def mnyM (a b c d : Int32) : Nat → Int32
  | 0 => 0
  | k + 1 => mnyM a b c d k + (posF (sgM a (nI k)) + posF (sgM b (nI k)) + posF (sgM c (nI k)) + posF (sgM d (nI k)))
def pick4 (a b c d : Int32) (k : Nat) : Int32 := if k < 4 then a else if k < 8 then b else if k < 12 then c else d
def sM4 (a b c d : Int32) (k : Nat) : Int32 := sgM (pick4 a b c d k) (nI (k % 4))
def unM (pd : Nat → Int32) (pn : Nat) (a b c d : Int32) : Nat → (Nat → Int32) × Nat
  | 0 => (pd, pn)
  | k + 1 => if sM4 a b c d k = 0 then unM pd pn a b c d k else (upd (unM pd pn a b c d k).1 (unM pd pn a b c d k).2 (sM4 a b c d k), (unM pd pn a b c d k).2 + 1)
theorem unM_le (pd : Nat → Int32) (pn : Nat) (a b c d : Int32) (j : Nat) : (unM pd pn a b c d j).2 ≤ (unM pd pn a b c d (j + 1)).2 := by
  show _ ≤ (if sM4 a b c d j = 0 then unM pd pn a b c d j else (upd (unM pd pn a b c d j).1 (unM pd pn a b c d j).2 (sM4 a b c d j), (unM pd pn a b c d j).2 + 1)).2
  by_cases h : sM4 a b c d j = 0
  · rw [if_pos h]; exact Nat.le_refl _
  · rw [if_neg h]; exact Nat.le_succ _
theorem unM_mono (pd : Nat → Int32) (pn : Nat) (a b c d : Int32) (i j : Nat) (h : i ≤ j) : (unM pd pn a b c d i).2 ≤ (unM pd pn a b c d j).2 := by
  induction j with
  | zero => rw [show i = 0 by omega]; exact Nat.le_refl _
  | succ j ih =>
    rcases Nat.lt_or_ge i (j + 1) with h9 | h9
    · exact Nat.le_trans (ih (by omega)) (unM_le pd pn a b c d j)
    · rw [show i = j + 1 by omega]; exact Nat.le_refl _

set_option maxHeartbeats 4000000 in
set_option maxRecDepth 100000 in
theorem lp_MD_unit_6B {p : Program} {l : Launch} {e : Env} {s : State} {m : MethodId} {args : Array Value} {below : List Frame} {meth : Method} {c : Code} {Q : State → Prop} {A : Nat → Prop} {H0 : Heap} (dC : Nat → ClassId) (dI : Nat → Nat → Nat) (g mPd mSg mSz mTo mRo mLi mKi mCo mEm mVa mA1 mA2 mA3 mA4 mLk mEx mQp mQd : Nat) (th : Int32) (pn bn en hn an ln xn qn : Nat) (wh wt fd pp wn : Int32) (a b c0 d : Int32) (hok : ¬ thrF (if nI pn + mnyM a b c0 d 4 ≤ 40 then 0 else 1) 0 0 = 0)  (hx : p.tables.exec = Jvm.exec) (hb : c.code = k_MD_unit) (hml : c.maxLocals = 8) (hts : ∀ w ∈ ws_MD_unit, w.before args s = true) (hown : s.vm.findClass R_MD = some m.cls) (hK : va_K (dC, dI) vwCl [] s) (hA : ∀ q, H0.size ≤ q → A q) (kx83 : ∀ (v : Int32), (v = mnyM a b c0 d 4) → ∀ (H : Heap) (locs : List Loc), va_P (dC, dI) vwCl [(g, .inr (10, [.int th, .ref mPd, .int (nI pn), .int (nI bn), .ref mSg, .ref mSz, .ref mTo, .int (nI en), .ref mRo, .ref mLi, .int (nI hn), .ref mKi, .ref mCo, .ref mEm, .ref mVa, .int (nI an), .ref mA1, .ref mA2, .ref mA3, .ref mA4, .int (nI ln), .ref mLk, .int (nI xn), .ref mEx, .int (nI qn), .ref mQp, .ref mQd, .int wh, .int wt, .int fd, .int pp, .int wn]))] H → va_D A [(g, .inr (10, [.int th, .ref mPd, .int (nI pn), .int (nI bn), .ref mSg, .ref mSz, .ref mTo, .int (nI en), .ref mRo, .ref mLi, .int (nI hn), .ref mKi, .ref mCo, .ref mEm, .ref mVa, .int (nI an), .ref mA1, .ref mA2, .ref mA3, .ref mA4, .int (nI ln), .ref mLk, .int (nI xn), .ref mEx, .int (nI qn), .ref mQp, .ref mQd, .int wh, .int wt, .int fd, .int pp, .int wn]))] → va_S A H0 H locs → ∀ ls : Array Slot, lv_has ls 8 [(5, .int v), (0, .ref g), (1, .int a), (2, .int b), (3, .int c0), (4, .int d)] → W p l e ({ frames := 1, cells := 0, slots := 0, locals := 23 }) s m args below meth c H locs 0 0 Q (F0 m 83 ls [])) : ∀ (N : Nat), ∀ (k : Nat), ∀ (v : Int32), 4 + 1 ≤ k + N → (k ≤ 4) → (v = mnyM a b c0 d k) → ∀ (H : Heap) (locs : List Loc), va_P (dC, dI) vwCl [(g, .inr (10, [.int th, .ref mPd, .int (nI pn), .int (nI bn), .ref mSg, .ref mSz, .ref mTo, .int (nI en), .ref mRo, .ref mLi, .int (nI hn), .ref mKi, .ref mCo, .ref mEm, .ref mVa, .int (nI an), .ref mA1, .ref mA2, .ref mA3, .ref mA4, .int (nI ln), .ref mLk, .int (nI xn), .ref mEx, .int (nI qn), .ref mQp, .ref mQd, .int wh, .int wt, .int fd, .int pp, .int wn]))] H → va_D A [(g, .inr (10, [.int th, .ref mPd, .int (nI pn), .int (nI bn), .ref mSg, .ref mSz, .ref mTo, .int (nI en), .ref mRo, .ref mLi, .int (nI hn), .ref mKi, .ref mCo, .ref mEm, .ref mVa, .int (nI an), .ref mA1, .ref mA2, .ref mA3, .ref mA4, .int (nI ln), .ref mLk, .int (nI xn), .ref mEx, .int (nI qn), .ref mQp, .ref mQd, .int wh, .int wt, .int fd, .int pp, .int wn]))] → va_S A H0 H locs → ∀ ls : Array Slot, lv_has ls 8 [(6, .int (nI k)), (5, .int v), (0, .ref g), (1, .int a), (2, .int b), (3, .int c0), (4, .int d)] → W p l e ({ frames := 1, cells := 0, slots := 0, locals := 23 }) s m args below meth c H locs 0 0 Q (F0 m 6 ls []) := by
  have iMD : ∀ w ∈ u_ws R_MD T_MD 32, w ∈ ws_MD_unit := fun w h => wb_MD_unit w (in_MD w h)
  intro N
  induction N with
  | zero =>
    intro k v hme hk hv
    exact absurd hme (by omega)
  | succ N ih =>
    intro k v hme hk hv H locs hP hD hS ls hl
    refine lv_iload hx hb d_MD_unit_6 (lv_at hl 0 rfl) ?_
    refine lv_iconst (v := 4) hx hb d_MD_unit_8 (by decide) ?_
    refine lv_icmp_ge (tgt := 83) hx hb d_MD_unit_9 (by decide) (fun c9 => ?_) (fun c9 => ?_)
    · have hge : 4 ≤ k := (nI_leI (show 4 < 2147483648 by omega) (show k < 2147483648 by omega)).mp c9
      exact kx83 v (by rw [hv, show k = 4 by omega]) _ _ hP hD hS ls (lv_sub hl [1, 2, 3, 4, 5, 6] rfl)
    · have hlt : k < 4 := Nat.lt_of_not_le (mt (nI_leI (show 4 < 2147483648 by omega) (show k < 2147483648 by omega)).mpr c9)
      refine lv_iload hx hb d_MD_unit_12 (lv_at hl 1 rfl) ?_
      refine vz_join 28 [.int v] (fun b9 H9 locs9 ls9 => (b9 = posF (sgM a (nI k))) ∧ va_P (dC, dI) vwCl [(g, .inr (10, [.int th, .ref mPd, .int (nI pn), .int (nI bn), .ref mSg, .ref mSz, .ref mTo, .int (nI en), .ref mRo, .ref mLi, .int (nI hn), .ref mKi, .ref mCo, .ref mEm, .ref mVa, .int (nI an), .ref mA1, .ref mA2, .ref mA3, .ref mA4, .int (nI ln), .ref mLk, .int (nI xn), .ref mEx, .int (nI qn), .ref mQp, .ref mQd, .int wh, .int wt, .int fd, .int pp, .int wn]))] H9 ∧ va_D A [(g, .inr (10, [.int th, .ref mPd, .int (nI pn), .int (nI bn), .ref mSg, .ref mSz, .ref mTo, .int (nI en), .ref mRo, .ref mLi, .int (nI hn), .ref mKi, .ref mCo, .ref mEm, .ref mVa, .int (nI an), .ref mA1, .ref mA2, .ref mA3, .ref mA4, .int (nI ln), .ref mLk, .int (nI xn), .ref mEx, .int (nI qn), .ref mQp, .ref mQd, .int wh, .int wt, .int fd, .int pp, .int wn]))] ∧ va_S A H0 H9 locs9 ∧ lv_has ls9 8 [(6, .int (nI k)), (5, .int v), (0, .ref g), (1, .int a), (2, .int b), (3, .int c0), (4, .int d)]) (fun b9 H locs ls h9 => ?_) (fun k28 => ?_)
      · obtain ⟨rfl, hP, hD, hS, hl⟩ := h9
        refine vz_join 42 [.int (posF (sgM a (nI k))), .int v] (fun b9 H9 locs9 ls9 => (b9 = posF (sgM b (nI k))) ∧ va_P (dC, dI) vwCl [(g, .inr (10, [.int th, .ref mPd, .int (nI pn), .int (nI bn), .ref mSg, .ref mSz, .ref mTo, .int (nI en), .ref mRo, .ref mLi, .int (nI hn), .ref mKi, .ref mCo, .ref mEm, .ref mVa, .int (nI an), .ref mA1, .ref mA2, .ref mA3, .ref mA4, .int (nI ln), .ref mLk, .int (nI xn), .ref mEx, .int (nI qn), .ref mQp, .ref mQd, .int wh, .int wt, .int fd, .int pp, .int wn]))] H9 ∧ va_D A [(g, .inr (10, [.int th, .ref mPd, .int (nI pn), .int (nI bn), .ref mSg, .ref mSz, .ref mTo, .int (nI en), .ref mRo, .ref mLi, .int (nI hn), .ref mKi, .ref mCo, .ref mEm, .ref mVa, .int (nI an), .ref mA1, .ref mA2, .ref mA3, .ref mA4, .int (nI ln), .ref mLk, .int (nI xn), .ref mEx, .int (nI qn), .ref mQp, .ref mQd, .int wh, .int wt, .int fd, .int pp, .int wn]))] ∧ va_S A H0 H9 locs9 ∧ lv_has ls9 8 [(6, .int (nI k)), (5, .int v), (0, .ref g), (1, .int a), (2, .int b), (3, .int c0), (4, .int d)]) (fun b9 H locs ls h9 => ?_) (fun k42 => ?_)
        · obtain ⟨rfl, hP, hD, hS, hl⟩ := h9
          refine lv_iadd hx hb d_MD_unit_42 ?_
          refine vz_join 57 [.int ((posF (sgM a (nI k))) + (posF (sgM b (nI k)))), .int v] (fun b9 H9 locs9 ls9 => (b9 = posF (sgM c0 (nI k))) ∧ va_P (dC, dI) vwCl [(g, .inr (10, [.int th, .ref mPd, .int (nI pn), .int (nI bn), .ref mSg, .ref mSz, .ref mTo, .int (nI en), .ref mRo, .ref mLi, .int (nI hn), .ref mKi, .ref mCo, .ref mEm, .ref mVa, .int (nI an), .ref mA1, .ref mA2, .ref mA3, .ref mA4, .int (nI ln), .ref mLk, .int (nI xn), .ref mEx, .int (nI qn), .ref mQp, .ref mQd, .int wh, .int wt, .int fd, .int pp, .int wn]))] H9 ∧ va_D A [(g, .inr (10, [.int th, .ref mPd, .int (nI pn), .int (nI bn), .ref mSg, .ref mSz, .ref mTo, .int (nI en), .ref mRo, .ref mLi, .int (nI hn), .ref mKi, .ref mCo, .ref mEm, .ref mVa, .int (nI an), .ref mA1, .ref mA2, .ref mA3, .ref mA4, .int (nI ln), .ref mLk, .int (nI xn), .ref mEx, .int (nI qn), .ref mQp, .ref mQd, .int wh, .int wt, .int fd, .int pp, .int wn]))] ∧ va_S A H0 H9 locs9 ∧ lv_has ls9 8 [(6, .int (nI k)), (5, .int v), (0, .ref g), (1, .int a), (2, .int b), (3, .int c0), (4, .int d)]) (fun b9 H locs ls h9 => ?_) (fun k57 => ?_)
          · obtain ⟨rfl, hP, hD, hS, hl⟩ := h9
            refine lv_iadd hx hb d_MD_unit_57 ?_
            refine vz_join 73 [.int (((posF (sgM a (nI k))) + (posF (sgM b (nI k)))) + (posF (sgM c0 (nI k)))), .int v] (fun b9 H9 locs9 ls9 => (b9 = posF (sgM d (nI k))) ∧ va_P (dC, dI) vwCl [(g, .inr (10, [.int th, .ref mPd, .int (nI pn), .int (nI bn), .ref mSg, .ref mSz, .ref mTo, .int (nI en), .ref mRo, .ref mLi, .int (nI hn), .ref mKi, .ref mCo, .ref mEm, .ref mVa, .int (nI an), .ref mA1, .ref mA2, .ref mA3, .ref mA4, .int (nI ln), .ref mLk, .int (nI xn), .ref mEx, .int (nI qn), .ref mQp, .ref mQd, .int wh, .int wt, .int fd, .int pp, .int wn]))] H9 ∧ va_D A [(g, .inr (10, [.int th, .ref mPd, .int (nI pn), .int (nI bn), .ref mSg, .ref mSz, .ref mTo, .int (nI en), .ref mRo, .ref mLi, .int (nI hn), .ref mKi, .ref mCo, .ref mEm, .ref mVa, .int (nI an), .ref mA1, .ref mA2, .ref mA3, .ref mA4, .int (nI ln), .ref mLk, .int (nI xn), .ref mEx, .int (nI qn), .ref mQp, .ref mQd, .int wh, .int wt, .int fd, .int pp, .int wn]))] ∧ va_S A H0 H9 locs9 ∧ lv_has ls9 8 [(6, .int (nI k)), (5, .int v), (0, .ref g), (1, .int a), (2, .int b), (3, .int c0), (4, .int d)]) (fun b9 H locs ls h9 => ?_) (fun k73 => ?_)
            · obtain ⟨rfl, hP, hD, hS, hl⟩ := h9
              refine lv_iadd hx hb d_MD_unit_73 ?_
              refine lv_iadd hx hb d_MD_unit_74 ?_
              refine lv_istore (lv' := [(5, .int (v + ((((posF (sgM a (nI k))) + (posF (sgM b (nI k)))) + (posF (sgM c0 (nI k)))) + (posF (sgM d (nI k)))))), (6, .int (nI k)), (0, .ref g), (1, .int a), (2, .int b), (3, .int c0), (4, .int d)]) hx hb d_MD_unit_75 hl (by decide) rfl (fun ls hl => ?_)
              refine lv_iinc (v := nI (k + 1)) (lv' := [(6, .int (nI (k + 1))), (5, .int (v + ((((posF (sgM a (nI k))) + (posF (sgM b (nI k)))) + (posF (sgM c0 (nI k)))) + (posF (sgM d (nI k)))))), (0, .ref g), (1, .int a), (2, .int b), (3, .int c0), (4, .int d)]) hx hb d_MD_unit_77 hl (k := 1) rfl (nI_1 k) (by decide) rfl (fun ls hl => ?_)
              refine lv_goto (tgt := 6) hx hb d_MD_unit_80 (by decide) ?_
              exact ih (k + 1) (v + ((((posF (sgM a (nI k))) + (posF (sgM b (nI k)))) + (posF (sgM c0 (nI k)))) + (posF (sgM d (nI k))))) (by omega) (by omega) (by rw [hv]; rfl) _ _ hP hD hS ls (lv_sub hl [0, 1, 2, 3, 4, 5, 6] rfl)
            · refine lv_iload hx hb d_MD_unit_58 (lv_at hl 6 rfl) ?_
              refine lv_iload hx hb d_MD_unit_60 (lv_at hl 0 rfl) ?_
              have hPc := hP.sub (ws' := []) [] rfl
              have hKc := hK.sub (tys' := []) [] rfl
              refine va_calli (va_runS (As := [.int d, .int (nI k)]) (rest := [.int (((posF (sgM a (nI k))) + (posF (sgM b (nI k)))) + (posF (sgM c0 (nI k)))), .int v]) ⟨hx, hb, hml, hown, hts⟩ (c_MD_signOf l dC dI d (nI k)) (va_cwS 2 hts (vz_gS wb_MD_unit b_774 b_775 b_11 wc_MD_signOf) rfl rfl rfl (by decide +kernel) ⟨Nat.le_of_ble_eq_true rfl, Nat.le_of_ble_eq_true rfl⟩) (vz_preS hPc hKc) rfl rfl hl.1 rfl (lv_room (Nat.le_of_ble_eq_true rfl)) d_MD_unit_62 ⟨Nat.le_of_ble_eq_true rfl, Nat.le_of_ble_eq_true rfl⟩) hS (fun q _ h => False.elim h) (fun q h => False.elim h) (fun r62 u9 t9 H1 locs ht hvm hr62 hB hzx9 hkx9 hS => ?_)
              try dsimp only at hr62
              have hP := vz_kept hP hkx9
              generalize H1 = H at hP hS ⊢
              refine lv_if_le (tgt := 72) hx hb d_MD_unit_65 (by decide) (fun c65 => ?_) (fun c65 => ?_)
              · refine lv_iconst (v := 0) hx hb d_MD_unit_72 (by decide) ?_
                exact k73 _ _ _ _ ⟨by unfold posF; rw [← hr62, if_pos c65], hP, hD, hS, lv_sub hl [0, 1, 2, 3, 4, 5, 6] rfl⟩
              · refine lv_iconst (v := 1) hx hb d_MD_unit_68 (by decide) ?_
                refine lv_goto (tgt := 73) hx hb d_MD_unit_69 (by decide) ?_
                exact k73 _ _ _ _ ⟨by unfold posF; rw [← hr62, if_neg c65], hP, hD, hS, lv_sub hl [0, 1, 2, 3, 4, 5, 6] rfl⟩
          · refine lv_iload_n hx hb d_MD_unit_43 rfl (lv_at hl 5 rfl) ?_
            refine lv_iload hx hb d_MD_unit_44 (lv_at hl 0 rfl) ?_
            have hPc := hP.sub (ws' := []) [] rfl
            have hKc := hK.sub (tys' := []) [] rfl
            refine va_calli (va_runS (As := [.int c0, .int (nI k)]) (rest := [.int ((posF (sgM a (nI k))) + (posF (sgM b (nI k)))), .int v]) ⟨hx, hb, hml, hown, hts⟩ (c_MD_signOf l dC dI c0 (nI k)) (va_cwS 2 hts (vz_gS wb_MD_unit b_774 b_775 b_11 wc_MD_signOf) rfl rfl rfl (by decide +kernel) ⟨Nat.le_of_ble_eq_true rfl, Nat.le_of_ble_eq_true rfl⟩) (vz_preS hPc hKc) rfl rfl hl.1 rfl (lv_room (Nat.le_of_ble_eq_true rfl)) d_MD_unit_46 ⟨Nat.le_of_ble_eq_true rfl, Nat.le_of_ble_eq_true rfl⟩) hS (fun q _ h => False.elim h) (fun q h => False.elim h) (fun r46 u9 t9 H1 locs ht hvm hr46 hB hzx9 hkx9 hS => ?_)
            try dsimp only at hr46
            have hP := vz_kept hP hkx9
            generalize H1 = H at hP hS ⊢
            refine lv_if_le (tgt := 56) hx hb d_MD_unit_49 (by decide) (fun c49 => ?_) (fun c49 => ?_)
            · refine lv_iconst (v := 0) hx hb d_MD_unit_56 (by decide) ?_
              exact k57 _ _ _ _ ⟨by unfold posF; rw [← hr46, if_pos c49], hP, hD, hS, lv_sub hl [0, 1, 2, 3, 4, 5, 6] rfl⟩
            · refine lv_iconst (v := 1) hx hb d_MD_unit_52 (by decide) ?_
              refine lv_goto (tgt := 57) hx hb d_MD_unit_53 (by decide) ?_
              exact k57 _ _ _ _ ⟨by unfold posF; rw [← hr46, if_neg c49], hP, hD, hS, lv_sub hl [0, 1, 2, 3, 4, 5, 6] rfl⟩
        · refine lv_iload_n hx hb d_MD_unit_28 rfl (lv_at hl 4 rfl) ?_
          refine lv_iload hx hb d_MD_unit_29 (lv_at hl 0 rfl) ?_
          have hPc := hP.sub (ws' := []) [] rfl
          have hKc := hK.sub (tys' := []) [] rfl
          refine va_calli (va_runS (As := [.int b, .int (nI k)]) (rest := [.int (posF (sgM a (nI k))), .int v]) ⟨hx, hb, hml, hown, hts⟩ (c_MD_signOf l dC dI b (nI k)) (va_cwS 2 hts (vz_gS wb_MD_unit b_774 b_775 b_11 wc_MD_signOf) rfl rfl rfl (by decide +kernel) ⟨Nat.le_of_ble_eq_true rfl, Nat.le_of_ble_eq_true rfl⟩) (vz_preS hPc hKc) rfl rfl hl.1 rfl (lv_room (Nat.le_of_ble_eq_true rfl)) d_MD_unit_31 ⟨Nat.le_of_ble_eq_true rfl, Nat.le_of_ble_eq_true rfl⟩) hS (fun q _ h => False.elim h) (fun q h => False.elim h) (fun r31 u9 t9 H1 locs ht hvm hr31 hB hzx9 hkx9 hS => ?_)
          try dsimp only at hr31
          have hP := vz_kept hP hkx9
          generalize H1 = H at hP hS ⊢
          refine lv_if_le (tgt := 41) hx hb d_MD_unit_34 (by decide) (fun c34 => ?_) (fun c34 => ?_)
          · refine lv_iconst (v := 0) hx hb d_MD_unit_41 (by decide) ?_
            exact k42 _ _ _ _ ⟨by unfold posF; rw [← hr31, if_pos c34], hP, hD, hS, lv_sub hl [0, 1, 2, 3, 4, 5, 6] rfl⟩
          · refine lv_iconst (v := 1) hx hb d_MD_unit_37 (by decide) ?_
            refine lv_goto (tgt := 42) hx hb d_MD_unit_38 (by decide) ?_
            exact k42 _ _ _ _ ⟨by unfold posF; rw [← hr31, if_neg c34], hP, hD, hS, lv_sub hl [0, 1, 2, 3, 4, 5, 6] rfl⟩
      · refine lv_iload_n hx hb d_MD_unit_14 rfl (lv_at hl 3 rfl) ?_
        refine lv_iload hx hb d_MD_unit_15 (lv_at hl 0 rfl) ?_
        have hPc := hP.sub (ws' := []) [] rfl
        have hKc := hK.sub (tys' := []) [] rfl
        refine va_calli (va_runS (As := [.int a, .int (nI k)]) (rest := [.int v]) ⟨hx, hb, hml, hown, hts⟩ (c_MD_signOf l dC dI a (nI k)) (va_cwS 2 hts (vz_gS wb_MD_unit b_774 b_775 b_11 wc_MD_signOf) rfl rfl rfl (by decide +kernel) ⟨Nat.le_of_ble_eq_true rfl, Nat.le_of_ble_eq_true rfl⟩) (vz_preS hPc hKc) rfl rfl hl.1 rfl (lv_room (Nat.le_of_ble_eq_true rfl)) d_MD_unit_17 ⟨Nat.le_of_ble_eq_true rfl, Nat.le_of_ble_eq_true rfl⟩) hS (fun q _ h => False.elim h) (fun q h => False.elim h) (fun r17 u9 t9 H1 locs ht hvm hr17 hB hzx9 hkx9 hS => ?_)
        try dsimp only at hr17
        have hP := vz_kept hP hkx9
        generalize H1 = H at hP hS ⊢
        refine lv_if_le (tgt := 27) hx hb d_MD_unit_20 (by decide) (fun c20 => ?_) (fun c20 => ?_)
        · refine lv_iconst (v := 0) hx hb d_MD_unit_27 (by decide) ?_
          exact k28 _ _ _ _ ⟨by unfold posF; rw [← hr17, if_pos c20], hP, hD, hS, lv_sub hl [0, 1, 2, 3, 4, 5, 6] rfl⟩
        · refine lv_iconst (v := 1) hx hb d_MD_unit_23 (by decide) ?_
          refine lv_goto (tgt := 28) hx hb d_MD_unit_24 (by decide) ?_
          exact k28 _ _ _ _ ⟨by unfold posF; rw [← hr17, if_neg c20], hP, hD, hS, lv_sub hl [0, 1, 2, 3, 4, 5, 6] rfl⟩
set_option maxHeartbeats 4000000 in
set_option maxRecDepth 100000 in
theorem c_MD_unitB (l : Launch) (dC : Nat → ClassId) (dI : Nat → Nat → Nat) (sz : Nat) (g mPd mSg mSz mTo mRo mLi mKi mCo mEm mVa mA1 mA2 mA3 mA4 mLk mEx mQp mQd : Nat) (th : Int32) (pn bn en hn an ln xn qn : Nat) (wh wt fd pp wn : Int32) (a b c0 d : Int32) (hok : ¬ thrF (if nI pn + mnyM a b c0 d 4 ≤ 40 then 0 else 1) 0 0 = 0) : Met l y_MD_unit ws_MD_unit ({ frames := 1, cells := 0, slots := 0, locals := 23 }) (va_Pc [.ref g, .int a, .int b, .int c0, .int d] (fun U => U.heap.size = sz ∧ va_P (dC, dI) vwCl [(g, .inr (10, [.int th, .ref mPd, .int (nI pn), .int (nI bn), .ref mSg, .ref mSz, .ref mTo, .int (nI en), .ref mRo, .ref mLi, .int (nI hn), .ref mKi, .ref mCo, .ref mEm, .ref mVa, .int (nI an), .ref mA1, .ref mA2, .ref mA3, .ref mA4, .int (nI ln), .ref mLk, .int (nI xn), .ref mEx, .int (nI qn), .ref mQp, .ref mQd, .int wh, .int wt, .int fd, .int pp, .int wn]))] U.heap ∧ va_K (dC, dI) vwCl [] U ∧ va_D (fun _ => True) [(g, .inr (10, [.int th, .ref mPd, .int (nI pn), .int (nI bn), .ref mSg, .ref mSz, .ref mTo, .int (nI en), .ref mRo, .ref mLi, .int (nI hn), .ref mKi, .ref mCo, .ref mEm, .ref mVa, .int (nI an), .ref mA1, .ref mA2, .ref mA3, .ref mA4, .int (nI ln), .ref mLk, .int (nI xn), .ref mEx, .int (nI qn), .ref mQp, .ref mQd, .int wh, .int wt, .int fd, .int pp, .int wn]))])) (va_Qi (fun (res : Int32) (_ : Unit) => res = 0) (fun _ t => va_P (dC, dI) vwCl [(g, .inr (10, [.int (thrF (if nI pn + mnyM a b c0 d 4 ≤ 40 then 0 else 1) 0 0), .ref mPd, .int (nI pn), .int (nI bn), .ref mSg, .ref mSz, .ref mTo, .int (nI en), .ref mRo, .ref mLi, .int (nI hn), .ref mKi, .ref mCo, .ref mEm, .ref mVa, .int (nI an), .ref mA1, .ref mA2, .ref mA3, .ref mA4, .int (nI ln), .ref mLk, .int (nI xn), .ref mEx, .int (nI qn), .ref mQp, .ref mQd, .int wh, .int wt, .int fd, .int pp, .int wn]))] t.heap ∧ va_K (dC, dI) vwCl [] t ∧ va_D (va_A [(g, .inr (10, [.int th, .ref mPd, .int (nI pn), .int (nI bn), .ref mSg, .ref mSz, .ref mTo, .int (nI en), .ref mRo, .ref mLi, .int (nI hn), .ref mKi, .ref mCo, .ref mEm, .ref mVa, .int (nI an), .ref mA1, .ref mA2, .ref mA3, .ref mA4, .int (nI ln), .ref mLk, .int (nI xn), .ref mEx, .int (nI qn), .ref mQp, .ref mQd, .int wh, .int wt, .int fd, .int pp, .int wn]))] sz) [(g, .inr (10, [.int (thrF (if nI pn + mnyM a b c0 d 4 ≤ 40 then 0 else 1) 0 0), .ref mPd, .int (nI pn), .int (nI bn), .ref mSg, .ref mSz, .ref mTo, .int (nI en), .ref mRo, .ref mLi, .int (nI hn), .ref mKi, .ref mCo, .ref mEm, .ref mVa, .int (nI an), .ref mA1, .ref mA2, .ref mA3, .ref mA4, .int (nI ln), .ref mLk, .int (nI xn), .ref mEx, .int (nI qn), .ref mQp, .ref mQd, .int wh, .int wt, .int fd, .int pp, .int wn]))]) (va_A [(g, .inr (10, [.int th, .ref mPd, .int (nI pn), .int (nI bn), .ref mSg, .ref mSz, .ref mTo, .int (nI en), .ref mRo, .ref mLi, .int (nI hn), .ref mKi, .ref mCo, .ref mEm, .ref mVa, .int (nI an), .ref mA1, .ref mA2, .ref mA3, .ref mA4, .int (nI ln), .ref mLk, .int (nI xn), .ref mEx, .int (nI qn), .ref mQp, .ref mQd, .int wh, .int wt, .int fd, .int pp, .int wn]))] sz)) 0 0 (va_A [(g, .inr (10, [.int th, .ref mPd, .int (nI pn), .int (nI bn), .ref mSg, .ref mSz, .ref mTo, .int (nI en), .ref mRo, .ref mLi, .int (nI hn), .ref mKi, .ref mCo, .ref mEm, .ref mVa, .int (nI an), .ref mA1, .ref mA2, .ref mA3, .ref mA4, .int (nI ln), .ref mLk, .int (nI xn), .ref mEx, .int (nI qn), .ref mQp, .ref mQd, .int wh, .int wt, .int fd, .int pp, .int wn]))] sz) := by
  refine Met.ofW (cc := k_MD_unit) (maxL := 8) (ret := (some .int)) (by decide) rfl ?_
  intro p e s m args below meth c s₁ B hml hv
  obtain ⟨rfl, hsz, hP, hK, hD0⟩ := hv
  have hx := B.exec
  have hb := B.bytes
  have hr := B.returns
  have hts := atoms_spec (ws := ws_MD_unit) B.pre
  have hown : s.vm.findClass R_MD = some m.cls := findClass_of_methodNamed B.named
  have hlocks := B.notSynchronized
  subst hsz
  have hD := hD0.self (sz := s.heap.size)
  generalize hAe : va_A [(g, .inr (10, [.int th, .ref mPd, .int (nI pn), .int (nI bn), .ref mSg, .ref mSz, .ref mTo, .int (nI en), .ref mRo, .ref mLi, .int (nI hn), .ref mKi, .ref mCo, .ref mEm, .ref mVa, .int (nI an), .ref mA1, .ref mA2, .ref mA3, .ref mA4, .int (nI ln), .ref mLk, .int (nI xn), .ref mEx, .int (nI qn), .ref mQp, .ref mQd, .int wh, .int wt, .int fd, .int pp, .int wn]))] s.heap.size = A at hD ⊢
  have hA : ∀ q : Nat, s.heap.size ≤ q → A q := fun q h => by rw [← hAe]; exact Or.inr h
  have hS : va_S A s.heap s.heap [] := va_S.rf
  have hP : va_P (dC, dI) vwCl [(g, .inr (10, [.int th, .ref mPd, .int (nI pn), .int (nI bn), .ref mSg, .ref mSz, .ref mTo, .int (nI en), .ref mRo, .ref mLi, .int (nI hn), .ref mKi, .ref mCo, .ref mEm, .ref mVa, .int (nI an), .ref mA1, .ref mA2, .ref mA3, .ref mA4, .int (nI ln), .ref mLk, .int (nI xn), .ref mEx, .int (nI qn), .ref mQp, .ref mQd, .int wh, .int wt, .int fd, .int pp, .int wn]))] s.heap := hP
  have iMD : ∀ w ∈ u_ws R_MD T_MD 32, w ∈ ws_MD_unit := fun w h => wb_MD_unit w (in_MD w h)
  have hl := lv_entry ([.ref g, .int a, .int b, .int c0, .int d]) (n := 8) (Nat.le_of_ble_eq_true rfl)
  rw [lg_entry_eq]
  generalize (lg_sl ([.ref g, .int a, .int b, .int c0, .int d]) ++ List.replicate (8 - (lg_sl ([.ref g, .int a, .int b, .int c0, .int d])).length) Slot.unset).toArray = ls at hl ⊢
  have hl : lv_has ls 8 [(0, .ref g), (1, .int a), (2, .int b), (3, .int c0), (4, .int d)] := hl
  refine lv_iconst (v := 0) hx hb d_MD_unit_0 (by decide) ?_
  refine lv_istore (lv' := [(5, .int 0), (0, .ref g), (1, .int a), (2, .int b), (3, .int c0), (4, .int d)]) hx hb d_MD_unit_1 hl (by decide) rfl (fun ls hl => ?_)
  refine lv_iconst (v := 0) hx hb d_MD_unit_3 (by decide) ?_
  refine lv_istore (lv' := [(6, .int 0), (5, .int 0), (0, .ref g), (1, .int a), (2, .int b), (3, .int c0), (4, .int d)]) hx hb d_MD_unit_4 hl (by decide) rfl (fun ls hl => ?_)
  refine lp_MD_unit_6B dC dI g mPd mSg mSz mTo mRo mLi mKi mCo mEm mVa mA1 mA2 mA3 mA4 mLk mEx mQp mQd th pn bn en hn an ln xn qn wh wt fd pp wn a b c0 d hok hx hb hml hts hown hK hA (fun v hv H locs hP hD hS ls hl => ?_) (4 + 1) 0 0 (by omega) (Nat.zero_le _) (rfl) _ _ hP hD hS ls (lv_sub hl [0, 1, 2, 3, 4, 5, 6] rfl)
  · refine lv_aload_n hx hb d_MD_unit_83 rfl (lv_at hl 1 rfl) ?_
    refine vz_join 101 [.ref g] (fun b9 H9 locs9 ls9 => (b9 = if nI pn + mnyM a b c0 d 4 ≤ 40 then 0 else 1) ∧ va_P (dC, dI) vwCl [(g, .inr (10, [.int th, .ref mPd, .int (nI pn), .int (nI bn), .ref mSg, .ref mSz, .ref mTo, .int (nI en), .ref mRo, .ref mLi, .int (nI hn), .ref mKi, .ref mCo, .ref mEm, .ref mVa, .int (nI an), .ref mA1, .ref mA2, .ref mA3, .ref mA4, .int (nI ln), .ref mLk, .int (nI xn), .ref mEx, .int (nI qn), .ref mQp, .ref mQd, .int wh, .int wt, .int fd, .int pp, .int wn]))] H9 ∧ va_D A [(g, .inr (10, [.int th, .ref mPd, .int (nI pn), .int (nI bn), .ref mSg, .ref mSz, .ref mTo, .int (nI en), .ref mRo, .ref mLi, .int (nI hn), .ref mKi, .ref mCo, .ref mEm, .ref mVa, .int (nI an), .ref mA1, .ref mA2, .ref mA3, .ref mA4, .int (nI ln), .ref mLk, .int (nI xn), .ref mEx, .int (nI qn), .ref mQp, .ref mQd, .int wh, .int wt, .int fd, .int pp, .int wn]))] ∧ va_S A s.heap H9 locs9 ∧ lv_has ls9 8 [(5, .int v), (0, .ref g), (1, .int a), (2, .int b), (3, .int c0), (4, .int d)]) (fun b9 H locs ls h9 => ?_) (fun k101 => ?_)
    · obtain ⟨rfl, hP, hD, hS, hl⟩ := h9
      refine lv_iconst (v := 0) hx hb d_MD_unit_101 (by decide) ?_
      refine lv_iconst (v := 0) hx hb d_MD_unit_102 (by decide) ?_
      have hPc := hP.sub (ws' := [(g, .inr (10, [.int th, .ref mPd, .int (nI pn), .int (nI bn), .ref mSg, .ref mSz, .ref mTo, .int (nI en), .ref mRo, .ref mLi, .int (nI hn), .ref mKi, .ref mCo, .ref mEm, .ref mVa, .int (nI an), .ref mA1, .ref mA2, .ref mA3, .ref mA4, .int (nI ln), .ref mLk, .int (nI xn), .ref mEx, .int (nI qn), .ref mQp, .ref mQd, .int wh, .int wt, .int fd, .int pp, .int wn]))]) [0] rfl
      have hKc := hK.sub (tys' := []) [] rfl
      have hDc := hD.sub (ws' := [(g, .inr (10, [.int th, .ref mPd, .int (nI pn), .int (nI bn), .ref mSg, .ref mSz, .ref mTo, .int (nI en), .ref mRo, .ref mLi, .int (nI hn), .ref mKi, .ref mCo, .ref mEm, .ref mVa, .int (nI an), .ref mA1, .ref mA2, .ref mA3, .ref mA4, .int (nI ln), .ref mLk, .int (nI xn), .ref mEx, .int (nI qn), .ref mQp, .ref mQd, .int wh, .int wt, .int fd, .int pp, .int wn]))]) [0] (by decide) rfl
      have hFc := va_free (wc := [(g, .inr (10, [.int th, .ref mPd, .int (nI pn), .int (nI bn), .ref mSg, .ref mSz, .ref mTo, .int (nI en), .ref mRo, .ref mLi, .int (nI hn), .ref mKi, .ref mCo, .ref mEm, .ref mVa, .int (nI an), .ref mA1, .ref mA2, .ref mA3, .ref mA4, .int (nI ln), .ref mLk, .int (nI xn), .ref mEx, .int (nI qn), .ref mQp, .ref mQd, .int wh, .int wt, .int fd, .int pp, .int wn]))]) hD hS hA [0] rfl
      refine va_calli (va_runV (As := [.int (if nI pn + mnyM a b c0 d 4 ≤ 40 then 0 else 1), .int 0, .int 0]) (rest := []) ⟨hx, hb, hml, hown, hts⟩ (c_MD_throwing l dC dI H.size g mPd mSg mSz mTo mRo mLi mKi mCo mEm mVa mA1 mA2 mA3 mA4 mLk mEx mQp mQd th pn bn en hn an ln xn qn wh wt fd pp wn (if nI pn + mnyM a b c0 d 4 ≤ 40 then 0 else 1) 0 0) (cwV 3 hts (vz_gV wb_MD_unit b_777 b_779 bs_15 b_11 wc_MD_throwing) rfl rfl rfl (by decide +kernel) ⟨Nat.le_of_ble_eq_true rfl, Nat.le_of_ble_eq_true rfl⟩) (vz_preVw (A := A) hPc hKc hDc (ci := 10) (q0 := 0) rfl rfl) rfl rfl hl.1 rfl (lv_room (Nat.le_of_ble_eq_true rfl)) d_MD_unit_103 ⟨Nat.le_of_ble_eq_true rfl, Nat.le_of_ble_eq_true rfl⟩) hS (fun q _ h => hFc q h) hFc (fun r103 u9 t9 H1 locs ht hvm hr103 hB hzx9 hkx9 hS => ?_)
      try dsimp only at hr103
      obtain ⟨hP1, hK1, hD1⟩ := hB
      rw [ht] at hP1
      obtain ⟨hP, hD⟩ := va_join (wr := []) (w1 := [(g, .inr (10, [.int (thrF (if nI pn + mnyM a b c0 d 4 ≤ 40 then 0 else 1) 0 0), .ref mPd, .int (nI pn), .int (nI bn), .ref mSg, .ref mSz, .ref mTo, .int (nI en), .ref mRo, .ref mLi, .int (nI hn), .ref mKi, .ref mCo, .ref mEm, .ref mVa, .int (nI an), .ref mA1, .ref mA2, .ref mA3, .ref mA4, .int (nI ln), .ref mLk, .int (nI xn), .ref mEx, .int (nI qn), .ref mQp, .ref mQd, .int wh, .int wt, .int fd, .int pp, .int wn]))]) hP hD [0] [] rfl rfl (by decide) (by decide) hkx9 hFc hP1 hD1
      generalize H1 = H at hP hS ⊢
      have hP : va_P (dC, dI) vwCl [(g, .inr (10, [.int (thrF (if nI pn + mnyM a b c0 d 4 ≤ 40 then 0 else 1) 0 0), .ref mPd, .int (nI pn), .int (nI bn), .ref mSg, .ref mSz, .ref mTo, .int (nI en), .ref mRo, .ref mLi, .int (nI hn), .ref mKi, .ref mCo, .ref mEm, .ref mVa, .int (nI an), .ref mA1, .ref mA2, .ref mA3, .ref mA4, .int (nI ln), .ref mLk, .int (nI xn), .ref mEx, .int (nI qn), .ref mQp, .ref mQd, .int wh, .int wt, .int fd, .int pp, .int wn]))] H := hP
      have hD : va_D A [(g, .inr (10, [.int (thrF (if nI pn + mnyM a b c0 d 4 ≤ 40 then 0 else 1) 0 0), .ref mPd, .int (nI pn), .int (nI bn), .ref mSg, .ref mSz, .ref mTo, .int (nI en), .ref mRo, .ref mLi, .int (nI hn), .ref mKi, .ref mCo, .ref mEm, .ref mVa, .int (nI an), .ref mA1, .ref mA2, .ref mA3, .ref mA4, .int (nI ln), .ref mLk, .int (nI xn), .ref mEx, .int (nI qn), .ref mQp, .ref mQd, .int wh, .int wt, .int fd, .int pp, .int wn]))] := hD
      refine lv_if_eq (tgt := 111) hx hb d_MD_unit_106 (by decide) (fun c106 => ?_) (fun c106 => ?_)
      · exact absurd (thrF_z (hr103.symm.trans c106)) hok
      · refine lv_iconst (v := 0) hx hb d_MD_unit_109 (by decide) ?_
        have hP9 := hP.sub (ws' := [(g, .inr (10, [.int (thrF (if nI pn + mnyM a b c0 d 4 ≤ 40 then 0 else 1) 0 0), .ref mPd, .int (nI pn), .int (nI bn), .ref mSg, .ref mSz, .ref mTo, .int (nI en), .ref mRo, .ref mLi, .int (nI hn), .ref mKi, .ref mCo, .ref mEm, .ref mVa, .int (nI an), .ref mA1, .ref mA2, .ref mA3, .ref mA4, .int (nI ln), .ref mLk, .int (nI xn), .ref mEx, .int (nI qn), .ref mQp, .ref mQd, .int wh, .int wt, .int fd, .int pp, .int wn]))]) [0] rfl
        have hD9 := hD.sub (ws' := [(g, .inr (10, [.int (thrF (if nI pn + mnyM a b c0 d 4 ≤ 40 then 0 else 1) 0 0), .ref mPd, .int (nI pn), .int (nI bn), .ref mSg, .ref mSz, .ref mTo, .int (nI en), .ref mRo, .ref mLi, .int (nI hn), .ref mKi, .ref mCo, .ref mEm, .ref mVa, .int (nI an), .ref mA1, .ref mA2, .ref mA3, .ref mA4, .int (nI ln), .ref mLk, .int (nI xn), .ref mEx, .int (nI qn), .ref mQp, .ref mQd, .int wh, .int wt, .int fd, .int pp, .int wn]))]) [0] (by decide) rfl
        exact W.iret (v := 0) hx hb hr (fun t ht hW => ⟨⟨0, (), rfl, rfl, by rw [ht]; exact hP9, va_K.moved hW.alike hK, hD9⟩, hS.F ht⟩) hS.2.2 d_MD_unit_110
    · refine lv_aload_n hx hb d_MD_unit_84 rfl (lv_at hl 1 rfl) ?_
      refine va_get (D := (dC, dI)) (ci := 10) (v := .int (nI pn)) (C := R_MD) (T := T_MD) (N := 32) hx hb hts iMD hown hK hP 0 rfl rfl 2 (by decide) (hts _ (wb_MD_unit _ b_670)) (fun _ h9 => h9) rfl d_MD_unit_85 ?_
      refine lv_iload hx hb d_MD_unit_88 (lv_at hl 0 rfl) ?_
      refine lv_iadd hx hb d_MD_unit_90 ?_
      refine lv_bipush (v := 40) hx hb d_MD_unit_91 (by decide) ?_
      refine lv_icmp_le (tgt := 100) hx hb d_MD_unit_93 (by decide) (fun c93 => ?_) (fun c93 => ?_)
      · refine lv_iconst (v := 0) hx hb d_MD_unit_100 (by decide) ?_
        exact k101 _ _ _ _ ⟨by rw [← hv, if_pos c93], hP, hD, hS, lv_sub hl [0, 1, 2, 3, 4, 5] rfl⟩
      · refine lv_iconst (v := 1) hx hb d_MD_unit_96 (by decide) ?_
        refine lv_goto (tgt := 101) hx hb d_MD_unit_97 (by decide) ?_
        exact k101 _ _ _ _ ⟨by rw [← hv, if_neg c93], hP, hD, hS, lv_sub hl [0, 1, 2, 3, 4, 5] rfl⟩

set_option maxHeartbeats 4000000 in
set_option maxRecDepth 100000 in
theorem lp_MD_unit_6G {p : Program} {l : Launch} {e : Env} {s : State} {m : MethodId} {args : Array Value} {below : List Frame} {meth : Method} {c : Code} {Q : State → Prop} {A : Nat → Prop} {H0 : Heap} (dC : Nat → ClassId) (dI : Nat → Nat → Nat) (cI : ClassId) (g mPd mSg mSz mTo mRo mLi mKi mCo mEm mVa mA1 mA2 mA3 mA4 mLk mEx mQp mQd : Nat) (th : Int32) (pn bn en hn an ln xn qn : Nat) (wh wt fd pp wn : Int32) (pd : Nat → Int32) (a b c0 d : Int32) (hub : (unM pd pn a b c0 d 16).2 ≤ 40) (hok : thrF (if nI pn + mnyM a b c0 d 4 ≤ 40 then 0 else 1) 0 0 = 0)  (hx : p.tables.exec = Jvm.exec) (hb : c.code = k_MD_unit) (hml : c.maxLocals = 8) (hts : ∀ w ∈ ws_MD_unit, w.before args s = true) (hown : s.vm.findClass R_MD = some m.cls) (hK : va_K (dC, dI) vwCl [(cI, .int)] s) (hA : ∀ q, H0.size ≤ q → A q) (kx83 : ∀ (v : Int32), (v = mnyM a b c0 d 4) → ∀ (H : Heap) (locs : List Loc), va_P (dC, dI) vwCl [(g, .inr (10, [.int th, .ref mPd, .int (nI pn), .int (nI bn), .ref mSg, .ref mSz, .ref mTo, .int (nI en), .ref mRo, .ref mLi, .int (nI hn), .ref mKi, .ref mCo, .ref mEm, .ref mVa, .int (nI an), .ref mA1, .ref mA2, .ref mA3, .ref mA4, .int (nI ln), .ref mLk, .int (nI xn), .ref mEx, .int (nI qn), .ref mQp, .ref mQd, .int wh, .int wt, .int fd, .int pp, .int wn])), (mPd, .inl (cI, 40, .inl pd))] H → va_D A [(g, .inr (10, [.int th, .ref mPd, .int (nI pn), .int (nI bn), .ref mSg, .ref mSz, .ref mTo, .int (nI en), .ref mRo, .ref mLi, .int (nI hn), .ref mKi, .ref mCo, .ref mEm, .ref mVa, .int (nI an), .ref mA1, .ref mA2, .ref mA3, .ref mA4, .int (nI ln), .ref mLk, .int (nI xn), .ref mEx, .int (nI qn), .ref mQp, .ref mQd, .int wh, .int wt, .int fd, .int pp, .int wn])), (mPd, .inl (cI, 40, .inl pd))] → va_S A H0 H locs → ∀ ls : Array Slot, lv_has ls 8 [(5, .int v), (0, .ref g), (1, .int a), (2, .int b), (3, .int c0), (4, .int d)] → W p l e ({ frames := 1, cells := 0, slots := 0, locals := 23 }) s m args below meth c H locs 0 0 Q (F0 m 83 ls [])) : ∀ (N : Nat), ∀ (k : Nat), ∀ (v : Int32), 4 + 1 ≤ k + N → (k ≤ 4) → (v = mnyM a b c0 d k) → ∀ (H : Heap) (locs : List Loc), va_P (dC, dI) vwCl [(g, .inr (10, [.int th, .ref mPd, .int (nI pn), .int (nI bn), .ref mSg, .ref mSz, .ref mTo, .int (nI en), .ref mRo, .ref mLi, .int (nI hn), .ref mKi, .ref mCo, .ref mEm, .ref mVa, .int (nI an), .ref mA1, .ref mA2, .ref mA3, .ref mA4, .int (nI ln), .ref mLk, .int (nI xn), .ref mEx, .int (nI qn), .ref mQp, .ref mQd, .int wh, .int wt, .int fd, .int pp, .int wn])), (mPd, .inl (cI, 40, .inl pd))] H → va_D A [(g, .inr (10, [.int th, .ref mPd, .int (nI pn), .int (nI bn), .ref mSg, .ref mSz, .ref mTo, .int (nI en), .ref mRo, .ref mLi, .int (nI hn), .ref mKi, .ref mCo, .ref mEm, .ref mVa, .int (nI an), .ref mA1, .ref mA2, .ref mA3, .ref mA4, .int (nI ln), .ref mLk, .int (nI xn), .ref mEx, .int (nI qn), .ref mQp, .ref mQd, .int wh, .int wt, .int fd, .int pp, .int wn])), (mPd, .inl (cI, 40, .inl pd))] → va_S A H0 H locs → ∀ ls : Array Slot, lv_has ls 8 [(6, .int (nI k)), (5, .int v), (0, .ref g), (1, .int a), (2, .int b), (3, .int c0), (4, .int d)] → W p l e ({ frames := 1, cells := 0, slots := 0, locals := 23 }) s m args below meth c H locs 0 0 Q (F0 m 6 ls []) := by
  have iMD : ∀ w ∈ u_ws R_MD T_MD 32, w ∈ ws_MD_unit := fun w h => wb_MD_unit w (in_MD w h)
  intro N
  induction N with
  | zero =>
    intro k v hme hk hv
    exact absurd hme (by omega)
  | succ N ih =>
    intro k v hme hk hv H locs hP hD hS ls hl
    refine lv_iload hx hb d_MD_unit_6 (lv_at hl 0 rfl) ?_
    refine lv_iconst (v := 4) hx hb d_MD_unit_8 (by decide) ?_
    refine lv_icmp_ge (tgt := 83) hx hb d_MD_unit_9 (by decide) (fun c9 => ?_) (fun c9 => ?_)
    · have hge : 4 ≤ k := (nI_leI (show 4 < 2147483648 by omega) (show k < 2147483648 by omega)).mp c9
      exact kx83 v (by rw [hv, show k = 4 by omega]) _ _ hP hD hS ls (lv_sub hl [1, 2, 3, 4, 5, 6] rfl)
    · have hlt : k < 4 := Nat.lt_of_not_le (mt (nI_leI (show 4 < 2147483648 by omega) (show k < 2147483648 by omega)).mpr c9)
      refine lv_iload hx hb d_MD_unit_12 (lv_at hl 1 rfl) ?_
      refine vz_join 28 [.int v] (fun b9 H9 locs9 ls9 => (b9 = posF (sgM a (nI k))) ∧ va_P (dC, dI) vwCl [(g, .inr (10, [.int th, .ref mPd, .int (nI pn), .int (nI bn), .ref mSg, .ref mSz, .ref mTo, .int (nI en), .ref mRo, .ref mLi, .int (nI hn), .ref mKi, .ref mCo, .ref mEm, .ref mVa, .int (nI an), .ref mA1, .ref mA2, .ref mA3, .ref mA4, .int (nI ln), .ref mLk, .int (nI xn), .ref mEx, .int (nI qn), .ref mQp, .ref mQd, .int wh, .int wt, .int fd, .int pp, .int wn])), (mPd, .inl (cI, 40, .inl pd))] H9 ∧ va_D A [(g, .inr (10, [.int th, .ref mPd, .int (nI pn), .int (nI bn), .ref mSg, .ref mSz, .ref mTo, .int (nI en), .ref mRo, .ref mLi, .int (nI hn), .ref mKi, .ref mCo, .ref mEm, .ref mVa, .int (nI an), .ref mA1, .ref mA2, .ref mA3, .ref mA4, .int (nI ln), .ref mLk, .int (nI xn), .ref mEx, .int (nI qn), .ref mQp, .ref mQd, .int wh, .int wt, .int fd, .int pp, .int wn])), (mPd, .inl (cI, 40, .inl pd))] ∧ va_S A H0 H9 locs9 ∧ lv_has ls9 8 [(6, .int (nI k)), (5, .int v), (0, .ref g), (1, .int a), (2, .int b), (3, .int c0), (4, .int d)]) (fun b9 H locs ls h9 => ?_) (fun k28 => ?_)
      · obtain ⟨rfl, hP, hD, hS, hl⟩ := h9
        refine vz_join 42 [.int (posF (sgM a (nI k))), .int v] (fun b9 H9 locs9 ls9 => (b9 = posF (sgM b (nI k))) ∧ va_P (dC, dI) vwCl [(g, .inr (10, [.int th, .ref mPd, .int (nI pn), .int (nI bn), .ref mSg, .ref mSz, .ref mTo, .int (nI en), .ref mRo, .ref mLi, .int (nI hn), .ref mKi, .ref mCo, .ref mEm, .ref mVa, .int (nI an), .ref mA1, .ref mA2, .ref mA3, .ref mA4, .int (nI ln), .ref mLk, .int (nI xn), .ref mEx, .int (nI qn), .ref mQp, .ref mQd, .int wh, .int wt, .int fd, .int pp, .int wn])), (mPd, .inl (cI, 40, .inl pd))] H9 ∧ va_D A [(g, .inr (10, [.int th, .ref mPd, .int (nI pn), .int (nI bn), .ref mSg, .ref mSz, .ref mTo, .int (nI en), .ref mRo, .ref mLi, .int (nI hn), .ref mKi, .ref mCo, .ref mEm, .ref mVa, .int (nI an), .ref mA1, .ref mA2, .ref mA3, .ref mA4, .int (nI ln), .ref mLk, .int (nI xn), .ref mEx, .int (nI qn), .ref mQp, .ref mQd, .int wh, .int wt, .int fd, .int pp, .int wn])), (mPd, .inl (cI, 40, .inl pd))] ∧ va_S A H0 H9 locs9 ∧ lv_has ls9 8 [(6, .int (nI k)), (5, .int v), (0, .ref g), (1, .int a), (2, .int b), (3, .int c0), (4, .int d)]) (fun b9 H locs ls h9 => ?_) (fun k42 => ?_)
        · obtain ⟨rfl, hP, hD, hS, hl⟩ := h9
          refine lv_iadd hx hb d_MD_unit_42 ?_
          refine vz_join 57 [.int ((posF (sgM a (nI k))) + (posF (sgM b (nI k)))), .int v] (fun b9 H9 locs9 ls9 => (b9 = posF (sgM c0 (nI k))) ∧ va_P (dC, dI) vwCl [(g, .inr (10, [.int th, .ref mPd, .int (nI pn), .int (nI bn), .ref mSg, .ref mSz, .ref mTo, .int (nI en), .ref mRo, .ref mLi, .int (nI hn), .ref mKi, .ref mCo, .ref mEm, .ref mVa, .int (nI an), .ref mA1, .ref mA2, .ref mA3, .ref mA4, .int (nI ln), .ref mLk, .int (nI xn), .ref mEx, .int (nI qn), .ref mQp, .ref mQd, .int wh, .int wt, .int fd, .int pp, .int wn])), (mPd, .inl (cI, 40, .inl pd))] H9 ∧ va_D A [(g, .inr (10, [.int th, .ref mPd, .int (nI pn), .int (nI bn), .ref mSg, .ref mSz, .ref mTo, .int (nI en), .ref mRo, .ref mLi, .int (nI hn), .ref mKi, .ref mCo, .ref mEm, .ref mVa, .int (nI an), .ref mA1, .ref mA2, .ref mA3, .ref mA4, .int (nI ln), .ref mLk, .int (nI xn), .ref mEx, .int (nI qn), .ref mQp, .ref mQd, .int wh, .int wt, .int fd, .int pp, .int wn])), (mPd, .inl (cI, 40, .inl pd))] ∧ va_S A H0 H9 locs9 ∧ lv_has ls9 8 [(6, .int (nI k)), (5, .int v), (0, .ref g), (1, .int a), (2, .int b), (3, .int c0), (4, .int d)]) (fun b9 H locs ls h9 => ?_) (fun k57 => ?_)
          · obtain ⟨rfl, hP, hD, hS, hl⟩ := h9
            refine lv_iadd hx hb d_MD_unit_57 ?_
            refine vz_join 73 [.int (((posF (sgM a (nI k))) + (posF (sgM b (nI k)))) + (posF (sgM c0 (nI k)))), .int v] (fun b9 H9 locs9 ls9 => (b9 = posF (sgM d (nI k))) ∧ va_P (dC, dI) vwCl [(g, .inr (10, [.int th, .ref mPd, .int (nI pn), .int (nI bn), .ref mSg, .ref mSz, .ref mTo, .int (nI en), .ref mRo, .ref mLi, .int (nI hn), .ref mKi, .ref mCo, .ref mEm, .ref mVa, .int (nI an), .ref mA1, .ref mA2, .ref mA3, .ref mA4, .int (nI ln), .ref mLk, .int (nI xn), .ref mEx, .int (nI qn), .ref mQp, .ref mQd, .int wh, .int wt, .int fd, .int pp, .int wn])), (mPd, .inl (cI, 40, .inl pd))] H9 ∧ va_D A [(g, .inr (10, [.int th, .ref mPd, .int (nI pn), .int (nI bn), .ref mSg, .ref mSz, .ref mTo, .int (nI en), .ref mRo, .ref mLi, .int (nI hn), .ref mKi, .ref mCo, .ref mEm, .ref mVa, .int (nI an), .ref mA1, .ref mA2, .ref mA3, .ref mA4, .int (nI ln), .ref mLk, .int (nI xn), .ref mEx, .int (nI qn), .ref mQp, .ref mQd, .int wh, .int wt, .int fd, .int pp, .int wn])), (mPd, .inl (cI, 40, .inl pd))] ∧ va_S A H0 H9 locs9 ∧ lv_has ls9 8 [(6, .int (nI k)), (5, .int v), (0, .ref g), (1, .int a), (2, .int b), (3, .int c0), (4, .int d)]) (fun b9 H locs ls h9 => ?_) (fun k73 => ?_)
            · obtain ⟨rfl, hP, hD, hS, hl⟩ := h9
              refine lv_iadd hx hb d_MD_unit_73 ?_
              refine lv_iadd hx hb d_MD_unit_74 ?_
              refine lv_istore (lv' := [(5, .int (v + ((((posF (sgM a (nI k))) + (posF (sgM b (nI k)))) + (posF (sgM c0 (nI k)))) + (posF (sgM d (nI k)))))), (6, .int (nI k)), (0, .ref g), (1, .int a), (2, .int b), (3, .int c0), (4, .int d)]) hx hb d_MD_unit_75 hl (by decide) rfl (fun ls hl => ?_)
              refine lv_iinc (v := nI (k + 1)) (lv' := [(6, .int (nI (k + 1))), (5, .int (v + ((((posF (sgM a (nI k))) + (posF (sgM b (nI k)))) + (posF (sgM c0 (nI k)))) + (posF (sgM d (nI k)))))), (0, .ref g), (1, .int a), (2, .int b), (3, .int c0), (4, .int d)]) hx hb d_MD_unit_77 hl (k := 1) rfl (nI_1 k) (by decide) rfl (fun ls hl => ?_)
              refine lv_goto (tgt := 6) hx hb d_MD_unit_80 (by decide) ?_
              exact ih (k + 1) (v + ((((posF (sgM a (nI k))) + (posF (sgM b (nI k)))) + (posF (sgM c0 (nI k)))) + (posF (sgM d (nI k))))) (by omega) (by omega) (by rw [hv]; rfl) _ _ hP hD hS ls (lv_sub hl [0, 1, 2, 3, 4, 5, 6] rfl)
            · refine lv_iload hx hb d_MD_unit_58 (lv_at hl 6 rfl) ?_
              refine lv_iload hx hb d_MD_unit_60 (lv_at hl 0 rfl) ?_
              have hPc := hP.sub (ws' := []) [] rfl
              have hKc := hK.sub (tys' := []) [] rfl
              refine va_calli (va_runS (As := [.int d, .int (nI k)]) (rest := [.int (((posF (sgM a (nI k))) + (posF (sgM b (nI k)))) + (posF (sgM c0 (nI k)))), .int v]) ⟨hx, hb, hml, hown, hts⟩ (c_MD_signOf l dC dI d (nI k)) (va_cwS 2 hts (vz_gS wb_MD_unit b_774 b_775 b_11 wc_MD_signOf) rfl rfl rfl (by decide +kernel) ⟨Nat.le_of_ble_eq_true rfl, Nat.le_of_ble_eq_true rfl⟩) (vz_preS hPc hKc) rfl rfl hl.1 rfl (lv_room (Nat.le_of_ble_eq_true rfl)) d_MD_unit_62 ⟨Nat.le_of_ble_eq_true rfl, Nat.le_of_ble_eq_true rfl⟩) hS (fun q _ h => False.elim h) (fun q h => False.elim h) (fun r62 u9 t9 H1 locs ht hvm hr62 hB hzx9 hkx9 hS => ?_)
              try dsimp only at hr62
              have hP := vz_kept hP hkx9
              generalize H1 = H at hP hS ⊢
              refine lv_if_le (tgt := 72) hx hb d_MD_unit_65 (by decide) (fun c65 => ?_) (fun c65 => ?_)
              · refine lv_iconst (v := 0) hx hb d_MD_unit_72 (by decide) ?_
                exact k73 _ _ _ _ ⟨by unfold posF; rw [← hr62, if_pos c65], hP, hD, hS, lv_sub hl [0, 1, 2, 3, 4, 5, 6] rfl⟩
              · refine lv_iconst (v := 1) hx hb d_MD_unit_68 (by decide) ?_
                refine lv_goto (tgt := 73) hx hb d_MD_unit_69 (by decide) ?_
                exact k73 _ _ _ _ ⟨by unfold posF; rw [← hr62, if_neg c65], hP, hD, hS, lv_sub hl [0, 1, 2, 3, 4, 5, 6] rfl⟩
          · refine lv_iload_n hx hb d_MD_unit_43 rfl (lv_at hl 5 rfl) ?_
            refine lv_iload hx hb d_MD_unit_44 (lv_at hl 0 rfl) ?_
            have hPc := hP.sub (ws' := []) [] rfl
            have hKc := hK.sub (tys' := []) [] rfl
            refine va_calli (va_runS (As := [.int c0, .int (nI k)]) (rest := [.int ((posF (sgM a (nI k))) + (posF (sgM b (nI k)))), .int v]) ⟨hx, hb, hml, hown, hts⟩ (c_MD_signOf l dC dI c0 (nI k)) (va_cwS 2 hts (vz_gS wb_MD_unit b_774 b_775 b_11 wc_MD_signOf) rfl rfl rfl (by decide +kernel) ⟨Nat.le_of_ble_eq_true rfl, Nat.le_of_ble_eq_true rfl⟩) (vz_preS hPc hKc) rfl rfl hl.1 rfl (lv_room (Nat.le_of_ble_eq_true rfl)) d_MD_unit_46 ⟨Nat.le_of_ble_eq_true rfl, Nat.le_of_ble_eq_true rfl⟩) hS (fun q _ h => False.elim h) (fun q h => False.elim h) (fun r46 u9 t9 H1 locs ht hvm hr46 hB hzx9 hkx9 hS => ?_)
            try dsimp only at hr46
            have hP := vz_kept hP hkx9
            generalize H1 = H at hP hS ⊢
            refine lv_if_le (tgt := 56) hx hb d_MD_unit_49 (by decide) (fun c49 => ?_) (fun c49 => ?_)
            · refine lv_iconst (v := 0) hx hb d_MD_unit_56 (by decide) ?_
              exact k57 _ _ _ _ ⟨by unfold posF; rw [← hr46, if_pos c49], hP, hD, hS, lv_sub hl [0, 1, 2, 3, 4, 5, 6] rfl⟩
            · refine lv_iconst (v := 1) hx hb d_MD_unit_52 (by decide) ?_
              refine lv_goto (tgt := 57) hx hb d_MD_unit_53 (by decide) ?_
              exact k57 _ _ _ _ ⟨by unfold posF; rw [← hr46, if_neg c49], hP, hD, hS, lv_sub hl [0, 1, 2, 3, 4, 5, 6] rfl⟩
        · refine lv_iload_n hx hb d_MD_unit_28 rfl (lv_at hl 4 rfl) ?_
          refine lv_iload hx hb d_MD_unit_29 (lv_at hl 0 rfl) ?_
          have hPc := hP.sub (ws' := []) [] rfl
          have hKc := hK.sub (tys' := []) [] rfl
          refine va_calli (va_runS (As := [.int b, .int (nI k)]) (rest := [.int (posF (sgM a (nI k))), .int v]) ⟨hx, hb, hml, hown, hts⟩ (c_MD_signOf l dC dI b (nI k)) (va_cwS 2 hts (vz_gS wb_MD_unit b_774 b_775 b_11 wc_MD_signOf) rfl rfl rfl (by decide +kernel) ⟨Nat.le_of_ble_eq_true rfl, Nat.le_of_ble_eq_true rfl⟩) (vz_preS hPc hKc) rfl rfl hl.1 rfl (lv_room (Nat.le_of_ble_eq_true rfl)) d_MD_unit_31 ⟨Nat.le_of_ble_eq_true rfl, Nat.le_of_ble_eq_true rfl⟩) hS (fun q _ h => False.elim h) (fun q h => False.elim h) (fun r31 u9 t9 H1 locs ht hvm hr31 hB hzx9 hkx9 hS => ?_)
          try dsimp only at hr31
          have hP := vz_kept hP hkx9
          generalize H1 = H at hP hS ⊢
          refine lv_if_le (tgt := 41) hx hb d_MD_unit_34 (by decide) (fun c34 => ?_) (fun c34 => ?_)
          · refine lv_iconst (v := 0) hx hb d_MD_unit_41 (by decide) ?_
            exact k42 _ _ _ _ ⟨by unfold posF; rw [← hr31, if_pos c34], hP, hD, hS, lv_sub hl [0, 1, 2, 3, 4, 5, 6] rfl⟩
          · refine lv_iconst (v := 1) hx hb d_MD_unit_37 (by decide) ?_
            refine lv_goto (tgt := 42) hx hb d_MD_unit_38 (by decide) ?_
            exact k42 _ _ _ _ ⟨by unfold posF; rw [← hr31, if_neg c34], hP, hD, hS, lv_sub hl [0, 1, 2, 3, 4, 5, 6] rfl⟩
      · refine lv_iload_n hx hb d_MD_unit_14 rfl (lv_at hl 3 rfl) ?_
        refine lv_iload hx hb d_MD_unit_15 (lv_at hl 0 rfl) ?_
        have hPc := hP.sub (ws' := []) [] rfl
        have hKc := hK.sub (tys' := []) [] rfl
        refine va_calli (va_runS (As := [.int a, .int (nI k)]) (rest := [.int v]) ⟨hx, hb, hml, hown, hts⟩ (c_MD_signOf l dC dI a (nI k)) (va_cwS 2 hts (vz_gS wb_MD_unit b_774 b_775 b_11 wc_MD_signOf) rfl rfl rfl (by decide +kernel) ⟨Nat.le_of_ble_eq_true rfl, Nat.le_of_ble_eq_true rfl⟩) (vz_preS hPc hKc) rfl rfl hl.1 rfl (lv_room (Nat.le_of_ble_eq_true rfl)) d_MD_unit_17 ⟨Nat.le_of_ble_eq_true rfl, Nat.le_of_ble_eq_true rfl⟩) hS (fun q _ h => False.elim h) (fun q h => False.elim h) (fun r17 u9 t9 H1 locs ht hvm hr17 hB hzx9 hkx9 hS => ?_)
        try dsimp only at hr17
        have hP := vz_kept hP hkx9
        generalize H1 = H at hP hS ⊢
        refine lv_if_le (tgt := 27) hx hb d_MD_unit_20 (by decide) (fun c20 => ?_) (fun c20 => ?_)
        · refine lv_iconst (v := 0) hx hb d_MD_unit_27 (by decide) ?_
          exact k28 _ _ _ _ ⟨by unfold posF; rw [← hr17, if_pos c20], hP, hD, hS, lv_sub hl [0, 1, 2, 3, 4, 5, 6] rfl⟩
        · refine lv_iconst (v := 1) hx hb d_MD_unit_23 (by decide) ?_
          refine lv_goto (tgt := 28) hx hb d_MD_unit_24 (by decide) ?_
          exact k28 _ _ _ _ ⟨by unfold posF; rw [← hr17, if_neg c20], hP, hD, hS, lv_sub hl [0, 1, 2, 3, 4, 5, 6] rfl⟩
set_option maxHeartbeats 4000000 in
set_option maxRecDepth 100000 in
theorem lp_MD_unit_114 {p : Program} {l : Launch} {e : Env} {s : State} {m : MethodId} {args : Array Value} {below : List Frame} {meth : Method} {c : Code} {Q : State → Prop} {A : Nat → Prop} {H0 : Heap} (dC : Nat → ClassId) (dI : Nat → Nat → Nat) (cI : ClassId) (g mPd mSg mSz mTo mRo mLi mKi mCo mEm mVa mA1 mA2 mA3 mA4 mLk mEx mQp mQd : Nat) (th : Int32) (pn bn en hn an ln xn qn : Nat) (wh wt fd pp wn : Int32) (pd : Nat → Int32) (a b c0 d : Int32) (hub : (unM pd pn a b c0 d 16).2 ≤ 40) (hok : thrF (if nI pn + mnyM a b c0 d 4 ≤ 40 then 0 else 1) 0 0 = 0) (th1 : Int32) (hx : p.tables.exec = Jvm.exec) (hb : c.code = k_MD_unit) (hml : c.maxLocals = 8) (hts : ∀ w ∈ ws_MD_unit, w.before args s = true) (hown : s.vm.findClass R_MD = some m.cls) (hK : va_K (dC, dI) vwCl [(cI, .int)] s) (hA : ∀ q, H0.size ≤ q → A q) (kx199 : ∀ (f : Nat → Int32), ∀ (n : Nat), ((f, n) = unM pd pn a b c0 d 16) → ∀ (H : Heap) (locs : List Loc), va_P (dC, dI) vwCl [(g, .inr (10, [.int th1, .ref mPd, .int (nI n), .int (nI bn), .ref mSg, .ref mSz, .ref mTo, .int (nI en), .ref mRo, .ref mLi, .int (nI hn), .ref mKi, .ref mCo, .ref mEm, .ref mVa, .int (nI an), .ref mA1, .ref mA2, .ref mA3, .ref mA4, .int (nI ln), .ref mLk, .int (nI xn), .ref mEx, .int (nI qn), .ref mQp, .ref mQd, .int wh, .int wt, .int fd, .int pp, .int wn])), (mPd, .inl (cI, 40, .inl f))] H → va_D A [(g, .inr (10, [.int th1, .ref mPd, .int (nI n), .int (nI bn), .ref mSg, .ref mSz, .ref mTo, .int (nI en), .ref mRo, .ref mLi, .int (nI hn), .ref mKi, .ref mCo, .ref mEm, .ref mVa, .int (nI an), .ref mA1, .ref mA2, .ref mA3, .ref mA4, .int (nI ln), .ref mLk, .int (nI xn), .ref mEx, .int (nI qn), .ref mQp, .ref mQd, .int wh, .int wt, .int fd, .int pp, .int wn])), (mPd, .inl (cI, 40, .inl f))] → va_S A H0 H locs → ∀ ls : Array Slot, lv_has ls 8 [(0, .ref g)] → W p l e ({ frames := 1, cells := 0, slots := 0, locals := 23 }) s m args below meth c H locs 0 0 Q (F0 m 199 ls [])) : ∀ (N : Nat), ∀ (k : Nat), ∀ (f : Nat → Int32), ∀ (n : Nat), 16 + 1 ≤ k + N → (k ≤ 16) → ((f, n) = unM pd pn a b c0 d k) → ∀ (H : Heap) (locs : List Loc), va_P (dC, dI) vwCl [(g, .inr (10, [.int th1, .ref mPd, .int (nI n), .int (nI bn), .ref mSg, .ref mSz, .ref mTo, .int (nI en), .ref mRo, .ref mLi, .int (nI hn), .ref mKi, .ref mCo, .ref mEm, .ref mVa, .int (nI an), .ref mA1, .ref mA2, .ref mA3, .ref mA4, .int (nI ln), .ref mLk, .int (nI xn), .ref mEx, .int (nI qn), .ref mQp, .ref mQd, .int wh, .int wt, .int fd, .int pp, .int wn])), (mPd, .inl (cI, 40, .inl f))] H → va_D A [(g, .inr (10, [.int th1, .ref mPd, .int (nI n), .int (nI bn), .ref mSg, .ref mSz, .ref mTo, .int (nI en), .ref mRo, .ref mLi, .int (nI hn), .ref mKi, .ref mCo, .ref mEm, .ref mVa, .int (nI an), .ref mA1, .ref mA2, .ref mA3, .ref mA4, .int (nI ln), .ref mLk, .int (nI xn), .ref mEx, .int (nI qn), .ref mQp, .ref mQd, .int wh, .int wt, .int fd, .int pp, .int wn])), (mPd, .inl (cI, 40, .inl f))] → va_S A H0 H locs → ∀ ls : Array Slot, lv_has ls 8 [(6, .int (nI k)), (0, .ref g), (1, .int a), (2, .int b), (3, .int c0), (4, .int d)] → W p l e ({ frames := 1, cells := 0, slots := 0, locals := 23 }) s m args below meth c H locs 0 0 Q (F0 m 114 ls []) := by
  have iMD : ∀ w ∈ u_ws R_MD T_MD 32, w ∈ ws_MD_unit := fun w h => wb_MD_unit w (in_MD w h)
  intro N
  induction N with
  | zero =>
    intro k f n hme hk hv
    exact absurd hme (by omega)
  | succ N ih =>
    intro k f n hme hk hv H locs hP hD hS ls hl
    refine lv_iload hx hb d_MD_unit_114 (lv_at hl 0 rfl) ?_
    refine lv_bipush (v := 16) hx hb d_MD_unit_116 (by decide) ?_
    refine lv_icmp_ge (tgt := 199) hx hb d_MD_unit_118 (by decide) (fun c118 => ?_) (fun c118 => ?_)
    · have hge : 16 ≤ k := (nI_leI (show 16 < 2147483648 by omega) (show k < 2147483648 by omega)).mp c118
      exact kx199 f n (by rw [hv, show k = 16 by omega]) _ _ hP hD hS ls (lv_sub hl [1] rfl)
    · have hlt : k < 16 := Nat.lt_of_not_le (mt (nI_leI (show 16 < 2147483648 by omega) (show k < 2147483648 by omega)).mpr c118)
      refine vz_join 155 [] (fun b9 H9 locs9 ls9 => (b9 = pick4 a b c0 d k) ∧ va_P (dC, dI) vwCl [(g, .inr (10, [.int th1, .ref mPd, .int (nI n), .int (nI bn), .ref mSg, .ref mSz, .ref mTo, .int (nI en), .ref mRo, .ref mLi, .int (nI hn), .ref mKi, .ref mCo, .ref mEm, .ref mVa, .int (nI an), .ref mA1, .ref mA2, .ref mA3, .ref mA4, .int (nI ln), .ref mLk, .int (nI xn), .ref mEx, .int (nI qn), .ref mQp, .ref mQd, .int wh, .int wt, .int fd, .int pp, .int wn])), (mPd, .inl (cI, 40, .inl f))] H9 ∧ va_D A [(g, .inr (10, [.int th1, .ref mPd, .int (nI n), .int (nI bn), .ref mSg, .ref mSz, .ref mTo, .int (nI en), .ref mRo, .ref mLi, .int (nI hn), .ref mKi, .ref mCo, .ref mEm, .ref mVa, .int (nI an), .ref mA1, .ref mA2, .ref mA3, .ref mA4, .int (nI ln), .ref mLk, .int (nI xn), .ref mEx, .int (nI qn), .ref mQp, .ref mQd, .int wh, .int wt, .int fd, .int pp, .int wn])), (mPd, .inl (cI, 40, .inl f))] ∧ va_S A H0 H9 locs9 ∧ lv_has ls9 8 [(6, .int (nI k)), (0, .ref g), (1, .int a), (2, .int b), (3, .int c0), (4, .int d)]) (fun b9 H locs ls h9 => ?_) (fun k155 => ?_)
      · obtain ⟨rfl, hP, hD, hS, hl⟩ := h9
        refine lv_iload hx hb d_MD_unit_155 (lv_at hl 0 rfl) ?_
        refine lv_iconst (v := 4) hx hb d_MD_unit_157 (by decide) ?_
        refine lv_irem hx hb d_MD_unit_158 (by decide) ?_
        refine vz_top (y := nI (k % 4)) (pk_rem (d := 4) (show k < 2147483648 by omega) (by decide) (by decide)) ?_
        have hPc := hP.sub (ws' := []) [] rfl
        have hKc := hK.sub (tys' := []) [] rfl
        refine va_calli (va_runS (As := [.int (pick4 a b c0 d k), .int (nI (k % 4))]) (rest := []) ⟨hx, hb, hml, hown, hts⟩ (c_MD_signOf l dC dI (pick4 a b c0 d k) (nI (k % 4))) (va_cwS 2 hts (vz_gS wb_MD_unit b_774 b_775 b_11 wc_MD_signOf) rfl rfl rfl (by decide +kernel) ⟨Nat.le_of_ble_eq_true rfl, Nat.le_of_ble_eq_true rfl⟩) (vz_preS hPc hKc) rfl rfl hl.1 rfl (lv_room (Nat.le_of_ble_eq_true rfl)) d_MD_unit_159 ⟨Nat.le_of_ble_eq_true rfl, Nat.le_of_ble_eq_true rfl⟩) hS (fun q _ h => False.elim h) (fun q h => False.elim h) (fun r159 u9 t9 H1 locs ht hvm hr159 hB hzx9 hkx9 hS => ?_)
        try dsimp only at hr159
        have hP := vz_kept hP hkx9
        generalize H1 = H at hP hS ⊢
        have hs : r159 = sM4 a b c0 d k := hr159
        refine lv_istore (lv' := [(7, .int r159), (6, .int (nI k)), (0, .ref g), (1, .int a), (2, .int b), (3, .int c0), (4, .int d)]) hx hb d_MD_unit_162 hl (by decide) rfl (fun ls hl => ?_)
        refine lv_iload hx hb d_MD_unit_164 (lv_at hl 0 rfl) ?_
        refine lv_if_ne (tgt := 172) hx hb d_MD_unit_166 (by decide) (fun c166 => ?_) (fun c166 => ?_)
        · have hnx : unM pd pn a b c0 d (k + 1) = (upd f n r159, n + 1) := by
            show (if sM4 a b c0 d k = 0 then _ else _) = _
            rw [← hs, if_neg c166, ← hv]
          have h40 := unM_mono pd pn a b c0 d (k + 1) 16 (by omega)
          rw [hnx] at h40
          have h41 : n + 1 ≤ 40 := Nat.le_trans h40 hub
          refine lv_aload_n hx hb d_MD_unit_172 rfl (lv_at hl 2 rfl) ?_
          refine va_get (D := (dC, dI)) (ci := 10) (v := .ref mPd) (C := R_MD) (T := T_MD) (N := 32) hx hb hts iMD hown hK hP 0 rfl rfl 1 (by decide) (hts _ (wb_MD_unit _ b_669)) (fun _ h9 => h9) rfl d_MD_unit_173 ?_
          refine lv_aload_n hx hb d_MD_unit_176 rfl (lv_at hl 2 rfl) ?_
          refine va_get (D := (dC, dI)) (ci := 10) (v := .int (nI n)) (C := R_MD) (T := T_MD) (N := 32) hx hb hts iMD hown hK hP 0 rfl rfl 2 (by decide) (hts _ (wb_MD_unit _ b_670)) (fun _ h9 => h9) rfl d_MD_unit_177 ?_
          refine lv_iload hx hb d_MD_unit_180 (lv_at hl 0 rfl) ?_
          refine vz_iast (k := n) hx hb hK hP hD hS 1 0 rfl rfl (by omega) (by decide) d_MD_unit_182 (fun H locs hP hD hS => ?_)
          have hP : va_P (dC, dI) vwCl [(g, .inr (10, [.int th1, .ref mPd, .int (nI n), .int (nI bn), .ref mSg, .ref mSz, .ref mTo, .int (nI en), .ref mRo, .ref mLi, .int (nI hn), .ref mKi, .ref mCo, .ref mEm, .ref mVa, .int (nI an), .ref mA1, .ref mA2, .ref mA3, .ref mA4, .int (nI ln), .ref mLk, .int (nI xn), .ref mEx, .int (nI qn), .ref mQp, .ref mQd, .int wh, .int wt, .int fd, .int pp, .int wn])), (mPd, .inl (cI, 40, .inl (upd f n r159)))] H := hP
          have hD : va_D A [(g, .inr (10, [.int th1, .ref mPd, .int (nI n), .int (nI bn), .ref mSg, .ref mSz, .ref mTo, .int (nI en), .ref mRo, .ref mLi, .int (nI hn), .ref mKi, .ref mCo, .ref mEm, .ref mVa, .int (nI an), .ref mA1, .ref mA2, .ref mA3, .ref mA4, .int (nI ln), .ref mLk, .int (nI xn), .ref mEx, .int (nI qn), .ref mQp, .ref mQd, .int wh, .int wt, .int fd, .int pp, .int wn])), (mPd, .inl (cI, 40, .inl (upd f n r159)))] := hD
          refine lv_aload_n hx hb d_MD_unit_183 rfl (lv_at hl 2 rfl) ?_
          refine lv_dup hx hb d_MD_unit_184 rfl ?_
          refine va_get (D := (dC, dI)) (ci := 10) (v := .int (nI n)) (C := R_MD) (T := T_MD) (N := 32) hx hb hts iMD hown hK hP 0 rfl rfl 2 (by decide) (hts _ (wb_MD_unit _ b_670)) (fun _ h9 => h9) rfl d_MD_unit_185 ?_
          refine lv_iconst (v := 1) hx hb d_MD_unit_188 (by decide) ?_
          refine lv_iadd hx hb d_MD_unit_189 ?_
          refine vz_top (y := nI (n + 1)) (nI_1 n) ?_
          refine va_put (D := (dC, dI)) (ci := 10) (v := .int (nI (n + 1))) (ty := .int) (C := R_MD) (T := T_MD) (N := 32) hx hb hts iMD ty_MD tyok_MD nm_MD hown hK hP hD hS 0 rfl rfl 2 (by decide) (hts _ (wb_MD_unit _ b_670)) (fun _ h9 => h9) rfl rfl rfl rfl (Nat.le_of_ble_eq_true rfl) d_MD_unit_190 (fun H locs hP hD hS => ?_)
          have hP : va_P (dC, dI) vwCl [(g, .inr (10, [.int th1, .ref mPd, .int (nI (n + 1)), .int (nI bn), .ref mSg, .ref mSz, .ref mTo, .int (nI en), .ref mRo, .ref mLi, .int (nI hn), .ref mKi, .ref mCo, .ref mEm, .ref mVa, .int (nI an), .ref mA1, .ref mA2, .ref mA3, .ref mA4, .int (nI ln), .ref mLk, .int (nI xn), .ref mEx, .int (nI qn), .ref mQp, .ref mQd, .int wh, .int wt, .int fd, .int pp, .int wn])), (mPd, .inl (cI, 40, .inl (upd f n r159)))] H := hP
          have hD : va_D A [(g, .inr (10, [.int th1, .ref mPd, .int (nI (n + 1)), .int (nI bn), .ref mSg, .ref mSz, .ref mTo, .int (nI en), .ref mRo, .ref mLi, .int (nI hn), .ref mKi, .ref mCo, .ref mEm, .ref mVa, .int (nI an), .ref mA1, .ref mA2, .ref mA3, .ref mA4, .int (nI ln), .ref mLk, .int (nI xn), .ref mEx, .int (nI qn), .ref mQp, .ref mQd, .int wh, .int wt, .int fd, .int pp, .int wn])), (mPd, .inl (cI, 40, .inl (upd f n r159)))] := hD
          refine lv_iinc (v := nI (k + 1)) (lv' := [(6, .int (nI (k + 1))), (7, .int r159), (0, .ref g), (1, .int a), (2, .int b), (3, .int c0), (4, .int d)]) hx hb d_MD_unit_193 hl (k := 1) rfl (nI_1 k) (by decide) rfl (fun ls hl => ?_)
          refine lv_goto (tgt := 114) hx hb d_MD_unit_196 (by decide) ?_
          exact ih (k + 1) (upd f n r159) (n + 1) (by omega) (by omega) (hnx.symm) _ _ hP hD hS ls (lv_sub hl [0, 2, 3, 4, 5, 6] rfl)
        · refine lv_goto (tgt := 193) hx hb d_MD_unit_169 (by decide) ?_
          refine lv_iinc (v := nI (k + 1)) (lv' := [(6, .int (nI (k + 1))), (7, .int r159), (0, .ref g), (1, .int a), (2, .int b), (3, .int c0), (4, .int d)]) hx hb d_MD_unit_193 hl (k := 1) rfl (nI_1 k) (by decide) rfl (fun ls hl => ?_)
          refine lv_goto (tgt := 114) hx hb d_MD_unit_196 (by decide) ?_
          exact ih (k + 1) f n (by omega) (by omega) (hv.trans (if_pos (hs.symm.trans c166)).symm) _ _ hP hD hS ls (lv_sub hl [0, 2, 3, 4, 5, 6] rfl)
      · refine lv_iload hx hb d_MD_unit_121 (lv_at hl 0 rfl) ?_
        refine lv_iconst (v := 4) hx hb d_MD_unit_123 (by decide) ?_
        refine lv_icmp_ge (tgt := 131) hx hb d_MD_unit_124 (by decide) (fun c124 => ?_) (fun c124 => ?_)
        · have hge : 4 ≤ k := (nI_leI (show 4 < 2147483648 by omega) (show k < 2147483648 by omega)).mp c124
          refine lv_iload hx hb d_MD_unit_131 (lv_at hl 0 rfl) ?_
          refine lv_bipush (v := 8) hx hb d_MD_unit_133 (by decide) ?_
          refine lv_icmp_ge (tgt := 142) hx hb d_MD_unit_135 (by decide) (fun c135 => ?_) (fun c135 => ?_)
          · have hge : 8 ≤ k := (nI_leI (show 8 < 2147483648 by omega) (show k < 2147483648 by omega)).mp c135
            refine lv_iload hx hb d_MD_unit_142 (lv_at hl 0 rfl) ?_
            refine lv_bipush (v := 12) hx hb d_MD_unit_144 (by decide) ?_
            refine lv_icmp_ge (tgt := 153) hx hb d_MD_unit_146 (by decide) (fun c146 => ?_) (fun c146 => ?_)
            · have hge : 12 ≤ k := (nI_leI (show 12 < 2147483648 by omega) (show k < 2147483648 by omega)).mp c146
              refine lv_iload hx hb d_MD_unit_153 (lv_at hl 5 rfl) ?_
              exact k155 _ _ _ _ ⟨by unfold pick4; rw [if_neg (by omega), if_neg (by omega), if_neg (by omega)], hP, hD, hS, lv_sub hl [0, 1, 2, 3, 4, 5] rfl⟩
            · have hlt : k < 12 := Nat.lt_of_not_le (mt (nI_leI (show 12 < 2147483648 by omega) (show k < 2147483648 by omega)).mpr c146)
              refine lv_iload_n hx hb d_MD_unit_149 rfl (lv_at hl 4 rfl) ?_
              refine lv_goto (tgt := 155) hx hb d_MD_unit_150 (by decide) ?_
              exact k155 _ _ _ _ ⟨by unfold pick4; rw [if_neg (by omega), if_neg (by omega), if_pos (by omega)], hP, hD, hS, lv_sub hl [0, 1, 2, 3, 4, 5] rfl⟩
          · have hlt : k < 8 := Nat.lt_of_not_le (mt (nI_leI (show 8 < 2147483648 by omega) (show k < 2147483648 by omega)).mpr c135)
            refine lv_iload_n hx hb d_MD_unit_138 rfl (lv_at hl 3 rfl) ?_
            refine lv_goto (tgt := 155) hx hb d_MD_unit_139 (by decide) ?_
            exact k155 _ _ _ _ ⟨by unfold pick4; rw [if_neg (by omega), if_pos (by omega)], hP, hD, hS, lv_sub hl [0, 1, 2, 3, 4, 5] rfl⟩
        · have hlt : k < 4 := Nat.lt_of_not_le (mt (nI_leI (show 4 < 2147483648 by omega) (show k < 2147483648 by omega)).mpr c124)
          refine lv_iload_n hx hb d_MD_unit_127 rfl (lv_at hl 2 rfl) ?_
          refine lv_goto (tgt := 155) hx hb d_MD_unit_128 (by decide) ?_
          exact k155 _ _ _ _ ⟨by unfold pick4; rw [if_pos (by omega)], hP, hD, hS, lv_sub hl [0, 1, 2, 3, 4, 5] rfl⟩
set_option maxHeartbeats 4000000 in
set_option maxRecDepth 100000 in
theorem c_MD_unitG (l : Launch) (dC : Nat → ClassId) (dI : Nat → Nat → Nat) (sz : Nat) (cI : ClassId) (g mPd mSg mSz mTo mRo mLi mKi mCo mEm mVa mA1 mA2 mA3 mA4 mLk mEx mQp mQd : Nat) (th : Int32) (pn bn en hn an ln xn qn : Nat) (wh wt fd pp wn : Int32) (pd : Nat → Int32) (a b c0 d : Int32) (hub : (unM pd pn a b c0 d 16).2 ≤ 40) (hok : thrF (if nI pn + mnyM a b c0 d 4 ≤ 40 then 0 else 1) 0 0 = 0) : Met l y_MD_unit ws_MD_unit ({ frames := 1, cells := 0, slots := 0, locals := 23 }) (va_Pc [.ref g, .int a, .int b, .int c0, .int d] (fun U => U.heap.size = sz ∧ va_P (dC, dI) vwCl [(g, .inr (10, [.int th, .ref mPd, .int (nI pn), .int (nI bn), .ref mSg, .ref mSz, .ref mTo, .int (nI en), .ref mRo, .ref mLi, .int (nI hn), .ref mKi, .ref mCo, .ref mEm, .ref mVa, .int (nI an), .ref mA1, .ref mA2, .ref mA3, .ref mA4, .int (nI ln), .ref mLk, .int (nI xn), .ref mEx, .int (nI qn), .ref mQp, .ref mQd, .int wh, .int wt, .int fd, .int pp, .int wn])), (mPd, .inl (cI, 40, .inl pd))] U.heap ∧ va_K (dC, dI) vwCl [(cI, .int)] U ∧ va_D (fun _ => True) [(g, .inr (10, [.int th, .ref mPd, .int (nI pn), .int (nI bn), .ref mSg, .ref mSz, .ref mTo, .int (nI en), .ref mRo, .ref mLi, .int (nI hn), .ref mKi, .ref mCo, .ref mEm, .ref mVa, .int (nI an), .ref mA1, .ref mA2, .ref mA3, .ref mA4, .int (nI ln), .ref mLk, .int (nI xn), .ref mEx, .int (nI qn), .ref mQp, .ref mQd, .int wh, .int wt, .int fd, .int pp, .int wn])), (mPd, .inl (cI, 40, .inl pd))])) (va_Qi (fun (res : Int32) (_ : Unit) => res = nI (unM pd pn a b c0 d 16).2) (fun _ t => va_P (dC, dI) vwCl [(g, .inr (10, [.int (thrF (if nI pn + mnyM a b c0 d 4 ≤ 40 then 0 else 1) 0 0), .ref mPd, .int (nI (unM pd pn a b c0 d 16).2), .int (nI bn), .ref mSg, .ref mSz, .ref mTo, .int (nI en), .ref mRo, .ref mLi, .int (nI hn), .ref mKi, .ref mCo, .ref mEm, .ref mVa, .int (nI an), .ref mA1, .ref mA2, .ref mA3, .ref mA4, .int (nI ln), .ref mLk, .int (nI xn), .ref mEx, .int (nI qn), .ref mQp, .ref mQd, .int wh, .int wt, .int fd, .int pp, .int wn])), (mPd, .inl (cI, 40, .inl ((unM pd pn a b c0 d 16).1)))] t.heap ∧ va_K (dC, dI) vwCl [(cI, .int)] t ∧ va_D (va_A [(g, .inr (10, [.int th, .ref mPd, .int (nI pn), .int (nI bn), .ref mSg, .ref mSz, .ref mTo, .int (nI en), .ref mRo, .ref mLi, .int (nI hn), .ref mKi, .ref mCo, .ref mEm, .ref mVa, .int (nI an), .ref mA1, .ref mA2, .ref mA3, .ref mA4, .int (nI ln), .ref mLk, .int (nI xn), .ref mEx, .int (nI qn), .ref mQp, .ref mQd, .int wh, .int wt, .int fd, .int pp, .int wn])), (mPd, .inl (cI, 40, .inl pd))] sz) [(g, .inr (10, [.int (thrF (if nI pn + mnyM a b c0 d 4 ≤ 40 then 0 else 1) 0 0), .ref mPd, .int (nI (unM pd pn a b c0 d 16).2), .int (nI bn), .ref mSg, .ref mSz, .ref mTo, .int (nI en), .ref mRo, .ref mLi, .int (nI hn), .ref mKi, .ref mCo, .ref mEm, .ref mVa, .int (nI an), .ref mA1, .ref mA2, .ref mA3, .ref mA4, .int (nI ln), .ref mLk, .int (nI xn), .ref mEx, .int (nI qn), .ref mQp, .ref mQd, .int wh, .int wt, .int fd, .int pp, .int wn])), (mPd, .inl (cI, 40, .inl ((unM pd pn a b c0 d 16).1)))]) (va_A [(g, .inr (10, [.int th, .ref mPd, .int (nI pn), .int (nI bn), .ref mSg, .ref mSz, .ref mTo, .int (nI en), .ref mRo, .ref mLi, .int (nI hn), .ref mKi, .ref mCo, .ref mEm, .ref mVa, .int (nI an), .ref mA1, .ref mA2, .ref mA3, .ref mA4, .int (nI ln), .ref mLk, .int (nI xn), .ref mEx, .int (nI qn), .ref mQp, .ref mQd, .int wh, .int wt, .int fd, .int pp, .int wn])), (mPd, .inl (cI, 40, .inl pd))] sz)) 0 0 (va_A [(g, .inr (10, [.int th, .ref mPd, .int (nI pn), .int (nI bn), .ref mSg, .ref mSz, .ref mTo, .int (nI en), .ref mRo, .ref mLi, .int (nI hn), .ref mKi, .ref mCo, .ref mEm, .ref mVa, .int (nI an), .ref mA1, .ref mA2, .ref mA3, .ref mA4, .int (nI ln), .ref mLk, .int (nI xn), .ref mEx, .int (nI qn), .ref mQp, .ref mQd, .int wh, .int wt, .int fd, .int pp, .int wn])), (mPd, .inl (cI, 40, .inl pd))] sz) := by
  refine Met.ofW (cc := k_MD_unit) (maxL := 8) (ret := (some .int)) (by decide) rfl ?_
  intro p e s m args below meth c s₁ B hml hv
  obtain ⟨rfl, hsz, hP, hK, hD0⟩ := hv
  have hx := B.exec
  have hb := B.bytes
  have hr := B.returns
  have hts := atoms_spec (ws := ws_MD_unit) B.pre
  have hown : s.vm.findClass R_MD = some m.cls := findClass_of_methodNamed B.named
  have hlocks := B.notSynchronized
  subst hsz
  have hD := hD0.self (sz := s.heap.size)
  generalize hAe : va_A [(g, .inr (10, [.int th, .ref mPd, .int (nI pn), .int (nI bn), .ref mSg, .ref mSz, .ref mTo, .int (nI en), .ref mRo, .ref mLi, .int (nI hn), .ref mKi, .ref mCo, .ref mEm, .ref mVa, .int (nI an), .ref mA1, .ref mA2, .ref mA3, .ref mA4, .int (nI ln), .ref mLk, .int (nI xn), .ref mEx, .int (nI qn), .ref mQp, .ref mQd, .int wh, .int wt, .int fd, .int pp, .int wn])), (mPd, .inl (cI, 40, .inl pd))] s.heap.size = A at hD ⊢
  have hA : ∀ q : Nat, s.heap.size ≤ q → A q := fun q h => by rw [← hAe]; exact Or.inr h
  have hS : va_S A s.heap s.heap [] := va_S.rf
  have hP : va_P (dC, dI) vwCl [(g, .inr (10, [.int th, .ref mPd, .int (nI pn), .int (nI bn), .ref mSg, .ref mSz, .ref mTo, .int (nI en), .ref mRo, .ref mLi, .int (nI hn), .ref mKi, .ref mCo, .ref mEm, .ref mVa, .int (nI an), .ref mA1, .ref mA2, .ref mA3, .ref mA4, .int (nI ln), .ref mLk, .int (nI xn), .ref mEx, .int (nI qn), .ref mQp, .ref mQd, .int wh, .int wt, .int fd, .int pp, .int wn])), (mPd, .inl (cI, 40, .inl pd))] s.heap := hP
  have iMD : ∀ w ∈ u_ws R_MD T_MD 32, w ∈ ws_MD_unit := fun w h => wb_MD_unit w (in_MD w h)
  have hl := lv_entry ([.ref g, .int a, .int b, .int c0, .int d]) (n := 8) (Nat.le_of_ble_eq_true rfl)
  rw [lg_entry_eq]
  generalize (lg_sl ([.ref g, .int a, .int b, .int c0, .int d]) ++ List.replicate (8 - (lg_sl ([.ref g, .int a, .int b, .int c0, .int d])).length) Slot.unset).toArray = ls at hl ⊢
  have hl : lv_has ls 8 [(0, .ref g), (1, .int a), (2, .int b), (3, .int c0), (4, .int d)] := hl
  refine lv_iconst (v := 0) hx hb d_MD_unit_0 (by decide) ?_
  refine lv_istore (lv' := [(5, .int 0), (0, .ref g), (1, .int a), (2, .int b), (3, .int c0), (4, .int d)]) hx hb d_MD_unit_1 hl (by decide) rfl (fun ls hl => ?_)
  refine lv_iconst (v := 0) hx hb d_MD_unit_3 (by decide) ?_
  refine lv_istore (lv' := [(6, .int 0), (5, .int 0), (0, .ref g), (1, .int a), (2, .int b), (3, .int c0), (4, .int d)]) hx hb d_MD_unit_4 hl (by decide) rfl (fun ls hl => ?_)
  refine lp_MD_unit_6G dC dI cI g mPd mSg mSz mTo mRo mLi mKi mCo mEm mVa mA1 mA2 mA3 mA4 mLk mEx mQp mQd th pn bn en hn an ln xn qn wh wt fd pp wn pd a b c0 d hub hok hx hb hml hts hown hK hA (fun v hv H locs hP hD hS ls hl => ?_) (4 + 1) 0 0 (by omega) (Nat.zero_le _) (rfl) _ _ hP hD hS ls (lv_sub hl [0, 1, 2, 3, 4, 5, 6] rfl)
  · refine lv_aload_n hx hb d_MD_unit_83 rfl (lv_at hl 1 rfl) ?_
    refine vz_join 101 [.ref g] (fun b9 H9 locs9 ls9 => (b9 = if nI pn + mnyM a b c0 d 4 ≤ 40 then 0 else 1) ∧ va_P (dC, dI) vwCl [(g, .inr (10, [.int th, .ref mPd, .int (nI pn), .int (nI bn), .ref mSg, .ref mSz, .ref mTo, .int (nI en), .ref mRo, .ref mLi, .int (nI hn), .ref mKi, .ref mCo, .ref mEm, .ref mVa, .int (nI an), .ref mA1, .ref mA2, .ref mA3, .ref mA4, .int (nI ln), .ref mLk, .int (nI xn), .ref mEx, .int (nI qn), .ref mQp, .ref mQd, .int wh, .int wt, .int fd, .int pp, .int wn])), (mPd, .inl (cI, 40, .inl pd))] H9 ∧ va_D A [(g, .inr (10, [.int th, .ref mPd, .int (nI pn), .int (nI bn), .ref mSg, .ref mSz, .ref mTo, .int (nI en), .ref mRo, .ref mLi, .int (nI hn), .ref mKi, .ref mCo, .ref mEm, .ref mVa, .int (nI an), .ref mA1, .ref mA2, .ref mA3, .ref mA4, .int (nI ln), .ref mLk, .int (nI xn), .ref mEx, .int (nI qn), .ref mQp, .ref mQd, .int wh, .int wt, .int fd, .int pp, .int wn])), (mPd, .inl (cI, 40, .inl pd))] ∧ va_S A s.heap H9 locs9 ∧ lv_has ls9 8 [(5, .int v), (0, .ref g), (1, .int a), (2, .int b), (3, .int c0), (4, .int d)]) (fun b9 H locs ls h9 => ?_) (fun k101 => ?_)
    · obtain ⟨rfl, hP, hD, hS, hl⟩ := h9
      refine lv_iconst (v := 0) hx hb d_MD_unit_101 (by decide) ?_
      refine lv_iconst (v := 0) hx hb d_MD_unit_102 (by decide) ?_
      have hPc := hP.sub (ws' := [(g, .inr (10, [.int th, .ref mPd, .int (nI pn), .int (nI bn), .ref mSg, .ref mSz, .ref mTo, .int (nI en), .ref mRo, .ref mLi, .int (nI hn), .ref mKi, .ref mCo, .ref mEm, .ref mVa, .int (nI an), .ref mA1, .ref mA2, .ref mA3, .ref mA4, .int (nI ln), .ref mLk, .int (nI xn), .ref mEx, .int (nI qn), .ref mQp, .ref mQd, .int wh, .int wt, .int fd, .int pp, .int wn]))]) [0] rfl
      have hKc := hK.sub (tys' := []) [] rfl
      have hDc := hD.sub (ws' := [(g, .inr (10, [.int th, .ref mPd, .int (nI pn), .int (nI bn), .ref mSg, .ref mSz, .ref mTo, .int (nI en), .ref mRo, .ref mLi, .int (nI hn), .ref mKi, .ref mCo, .ref mEm, .ref mVa, .int (nI an), .ref mA1, .ref mA2, .ref mA3, .ref mA4, .int (nI ln), .ref mLk, .int (nI xn), .ref mEx, .int (nI qn), .ref mQp, .ref mQd, .int wh, .int wt, .int fd, .int pp, .int wn]))]) [0] (by decide) rfl
      have hFc := va_free (wc := [(g, .inr (10, [.int th, .ref mPd, .int (nI pn), .int (nI bn), .ref mSg, .ref mSz, .ref mTo, .int (nI en), .ref mRo, .ref mLi, .int (nI hn), .ref mKi, .ref mCo, .ref mEm, .ref mVa, .int (nI an), .ref mA1, .ref mA2, .ref mA3, .ref mA4, .int (nI ln), .ref mLk, .int (nI xn), .ref mEx, .int (nI qn), .ref mQp, .ref mQd, .int wh, .int wt, .int fd, .int pp, .int wn]))]) hD hS hA [0] rfl
      refine va_calli (va_runV (As := [.int (if nI pn + mnyM a b c0 d 4 ≤ 40 then 0 else 1), .int 0, .int 0]) (rest := []) ⟨hx, hb, hml, hown, hts⟩ (c_MD_throwing l dC dI H.size g mPd mSg mSz mTo mRo mLi mKi mCo mEm mVa mA1 mA2 mA3 mA4 mLk mEx mQp mQd th pn bn en hn an ln xn qn wh wt fd pp wn (if nI pn + mnyM a b c0 d 4 ≤ 40 then 0 else 1) 0 0) (cwV 3 hts (vz_gV wb_MD_unit b_777 b_779 bs_15 b_11 wc_MD_throwing) rfl rfl rfl (by decide +kernel) ⟨Nat.le_of_ble_eq_true rfl, Nat.le_of_ble_eq_true rfl⟩) (vz_preVw (A := A) hPc hKc hDc (ci := 10) (q0 := 0) rfl rfl) rfl rfl hl.1 rfl (lv_room (Nat.le_of_ble_eq_true rfl)) d_MD_unit_103 ⟨Nat.le_of_ble_eq_true rfl, Nat.le_of_ble_eq_true rfl⟩) hS (fun q _ h => hFc q h) hFc (fun r103 u9 t9 H1 locs ht hvm hr103 hB hzx9 hkx9 hS => ?_)
      try dsimp only at hr103
      obtain ⟨hP1, hK1, hD1⟩ := hB
      rw [ht] at hP1
      obtain ⟨hP, hD⟩ := va_join (wr := [(mPd, .inl (cI, 40, .inl pd))]) (w1 := [(g, .inr (10, [.int (thrF (if nI pn + mnyM a b c0 d 4 ≤ 40 then 0 else 1) 0 0), .ref mPd, .int (nI pn), .int (nI bn), .ref mSg, .ref mSz, .ref mTo, .int (nI en), .ref mRo, .ref mLi, .int (nI hn), .ref mKi, .ref mCo, .ref mEm, .ref mVa, .int (nI an), .ref mA1, .ref mA2, .ref mA3, .ref mA4, .int (nI ln), .ref mLk, .int (nI xn), .ref mEx, .int (nI qn), .ref mQp, .ref mQd, .int wh, .int wt, .int fd, .int pp, .int wn]))]) hP hD [0] [1] rfl rfl (by decide) (by decide) hkx9 hFc hP1 hD1
      generalize H1 = H at hP hS ⊢
      have hP : va_P (dC, dI) vwCl [(mPd, .inl (cI, 40, .inl pd)), (g, .inr (10, [.int (thrF (if nI pn + mnyM a b c0 d 4 ≤ 40 then 0 else 1) 0 0), .ref mPd, .int (nI pn), .int (nI bn), .ref mSg, .ref mSz, .ref mTo, .int (nI en), .ref mRo, .ref mLi, .int (nI hn), .ref mKi, .ref mCo, .ref mEm, .ref mVa, .int (nI an), .ref mA1, .ref mA2, .ref mA3, .ref mA4, .int (nI ln), .ref mLk, .int (nI xn), .ref mEx, .int (nI qn), .ref mQp, .ref mQd, .int wh, .int wt, .int fd, .int pp, .int wn]))] H := hP
      have hD : va_D A [(mPd, .inl (cI, 40, .inl pd)), (g, .inr (10, [.int (thrF (if nI pn + mnyM a b c0 d 4 ≤ 40 then 0 else 1) 0 0), .ref mPd, .int (nI pn), .int (nI bn), .ref mSg, .ref mSz, .ref mTo, .int (nI en), .ref mRo, .ref mLi, .int (nI hn), .ref mKi, .ref mCo, .ref mEm, .ref mVa, .int (nI an), .ref mA1, .ref mA2, .ref mA3, .ref mA4, .int (nI ln), .ref mLk, .int (nI xn), .ref mEx, .int (nI qn), .ref mQp, .ref mQd, .int wh, .int wt, .int fd, .int pp, .int wn]))] := hD
      refine lv_if_eq (tgt := 111) hx hb d_MD_unit_106 (by decide) (fun c106 => ?_) (fun c106 => ?_)
      · refine lv_iconst (v := 0) hx hb d_MD_unit_111 (by decide) ?_
        refine lv_istore (lv' := [(6, .int 0), (5, .int v), (0, .ref g), (1, .int a), (2, .int b), (3, .int c0), (4, .int d)]) hx hb d_MD_unit_112 hl (by decide) rfl (fun ls hl => ?_)
        refine lp_MD_unit_114 dC dI cI g mPd mSg mSz mTo mRo mLi mKi mCo mEm mVa mA1 mA2 mA3 mA4 mLk mEx mQp mQd th pn bn en hn an ln xn qn wh wt fd pp wn pd a b c0 d hub hok (thrF (if nI pn + mnyM a b c0 d 4 ≤ 40 then 0 else 1) 0 0) hx hb hml hts hown hK hA (fun f n hv H locs hP hD hS ls hl => ?_) (16 + 1) 0 pd pn (by omega) (Nat.zero_le _) (rfl) _ _ (hP.sub [1, 0] rfl) (hD.sub [1, 0] (by decide) rfl) hS ls (lv_sub hl [0, 2, 3, 4, 5, 6] rfl)
        · refine lv_aload_n hx hb d_MD_unit_199 rfl (lv_at hl 0 rfl) ?_
          refine va_get (D := (dC, dI)) (ci := 10) (v := .int (nI n)) (C := R_MD) (T := T_MD) (N := 32) hx hb hts iMD hown hK hP 0 rfl rfl 2 (by decide) (hts _ (wb_MD_unit _ b_670)) (fun _ h9 => h9) rfl d_MD_unit_200 ?_
          have hP9 := hP.sub (ws' := [(g, .inr (10, [.int (thrF (if nI pn + mnyM a b c0 d 4 ≤ 40 then 0 else 1) 0 0), .ref mPd, .int (nI n), .int (nI bn), .ref mSg, .ref mSz, .ref mTo, .int (nI en), .ref mRo, .ref mLi, .int (nI hn), .ref mKi, .ref mCo, .ref mEm, .ref mVa, .int (nI an), .ref mA1, .ref mA2, .ref mA3, .ref mA4, .int (nI ln), .ref mLk, .int (nI xn), .ref mEx, .int (nI qn), .ref mQp, .ref mQd, .int wh, .int wt, .int fd, .int pp, .int wn])), (mPd, .inl (cI, 40, .inl f))]) [0, 1] rfl
          have hD9 := hD.sub (ws' := [(g, .inr (10, [.int (thrF (if nI pn + mnyM a b c0 d 4 ≤ 40 then 0 else 1) 0 0), .ref mPd, .int (nI n), .int (nI bn), .ref mSg, .ref mSz, .ref mTo, .int (nI en), .ref mRo, .ref mLi, .int (nI hn), .ref mKi, .ref mCo, .ref mEm, .ref mVa, .int (nI an), .ref mA1, .ref mA2, .ref mA3, .ref mA4, .int (nI ln), .ref mLk, .int (nI xn), .ref mEx, .int (nI qn), .ref mQp, .ref mQd, .int wh, .int wt, .int fd, .int pp, .int wn])), (mPd, .inl (cI, 40, .inl f))]) [0, 1] (by decide) rfl
          have e9 : ([(g, .inr (10, [.int (thrF (if nI pn + mnyM a b c0 d 4 ≤ 40 then 0 else 1) 0 0), .ref mPd, .int (nI n), .int (nI bn), .ref mSg, .ref mSz, .ref mTo, .int (nI en), .ref mRo, .ref mLi, .int (nI hn), .ref mKi, .ref mCo, .ref mEm, .ref mVa, .int (nI an), .ref mA1, .ref mA2, .ref mA3, .ref mA4, .int (nI ln), .ref mLk, .int (nI xn), .ref mEx, .int (nI qn), .ref mQp, .ref mQd, .int wh, .int wt, .int fd, .int pp, .int wn])), (mPd, .inl (cI, 40, .inl f))] : va_W) = [(g, .inr (10, [.int (thrF (if nI pn + mnyM a b c0 d 4 ≤ 40 then 0 else 1) 0 0), .ref mPd, .int (nI (unM pd pn a b c0 d 16).2), .int (nI bn), .ref mSg, .ref mSz, .ref mTo, .int (nI en), .ref mRo, .ref mLi, .int (nI hn), .ref mKi, .ref mCo, .ref mEm, .ref mVa, .int (nI an), .ref mA1, .ref mA2, .ref mA3, .ref mA4, .int (nI ln), .ref mLk, .int (nI xn), .ref mEx, .int (nI qn), .ref mQp, .ref mQd, .int wh, .int wt, .int fd, .int pp, .int wn])), (mPd, .inl (cI, 40, .inl ((unM pd pn a b c0 d 16).1)))] := by rw [← hv]
          rw [e9] at hP9 hD9
          exact W.iret (v := nI n) hx hb hr (fun t ht hW => ⟨⟨nI n, (), rfl, by rw [← hv], by rw [ht]; exact hP9, va_K.moved hW.alike hK, hD9⟩, hS.F ht⟩) hS.2.2 d_MD_unit_203
      · exact absurd (hr103.trans (thrB_z hok)) c106
    · refine lv_aload_n hx hb d_MD_unit_84 rfl (lv_at hl 1 rfl) ?_
      refine va_get (D := (dC, dI)) (ci := 10) (v := .int (nI pn)) (C := R_MD) (T := T_MD) (N := 32) hx hb hts iMD hown hK hP 0 rfl rfl 2 (by decide) (hts _ (wb_MD_unit _ b_670)) (fun _ h9 => h9) rfl d_MD_unit_85 ?_
      refine lv_iload hx hb d_MD_unit_88 (lv_at hl 0 rfl) ?_
      refine lv_iadd hx hb d_MD_unit_90 ?_
      refine lv_bipush (v := 40) hx hb d_MD_unit_91 (by decide) ?_
      refine lv_icmp_le (tgt := 100) hx hb d_MD_unit_93 (by decide) (fun c93 => ?_) (fun c93 => ?_)
      · refine lv_iconst (v := 0) hx hb d_MD_unit_100 (by decide) ?_
        exact k101 _ _ _ _ ⟨by rw [← hv, if_pos c93], hP, hD, hS, lv_sub hl [0, 1, 2, 3, 4, 5] rfl⟩
      · refine lv_iconst (v := 1) hx hb d_MD_unit_96 (by decide) ?_
        refine lv_goto (tgt := 101) hx hb d_MD_unit_97 (by decide) ?_
        exact k101 _ _ _ _ ⟨by rw [← hv, if_neg c93], hP, hD, hS, lv_sub hl [0, 1, 2, 3, 4, 5] rfl⟩

/-- where the reference finds the pad wrong; -1 -/
def pA (pd : Nat → Int32) (pn k : Nat) : Int32 := if k < pn then pd k else -1
def k2M (pd : Nat → Int32) (pn k : Nat) : Nat := if pA pd pn (k + 1) = 33 then k + 1 + 1 else k + 1
theorem k2M_le (pd : Nat → Int32) (pn k : Nat) : k + 1 ≤ k2M pd pn k ∧ k2M pd pn k ≤ k + 2 := by
  unfold k2M
  split <;> omega
def wrM (pd : Nat → Int32) (pn : Nat) : Nat → Nat → Int32
  | 0, _ => -1
  | n + 1, k => if k < pn then (if pA pd pn k = 32 then (if pA pd pn (k2M pd pn k) = 103 then wrM pd pn n (k2M pd pn k + 1) else if digF (pA pd pn (k2M pd pn k)) = 0 then nI (k2M pd pn k) else if inF (pA pd pn (k2M pd pn k + 1)) 48 (47 + digF (pA pd pn (k2M pd pn k))) = 0 then nI (k2M pd pn k + 1) else wrM pd pn n (k2M pd pn k + 1 + 1)) else nI k) else -1
def wrgM (pd : Nat → Int32) (pn : Nat) : Int32 := if pA pd pn 0 = 115 ∨ pA pd pn 0 = 109 ∨ pA pd pn 0 = 97 then wrM pd pn 40 1 else 0

theorem wrM_end {pd : Nat → Int32} {pn n k : Nat} (h : ¬ k < pn) : wrM pd pn n k = -1 := by
  cases n with
  | zero => rfl
  | succ n => exact if_neg h

set_option maxHeartbeats 4000000 in
set_option maxRecDepth 100000 in
theorem lp_MD_wrongAt_28 {p : Program} {l : Launch} {e : Env} {s : State} {m : MethodId} {args : Array Value} {below : List Frame} {meth : Method} {c : Code} {Q : State → Prop} {A : Nat → Prop} {H0 : Heap} (dC : Nat → ClassId) (dI : Nat → Nat → Nat) (cI : ClassId) (g mPd mSg mSz mTo mRo mLi mKi mCo mEm mVa mA1 mA2 mA3 mA4 mLk mEx mQp mQd : Nat) (th : Int32) (pn bn en hn an ln xn qn : Nat) (wh wt fd pp wn : Int32) (pd : Nat → Int32) (hpn : pn ≤ 40)  (hx : p.tables.exec = Jvm.exec) (hb : c.code = k_MD_wrongAt) (hml : c.maxLocals = 4) (hts : ∀ w ∈ ws_MD_wrongAt, w.before args s = true) (hown : s.vm.findClass R_MD = some m.cls) (hK : va_K (dC, dI) vwCl [(cI, .int)] s) (kx125 : (wrM pd pn 40 1 = -1) → ∀ (H : Heap) (locs : List Loc), va_P (dC, dI) vwCl [(g, .inr (10, [.int th, .ref mPd, .int (nI pn), .int (nI bn), .ref mSg, .ref mSz, .ref mTo, .int (nI en), .ref mRo, .ref mLi, .int (nI hn), .ref mKi, .ref mCo, .ref mEm, .ref mVa, .int (nI an), .ref mA1, .ref mA2, .ref mA3, .ref mA4, .int (nI ln), .ref mLk, .int (nI xn), .ref mEx, .int (nI qn), .ref mQp, .ref mQd, .int wh, .int wt, .int fd, .int pp, .int wn])), (mPd, .inl (cI, 40, .inl pd))] H → va_S A H0 H locs → ∀ ls : Array Slot, lv_has ls 4 [(0, .ref g)] → W p l e ({ frames := 1, cells := 0, slots := 0, locals := 22 }) s m args below meth c H locs 0 0 Q (F0 m 125 ls [])) (kx46 : ∀ (k : Nat), (wrM pd pn 40 1 = nI k) → ∀ (H : Heap) (locs : List Loc), va_P (dC, dI) vwCl [(g, .inr (10, [.int th, .ref mPd, .int (nI pn), .int (nI bn), .ref mSg, .ref mSz, .ref mTo, .int (nI en), .ref mRo, .ref mLi, .int (nI hn), .ref mKi, .ref mCo, .ref mEm, .ref mVa, .int (nI an), .ref mA1, .ref mA2, .ref mA3, .ref mA4, .int (nI ln), .ref mLk, .int (nI xn), .ref mEx, .int (nI qn), .ref mQp, .ref mQd, .int wh, .int wt, .int fd, .int pp, .int wn])), (mPd, .inl (cI, 40, .inl pd))] H → va_S A H0 H locs → ∀ ls : Array Slot, lv_has ls 4 [(2, .int (nI k))] → W p l e ({ frames := 1, cells := 0, slots := 0, locals := 22 }) s m args below meth c H locs 0 0 Q (F0 m 46 ls [])) (kx83 : ∀ (k : Nat), (wrM pd pn 40 1 = nI k) → ∀ (H : Heap) (locs : List Loc), va_P (dC, dI) vwCl [(g, .inr (10, [.int th, .ref mPd, .int (nI pn), .int (nI bn), .ref mSg, .ref mSz, .ref mTo, .int (nI en), .ref mRo, .ref mLi, .int (nI hn), .ref mKi, .ref mCo, .ref mEm, .ref mVa, .int (nI an), .ref mA1, .ref mA2, .ref mA3, .ref mA4, .int (nI ln), .ref mLk, .int (nI xn), .ref mEx, .int (nI qn), .ref mQp, .ref mQd, .int wh, .int wt, .int fd, .int pp, .int wn])), (mPd, .inl (cI, 40, .inl pd))] H → va_S A H0 H locs → ∀ ls : Array Slot, lv_has ls 4 [(2, .int (nI k))] → W p l e ({ frames := 1, cells := 0, slots := 0, locals := 22 }) s m args below meth c H locs 0 0 Q (F0 m 83 ls [])) (kx117 : ∀ (k : Nat), (wrM pd pn 40 1 = nI k) → ∀ (H : Heap) (locs : List Loc), va_P (dC, dI) vwCl [(g, .inr (10, [.int th, .ref mPd, .int (nI pn), .int (nI bn), .ref mSg, .ref mSz, .ref mTo, .int (nI en), .ref mRo, .ref mLi, .int (nI hn), .ref mKi, .ref mCo, .ref mEm, .ref mVa, .int (nI an), .ref mA1, .ref mA2, .ref mA3, .ref mA4, .int (nI ln), .ref mLk, .int (nI xn), .ref mEx, .int (nI qn), .ref mQp, .ref mQd, .int wh, .int wt, .int fd, .int pp, .int wn])), (mPd, .inl (cI, 40, .inl pd))] H → va_S A H0 H locs → ∀ ls : Array Slot, lv_has ls 4 [(2, .int (nI k))] → W p l e ({ frames := 1, cells := 0, slots := 0, locals := 22 }) s m args below meth c H locs 0 0 Q (F0 m 117 ls [])) : ∀ (N : Nat), ∀ (k : Nat), ∀ (n : Nat), pn + 4 ≤ k + N → (k ≤ pn + 3) → (pn ≤ k + n) → (wrM pd pn 40 1 = wrM pd pn n k) → ∀ (H : Heap) (locs : List Loc), va_P (dC, dI) vwCl [(g, .inr (10, [.int th, .ref mPd, .int (nI pn), .int (nI bn), .ref mSg, .ref mSz, .ref mTo, .int (nI en), .ref mRo, .ref mLi, .int (nI hn), .ref mKi, .ref mCo, .ref mEm, .ref mVa, .int (nI an), .ref mA1, .ref mA2, .ref mA3, .ref mA4, .int (nI ln), .ref mLk, .int (nI xn), .ref mEx, .int (nI qn), .ref mQp, .ref mQd, .int wh, .int wt, .int fd, .int pp, .int wn])), (mPd, .inl (cI, 40, .inl pd))] H → va_S A H0 H locs → ∀ ls : Array Slot, lv_has ls 4 [(2, .int (nI k)), (0, .ref g)] → W p l e ({ frames := 1, cells := 0, slots := 0, locals := 22 }) s m args below meth c H locs 0 0 Q (F0 m 28 ls []) := by
  have iMD : ∀ w ∈ u_ws R_MD T_MD 32, w ∈ ws_MD_wrongAt := fun w h => wb_MD_wrongAt w (in_MD w h)
  intro N
  induction N with
  | zero =>
    intro k n hme hk hnk hv
    exact absurd hme (by omega)
  | succ N ih =>
    intro k n hme hk hnk hv H locs hP hS ls hl
    refine lv_iload_n hx hb d_MD_wrongAt_28 rfl (lv_at hl 0 rfl) ?_
    refine lv_aload_n hx hb d_MD_wrongAt_29 rfl (lv_at hl 1 rfl) ?_
    refine va_get (D := (dC, dI)) (ci := 10) (v := .int (nI pn)) (C := R_MD) (T := T_MD) (N := 32) hx hb hts iMD hown hK hP 0 rfl rfl 2 (by decide) (hts _ (wb_MD_wrongAt _ b_670)) (fun _ h9 => h9) rfl d_MD_wrongAt_30 ?_
    refine lv_icmp_ge (tgt := 125) hx hb d_MD_wrongAt_33 (by decide) (fun c33 => ?_) (fun c33 => ?_)
    · have hge : pn ≤ k := (nI_leI (show pn < 2147483648 by omega) (show k < 2147483648 by omega)).mp c33
      exact kx125 (hv.trans (wrM_end (by omega))) _ _ hP hS ls (lv_sub hl [1] rfl)
    · have hlt : k < pn := Nat.lt_of_not_le (mt (nI_leI (show pn < 2147483648 by omega) (show k < 2147483648 by omega)).mpr c33)
      obtain ⟨n1, rfl⟩ : ∃ n1, n = n1 + 1 := ⟨n - 1, by omega⟩
      obtain ⟨q1, q2⟩ := k2M_le pd pn k
      refine lv_aload_n hx hb d_MD_wrongAt_36 rfl (lv_at hl 1 rfl) ?_
      refine lv_iload_n hx hb d_MD_wrongAt_37 rfl (lv_at hl 0 rfl) ?_
      have hPc := hP.sub (ws' := [(g, .inr (10, [.int th, .ref mPd, .int (nI pn), .int (nI bn), .ref mSg, .ref mSz, .ref mTo, .int (nI en), .ref mRo, .ref mLi, .int (nI hn), .ref mKi, .ref mCo, .ref mEm, .ref mVa, .int (nI an), .ref mA1, .ref mA2, .ref mA3, .ref mA4, .int (nI ln), .ref mLk, .int (nI xn), .ref mEx, .int (nI qn), .ref mQp, .ref mQd, .int wh, .int wt, .int fd, .int pp, .int wn])), (mPd, .inl (cI, 40, .inl pd))]) [0, 1] rfl
      have hKc := hK.sub (tys' := [(cI, .int)]) [0] rfl
      refine va_calli (va_runV (As := [.int (nI k)]) (rest := []) ⟨hx, hb, hml, hown, hts⟩ (c_MD_padAt l dC dI cI g mPd mSg mSz mTo mRo mLi mKi mCo mEm mVa mA1 mA2 mA3 mA4 mLk mEx mQp mQd th pn bn en hn an ln xn qn wh wt fd pp wn pd (by first | assumption | omega) k (by first | assumption | omega)) (cwV 1 hts (vz_gV wb_MD_wrongAt b_789 b_791 bs_17 b_11 wc_MD_padAt) rfl rfl rfl (by decide +kernel) ⟨Nat.le_of_ble_eq_true rfl, Nat.le_of_ble_eq_true rfl⟩) (vz_preV hPc hKc (ci := 10) (q0 := 0) rfl rfl) rfl rfl hl.1 rfl (lv_room (Nat.le_of_ble_eq_true rfl)) d_MD_wrongAt_38 ⟨Nat.le_of_ble_eq_true rfl, Nat.le_of_ble_eq_true rfl⟩) hS (fun q _ h => False.elim h) (fun q h => False.elim h) (fun r38 u9 t9 H1 locs ht hvm hr38 hB hzx9 hkx9 hS => ?_)
      try dsimp only at hr38
      have hP := vz_kept hP hkx9
      generalize H1 = H at hP hS ⊢
      refine lv_bipush (v := 32) hx hb d_MD_wrongAt_41 (by decide) ?_
      refine lv_icmp_eq (tgt := 48) hx hb d_MD_wrongAt_43 (by decide) (fun c43 => ?_) (fun c43 => ?_)
      · refine lv_iinc (v := nI (k + 1)) (lv' := [(2, .int (nI (k + 1))), (0, .ref g)]) hx hb d_MD_wrongAt_48 hl (k := 0) rfl (nI_1 k) (by decide) rfl (fun ls hl => ?_)
        refine lv_aload_n hx hb d_MD_wrongAt_51 rfl (lv_at hl 1 rfl) ?_
        refine lv_iload_n hx hb d_MD_wrongAt_52 rfl (lv_at hl 0 rfl) ?_
        have hPc := hP.sub (ws' := [(g, .inr (10, [.int th, .ref mPd, .int (nI pn), .int (nI bn), .ref mSg, .ref mSz, .ref mTo, .int (nI en), .ref mRo, .ref mLi, .int (nI hn), .ref mKi, .ref mCo, .ref mEm, .ref mVa, .int (nI an), .ref mA1, .ref mA2, .ref mA3, .ref mA4, .int (nI ln), .ref mLk, .int (nI xn), .ref mEx, .int (nI qn), .ref mQp, .ref mQd, .int wh, .int wt, .int fd, .int pp, .int wn])), (mPd, .inl (cI, 40, .inl pd))]) [0, 1] rfl
        have hKc := hK.sub (tys' := [(cI, .int)]) [0] rfl
        refine va_calli (va_runV (As := [.int (nI (k + 1))]) (rest := []) ⟨hx, hb, hml, hown, hts⟩ (c_MD_padAt l dC dI cI g mPd mSg mSz mTo mRo mLi mKi mCo mEm mVa mA1 mA2 mA3 mA4 mLk mEx mQp mQd th pn bn en hn an ln xn qn wh wt fd pp wn pd (by first | assumption | omega) (k + 1) (by first | assumption | omega)) (cwV 1 hts (vz_gV wb_MD_wrongAt b_789 b_791 bs_17 b_11 wc_MD_padAt) rfl rfl rfl (by decide +kernel) ⟨Nat.le_of_ble_eq_true rfl, Nat.le_of_ble_eq_true rfl⟩) (vz_preV hPc hKc (ci := 10) (q0 := 0) rfl rfl) rfl rfl hl.1 rfl (lv_room (Nat.le_of_ble_eq_true rfl)) d_MD_wrongAt_53 ⟨Nat.le_of_ble_eq_true rfl, Nat.le_of_ble_eq_true rfl⟩) hS (fun q _ h => False.elim h) (fun q h => False.elim h) (fun r53 u9 t9 H1 locs ht hvm hr53 hB hzx9 hkx9 hS => ?_)
        try dsimp only at hr53
        have hP := vz_kept hP hkx9
        generalize H1 = H at hP hS ⊢
        refine lv_bipush (v := 33) hx hb d_MD_wrongAt_56 (by decide) ?_
        refine lv_icmp_ne (tgt := 64) hx hb d_MD_wrongAt_58 (by decide) (fun c58 => ?_) (fun c58 => ?_)
        · have ek : k2M pd pn k = k + 1 := if_neg (fun h9 => c58 (hr53.trans h9))
          have hl : lv_has ls 4 [(2, .int (nI (k2M pd pn k))), (0, .ref g)] := by rw [show nI (k2M pd pn k) = nI (k + 1) from congrArg nI ek]; exact hl
          refine lv_aload_n hx hb d_MD_wrongAt_64 rfl (lv_at hl 1 rfl) ?_
          refine lv_iload_n hx hb d_MD_wrongAt_65 rfl (lv_at hl 0 rfl) ?_
          have hPc := hP.sub (ws' := [(g, .inr (10, [.int th, .ref mPd, .int (nI pn), .int (nI bn), .ref mSg, .ref mSz, .ref mTo, .int (nI en), .ref mRo, .ref mLi, .int (nI hn), .ref mKi, .ref mCo, .ref mEm, .ref mVa, .int (nI an), .ref mA1, .ref mA2, .ref mA3, .ref mA4, .int (nI ln), .ref mLk, .int (nI xn), .ref mEx, .int (nI qn), .ref mQp, .ref mQd, .int wh, .int wt, .int fd, .int pp, .int wn])), (mPd, .inl (cI, 40, .inl pd))]) [0, 1] rfl
          have hKc := hK.sub (tys' := [(cI, .int)]) [0] rfl
          refine va_calli (va_runV (As := [.int (nI (k2M pd pn k))]) (rest := []) ⟨hx, hb, hml, hown, hts⟩ (c_MD_padAt l dC dI cI g mPd mSg mSz mTo mRo mLi mKi mCo mEm mVa mA1 mA2 mA3 mA4 mLk mEx mQp mQd th pn bn en hn an ln xn qn wh wt fd pp wn pd (by first | assumption | omega) (k2M pd pn k) (by first | assumption | omega)) (cwV 1 hts (vz_gV wb_MD_wrongAt b_789 b_791 bs_17 b_11 wc_MD_padAt) rfl rfl rfl (by decide +kernel) ⟨Nat.le_of_ble_eq_true rfl, Nat.le_of_ble_eq_true rfl⟩) (vz_preV hPc hKc (ci := 10) (q0 := 0) rfl rfl) rfl rfl hl.1 rfl (lv_room (Nat.le_of_ble_eq_true rfl)) d_MD_wrongAt_66 ⟨Nat.le_of_ble_eq_true rfl, Nat.le_of_ble_eq_true rfl⟩) hS (fun q _ h => False.elim h) (fun q h => False.elim h) (fun r66 u9 t9 H1 locs ht hvm hr66 hB hzx9 hkx9 hS => ?_)
          try dsimp only at hr66
          have hP := vz_kept hP hkx9
          generalize H1 = H at hP hS ⊢
          refine lv_istore_n (lv' := [(3, .int r66), (2, .int (nI (k2M pd pn k))), (0, .ref g)]) hx hb d_MD_wrongAt_69 rfl hl (by decide) rfl (fun ls hl => ?_)
          refine lv_iload_n hx hb d_MD_wrongAt_70 rfl (lv_at hl 0 rfl) ?_
          refine lv_bipush (v := 103) hx hb d_MD_wrongAt_71 (by decide) ?_
          refine lv_icmp_eq (tgt := 85) hx hb d_MD_wrongAt_73 (by decide) (fun c73 => ?_) (fun c73 => ?_)
          · refine lv_iinc (v := nI ((k2M pd pn k) + 1)) (lv' := [(2, .int (nI ((k2M pd pn k) + 1))), (3, .int r66), (0, .ref g)]) hx hb d_MD_wrongAt_85 hl (k := 1) rfl (nI_1 (k2M pd pn k)) (by decide) rfl (fun ls hl => ?_)
            refine lv_iload_n hx hb d_MD_wrongAt_88 rfl (lv_at hl 1 rfl) ?_
            refine lv_bipush (v := 103) hx hb d_MD_wrongAt_89 (by decide) ?_
            refine lv_icmp_ne (tgt := 97) hx hb d_MD_wrongAt_91 (by decide) (fun c91 => ?_) (fun c91 => ?_)
            · exact absurd c73 c91
            · refine lv_goto (tgt := 28) hx hb d_MD_wrongAt_94 (by decide) ?_
              exact ih ((k2M pd pn k) + 1) n1 (by omega) (by omega) (by omega) (hv.trans ((if_pos hlt).trans ((if_pos (hr38.symm.trans c43)).trans (if_pos (hr66.symm.trans c73))))) _ _ hP hS ls (lv_sub hl [0, 2] rfl)
          · refine lv_iload_n hx hb d_MD_wrongAt_76 rfl (lv_at hl 0 rfl) ?_
            have hPc := hP.sub (ws' := []) [] rfl
            have hKc := hK.sub (tys' := []) [] rfl
            refine va_calli (va_runS (As := [.int r66]) (rest := []) ⟨hx, hb, hml, hown, hts⟩ (c_MD_digitsOf l dC dI r66) (va_cwS 1 hts (vz_gS wb_MD_wrongAt b_793 b_794 b_11 wc_MD_digitsOf) rfl rfl rfl (by decide +kernel) ⟨Nat.le_of_ble_eq_true rfl, Nat.le_of_ble_eq_true rfl⟩) (vz_preS hPc hKc) rfl rfl hl.1 rfl (lv_room (Nat.le_of_ble_eq_true rfl)) d_MD_wrongAt_77 ⟨Nat.le_of_ble_eq_true rfl, Nat.le_of_ble_eq_true rfl⟩) hS (fun q _ h => False.elim h) (fun q h => False.elim h) (fun r77 u9 t9 H1 locs ht hvm hr77 hB hzx9 hkx9 hS => ?_)
            try dsimp only at hr77
            have hP := vz_kept hP hkx9
            generalize H1 = H at hP hS ⊢
            refine lv_if_ne (tgt := 85) hx hb d_MD_wrongAt_80 (by decide) (fun c80 => ?_) (fun c80 => ?_)
            · refine lv_iinc (v := nI ((k2M pd pn k) + 1)) (lv' := [(2, .int (nI ((k2M pd pn k) + 1))), (3, .int r66), (0, .ref g)]) hx hb d_MD_wrongAt_85 hl (k := 1) rfl (nI_1 (k2M pd pn k)) (by decide) rfl (fun ls hl => ?_)
              refine lv_iload_n hx hb d_MD_wrongAt_88 rfl (lv_at hl 1 rfl) ?_
              refine lv_bipush (v := 103) hx hb d_MD_wrongAt_89 (by decide) ?_
              refine lv_icmp_ne (tgt := 97) hx hb d_MD_wrongAt_91 (by decide) (fun c91 => ?_) (fun c91 => ?_)
              · refine lv_aload_n hx hb d_MD_wrongAt_97 rfl (lv_at hl 2 rfl) ?_
                refine lv_iload_n hx hb d_MD_wrongAt_98 rfl (lv_at hl 0 rfl) ?_
                have hPc := hP.sub (ws' := [(g, .inr (10, [.int th, .ref mPd, .int (nI pn), .int (nI bn), .ref mSg, .ref mSz, .ref mTo, .int (nI en), .ref mRo, .ref mLi, .int (nI hn), .ref mKi, .ref mCo, .ref mEm, .ref mVa, .int (nI an), .ref mA1, .ref mA2, .ref mA3, .ref mA4, .int (nI ln), .ref mLk, .int (nI xn), .ref mEx, .int (nI qn), .ref mQp, .ref mQd, .int wh, .int wt, .int fd, .int pp, .int wn])), (mPd, .inl (cI, 40, .inl pd))]) [0, 1] rfl
                have hKc := hK.sub (tys' := [(cI, .int)]) [0] rfl
                refine va_calli (va_runV (As := [.int (nI ((k2M pd pn k) + 1))]) (rest := []) ⟨hx, hb, hml, hown, hts⟩ (c_MD_padAt l dC dI cI g mPd mSg mSz mTo mRo mLi mKi mCo mEm mVa mA1 mA2 mA3 mA4 mLk mEx mQp mQd th pn bn en hn an ln xn qn wh wt fd pp wn pd (by first | assumption | omega) ((k2M pd pn k) + 1) (by first | assumption | omega)) (cwV 1 hts (vz_gV wb_MD_wrongAt b_789 b_791 bs_17 b_11 wc_MD_padAt) rfl rfl rfl (by decide +kernel) ⟨Nat.le_of_ble_eq_true rfl, Nat.le_of_ble_eq_true rfl⟩) (vz_preV hPc hKc (ci := 10) (q0 := 0) rfl rfl) rfl rfl hl.1 rfl (lv_room (Nat.le_of_ble_eq_true rfl)) d_MD_wrongAt_99 ⟨Nat.le_of_ble_eq_true rfl, Nat.le_of_ble_eq_true rfl⟩) hS (fun q _ h => False.elim h) (fun q h => False.elim h) (fun r99 u9 t9 H1 locs ht hvm hr99 hB hzx9 hkx9 hS => ?_)
                try dsimp only at hr99
                have hP := vz_kept hP hkx9
                generalize H1 = H at hP hS ⊢
                refine lv_bipush (v := 48) hx hb d_MD_wrongAt_102 (by decide) ?_
                refine lv_bipush (v := 47) hx hb d_MD_wrongAt_104 (by decide) ?_
                refine lv_iload_n hx hb d_MD_wrongAt_106 rfl (lv_at hl 1 rfl) ?_
                have hPc := hP.sub (ws' := []) [] rfl
                have hKc := hK.sub (tys' := []) [] rfl
                refine va_calli (va_runS (As := [.int r66]) (rest := [.int 47, .int 48, .int r99]) ⟨hx, hb, hml, hown, hts⟩ (c_MD_digitsOf l dC dI r66) (va_cwS 1 hts (vz_gS wb_MD_wrongAt b_793 b_794 b_11 wc_MD_digitsOf) rfl rfl rfl (by decide +kernel) ⟨Nat.le_of_ble_eq_true rfl, Nat.le_of_ble_eq_true rfl⟩) (vz_preS hPc hKc) rfl rfl hl.1 rfl (lv_room (Nat.le_of_ble_eq_true rfl)) d_MD_wrongAt_107 ⟨Nat.le_of_ble_eq_true rfl, Nat.le_of_ble_eq_true rfl⟩) hS (fun q _ h => False.elim h) (fun q h => False.elim h) (fun r107 u9 t9 H1 locs ht hvm hr107 hB hzx9 hkx9 hS => ?_)
                try dsimp only at hr107
                have hP := vz_kept hP hkx9
                generalize H1 = H at hP hS ⊢
                refine lv_iadd hx hb d_MD_wrongAt_110 ?_
                have hPc := hP.sub (ws' := []) [] rfl
                have hKc := hK.sub (tys' := []) [] rfl
                refine va_calli (va_runS (As := [.int r99, .int 48, .int (47 + r107)]) (rest := []) ⟨hx, hb, hml, hown, hts⟩ (c_MD_in l dC dI r99 48 (47 + r107)) (va_cwS 3 hts (vz_gS wb_MD_wrongAt b_796 b_797 b_11 wc_MD_in) rfl rfl rfl (by decide +kernel) ⟨Nat.le_of_ble_eq_true rfl, Nat.le_of_ble_eq_true rfl⟩) (vz_preS hPc hKc) rfl rfl hl.1 rfl (lv_room (Nat.le_of_ble_eq_true rfl)) d_MD_wrongAt_111 ⟨Nat.le_of_ble_eq_true rfl, Nat.le_of_ble_eq_true rfl⟩) hS (fun q _ h => False.elim h) (fun q h => False.elim h) (fun r111 u9 t9 H1 locs ht hvm hr111 hB hzx9 hkx9 hS => ?_)
                try dsimp only at hr111
                have hP := vz_kept hP hkx9
                generalize H1 = H at hP hS ⊢
                have hin : r111 = inF (pA pd pn (k2M pd pn k + 1)) 48 (47 + digF (pA pd pn (k2M pd pn k))) := by
                  rw [hr111, hr99, hr107, hr66]
                  rfl
                refine lv_if_ne (tgt := 119) hx hb d_MD_wrongAt_114 (by decide) (fun c114 => ?_) (fun c114 => ?_)
                · refine lv_iinc (v := nI (((k2M pd pn k) + 1) + 1)) (lv' := [(2, .int (nI (((k2M pd pn k) + 1) + 1))), (3, .int r66), (0, .ref g)]) hx hb d_MD_wrongAt_119 hl (k := 0) rfl (nI_1 ((k2M pd pn k) + 1)) (by decide) rfl (fun ls hl => ?_)
                  refine lv_goto (tgt := 28) hx hb d_MD_wrongAt_122 (by decide) ?_
                  exact ih (((k2M pd pn k) + 1) + 1) n1 (by omega) (by omega) (by omega) (hv.trans ((if_pos hlt).trans ((if_pos (hr38.symm.trans c43)).trans ((if_neg (fun h9 => c73 (hr66.trans h9))).trans ((if_neg (fun h9 => c80 (hr77.trans (by rw [hr66]; exact h9)))).trans (if_neg (fun h9 => c114 (hin.trans h9)))))))) _ _ hP hS ls (lv_sub hl [0, 2] rfl)
                · exact kx117 ((k2M pd pn k) + 1) (hv.trans ((if_pos hlt).trans ((if_pos (hr38.symm.trans c43)).trans ((if_neg (fun h9 => c73 (hr66.trans h9))).trans ((if_neg (fun h9 => c80 (hr77.trans (by rw [hr66]; exact h9)))).trans (if_pos (hin.symm.trans c114))))))) _ _ hP hS ls (lv_sub hl [0] rfl)
              · exact absurd c91 c73
            · exact kx83 (k2M pd pn k) (hv.trans ((if_pos hlt).trans ((if_pos (hr38.symm.trans c43)).trans ((if_neg (fun h9 => c73 (hr66.trans h9))).trans (if_pos (by rw [hr66] at hr77; exact hr77.symm.trans c80)))))) _ _ hP hS ls (lv_sub hl [1] rfl)
        · refine lv_iinc (v := nI ((k + 1) + 1)) (lv' := [(2, .int (nI ((k + 1) + 1))), (0, .ref g)]) hx hb d_MD_wrongAt_61 hl (k := 0) rfl (nI_1 (k + 1)) (by decide) rfl (fun ls hl => ?_)
          have ek : k2M pd pn k = k + 1 + 1 := if_pos (hr53.symm.trans c58)
          have hl : lv_has ls 4 [(2, .int (nI (k2M pd pn k))), (0, .ref g)] := by rw [show nI (k2M pd pn k) = nI (k + 1 + 1) from congrArg nI ek]; exact hl
          refine lv_aload_n hx hb d_MD_wrongAt_64 rfl (lv_at hl 1 rfl) ?_
          refine lv_iload_n hx hb d_MD_wrongAt_65 rfl (lv_at hl 0 rfl) ?_
          have hPc := hP.sub (ws' := [(g, .inr (10, [.int th, .ref mPd, .int (nI pn), .int (nI bn), .ref mSg, .ref mSz, .ref mTo, .int (nI en), .ref mRo, .ref mLi, .int (nI hn), .ref mKi, .ref mCo, .ref mEm, .ref mVa, .int (nI an), .ref mA1, .ref mA2, .ref mA3, .ref mA4, .int (nI ln), .ref mLk, .int (nI xn), .ref mEx, .int (nI qn), .ref mQp, .ref mQd, .int wh, .int wt, .int fd, .int pp, .int wn])), (mPd, .inl (cI, 40, .inl pd))]) [0, 1] rfl
          have hKc := hK.sub (tys' := [(cI, .int)]) [0] rfl
          refine va_calli (va_runV (As := [.int (nI (k2M pd pn k))]) (rest := []) ⟨hx, hb, hml, hown, hts⟩ (c_MD_padAt l dC dI cI g mPd mSg mSz mTo mRo mLi mKi mCo mEm mVa mA1 mA2 mA3 mA4 mLk mEx mQp mQd th pn bn en hn an ln xn qn wh wt fd pp wn pd (by first | assumption | omega) (k2M pd pn k) (by first | assumption | omega)) (cwV 1 hts (vz_gV wb_MD_wrongAt b_789 b_791 bs_17 b_11 wc_MD_padAt) rfl rfl rfl (by decide +kernel) ⟨Nat.le_of_ble_eq_true rfl, Nat.le_of_ble_eq_true rfl⟩) (vz_preV hPc hKc (ci := 10) (q0 := 0) rfl rfl) rfl rfl hl.1 rfl (lv_room (Nat.le_of_ble_eq_true rfl)) d_MD_wrongAt_66 ⟨Nat.le_of_ble_eq_true rfl, Nat.le_of_ble_eq_true rfl⟩) hS (fun q _ h => False.elim h) (fun q h => False.elim h) (fun r66 u9 t9 H1 locs ht hvm hr66 hB hzx9 hkx9 hS => ?_)
          try dsimp only at hr66
          have hP := vz_kept hP hkx9
          generalize H1 = H at hP hS ⊢
          refine lv_istore_n (lv' := [(3, .int r66), (2, .int (nI (k2M pd pn k))), (0, .ref g)]) hx hb d_MD_wrongAt_69 rfl hl (by decide) rfl (fun ls hl => ?_)
          refine lv_iload_n hx hb d_MD_wrongAt_70 rfl (lv_at hl 0 rfl) ?_
          refine lv_bipush (v := 103) hx hb d_MD_wrongAt_71 (by decide) ?_
          refine lv_icmp_eq (tgt := 85) hx hb d_MD_wrongAt_73 (by decide) (fun c73 => ?_) (fun c73 => ?_)
          · refine lv_iinc (v := nI ((k2M pd pn k) + 1)) (lv' := [(2, .int (nI ((k2M pd pn k) + 1))), (3, .int r66), (0, .ref g)]) hx hb d_MD_wrongAt_85 hl (k := 1) rfl (nI_1 (k2M pd pn k)) (by decide) rfl (fun ls hl => ?_)
            refine lv_iload_n hx hb d_MD_wrongAt_88 rfl (lv_at hl 1 rfl) ?_
            refine lv_bipush (v := 103) hx hb d_MD_wrongAt_89 (by decide) ?_
            refine lv_icmp_ne (tgt := 97) hx hb d_MD_wrongAt_91 (by decide) (fun c91 => ?_) (fun c91 => ?_)
            · exact absurd c73 c91
            · refine lv_goto (tgt := 28) hx hb d_MD_wrongAt_94 (by decide) ?_
              exact ih ((k2M pd pn k) + 1) n1 (by omega) (by omega) (by omega) (hv.trans ((if_pos hlt).trans ((if_pos (hr38.symm.trans c43)).trans (if_pos (hr66.symm.trans c73))))) _ _ hP hS ls (lv_sub hl [0, 2] rfl)
          · refine lv_iload_n hx hb d_MD_wrongAt_76 rfl (lv_at hl 0 rfl) ?_
            have hPc := hP.sub (ws' := []) [] rfl
            have hKc := hK.sub (tys' := []) [] rfl
            refine va_calli (va_runS (As := [.int r66]) (rest := []) ⟨hx, hb, hml, hown, hts⟩ (c_MD_digitsOf l dC dI r66) (va_cwS 1 hts (vz_gS wb_MD_wrongAt b_793 b_794 b_11 wc_MD_digitsOf) rfl rfl rfl (by decide +kernel) ⟨Nat.le_of_ble_eq_true rfl, Nat.le_of_ble_eq_true rfl⟩) (vz_preS hPc hKc) rfl rfl hl.1 rfl (lv_room (Nat.le_of_ble_eq_true rfl)) d_MD_wrongAt_77 ⟨Nat.le_of_ble_eq_true rfl, Nat.le_of_ble_eq_true rfl⟩) hS (fun q _ h => False.elim h) (fun q h => False.elim h) (fun r77 u9 t9 H1 locs ht hvm hr77 hB hzx9 hkx9 hS => ?_)
            try dsimp only at hr77
            have hP := vz_kept hP hkx9
            generalize H1 = H at hP hS ⊢
            refine lv_if_ne (tgt := 85) hx hb d_MD_wrongAt_80 (by decide) (fun c80 => ?_) (fun c80 => ?_)
            · refine lv_iinc (v := nI ((k2M pd pn k) + 1)) (lv' := [(2, .int (nI ((k2M pd pn k) + 1))), (3, .int r66), (0, .ref g)]) hx hb d_MD_wrongAt_85 hl (k := 1) rfl (nI_1 (k2M pd pn k)) (by decide) rfl (fun ls hl => ?_)
              refine lv_iload_n hx hb d_MD_wrongAt_88 rfl (lv_at hl 1 rfl) ?_
              refine lv_bipush (v := 103) hx hb d_MD_wrongAt_89 (by decide) ?_
              refine lv_icmp_ne (tgt := 97) hx hb d_MD_wrongAt_91 (by decide) (fun c91 => ?_) (fun c91 => ?_)
              · refine lv_aload_n hx hb d_MD_wrongAt_97 rfl (lv_at hl 2 rfl) ?_
                refine lv_iload_n hx hb d_MD_wrongAt_98 rfl (lv_at hl 0 rfl) ?_
                have hPc := hP.sub (ws' := [(g, .inr (10, [.int th, .ref mPd, .int (nI pn), .int (nI bn), .ref mSg, .ref mSz, .ref mTo, .int (nI en), .ref mRo, .ref mLi, .int (nI hn), .ref mKi, .ref mCo, .ref mEm, .ref mVa, .int (nI an), .ref mA1, .ref mA2, .ref mA3, .ref mA4, .int (nI ln), .ref mLk, .int (nI xn), .ref mEx, .int (nI qn), .ref mQp, .ref mQd, .int wh, .int wt, .int fd, .int pp, .int wn])), (mPd, .inl (cI, 40, .inl pd))]) [0, 1] rfl
                have hKc := hK.sub (tys' := [(cI, .int)]) [0] rfl
                refine va_calli (va_runV (As := [.int (nI ((k2M pd pn k) + 1))]) (rest := []) ⟨hx, hb, hml, hown, hts⟩ (c_MD_padAt l dC dI cI g mPd mSg mSz mTo mRo mLi mKi mCo mEm mVa mA1 mA2 mA3 mA4 mLk mEx mQp mQd th pn bn en hn an ln xn qn wh wt fd pp wn pd (by first | assumption | omega) ((k2M pd pn k) + 1) (by first | assumption | omega)) (cwV 1 hts (vz_gV wb_MD_wrongAt b_789 b_791 bs_17 b_11 wc_MD_padAt) rfl rfl rfl (by decide +kernel) ⟨Nat.le_of_ble_eq_true rfl, Nat.le_of_ble_eq_true rfl⟩) (vz_preV hPc hKc (ci := 10) (q0 := 0) rfl rfl) rfl rfl hl.1 rfl (lv_room (Nat.le_of_ble_eq_true rfl)) d_MD_wrongAt_99 ⟨Nat.le_of_ble_eq_true rfl, Nat.le_of_ble_eq_true rfl⟩) hS (fun q _ h => False.elim h) (fun q h => False.elim h) (fun r99 u9 t9 H1 locs ht hvm hr99 hB hzx9 hkx9 hS => ?_)
                try dsimp only at hr99
                have hP := vz_kept hP hkx9
                generalize H1 = H at hP hS ⊢
                refine lv_bipush (v := 48) hx hb d_MD_wrongAt_102 (by decide) ?_
                refine lv_bipush (v := 47) hx hb d_MD_wrongAt_104 (by decide) ?_
                refine lv_iload_n hx hb d_MD_wrongAt_106 rfl (lv_at hl 1 rfl) ?_
                have hPc := hP.sub (ws' := []) [] rfl
                have hKc := hK.sub (tys' := []) [] rfl
                refine va_calli (va_runS (As := [.int r66]) (rest := [.int 47, .int 48, .int r99]) ⟨hx, hb, hml, hown, hts⟩ (c_MD_digitsOf l dC dI r66) (va_cwS 1 hts (vz_gS wb_MD_wrongAt b_793 b_794 b_11 wc_MD_digitsOf) rfl rfl rfl (by decide +kernel) ⟨Nat.le_of_ble_eq_true rfl, Nat.le_of_ble_eq_true rfl⟩) (vz_preS hPc hKc) rfl rfl hl.1 rfl (lv_room (Nat.le_of_ble_eq_true rfl)) d_MD_wrongAt_107 ⟨Nat.le_of_ble_eq_true rfl, Nat.le_of_ble_eq_true rfl⟩) hS (fun q _ h => False.elim h) (fun q h => False.elim h) (fun r107 u9 t9 H1 locs ht hvm hr107 hB hzx9 hkx9 hS => ?_)
                try dsimp only at hr107
                have hP := vz_kept hP hkx9
                generalize H1 = H at hP hS ⊢
                refine lv_iadd hx hb d_MD_wrongAt_110 ?_
                have hPc := hP.sub (ws' := []) [] rfl
                have hKc := hK.sub (tys' := []) [] rfl
                refine va_calli (va_runS (As := [.int r99, .int 48, .int (47 + r107)]) (rest := []) ⟨hx, hb, hml, hown, hts⟩ (c_MD_in l dC dI r99 48 (47 + r107)) (va_cwS 3 hts (vz_gS wb_MD_wrongAt b_796 b_797 b_11 wc_MD_in) rfl rfl rfl (by decide +kernel) ⟨Nat.le_of_ble_eq_true rfl, Nat.le_of_ble_eq_true rfl⟩) (vz_preS hPc hKc) rfl rfl hl.1 rfl (lv_room (Nat.le_of_ble_eq_true rfl)) d_MD_wrongAt_111 ⟨Nat.le_of_ble_eq_true rfl, Nat.le_of_ble_eq_true rfl⟩) hS (fun q _ h => False.elim h) (fun q h => False.elim h) (fun r111 u9 t9 H1 locs ht hvm hr111 hB hzx9 hkx9 hS => ?_)
                try dsimp only at hr111
                have hP := vz_kept hP hkx9
                generalize H1 = H at hP hS ⊢
                have hin : r111 = inF (pA pd pn (k2M pd pn k + 1)) 48 (47 + digF (pA pd pn (k2M pd pn k))) := by
                  rw [hr111, hr99, hr107, hr66]
                  rfl
                refine lv_if_ne (tgt := 119) hx hb d_MD_wrongAt_114 (by decide) (fun c114 => ?_) (fun c114 => ?_)
                · refine lv_iinc (v := nI (((k2M pd pn k) + 1) + 1)) (lv' := [(2, .int (nI (((k2M pd pn k) + 1) + 1))), (3, .int r66), (0, .ref g)]) hx hb d_MD_wrongAt_119 hl (k := 0) rfl (nI_1 ((k2M pd pn k) + 1)) (by decide) rfl (fun ls hl => ?_)
                  refine lv_goto (tgt := 28) hx hb d_MD_wrongAt_122 (by decide) ?_
                  exact ih (((k2M pd pn k) + 1) + 1) n1 (by omega) (by omega) (by omega) (hv.trans ((if_pos hlt).trans ((if_pos (hr38.symm.trans c43)).trans ((if_neg (fun h9 => c73 (hr66.trans h9))).trans ((if_neg (fun h9 => c80 (hr77.trans (by rw [hr66]; exact h9)))).trans (if_neg (fun h9 => c114 (hin.trans h9)))))))) _ _ hP hS ls (lv_sub hl [0, 2] rfl)
                · exact kx117 ((k2M pd pn k) + 1) (hv.trans ((if_pos hlt).trans ((if_pos (hr38.symm.trans c43)).trans ((if_neg (fun h9 => c73 (hr66.trans h9))).trans ((if_neg (fun h9 => c80 (hr77.trans (by rw [hr66]; exact h9)))).trans (if_pos (hin.symm.trans c114))))))) _ _ hP hS ls (lv_sub hl [0] rfl)
              · exact absurd c91 c73
            · exact kx83 (k2M pd pn k) (hv.trans ((if_pos hlt).trans ((if_pos (hr38.symm.trans c43)).trans ((if_neg (fun h9 => c73 (hr66.trans h9))).trans (if_pos (by rw [hr66] at hr77; exact hr77.symm.trans c80)))))) _ _ hP hS ls (lv_sub hl [1] rfl)
      · exact kx46 k (hv.trans ((if_pos hlt).trans (if_neg (fun h9 => c43 (hr38.trans h9))))) _ _ hP hS ls (lv_sub hl [0] rfl)
set_option maxHeartbeats 4000000 in
set_option maxRecDepth 100000 in
theorem c_MD_wrongAt (l : Launch) (dC : Nat → ClassId) (dI : Nat → Nat → Nat) (cI : ClassId) (g mPd mSg mSz mTo mRo mLi mKi mCo mEm mVa mA1 mA2 mA3 mA4 mLk mEx mQp mQd : Nat) (th : Int32) (pn bn en hn an ln xn qn : Nat) (wh wt fd pp wn : Int32) (pd : Nat → Int32) (hpn : pn ≤ 40) : Met l y_MD_wrongAt ws_MD_wrongAt ({ frames := 1, cells := 0, slots := 0, locals := 22 }) (va_Pc [.ref g] (fun U => va_P (dC, dI) vwCl [(g, .inr (10, [.int th, .ref mPd, .int (nI pn), .int (nI bn), .ref mSg, .ref mSz, .ref mTo, .int (nI en), .ref mRo, .ref mLi, .int (nI hn), .ref mKi, .ref mCo, .ref mEm, .ref mVa, .int (nI an), .ref mA1, .ref mA2, .ref mA3, .ref mA4, .int (nI ln), .ref mLk, .int (nI xn), .ref mEx, .int (nI qn), .ref mQp, .ref mQd, .int wh, .int wt, .int fd, .int pp, .int wn])), (mPd, .inl (cI, 40, .inl pd))] U.heap ∧ va_K (dC, dI) vwCl [(cI, .int)] U)) (va_Qi (fun (res : Int32) (_ : Unit) => res = wrgM pd pn) (fun _ _ => True) (fun _ => False)) 0 0 (fun _ => False) := by
  refine Met.ofW (cc := k_MD_wrongAt) (maxL := 4) (ret := (some .int)) (by decide) rfl ?_
  intro p e s m args below meth c s₁ B hml hv
  obtain ⟨rfl, hP, hK⟩ := hv
  have hx := B.exec
  have hb := B.bytes
  have hr := B.returns
  have hts := atoms_spec (ws := ws_MD_wrongAt) B.pre
  have hown : s.vm.findClass R_MD = some m.cls := findClass_of_methodNamed B.named
  have hlocks := B.notSynchronized
  have hS : va_S (fun _ => False) s.heap s.heap [] := va_S.rf
  have hP : va_P (dC, dI) vwCl [(g, .inr (10, [.int th, .ref mPd, .int (nI pn), .int (nI bn), .ref mSg, .ref mSz, .ref mTo, .int (nI en), .ref mRo, .ref mLi, .int (nI hn), .ref mKi, .ref mCo, .ref mEm, .ref mVa, .int (nI an), .ref mA1, .ref mA2, .ref mA3, .ref mA4, .int (nI ln), .ref mLk, .int (nI xn), .ref mEx, .int (nI qn), .ref mQp, .ref mQd, .int wh, .int wt, .int fd, .int pp, .int wn])), (mPd, .inl (cI, 40, .inl pd))] s.heap := hP
  have iMD : ∀ w ∈ u_ws R_MD T_MD 32, w ∈ ws_MD_wrongAt := fun w h => wb_MD_wrongAt w (in_MD w h)
  have hl := lv_entry ([.ref g]) (n := 4) (Nat.le_of_ble_eq_true rfl)
  rw [lg_entry_eq]
  generalize (lg_sl ([.ref g]) ++ List.replicate (4 - (lg_sl ([.ref g])).length) Slot.unset).toArray = ls at hl ⊢
  have hl : lv_has ls 4 [(0, .ref g)] := hl
  refine lv_aload_n hx hb d_MD_wrongAt_0 rfl (lv_at hl 0 rfl) ?_
  refine lv_iconst (v := 0) hx hb d_MD_wrongAt_1 (by decide) ?_
  have hPc := hP.sub (ws' := [(g, .inr (10, [.int th, .ref mPd, .int (nI pn), .int (nI bn), .ref mSg, .ref mSz, .ref mTo, .int (nI en), .ref mRo, .ref mLi, .int (nI hn), .ref mKi, .ref mCo, .ref mEm, .ref mVa, .int (nI an), .ref mA1, .ref mA2, .ref mA3, .ref mA4, .int (nI ln), .ref mLk, .int (nI xn), .ref mEx, .int (nI qn), .ref mQp, .ref mQd, .int wh, .int wt, .int fd, .int pp, .int wn])), (mPd, .inl (cI, 40, .inl pd))]) [0, 1] rfl
  have hKc := hK.sub (tys' := [(cI, .int)]) [0] rfl
  refine va_calli (va_runV (As := [.int 0]) (rest := []) ⟨hx, hb, hml, hown, hts⟩ (c_MD_padAt l dC dI cI g mPd mSg mSz mTo mRo mLi mKi mCo mEm mVa mA1 mA2 mA3 mA4 mLk mEx mQp mQd th pn bn en hn an ln xn qn wh wt fd pp wn pd (by first | assumption | omega) 0 (by first | assumption | omega)) (cwV 1 hts (vz_gV wb_MD_wrongAt b_789 b_791 bs_17 b_11 wc_MD_padAt) rfl rfl rfl (by decide +kernel) ⟨Nat.le_of_ble_eq_true rfl, Nat.le_of_ble_eq_true rfl⟩) (vz_preV hPc hKc (ci := 10) (q0 := 0) rfl rfl) rfl rfl hl.1 rfl (lv_room (Nat.le_of_ble_eq_true rfl)) d_MD_wrongAt_2 ⟨Nat.le_of_ble_eq_true rfl, Nat.le_of_ble_eq_true rfl⟩) hS (fun q _ h => False.elim h) (fun q h => False.elim h) (fun r2 u9 t9 H1 locs ht hvm hr2 hB hzx9 hkx9 hS => ?_)
  try dsimp only at hr2
  have hP := vz_kept hP hkx9
  generalize H1 = H at hP hS ⊢
  refine lv_istore_n (lv' := [(1, .int r2), (0, .ref g)]) hx hb d_MD_wrongAt_5 rfl hl (by decide) rfl (fun ls hl => ?_)
  refine lv_iload_n hx hb d_MD_wrongAt_6 rfl (lv_at hl 0 rfl) ?_
  refine lv_bipush (v := 115) hx hb d_MD_wrongAt_7 (by decide) ?_
  refine lv_icmp_eq (tgt := 26) hx hb d_MD_wrongAt_9 (by decide) (fun c9 => ?_) (fun c9 => ?_)
  · refine lv_iconst (v := 1) hx hb d_MD_wrongAt_26 (by decide) ?_
    refine lv_istore_n (lv' := [(2, .int 1), (1, .int r2), (0, .ref g)]) hx hb d_MD_wrongAt_27 rfl hl (by decide) rfl (fun ls hl => ?_)
    refine lp_MD_wrongAt_28 dC dI cI g mPd mSg mSz mTo mRo mLi mKi mCo mEm mVa mA1 mA2 mA3 mA4 mLk mEx mQp mQd th pn bn en hn an ln xn qn wh wt fd pp wn pd hpn hx hb hml hts hown hK (fun hv H locs hP hS ls hl => ?_) (fun k hv H locs hP hS ls hl => ?_) (fun k hv H locs hP hS ls hl => ?_) (fun k hv H locs hP hS ls hl => ?_) (pn + 4) 1 40 (by omega) (by omega) (by omega) (rfl) _ _ hP hS ls (lv_sub hl [0, 2] rfl)
    · refine lv_iconst (v := (-1)) hx hb d_MD_wrongAt_125 (by decide) ?_
      exact W.iret (v := (-1)) hx hb hr (fun t ht hW => ⟨⟨(-1), (), rfl, ((if_pos (Or.inl (hr2.symm.trans c9))).trans hv).symm, trivial⟩, hS.F ht⟩) hS.2.2 d_MD_wrongAt_126
    · refine lv_iload_n hx hb d_MD_wrongAt_46 rfl (lv_at hl 0 rfl) ?_
      exact W.iret (v := nI k) hx hb hr (fun t ht hW => ⟨⟨nI k, (), rfl, ((if_pos (Or.inl (hr2.symm.trans c9))).trans hv).symm, trivial⟩, hS.F ht⟩) hS.2.2 d_MD_wrongAt_47
    · refine lv_iload_n hx hb d_MD_wrongAt_83 rfl (lv_at hl 0 rfl) ?_
      exact W.iret (v := nI k) hx hb hr (fun t ht hW => ⟨⟨nI k, (), rfl, ((if_pos (Or.inl (hr2.symm.trans c9))).trans hv).symm, trivial⟩, hS.F ht⟩) hS.2.2 d_MD_wrongAt_84
    · refine lv_iload_n hx hb d_MD_wrongAt_117 rfl (lv_at hl 0 rfl) ?_
      exact W.iret (v := nI k) hx hb hr (fun t ht hW => ⟨⟨nI k, (), rfl, ((if_pos (Or.inl (hr2.symm.trans c9))).trans hv).symm, trivial⟩, hS.F ht⟩) hS.2.2 d_MD_wrongAt_118
  · refine lv_iload_n hx hb d_MD_wrongAt_12 rfl (lv_at hl 0 rfl) ?_
    refine lv_bipush (v := 109) hx hb d_MD_wrongAt_13 (by decide) ?_
    refine lv_icmp_eq (tgt := 26) hx hb d_MD_wrongAt_15 (by decide) (fun c15 => ?_) (fun c15 => ?_)
    · refine lv_iconst (v := 1) hx hb d_MD_wrongAt_26 (by decide) ?_
      refine lv_istore_n (lv' := [(2, .int 1), (1, .int r2), (0, .ref g)]) hx hb d_MD_wrongAt_27 rfl hl (by decide) rfl (fun ls hl => ?_)
      refine lp_MD_wrongAt_28 dC dI cI g mPd mSg mSz mTo mRo mLi mKi mCo mEm mVa mA1 mA2 mA3 mA4 mLk mEx mQp mQd th pn bn en hn an ln xn qn wh wt fd pp wn pd hpn hx hb hml hts hown hK (fun hv H locs hP hS ls hl => ?_) (fun k hv H locs hP hS ls hl => ?_) (fun k hv H locs hP hS ls hl => ?_) (fun k hv H locs hP hS ls hl => ?_) (pn + 4) 1 40 (by omega) (by omega) (by omega) (rfl) _ _ hP hS ls (lv_sub hl [0, 2] rfl)
      · refine lv_iconst (v := (-1)) hx hb d_MD_wrongAt_125 (by decide) ?_
        exact W.iret (v := (-1)) hx hb hr (fun t ht hW => ⟨⟨(-1), (), rfl, ((if_pos (Or.inr (Or.inl (hr2.symm.trans c15)))).trans hv).symm, trivial⟩, hS.F ht⟩) hS.2.2 d_MD_wrongAt_126
      · refine lv_iload_n hx hb d_MD_wrongAt_46 rfl (lv_at hl 0 rfl) ?_
        exact W.iret (v := nI k) hx hb hr (fun t ht hW => ⟨⟨nI k, (), rfl, ((if_pos (Or.inr (Or.inl (hr2.symm.trans c15)))).trans hv).symm, trivial⟩, hS.F ht⟩) hS.2.2 d_MD_wrongAt_47
      · refine lv_iload_n hx hb d_MD_wrongAt_83 rfl (lv_at hl 0 rfl) ?_
        exact W.iret (v := nI k) hx hb hr (fun t ht hW => ⟨⟨nI k, (), rfl, ((if_pos (Or.inr (Or.inl (hr2.symm.trans c15)))).trans hv).symm, trivial⟩, hS.F ht⟩) hS.2.2 d_MD_wrongAt_84
      · refine lv_iload_n hx hb d_MD_wrongAt_117 rfl (lv_at hl 0 rfl) ?_
        exact W.iret (v := nI k) hx hb hr (fun t ht hW => ⟨⟨nI k, (), rfl, ((if_pos (Or.inr (Or.inl (hr2.symm.trans c15)))).trans hv).symm, trivial⟩, hS.F ht⟩) hS.2.2 d_MD_wrongAt_118
    · refine lv_iload_n hx hb d_MD_wrongAt_18 rfl (lv_at hl 0 rfl) ?_
      refine lv_bipush (v := 97) hx hb d_MD_wrongAt_19 (by decide) ?_
      refine lv_icmp_eq (tgt := 26) hx hb d_MD_wrongAt_21 (by decide) (fun c21 => ?_) (fun c21 => ?_)
      · refine lv_iconst (v := 1) hx hb d_MD_wrongAt_26 (by decide) ?_
        refine lv_istore_n (lv' := [(2, .int 1), (1, .int r2), (0, .ref g)]) hx hb d_MD_wrongAt_27 rfl hl (by decide) rfl (fun ls hl => ?_)
        refine lp_MD_wrongAt_28 dC dI cI g mPd mSg mSz mTo mRo mLi mKi mCo mEm mVa mA1 mA2 mA3 mA4 mLk mEx mQp mQd th pn bn en hn an ln xn qn wh wt fd pp wn pd hpn hx hb hml hts hown hK (fun hv H locs hP hS ls hl => ?_) (fun k hv H locs hP hS ls hl => ?_) (fun k hv H locs hP hS ls hl => ?_) (fun k hv H locs hP hS ls hl => ?_) (pn + 4) 1 40 (by omega) (by omega) (by omega) (rfl) _ _ hP hS ls (lv_sub hl [0, 2] rfl)
        · refine lv_iconst (v := (-1)) hx hb d_MD_wrongAt_125 (by decide) ?_
          exact W.iret (v := (-1)) hx hb hr (fun t ht hW => ⟨⟨(-1), (), rfl, ((if_pos (Or.inr (Or.inr (hr2.symm.trans c21)))).trans hv).symm, trivial⟩, hS.F ht⟩) hS.2.2 d_MD_wrongAt_126
        · refine lv_iload_n hx hb d_MD_wrongAt_46 rfl (lv_at hl 0 rfl) ?_
          exact W.iret (v := nI k) hx hb hr (fun t ht hW => ⟨⟨nI k, (), rfl, ((if_pos (Or.inr (Or.inr (hr2.symm.trans c21)))).trans hv).symm, trivial⟩, hS.F ht⟩) hS.2.2 d_MD_wrongAt_47
        · refine lv_iload_n hx hb d_MD_wrongAt_83 rfl (lv_at hl 0 rfl) ?_
          exact W.iret (v := nI k) hx hb hr (fun t ht hW => ⟨⟨nI k, (), rfl, ((if_pos (Or.inr (Or.inr (hr2.symm.trans c21)))).trans hv).symm, trivial⟩, hS.F ht⟩) hS.2.2 d_MD_wrongAt_84
        · refine lv_iload_n hx hb d_MD_wrongAt_117 rfl (lv_at hl 0 rfl) ?_
          exact W.iret (v := nI k) hx hb hr (fun t ht hW => ⟨⟨nI k, (), rfl, ((if_pos (Or.inr (Or.inr (hr2.symm.trans c21)))).trans hv).symm, trivial⟩, hS.F ht⟩) hS.2.2 d_MD_wrongAt_118
      · refine lv_iconst (v := 0) hx hb d_MD_wrongAt_24 (by decide) ?_
        exact W.iret (v := 0) hx hb hr (fun t ht hW => ⟨⟨0, (), rfl, (if_neg (fun h9 => by rcases h9 with h9 | h9 | h9; exact c9 (hr2.trans h9); exact c15 (hr2.trans h9); exact c21 (hr2.trans h9))).symm, trivial⟩, hS.F ht⟩) hS.2.2 d_MD_wrongAt_25

def cpM (sg pd : Nat → Int32) (b : Nat) : Nat → (Nat → Int32)
  | 0 => sg
  | k + 1 => upd (cpM sg pd b k) (b + k) (pd k)

set_option maxHeartbeats 4000000 in
set_option maxRecDepth 100000 in
theorem c_MD_ruleB (l : Launch) (dC : Nat → ClassId) (dI : Nat → Nat → Nat) (sz : Nat) (g mPd mSg mSz mTo mRo mLi mKi mCo mEm mVa mA1 mA2 mA3 mA4 mLk mEx mQp mQd : Nat) (th : Int32) (pn bn en hn an ln xn qn : Nat) (wh wt fd pp wn : Int32) (hok : ¬ thrF (eqF (nI bn) 20) 0 0 = 0) : Met l y_MD_rule ws_MD_rule ({ frames := 1, cells := 0, slots := 0, locals := 23 }) (va_Pc [.ref g] (fun U => U.heap.size = sz ∧ va_P (dC, dI) vwCl [(g, .inr (10, [.int th, .ref mPd, .int (nI pn), .int (nI bn), .ref mSg, .ref mSz, .ref mTo, .int (nI en), .ref mRo, .ref mLi, .int (nI hn), .ref mKi, .ref mCo, .ref mEm, .ref mVa, .int (nI an), .ref mA1, .ref mA2, .ref mA3, .ref mA4, .int (nI ln), .ref mLk, .int (nI xn), .ref mEx, .int (nI qn), .ref mQp, .ref mQd, .int wh, .int wt, .int fd, .int pp, .int wn]))] U.heap ∧ va_K (dC, dI) vwCl [] U ∧ va_D (fun _ => True) [(g, .inr (10, [.int th, .ref mPd, .int (nI pn), .int (nI bn), .ref mSg, .ref mSz, .ref mTo, .int (nI en), .ref mRo, .ref mLi, .int (nI hn), .ref mKi, .ref mCo, .ref mEm, .ref mVa, .int (nI an), .ref mA1, .ref mA2, .ref mA3, .ref mA4, .int (nI ln), .ref mLk, .int (nI xn), .ref mEx, .int (nI qn), .ref mQp, .ref mQd, .int wh, .int wt, .int fd, .int pp, .int wn]))])) (va_Qi (fun (res : Int32) (_ : Unit) => res = 0) (fun _ t => va_P (dC, dI) vwCl [(g, .inr (10, [.int (thrF (eqF (nI bn) 20) 0 0), .ref mPd, .int (nI pn), .int (nI bn), .ref mSg, .ref mSz, .ref mTo, .int (nI en), .ref mRo, .ref mLi, .int (nI hn), .ref mKi, .ref mCo, .ref mEm, .ref mVa, .int (nI an), .ref mA1, .ref mA2, .ref mA3, .ref mA4, .int (nI ln), .ref mLk, .int (nI xn), .ref mEx, .int (nI qn), .ref mQp, .ref mQd, .int wh, .int wt, .int fd, .int pp, .int wn]))] t.heap ∧ va_K (dC, dI) vwCl [] t ∧ va_D (va_A [(g, .inr (10, [.int th, .ref mPd, .int (nI pn), .int (nI bn), .ref mSg, .ref mSz, .ref mTo, .int (nI en), .ref mRo, .ref mLi, .int (nI hn), .ref mKi, .ref mCo, .ref mEm, .ref mVa, .int (nI an), .ref mA1, .ref mA2, .ref mA3, .ref mA4, .int (nI ln), .ref mLk, .int (nI xn), .ref mEx, .int (nI qn), .ref mQp, .ref mQd, .int wh, .int wt, .int fd, .int pp, .int wn]))] sz) [(g, .inr (10, [.int (thrF (eqF (nI bn) 20) 0 0), .ref mPd, .int (nI pn), .int (nI bn), .ref mSg, .ref mSz, .ref mTo, .int (nI en), .ref mRo, .ref mLi, .int (nI hn), .ref mKi, .ref mCo, .ref mEm, .ref mVa, .int (nI an), .ref mA1, .ref mA2, .ref mA3, .ref mA4, .int (nI ln), .ref mLk, .int (nI xn), .ref mEx, .int (nI qn), .ref mQp, .ref mQd, .int wh, .int wt, .int fd, .int pp, .int wn]))]) (va_A [(g, .inr (10, [.int th, .ref mPd, .int (nI pn), .int (nI bn), .ref mSg, .ref mSz, .ref mTo, .int (nI en), .ref mRo, .ref mLi, .int (nI hn), .ref mKi, .ref mCo, .ref mEm, .ref mVa, .int (nI an), .ref mA1, .ref mA2, .ref mA3, .ref mA4, .int (nI ln), .ref mLk, .int (nI xn), .ref mEx, .int (nI qn), .ref mQp, .ref mQd, .int wh, .int wt, .int fd, .int pp, .int wn]))] sz)) 0 0 (va_A [(g, .inr (10, [.int th, .ref mPd, .int (nI pn), .int (nI bn), .ref mSg, .ref mSz, .ref mTo, .int (nI en), .ref mRo, .ref mLi, .int (nI hn), .ref mKi, .ref mCo, .ref mEm, .ref mVa, .int (nI an), .ref mA1, .ref mA2, .ref mA3, .ref mA4, .int (nI ln), .ref mLk, .int (nI xn), .ref mEx, .int (nI qn), .ref mQp, .ref mQd, .int wh, .int wt, .int fd, .int pp, .int wn]))] sz) := by
  refine Met.ofW (cc := k_MD_rule) (maxL := 4) (ret := (some .int)) (by decide) rfl ?_
  intro p e s m args below meth c s₁ B hml hv
  obtain ⟨rfl, hsz, hP, hK, hD0⟩ := hv
  have hx := B.exec
  have hb := B.bytes
  have hr := B.returns
  have hts := atoms_spec (ws := ws_MD_rule) B.pre
  have hown : s.vm.findClass R_MD = some m.cls := findClass_of_methodNamed B.named
  have hlocks := B.notSynchronized
  subst hsz
  have hD := hD0.self (sz := s.heap.size)
  generalize hAe : va_A [(g, .inr (10, [.int th, .ref mPd, .int (nI pn), .int (nI bn), .ref mSg, .ref mSz, .ref mTo, .int (nI en), .ref mRo, .ref mLi, .int (nI hn), .ref mKi, .ref mCo, .ref mEm, .ref mVa, .int (nI an), .ref mA1, .ref mA2, .ref mA3, .ref mA4, .int (nI ln), .ref mLk, .int (nI xn), .ref mEx, .int (nI qn), .ref mQp, .ref mQd, .int wh, .int wt, .int fd, .int pp, .int wn]))] s.heap.size = A at hD ⊢
  have hA : ∀ q : Nat, s.heap.size ≤ q → A q := fun q h => by rw [← hAe]; exact Or.inr h
  have hS : va_S A s.heap s.heap [] := va_S.rf
  have hP : va_P (dC, dI) vwCl [(g, .inr (10, [.int th, .ref mPd, .int (nI pn), .int (nI bn), .ref mSg, .ref mSz, .ref mTo, .int (nI en), .ref mRo, .ref mLi, .int (nI hn), .ref mKi, .ref mCo, .ref mEm, .ref mVa, .int (nI an), .ref mA1, .ref mA2, .ref mA3, .ref mA4, .int (nI ln), .ref mLk, .int (nI xn), .ref mEx, .int (nI qn), .ref mQp, .ref mQd, .int wh, .int wt, .int fd, .int pp, .int wn]))] s.heap := hP
  have iMD : ∀ w ∈ u_ws R_MD T_MD 32, w ∈ ws_MD_rule := fun w h => wb_MD_rule w (in_MD w h)
  have hl := lv_entry ([.ref g]) (n := 4) (Nat.le_of_ble_eq_true rfl)
  rw [lg_entry_eq]
  generalize (lg_sl ([.ref g]) ++ List.replicate (4 - (lg_sl ([.ref g])).length) Slot.unset).toArray = ls at hl ⊢
  have hl : lv_has ls 4 [(0, .ref g)] := hl
  refine lv_aload_n hx hb d_MD_rule_0 rfl (lv_at hl 0 rfl) ?_
  refine vz_join 15 [.ref g] (fun b9 H9 locs9 ls9 => (b9 = eqF (nI bn) 20) ∧ va_P (dC, dI) vwCl [(g, .inr (10, [.int th, .ref mPd, .int (nI pn), .int (nI bn), .ref mSg, .ref mSz, .ref mTo, .int (nI en), .ref mRo, .ref mLi, .int (nI hn), .ref mKi, .ref mCo, .ref mEm, .ref mVa, .int (nI an), .ref mA1, .ref mA2, .ref mA3, .ref mA4, .int (nI ln), .ref mLk, .int (nI xn), .ref mEx, .int (nI qn), .ref mQp, .ref mQd, .int wh, .int wt, .int fd, .int pp, .int wn]))] H9 ∧ va_D A [(g, .inr (10, [.int th, .ref mPd, .int (nI pn), .int (nI bn), .ref mSg, .ref mSz, .ref mTo, .int (nI en), .ref mRo, .ref mLi, .int (nI hn), .ref mKi, .ref mCo, .ref mEm, .ref mVa, .int (nI an), .ref mA1, .ref mA2, .ref mA3, .ref mA4, .int (nI ln), .ref mLk, .int (nI xn), .ref mEx, .int (nI qn), .ref mQp, .ref mQd, .int wh, .int wt, .int fd, .int pp, .int wn]))] ∧ va_S A s.heap H9 locs9 ∧ lv_has ls9 4 [(0, .ref g)]) (fun b9 H locs ls h9 => ?_) (fun k15 => ?_)
  · obtain ⟨rfl, hP, hD, hS, hl⟩ := h9
    refine lv_iconst (v := 0) hx hb d_MD_rule_15 (by decide) ?_
    refine lv_iconst (v := 0) hx hb d_MD_rule_16 (by decide) ?_
    have hPc := hP.sub (ws' := [(g, .inr (10, [.int th, .ref mPd, .int (nI pn), .int (nI bn), .ref mSg, .ref mSz, .ref mTo, .int (nI en), .ref mRo, .ref mLi, .int (nI hn), .ref mKi, .ref mCo, .ref mEm, .ref mVa, .int (nI an), .ref mA1, .ref mA2, .ref mA3, .ref mA4, .int (nI ln), .ref mLk, .int (nI xn), .ref mEx, .int (nI qn), .ref mQp, .ref mQd, .int wh, .int wt, .int fd, .int pp, .int wn]))]) [0] rfl
    have hKc := hK.sub (tys' := []) [] rfl
    have hDc := hD.sub (ws' := [(g, .inr (10, [.int th, .ref mPd, .int (nI pn), .int (nI bn), .ref mSg, .ref mSz, .ref mTo, .int (nI en), .ref mRo, .ref mLi, .int (nI hn), .ref mKi, .ref mCo, .ref mEm, .ref mVa, .int (nI an), .ref mA1, .ref mA2, .ref mA3, .ref mA4, .int (nI ln), .ref mLk, .int (nI xn), .ref mEx, .int (nI qn), .ref mQp, .ref mQd, .int wh, .int wt, .int fd, .int pp, .int wn]))]) [0] (by decide) rfl
    have hFc := va_free (wc := [(g, .inr (10, [.int th, .ref mPd, .int (nI pn), .int (nI bn), .ref mSg, .ref mSz, .ref mTo, .int (nI en), .ref mRo, .ref mLi, .int (nI hn), .ref mKi, .ref mCo, .ref mEm, .ref mVa, .int (nI an), .ref mA1, .ref mA2, .ref mA3, .ref mA4, .int (nI ln), .ref mLk, .int (nI xn), .ref mEx, .int (nI qn), .ref mQp, .ref mQd, .int wh, .int wt, .int fd, .int pp, .int wn]))]) hD hS hA [0] rfl
    refine va_calli (va_runV (As := [.int (eqF (nI bn) 20), .int 0, .int 0]) (rest := []) ⟨hx, hb, hml, hown, hts⟩ (c_MD_throwing l dC dI H.size g mPd mSg mSz mTo mRo mLi mKi mCo mEm mVa mA1 mA2 mA3 mA4 mLk mEx mQp mQd th pn bn en hn an ln xn qn wh wt fd pp wn (eqF (nI bn) 20) 0 0) (cwV 3 hts (vz_gV wb_MD_rule b_777 b_779 bs_15 b_11 wc_MD_throwing) rfl rfl rfl (by decide +kernel) ⟨Nat.le_of_ble_eq_true rfl, Nat.le_of_ble_eq_true rfl⟩) (vz_preVw (A := A) hPc hKc hDc (ci := 10) (q0 := 0) rfl rfl) rfl rfl hl.1 rfl (lv_room (Nat.le_of_ble_eq_true rfl)) d_MD_rule_17 ⟨Nat.le_of_ble_eq_true rfl, Nat.le_of_ble_eq_true rfl⟩) hS (fun q _ h => hFc q h) hFc (fun r17 u9 t9 H1 locs ht hvm hr17 hB hzx9 hkx9 hS => ?_)
    try dsimp only at hr17
    obtain ⟨hP1, hK1, hD1⟩ := hB
    rw [ht] at hP1
    obtain ⟨hP, hD⟩ := va_join (wr := []) (w1 := [(g, .inr (10, [.int (thrF (eqF (nI bn) 20) 0 0), .ref mPd, .int (nI pn), .int (nI bn), .ref mSg, .ref mSz, .ref mTo, .int (nI en), .ref mRo, .ref mLi, .int (nI hn), .ref mKi, .ref mCo, .ref mEm, .ref mVa, .int (nI an), .ref mA1, .ref mA2, .ref mA3, .ref mA4, .int (nI ln), .ref mLk, .int (nI xn), .ref mEx, .int (nI qn), .ref mQp, .ref mQd, .int wh, .int wt, .int fd, .int pp, .int wn]))]) hP hD [0] [] rfl rfl (by decide) (by decide) hkx9 hFc hP1 hD1
    generalize H1 = H at hP hS ⊢
    have hP : va_P (dC, dI) vwCl [(g, .inr (10, [.int (thrF (eqF (nI bn) 20) 0 0), .ref mPd, .int (nI pn), .int (nI bn), .ref mSg, .ref mSz, .ref mTo, .int (nI en), .ref mRo, .ref mLi, .int (nI hn), .ref mKi, .ref mCo, .ref mEm, .ref mVa, .int (nI an), .ref mA1, .ref mA2, .ref mA3, .ref mA4, .int (nI ln), .ref mLk, .int (nI xn), .ref mEx, .int (nI qn), .ref mQp, .ref mQd, .int wh, .int wt, .int fd, .int pp, .int wn]))] H := hP
    have hD : va_D A [(g, .inr (10, [.int (thrF (eqF (nI bn) 20) 0 0), .ref mPd, .int (nI pn), .int (nI bn), .ref mSg, .ref mSz, .ref mTo, .int (nI en), .ref mRo, .ref mLi, .int (nI hn), .ref mKi, .ref mCo, .ref mEm, .ref mVa, .int (nI an), .ref mA1, .ref mA2, .ref mA3, .ref mA4, .int (nI ln), .ref mLk, .int (nI xn), .ref mEx, .int (nI qn), .ref mQp, .ref mQd, .int wh, .int wt, .int fd, .int pp, .int wn]))] := hD
    refine lv_if_eq (tgt := 25) hx hb d_MD_rule_20 (by decide) (fun c20 => ?_) (fun c20 => ?_)
    · exact absurd (thrF_z (hr17.symm.trans c20)) hok
    · refine lv_iconst (v := 0) hx hb d_MD_rule_23 (by decide) ?_
      have hP9 := hP.sub (ws' := [(g, .inr (10, [.int (thrF (eqF (nI bn) 20) 0 0), .ref mPd, .int (nI pn), .int (nI bn), .ref mSg, .ref mSz, .ref mTo, .int (nI en), .ref mRo, .ref mLi, .int (nI hn), .ref mKi, .ref mCo, .ref mEm, .ref mVa, .int (nI an), .ref mA1, .ref mA2, .ref mA3, .ref mA4, .int (nI ln), .ref mLk, .int (nI xn), .ref mEx, .int (nI qn), .ref mQp, .ref mQd, .int wh, .int wt, .int fd, .int pp, .int wn]))]) [0] rfl
      have hD9 := hD.sub (ws' := [(g, .inr (10, [.int (thrF (eqF (nI bn) 20) 0 0), .ref mPd, .int (nI pn), .int (nI bn), .ref mSg, .ref mSz, .ref mTo, .int (nI en), .ref mRo, .ref mLi, .int (nI hn), .ref mKi, .ref mCo, .ref mEm, .ref mVa, .int (nI an), .ref mA1, .ref mA2, .ref mA3, .ref mA4, .int (nI ln), .ref mLk, .int (nI xn), .ref mEx, .int (nI qn), .ref mQp, .ref mQd, .int wh, .int wt, .int fd, .int pp, .int wn]))]) [0] (by decide) rfl
      exact W.iret (v := 0) hx hb hr (fun t ht hW => ⟨⟨0, (), rfl, rfl, by rw [ht]; exact hP9, va_K.moved hW.alike hK, hD9⟩, hS.F ht⟩) hS.2.2 d_MD_rule_24
  · refine lv_aload_n hx hb d_MD_rule_1 rfl (lv_at hl 0 rfl) ?_
    refine va_get (D := (dC, dI)) (ci := 10) (v := .int (nI bn)) (C := R_MD) (T := T_MD) (N := 32) hx hb hts iMD hown hK hP 0 rfl rfl 3 (by decide) (hts _ (wb_MD_rule _ b_671)) (fun _ h9 => h9) rfl d_MD_rule_2 ?_
    refine lv_bipush (v := 20) hx hb d_MD_rule_5 (by decide) ?_
    refine lv_icmp_ne (tgt := 14) hx hb d_MD_rule_7 (by decide) (fun c7 => ?_) (fun c7 => ?_)
    · refine lv_iconst (v := 0) hx hb d_MD_rule_14 (by decide) ?_
      exact k15 _ _ _ _ ⟨by simp [eqF, c7], hP, hD, hS, lv_sub hl [0] rfl⟩
    · refine lv_iconst (v := 1) hx hb d_MD_rule_10 (by decide) ?_
      refine lv_goto (tgt := 15) hx hb d_MD_rule_11 (by decide) ?_
      exact k15 _ _ _ _ ⟨by simp [eqF, c7], hP, hD, hS, lv_sub hl [0] rfl⟩

set_option maxHeartbeats 4000000 in
set_option maxRecDepth 100000 in
theorem c_MD_ruleBad (l : Launch) (dC : Nat → ClassId) (dI : Nat → Nat → Nat) (sz : Nat) (cI : ClassId) (g mPd mSg mSz mTo mRo mLi mKi mCo mEm mVa mA1 mA2 mA3 mA4 mLk mEx mQp mQd : Nat) (th : Int32) (pn bn en hn an ln xn qn : Nat) (wh wt fd pp wn : Int32) (pd : Nat → Int32) (hpn : pn ≤ 40) (hbn : bn < 20) (hwr : ¬ wrgM pd pn < 0) (hok : thrF (eqF (nI bn) 20) 0 0 = 0) : Met l y_MD_rule ws_MD_rule ({ frames := 2, cells := 0, slots := 0, locals := 45 }) (va_Pc [.ref g] (fun U => U.heap.size = sz ∧ va_P (dC, dI) vwCl [(g, .inr (10, [.int th, .ref mPd, .int (nI pn), .int (nI bn), .ref mSg, .ref mSz, .ref mTo, .int (nI en), .ref mRo, .ref mLi, .int (nI hn), .ref mKi, .ref mCo, .ref mEm, .ref mVa, .int (nI an), .ref mA1, .ref mA2, .ref mA3, .ref mA4, .int (nI ln), .ref mLk, .int (nI xn), .ref mEx, .int (nI qn), .ref mQp, .ref mQd, .int wh, .int wt, .int fd, .int pp, .int wn])), (mPd, .inl (cI, 40, .inl pd))] U.heap ∧ va_K (dC, dI) vwCl [(cI, .int)] U ∧ va_D (fun _ => True) [(g, .inr (10, [.int th, .ref mPd, .int (nI pn), .int (nI bn), .ref mSg, .ref mSz, .ref mTo, .int (nI en), .ref mRo, .ref mLi, .int (nI hn), .ref mKi, .ref mCo, .ref mEm, .ref mVa, .int (nI an), .ref mA1, .ref mA2, .ref mA3, .ref mA4, .int (nI ln), .ref mLk, .int (nI xn), .ref mEx, .int (nI qn), .ref mQp, .ref mQd, .int wh, .int wt, .int fd, .int pp, .int wn])), (mPd, .inl (cI, 40, .inl pd))])) (va_Qi (fun (res : Int32) (_ : Unit) => res = -1 - wrgM pd pn) (fun _ t => va_P (dC, dI) vwCl [(g, .inr (10, [.int (thrF (eqF (nI bn) 20) 0 0), .ref mPd, .int 0, .int (nI bn), .ref mSg, .ref mSz, .ref mTo, .int (nI en), .ref mRo, .ref mLi, .int (nI hn), .ref mKi, .ref mCo, .ref mEm, .ref mVa, .int (nI an), .ref mA1, .ref mA2, .ref mA3, .ref mA4, .int (nI ln), .ref mLk, .int (nI xn), .ref mEx, .int (nI qn), .ref mQp, .ref mQd, .int wh, .int wt, .int fd, .int pp, .int wn])), (mPd, .inl (cI, 40, .inl pd))] t.heap ∧ va_K (dC, dI) vwCl [(cI, .int)] t ∧ va_D (va_A [(g, .inr (10, [.int th, .ref mPd, .int (nI pn), .int (nI bn), .ref mSg, .ref mSz, .ref mTo, .int (nI en), .ref mRo, .ref mLi, .int (nI hn), .ref mKi, .ref mCo, .ref mEm, .ref mVa, .int (nI an), .ref mA1, .ref mA2, .ref mA3, .ref mA4, .int (nI ln), .ref mLk, .int (nI xn), .ref mEx, .int (nI qn), .ref mQp, .ref mQd, .int wh, .int wt, .int fd, .int pp, .int wn])), (mPd, .inl (cI, 40, .inl pd))] sz) [(g, .inr (10, [.int (thrF (eqF (nI bn) 20) 0 0), .ref mPd, .int 0, .int (nI bn), .ref mSg, .ref mSz, .ref mTo, .int (nI en), .ref mRo, .ref mLi, .int (nI hn), .ref mKi, .ref mCo, .ref mEm, .ref mVa, .int (nI an), .ref mA1, .ref mA2, .ref mA3, .ref mA4, .int (nI ln), .ref mLk, .int (nI xn), .ref mEx, .int (nI qn), .ref mQp, .ref mQd, .int wh, .int wt, .int fd, .int pp, .int wn])), (mPd, .inl (cI, 40, .inl pd))]) (va_A [(g, .inr (10, [.int th, .ref mPd, .int (nI pn), .int (nI bn), .ref mSg, .ref mSz, .ref mTo, .int (nI en), .ref mRo, .ref mLi, .int (nI hn), .ref mKi, .ref mCo, .ref mEm, .ref mVa, .int (nI an), .ref mA1, .ref mA2, .ref mA3, .ref mA4, .int (nI ln), .ref mLk, .int (nI xn), .ref mEx, .int (nI qn), .ref mQp, .ref mQd, .int wh, .int wt, .int fd, .int pp, .int wn])), (mPd, .inl (cI, 40, .inl pd))] sz)) 0 0 (va_A [(g, .inr (10, [.int th, .ref mPd, .int (nI pn), .int (nI bn), .ref mSg, .ref mSz, .ref mTo, .int (nI en), .ref mRo, .ref mLi, .int (nI hn), .ref mKi, .ref mCo, .ref mEm, .ref mVa, .int (nI an), .ref mA1, .ref mA2, .ref mA3, .ref mA4, .int (nI ln), .ref mLk, .int (nI xn), .ref mEx, .int (nI qn), .ref mQp, .ref mQd, .int wh, .int wt, .int fd, .int pp, .int wn])), (mPd, .inl (cI, 40, .inl pd))] sz) := by
  refine Met.ofW (cc := k_MD_rule) (maxL := 4) (ret := (some .int)) (by decide) rfl ?_
  intro p e s m args below meth c s₁ B hml hv
  obtain ⟨rfl, hsz, hP, hK, hD0⟩ := hv
  have hx := B.exec
  have hb := B.bytes
  have hr := B.returns
  have hts := atoms_spec (ws := ws_MD_rule) B.pre
  have hown : s.vm.findClass R_MD = some m.cls := findClass_of_methodNamed B.named
  have hlocks := B.notSynchronized
  subst hsz
  have hD := hD0.self (sz := s.heap.size)
  generalize hAe : va_A [(g, .inr (10, [.int th, .ref mPd, .int (nI pn), .int (nI bn), .ref mSg, .ref mSz, .ref mTo, .int (nI en), .ref mRo, .ref mLi, .int (nI hn), .ref mKi, .ref mCo, .ref mEm, .ref mVa, .int (nI an), .ref mA1, .ref mA2, .ref mA3, .ref mA4, .int (nI ln), .ref mLk, .int (nI xn), .ref mEx, .int (nI qn), .ref mQp, .ref mQd, .int wh, .int wt, .int fd, .int pp, .int wn])), (mPd, .inl (cI, 40, .inl pd))] s.heap.size = A at hD ⊢
  have hA : ∀ q : Nat, s.heap.size ≤ q → A q := fun q h => by rw [← hAe]; exact Or.inr h
  have hS : va_S A s.heap s.heap [] := va_S.rf
  have hP : va_P (dC, dI) vwCl [(g, .inr (10, [.int th, .ref mPd, .int (nI pn), .int (nI bn), .ref mSg, .ref mSz, .ref mTo, .int (nI en), .ref mRo, .ref mLi, .int (nI hn), .ref mKi, .ref mCo, .ref mEm, .ref mVa, .int (nI an), .ref mA1, .ref mA2, .ref mA3, .ref mA4, .int (nI ln), .ref mLk, .int (nI xn), .ref mEx, .int (nI qn), .ref mQp, .ref mQd, .int wh, .int wt, .int fd, .int pp, .int wn])), (mPd, .inl (cI, 40, .inl pd))] s.heap := hP
  have iMD : ∀ w ∈ u_ws R_MD T_MD 32, w ∈ ws_MD_rule := fun w h => wb_MD_rule w (in_MD w h)
  have hl := lv_entry ([.ref g]) (n := 4) (Nat.le_of_ble_eq_true rfl)
  rw [lg_entry_eq]
  generalize (lg_sl ([.ref g]) ++ List.replicate (4 - (lg_sl ([.ref g])).length) Slot.unset).toArray = ls at hl ⊢
  have hl : lv_has ls 4 [(0, .ref g)] := hl
  refine lv_aload_n hx hb d_MD_rule_0 rfl (lv_at hl 0 rfl) ?_
  refine vz_join 15 [.ref g] (fun b9 H9 locs9 ls9 => (b9 = eqF (nI bn) 20) ∧ va_P (dC, dI) vwCl [(g, .inr (10, [.int th, .ref mPd, .int (nI pn), .int (nI bn), .ref mSg, .ref mSz, .ref mTo, .int (nI en), .ref mRo, .ref mLi, .int (nI hn), .ref mKi, .ref mCo, .ref mEm, .ref mVa, .int (nI an), .ref mA1, .ref mA2, .ref mA3, .ref mA4, .int (nI ln), .ref mLk, .int (nI xn), .ref mEx, .int (nI qn), .ref mQp, .ref mQd, .int wh, .int wt, .int fd, .int pp, .int wn])), (mPd, .inl (cI, 40, .inl pd))] H9 ∧ va_D A [(g, .inr (10, [.int th, .ref mPd, .int (nI pn), .int (nI bn), .ref mSg, .ref mSz, .ref mTo, .int (nI en), .ref mRo, .ref mLi, .int (nI hn), .ref mKi, .ref mCo, .ref mEm, .ref mVa, .int (nI an), .ref mA1, .ref mA2, .ref mA3, .ref mA4, .int (nI ln), .ref mLk, .int (nI xn), .ref mEx, .int (nI qn), .ref mQp, .ref mQd, .int wh, .int wt, .int fd, .int pp, .int wn])), (mPd, .inl (cI, 40, .inl pd))] ∧ va_S A s.heap H9 locs9 ∧ lv_has ls9 4 [(0, .ref g)]) (fun b9 H locs ls h9 => ?_) (fun k15 => ?_)
  · obtain ⟨rfl, hP, hD, hS, hl⟩ := h9
    refine lv_iconst (v := 0) hx hb d_MD_rule_15 (by decide) ?_
    refine lv_iconst (v := 0) hx hb d_MD_rule_16 (by decide) ?_
    have hPc := hP.sub (ws' := [(g, .inr (10, [.int th, .ref mPd, .int (nI pn), .int (nI bn), .ref mSg, .ref mSz, .ref mTo, .int (nI en), .ref mRo, .ref mLi, .int (nI hn), .ref mKi, .ref mCo, .ref mEm, .ref mVa, .int (nI an), .ref mA1, .ref mA2, .ref mA3, .ref mA4, .int (nI ln), .ref mLk, .int (nI xn), .ref mEx, .int (nI qn), .ref mQp, .ref mQd, .int wh, .int wt, .int fd, .int pp, .int wn]))]) [0] rfl
    have hKc := hK.sub (tys' := []) [] rfl
    have hDc := hD.sub (ws' := [(g, .inr (10, [.int th, .ref mPd, .int (nI pn), .int (nI bn), .ref mSg, .ref mSz, .ref mTo, .int (nI en), .ref mRo, .ref mLi, .int (nI hn), .ref mKi, .ref mCo, .ref mEm, .ref mVa, .int (nI an), .ref mA1, .ref mA2, .ref mA3, .ref mA4, .int (nI ln), .ref mLk, .int (nI xn), .ref mEx, .int (nI qn), .ref mQp, .ref mQd, .int wh, .int wt, .int fd, .int pp, .int wn]))]) [0] (by decide) rfl
    have hFc := va_free (wc := [(g, .inr (10, [.int th, .ref mPd, .int (nI pn), .int (nI bn), .ref mSg, .ref mSz, .ref mTo, .int (nI en), .ref mRo, .ref mLi, .int (nI hn), .ref mKi, .ref mCo, .ref mEm, .ref mVa, .int (nI an), .ref mA1, .ref mA2, .ref mA3, .ref mA4, .int (nI ln), .ref mLk, .int (nI xn), .ref mEx, .int (nI qn), .ref mQp, .ref mQd, .int wh, .int wt, .int fd, .int pp, .int wn]))]) hD hS hA [0] rfl
    refine va_calli (va_runV (As := [.int (eqF (nI bn) 20), .int 0, .int 0]) (rest := []) ⟨hx, hb, hml, hown, hts⟩ (c_MD_throwing l dC dI H.size g mPd mSg mSz mTo mRo mLi mKi mCo mEm mVa mA1 mA2 mA3 mA4 mLk mEx mQp mQd th pn bn en hn an ln xn qn wh wt fd pp wn (eqF (nI bn) 20) 0 0) (cwV 3 hts (vz_gV wb_MD_rule b_777 b_779 bs_15 b_11 wc_MD_throwing) rfl rfl rfl (by decide +kernel) ⟨Nat.le_of_ble_eq_true rfl, Nat.le_of_ble_eq_true rfl⟩) (vz_preVw (A := A) hPc hKc hDc (ci := 10) (q0 := 0) rfl rfl) rfl rfl hl.1 rfl (lv_room (Nat.le_of_ble_eq_true rfl)) d_MD_rule_17 ⟨Nat.le_of_ble_eq_true rfl, Nat.le_of_ble_eq_true rfl⟩) hS (fun q _ h => hFc q h) hFc (fun r17 u9 t9 H1 locs ht hvm hr17 hB hzx9 hkx9 hS => ?_)
    try dsimp only at hr17
    obtain ⟨hP1, hK1, hD1⟩ := hB
    rw [ht] at hP1
    obtain ⟨hP, hD⟩ := va_join (wr := [(mPd, .inl (cI, 40, .inl pd))]) (w1 := [(g, .inr (10, [.int (thrF (eqF (nI bn) 20) 0 0), .ref mPd, .int (nI pn), .int (nI bn), .ref mSg, .ref mSz, .ref mTo, .int (nI en), .ref mRo, .ref mLi, .int (nI hn), .ref mKi, .ref mCo, .ref mEm, .ref mVa, .int (nI an), .ref mA1, .ref mA2, .ref mA3, .ref mA4, .int (nI ln), .ref mLk, .int (nI xn), .ref mEx, .int (nI qn), .ref mQp, .ref mQd, .int wh, .int wt, .int fd, .int pp, .int wn]))]) hP hD [0] [1] rfl rfl (by decide) (by decide) hkx9 hFc hP1 hD1
    generalize H1 = H at hP hS ⊢
    have hP : va_P (dC, dI) vwCl [(mPd, .inl (cI, 40, .inl pd)), (g, .inr (10, [.int (thrF (eqF (nI bn) 20) 0 0), .ref mPd, .int (nI pn), .int (nI bn), .ref mSg, .ref mSz, .ref mTo, .int (nI en), .ref mRo, .ref mLi, .int (nI hn), .ref mKi, .ref mCo, .ref mEm, .ref mVa, .int (nI an), .ref mA1, .ref mA2, .ref mA3, .ref mA4, .int (nI ln), .ref mLk, .int (nI xn), .ref mEx, .int (nI qn), .ref mQp, .ref mQd, .int wh, .int wt, .int fd, .int pp, .int wn]))] H := hP
    have hD : va_D A [(mPd, .inl (cI, 40, .inl pd)), (g, .inr (10, [.int (thrF (eqF (nI bn) 20) 0 0), .ref mPd, .int (nI pn), .int (nI bn), .ref mSg, .ref mSz, .ref mTo, .int (nI en), .ref mRo, .ref mLi, .int (nI hn), .ref mKi, .ref mCo, .ref mEm, .ref mVa, .int (nI an), .ref mA1, .ref mA2, .ref mA3, .ref mA4, .int (nI ln), .ref mLk, .int (nI xn), .ref mEx, .int (nI qn), .ref mQp, .ref mQd, .int wh, .int wt, .int fd, .int pp, .int wn]))] := hD
    refine lv_if_eq (tgt := 25) hx hb d_MD_rule_20 (by decide) (fun c20 => ?_) (fun c20 => ?_)
    · refine lv_aload_n hx hb d_MD_rule_25 rfl (lv_at hl 0 rfl) ?_
      have hPc := hP.sub (ws' := [(g, .inr (10, [.int (thrF (eqF (nI bn) 20) 0 0), .ref mPd, .int (nI pn), .int (nI bn), .ref mSg, .ref mSz, .ref mTo, .int (nI en), .ref mRo, .ref mLi, .int (nI hn), .ref mKi, .ref mCo, .ref mEm, .ref mVa, .int (nI an), .ref mA1, .ref mA2, .ref mA3, .ref mA4, .int (nI ln), .ref mLk, .int (nI xn), .ref mEx, .int (nI qn), .ref mQp, .ref mQd, .int wh, .int wt, .int fd, .int pp, .int wn])), (mPd, .inl (cI, 40, .inl pd))]) [1, 0] rfl
      have hKc := hK.sub (tys' := [(cI, .int)]) [0] rfl
      refine va_calli (va_runV (As := []) (rest := []) ⟨hx, hb, hml, hown, hts⟩ (c_MD_wrongAt l dC dI cI g mPd mSg mSz mTo mRo mLi mKi mCo mEm mVa mA1 mA2 mA3 mA4 mLk mEx mQp mQd (thrF (eqF (nI bn) 20) 0 0) pn bn en hn an ln xn qn wh wt fd pp wn pd (by first | assumption | omega)) (cwV 0 hts (vz_gV wb_MD_rule b_785 b_787 bs_16 b_11 wc_MD_wrongAt) rfl rfl rfl (by decide +kernel) ⟨Nat.le_of_ble_eq_true rfl, Nat.le_of_ble_eq_true rfl⟩) (vz_preV hPc hKc (ci := 10) (q0 := 0) rfl rfl) rfl rfl hl.1 rfl (lv_room (Nat.le_of_ble_eq_true rfl)) d_MD_rule_26 ⟨Nat.le_of_ble_eq_true rfl, Nat.le_of_ble_eq_true rfl⟩) hS (fun q _ h => False.elim h) (fun q h => False.elim h) (fun r26 u9 t9 H1 locs ht hvm hr26 hB hzx9 hkx9 hS => ?_)
      try dsimp only at hr26
      have hP := vz_kept hP hkx9
      generalize H1 = H at hP hS ⊢
      refine lv_istore_n (lv' := [(1, .int r26), (0, .ref g)]) hx hb d_MD_rule_29 rfl hl (by decide) rfl (fun ls hl => ?_)
      refine lv_aload_n hx hb d_MD_rule_30 rfl (lv_at hl 1 rfl) ?_
      refine va_get (D := (dC, dI)) (ci := 10) (v := .int (nI pn)) (C := R_MD) (T := T_MD) (N := 32) hx hb hts iMD hown hK hP 1 rfl rfl 2 (by decide) (hts _ (wb_MD_rule _ b_670)) (fun _ h9 => h9) rfl d_MD_rule_31 ?_
      refine lv_istore_n (lv' := [(2, .int (nI pn)), (1, .int r26), (0, .ref g)]) hx hb d_MD_rule_34 rfl hl (by decide) rfl (fun ls hl => ?_)
      refine lv_aload_n hx hb d_MD_rule_35 rfl (lv_at hl 2 rfl) ?_
      refine lv_iconst (v := 0) hx hb d_MD_rule_36 (by decide) ?_
      refine va_put (D := (dC, dI)) (ci := 10) (v := .int 0) (ty := .int) (C := R_MD) (T := T_MD) (N := 32) hx hb hts iMD ty_MD tyok_MD nm_MD hown hK hP hD hS 1 rfl rfl 2 (by decide) (hts _ (wb_MD_rule _ b_670)) (fun _ h9 => h9) rfl rfl rfl rfl (Nat.le_of_ble_eq_true rfl) d_MD_rule_37 (fun H locs hP hD hS => ?_)
      have hP : va_P (dC, dI) vwCl [(mPd, .inl (cI, 40, .inl pd)), (g, .inr (10, [.int (thrF (eqF (nI bn) 20) 0 0), .ref mPd, .int 0, .int (nI bn), .ref mSg, .ref mSz, .ref mTo, .int (nI en), .ref mRo, .ref mLi, .int (nI hn), .ref mKi, .ref mCo, .ref mEm, .ref mVa, .int (nI an), .ref mA1, .ref mA2, .ref mA3, .ref mA4, .int (nI ln), .ref mLk, .int (nI xn), .ref mEx, .int (nI qn), .ref mQp, .ref mQd, .int wh, .int wt, .int fd, .int pp, .int wn]))] H := hP
      have hD : va_D A [(mPd, .inl (cI, 40, .inl pd)), (g, .inr (10, [.int (thrF (eqF (nI bn) 20) 0 0), .ref mPd, .int 0, .int (nI bn), .ref mSg, .ref mSz, .ref mTo, .int (nI en), .ref mRo, .ref mLi, .int (nI hn), .ref mKi, .ref mCo, .ref mEm, .ref mVa, .int (nI an), .ref mA1, .ref mA2, .ref mA3, .ref mA4, .int (nI ln), .ref mLk, .int (nI xn), .ref mEx, .int (nI qn), .ref mQp, .ref mQd, .int wh, .int wt, .int fd, .int pp, .int wn]))] := hD
      refine lv_iload_n hx hb d_MD_rule_40 rfl (lv_at hl 1 rfl) ?_
      refine lv_if_lt (tgt := 48) hx hb d_MD_rule_41 (by decide) (fun c41 => ?_) (fun c41 => ?_)
      · exact absurd (hr26 ▸ c41) hwr
      · refine lv_iconst (v := (-1)) hx hb d_MD_rule_44 (by decide) ?_
        refine lv_iload_n hx hb d_MD_rule_45 rfl (lv_at hl 1 rfl) ?_
        refine lv_isub hx hb d_MD_rule_46 ?_
        have hP9 := hP.sub (ws' := [(g, .inr (10, [.int (thrF (eqF (nI bn) 20) 0 0), .ref mPd, .int 0, .int (nI bn), .ref mSg, .ref mSz, .ref mTo, .int (nI en), .ref mRo, .ref mLi, .int (nI hn), .ref mKi, .ref mCo, .ref mEm, .ref mVa, .int (nI an), .ref mA1, .ref mA2, .ref mA3, .ref mA4, .int (nI ln), .ref mLk, .int (nI xn), .ref mEx, .int (nI qn), .ref mQp, .ref mQd, .int wh, .int wt, .int fd, .int pp, .int wn])), (mPd, .inl (cI, 40, .inl pd))]) [1, 0] rfl
        have hD9 := hD.sub (ws' := [(g, .inr (10, [.int (thrF (eqF (nI bn) 20) 0 0), .ref mPd, .int 0, .int (nI bn), .ref mSg, .ref mSz, .ref mTo, .int (nI en), .ref mRo, .ref mLi, .int (nI hn), .ref mKi, .ref mCo, .ref mEm, .ref mVa, .int (nI an), .ref mA1, .ref mA2, .ref mA3, .ref mA4, .int (nI ln), .ref mLk, .int (nI xn), .ref mEx, .int (nI qn), .ref mQp, .ref mQd, .int wh, .int wt, .int fd, .int pp, .int wn])), (mPd, .inl (cI, 40, .inl pd))]) [1, 0] (by decide) rfl
        exact W.iret (v := (-1) - r26) hx hb hr (fun t ht hW => ⟨⟨(-1) - r26, (), rfl, by rw [hr26], by rw [ht]; exact hP9, va_K.moved hW.alike hK, hD9⟩, hS.F ht⟩) hS.2.2 d_MD_rule_47
    · exact absurd (hr17.trans (thrB_z hok)) c20
  · refine lv_aload_n hx hb d_MD_rule_1 rfl (lv_at hl 0 rfl) ?_
    refine va_get (D := (dC, dI)) (ci := 10) (v := .int (nI bn)) (C := R_MD) (T := T_MD) (N := 32) hx hb hts iMD hown hK hP 0 rfl rfl 3 (by decide) (hts _ (wb_MD_rule _ b_671)) (fun _ h9 => h9) rfl d_MD_rule_2 ?_
    refine lv_bipush (v := 20) hx hb d_MD_rule_5 (by decide) ?_
    refine lv_icmp_ne (tgt := 14) hx hb d_MD_rule_7 (by decide) (fun c7 => ?_) (fun c7 => ?_)
    · refine lv_iconst (v := 0) hx hb d_MD_rule_14 (by decide) ?_
      exact k15 _ _ _ _ ⟨by simp [eqF, c7], hP, hD, hS, lv_sub hl [0] rfl⟩
    · refine lv_iconst (v := 1) hx hb d_MD_rule_10 (by decide) ?_
      refine lv_goto (tgt := 15) hx hb d_MD_rule_11 (by decide) ?_
      exact k15 _ _ _ _ ⟨by simp [eqF, c7], hP, hD, hS, lv_sub hl [0] rfl⟩

set_option maxHeartbeats 4000000 in
set_option maxRecDepth 100000 in
theorem lp_MD_rule_50 {p : Program} {l : Launch} {e : Env} {s : State} {m : MethodId} {args : Array Value} {below : List Frame} {meth : Method} {c : Code} {Q : State → Prop} {A : Nat → Prop} {H0 : Heap} (dC : Nat → ClassId) (dI : Nat → Nat → Nat) (cI cZ : ClassId) (g mPd mSg mSz mTo mRo mLi mKi mCo mEm mVa mA1 mA2 mA3 mA4 mLk mEx mQp mQd : Nat) (th : Int32) (pn bn en hn an ln xn qn : Nat) (wh wt fd pp wn : Int32) (pd : Nat → Int32) (sg_ : Nat → Int32) (sz_ : Nat → Int32) (to_ : Nat → Int32) (hpn : pn ≤ 40) (hbn : bn < 20) (hwr : wrgM pd pn < 0) (hok : thrF (eqF (nI bn) 20) 0 0 = 0) (th1 : Int32) (hx : p.tables.exec = Jvm.exec) (hb : c.code = k_MD_rule) (hml : c.maxLocals = 4) (hts : ∀ w ∈ ws_MD_rule, w.before args s = true) (hown : s.vm.findClass R_MD = some m.cls) (hK : va_K (dC, dI) vwCl [(cI, .int), (cZ, .boolean)] s) (hA : ∀ q, H0.size ≤ q → A q) (kx81 : ∀ (f : Nat → Int32), (f = cpM sg_ pd (40 * bn) pn) → ∀ (H : Heap) (locs : List Loc), va_P (dC, dI) vwCl [(g, .inr (10, [.int th1, .ref mPd, .int 0, .int (nI bn), .ref mSg, .ref mSz, .ref mTo, .int (nI en), .ref mRo, .ref mLi, .int (nI hn), .ref mKi, .ref mCo, .ref mEm, .ref mVa, .int (nI an), .ref mA1, .ref mA2, .ref mA3, .ref mA4, .int (nI ln), .ref mLk, .int (nI xn), .ref mEx, .int (nI qn), .ref mQp, .ref mQd, .int wh, .int wt, .int fd, .int pp, .int wn])), (mPd, .inl (cI, 40, .inl pd)), (mSg, .inl (cI, 800, .inl f)), (mSz, .inl (cI, 20, .inl sz_)), (mTo, .inl (cZ, 20, .inl to_))] H → va_D A [(g, .inr (10, [.int th1, .ref mPd, .int 0, .int (nI bn), .ref mSg, .ref mSz, .ref mTo, .int (nI en), .ref mRo, .ref mLi, .int (nI hn), .ref mKi, .ref mCo, .ref mEm, .ref mVa, .int (nI an), .ref mA1, .ref mA2, .ref mA3, .ref mA4, .int (nI ln), .ref mLk, .int (nI xn), .ref mEx, .int (nI qn), .ref mQp, .ref mQd, .int wh, .int wt, .int fd, .int pp, .int wn])), (mPd, .inl (cI, 40, .inl pd)), (mSg, .inl (cI, 800, .inl f)), (mSz, .inl (cI, 20, .inl sz_)), (mTo, .inl (cZ, 20, .inl to_))] → va_S A H0 H locs → ∀ ls : Array Slot, lv_has ls 4 [(2, .int (nI pn)), (0, .ref g)] → W p l e ({ frames := 2, cells := 0, slots := 0, locals := 45 }) s m args below meth c H locs 0 0 Q (F0 m 81 ls [])) : ∀ (N : Nat), ∀ (k : Nat), ∀ (f : Nat → Int32), pn + 1 ≤ k + N → (k ≤ pn) → (f = cpM sg_ pd (40 * bn) k) → ∀ (H : Heap) (locs : List Loc), va_P (dC, dI) vwCl [(g, .inr (10, [.int th1, .ref mPd, .int 0, .int (nI bn), .ref mSg, .ref mSz, .ref mTo, .int (nI en), .ref mRo, .ref mLi, .int (nI hn), .ref mKi, .ref mCo, .ref mEm, .ref mVa, .int (nI an), .ref mA1, .ref mA2, .ref mA3, .ref mA4, .int (nI ln), .ref mLk, .int (nI xn), .ref mEx, .int (nI qn), .ref mQp, .ref mQd, .int wh, .int wt, .int fd, .int pp, .int wn])), (mPd, .inl (cI, 40, .inl pd)), (mSg, .inl (cI, 800, .inl f)), (mSz, .inl (cI, 20, .inl sz_)), (mTo, .inl (cZ, 20, .inl to_))] H → va_D A [(g, .inr (10, [.int th1, .ref mPd, .int 0, .int (nI bn), .ref mSg, .ref mSz, .ref mTo, .int (nI en), .ref mRo, .ref mLi, .int (nI hn), .ref mKi, .ref mCo, .ref mEm, .ref mVa, .int (nI an), .ref mA1, .ref mA2, .ref mA3, .ref mA4, .int (nI ln), .ref mLk, .int (nI xn), .ref mEx, .int (nI qn), .ref mQp, .ref mQd, .int wh, .int wt, .int fd, .int pp, .int wn])), (mPd, .inl (cI, 40, .inl pd)), (mSg, .inl (cI, 800, .inl f)), (mSz, .inl (cI, 20, .inl sz_)), (mTo, .inl (cZ, 20, .inl to_))] → va_S A H0 H locs → ∀ ls : Array Slot, lv_has ls 4 [(3, .int (nI k)), (2, .int (nI pn)), (0, .ref g)] → W p l e ({ frames := 2, cells := 0, slots := 0, locals := 45 }) s m args below meth c H locs 0 0 Q (F0 m 50 ls []) := by
  have iMD : ∀ w ∈ u_ws R_MD T_MD 32, w ∈ ws_MD_rule := fun w h => wb_MD_rule w (in_MD w h)
  intro N
  induction N with
  | zero =>
    intro k f hme hk hv
    exact absurd hme (by omega)
  | succ N ih =>
    intro k f hme hk hv H locs hP hD hS ls hl
    refine lv_iload_n hx hb d_MD_rule_50 rfl (lv_at hl 0 rfl) ?_
    refine lv_iload_n hx hb d_MD_rule_51 rfl (lv_at hl 1 rfl) ?_
    refine lv_icmp_ge (tgt := 81) hx hb d_MD_rule_52 (by decide) (fun c52 => ?_) (fun c52 => ?_)
    · have hge : pn ≤ k := (nI_leI (show pn < 2147483648 by omega) (show k < 2147483648 by omega)).mp c52
      exact kx81 f (by rw [hv, show k = pn by omega]) _ _ hP hD hS ls (lv_sub hl [1, 2] rfl)
    · have hlt : k < pn := Nat.lt_of_not_le (mt (nI_leI (show pn < 2147483648 by omega) (show k < 2147483648 by omega)).mpr c52)
      refine lv_aload_n hx hb d_MD_rule_55 rfl (lv_at hl 2 rfl) ?_
      refine va_get (D := (dC, dI)) (ci := 10) (v := .ref mSg) (C := R_MD) (T := T_MD) (N := 32) hx hb hts iMD hown hK hP 0 rfl rfl 4 (by decide) (hts _ (wb_MD_rule _ b_672)) (fun _ h9 => h9) rfl d_MD_rule_56 ?_
      refine lv_bipush (v := 40) hx hb d_MD_rule_59 (by decide) ?_
      refine lv_aload_n hx hb d_MD_rule_61 rfl (lv_at hl 2 rfl) ?_
      refine va_get (D := (dC, dI)) (ci := 10) (v := .int (nI bn)) (C := R_MD) (T := T_MD) (N := 32) hx hb hts iMD hown hK hP 0 rfl rfl 3 (by decide) (hts _ (wb_MD_rule _ b_671)) (fun _ h9 => h9) rfl d_MD_rule_62 ?_
      refine lv_imul hx hb d_MD_rule_65 ?_
      refine lv_iload_n hx hb d_MD_rule_66 rfl (lv_at hl 0 rfl) ?_
      refine lv_iadd hx hb d_MD_rule_67 ?_
      refine vz_top (y := nI (40 * bn + k)) (by rw [show 40 * nI bn = nI (40 * bn) from pk_mul 40 bn]; exact nI_add (40 * bn) k) ?_
      refine lv_aload_n hx hb d_MD_rule_68 rfl (lv_at hl 2 rfl) ?_
      refine va_get (D := (dC, dI)) (ci := 10) (v := .ref mPd) (C := R_MD) (T := T_MD) (N := 32) hx hb hts iMD hown hK hP 0 rfl rfl 1 (by decide) (hts _ (wb_MD_rule _ b_669)) (fun _ h9 => h9) rfl d_MD_rule_69 ?_
      refine lv_iload_n hx hb d_MD_rule_72 rfl (lv_at hl 0 rfl) ?_
      refine vz_iald (k := k) hx hb hK hP 1 0 rfl rfl (by omega) (by decide) d_MD_rule_73 ?_
      refine vz_iast (k := (40 * bn + k)) hx hb hK hP hD hS 2 0 rfl rfl (by omega) (by decide) d_MD_rule_74 (fun H locs hP hD hS => ?_)
      have hP : va_P (dC, dI) vwCl [(g, .inr (10, [.int th1, .ref mPd, .int 0, .int (nI bn), .ref mSg, .ref mSz, .ref mTo, .int (nI en), .ref mRo, .ref mLi, .int (nI hn), .ref mKi, .ref mCo, .ref mEm, .ref mVa, .int (nI an), .ref mA1, .ref mA2, .ref mA3, .ref mA4, .int (nI ln), .ref mLk, .int (nI xn), .ref mEx, .int (nI qn), .ref mQp, .ref mQd, .int wh, .int wt, .int fd, .int pp, .int wn])), (mPd, .inl (cI, 40, .inl pd)), (mSg, .inl (cI, 800, .inl (upd f (40 * bn + k) (pd k)))), (mSz, .inl (cI, 20, .inl sz_)), (mTo, .inl (cZ, 20, .inl to_))] H := hP
      have hD : va_D A [(g, .inr (10, [.int th1, .ref mPd, .int 0, .int (nI bn), .ref mSg, .ref mSz, .ref mTo, .int (nI en), .ref mRo, .ref mLi, .int (nI hn), .ref mKi, .ref mCo, .ref mEm, .ref mVa, .int (nI an), .ref mA1, .ref mA2, .ref mA3, .ref mA4, .int (nI ln), .ref mLk, .int (nI xn), .ref mEx, .int (nI qn), .ref mQp, .ref mQd, .int wh, .int wt, .int fd, .int pp, .int wn])), (mPd, .inl (cI, 40, .inl pd)), (mSg, .inl (cI, 800, .inl (upd f (40 * bn + k) (pd k)))), (mSz, .inl (cI, 20, .inl sz_)), (mTo, .inl (cZ, 20, .inl to_))] := hD
      refine lv_iinc (v := nI (k + 1)) (lv' := [(3, .int (nI (k + 1))), (2, .int (nI pn)), (0, .ref g)]) hx hb d_MD_rule_75 hl (k := 0) rfl (nI_1 k) (by decide) rfl (fun ls hl => ?_)
      refine lv_goto (tgt := 50) hx hb d_MD_rule_78 (by decide) ?_
      exact ih (k + 1) (upd f (40 * bn + k) (pd k)) (by omega) (by omega) (by rw [hv]; rfl) _ _ hP hD hS ls (lv_sub hl [0, 1, 2] rfl)
set_option maxHeartbeats 4000000 in
set_option maxRecDepth 100000 in
theorem c_MD_ruleOk (l : Launch) (dC : Nat → ClassId) (dI : Nat → Nat → Nat) (sz : Nat) (cI cZ : ClassId) (g mPd mSg mSz mTo mRo mLi mKi mCo mEm mVa mA1 mA2 mA3 mA4 mLk mEx mQp mQd : Nat) (th : Int32) (pn bn en hn an ln xn qn : Nat) (wh wt fd pp wn : Int32) (pd : Nat → Int32) (sg_ : Nat → Int32) (sz_ : Nat → Int32) (to_ : Nat → Int32) (hpn : pn ≤ 40) (hbn : bn < 20) (hwr : wrgM pd pn < 0) (hok : thrF (eqF (nI bn) 20) 0 0 = 0) : Met l y_MD_rule ws_MD_rule ({ frames := 2, cells := 0, slots := 0, locals := 45 }) (va_Pc [.ref g] (fun U => U.heap.size = sz ∧ va_P (dC, dI) vwCl [(g, .inr (10, [.int th, .ref mPd, .int (nI pn), .int (nI bn), .ref mSg, .ref mSz, .ref mTo, .int (nI en), .ref mRo, .ref mLi, .int (nI hn), .ref mKi, .ref mCo, .ref mEm, .ref mVa, .int (nI an), .ref mA1, .ref mA2, .ref mA3, .ref mA4, .int (nI ln), .ref mLk, .int (nI xn), .ref mEx, .int (nI qn), .ref mQp, .ref mQd, .int wh, .int wt, .int fd, .int pp, .int wn])), (mPd, .inl (cI, 40, .inl pd)), (mSg, .inl (cI, 800, .inl sg_)), (mSz, .inl (cI, 20, .inl sz_)), (mTo, .inl (cZ, 20, .inl to_))] U.heap ∧ va_K (dC, dI) vwCl [(cI, .int), (cZ, .boolean)] U ∧ va_D (fun _ => True) [(g, .inr (10, [.int th, .ref mPd, .int (nI pn), .int (nI bn), .ref mSg, .ref mSz, .ref mTo, .int (nI en), .ref mRo, .ref mLi, .int (nI hn), .ref mKi, .ref mCo, .ref mEm, .ref mVa, .int (nI an), .ref mA1, .ref mA2, .ref mA3, .ref mA4, .int (nI ln), .ref mLk, .int (nI xn), .ref mEx, .int (nI qn), .ref mQp, .ref mQd, .int wh, .int wt, .int fd, .int pp, .int wn])), (mPd, .inl (cI, 40, .inl pd)), (mSg, .inl (cI, 800, .inl sg_)), (mSz, .inl (cI, 20, .inl sz_)), (mTo, .inl (cZ, 20, .inl to_))])) (va_Qi (fun (res : Int32) (_ : Unit) => res = nI bn) (fun _ t => va_P (dC, dI) vwCl [(g, .inr (10, [.int (thrF (eqF (nI bn) 20) 0 0), .ref mPd, .int 0, .int (nI (bn + 1)), .ref mSg, .ref mSz, .ref mTo, .int (nI en), .ref mRo, .ref mLi, .int (nI hn), .ref mKi, .ref mCo, .ref mEm, .ref mVa, .int (nI an), .ref mA1, .ref mA2, .ref mA3, .ref mA4, .int (nI ln), .ref mLk, .int (nI xn), .ref mEx, .int (nI qn), .ref mQp, .ref mQd, .int wh, .int wt, .int fd, .int pp, .int wn])), (mPd, .inl (cI, 40, .inl pd)), (mSg, .inl (cI, 800, .inl (cpM sg_ pd (40 * bn) pn))), (mSz, .inl (cI, 20, .inl (upd sz_ bn (nI pn)))), (mTo, .inl (cZ, 20, .inl (upd to_ bn (vp_nar .boolean 1))))] t.heap ∧ va_K (dC, dI) vwCl [(cI, .int), (cZ, .boolean)] t ∧ va_D (va_A [(g, .inr (10, [.int th, .ref mPd, .int (nI pn), .int (nI bn), .ref mSg, .ref mSz, .ref mTo, .int (nI en), .ref mRo, .ref mLi, .int (nI hn), .ref mKi, .ref mCo, .ref mEm, .ref mVa, .int (nI an), .ref mA1, .ref mA2, .ref mA3, .ref mA4, .int (nI ln), .ref mLk, .int (nI xn), .ref mEx, .int (nI qn), .ref mQp, .ref mQd, .int wh, .int wt, .int fd, .int pp, .int wn])), (mPd, .inl (cI, 40, .inl pd)), (mSg, .inl (cI, 800, .inl sg_)), (mSz, .inl (cI, 20, .inl sz_)), (mTo, .inl (cZ, 20, .inl to_))] sz) [(g, .inr (10, [.int (thrF (eqF (nI bn) 20) 0 0), .ref mPd, .int 0, .int (nI (bn + 1)), .ref mSg, .ref mSz, .ref mTo, .int (nI en), .ref mRo, .ref mLi, .int (nI hn), .ref mKi, .ref mCo, .ref mEm, .ref mVa, .int (nI an), .ref mA1, .ref mA2, .ref mA3, .ref mA4, .int (nI ln), .ref mLk, .int (nI xn), .ref mEx, .int (nI qn), .ref mQp, .ref mQd, .int wh, .int wt, .int fd, .int pp, .int wn])), (mPd, .inl (cI, 40, .inl pd)), (mSg, .inl (cI, 800, .inl (cpM sg_ pd (40 * bn) pn))), (mSz, .inl (cI, 20, .inl (upd sz_ bn (nI pn)))), (mTo, .inl (cZ, 20, .inl (upd to_ bn (vp_nar .boolean 1))))]) (va_A [(g, .inr (10, [.int th, .ref mPd, .int (nI pn), .int (nI bn), .ref mSg, .ref mSz, .ref mTo, .int (nI en), .ref mRo, .ref mLi, .int (nI hn), .ref mKi, .ref mCo, .ref mEm, .ref mVa, .int (nI an), .ref mA1, .ref mA2, .ref mA3, .ref mA4, .int (nI ln), .ref mLk, .int (nI xn), .ref mEx, .int (nI qn), .ref mQp, .ref mQd, .int wh, .int wt, .int fd, .int pp, .int wn])), (mPd, .inl (cI, 40, .inl pd)), (mSg, .inl (cI, 800, .inl sg_)), (mSz, .inl (cI, 20, .inl sz_)), (mTo, .inl (cZ, 20, .inl to_))] sz)) 0 0 (va_A [(g, .inr (10, [.int th, .ref mPd, .int (nI pn), .int (nI bn), .ref mSg, .ref mSz, .ref mTo, .int (nI en), .ref mRo, .ref mLi, .int (nI hn), .ref mKi, .ref mCo, .ref mEm, .ref mVa, .int (nI an), .ref mA1, .ref mA2, .ref mA3, .ref mA4, .int (nI ln), .ref mLk, .int (nI xn), .ref mEx, .int (nI qn), .ref mQp, .ref mQd, .int wh, .int wt, .int fd, .int pp, .int wn])), (mPd, .inl (cI, 40, .inl pd)), (mSg, .inl (cI, 800, .inl sg_)), (mSz, .inl (cI, 20, .inl sz_)), (mTo, .inl (cZ, 20, .inl to_))] sz) := by
  refine Met.ofW (cc := k_MD_rule) (maxL := 4) (ret := (some .int)) (by decide) rfl ?_
  intro p e s m args below meth c s₁ B hml hv
  obtain ⟨rfl, hsz, hP, hK, hD0⟩ := hv
  have hx := B.exec
  have hb := B.bytes
  have hr := B.returns
  have hts := atoms_spec (ws := ws_MD_rule) B.pre
  have hown : s.vm.findClass R_MD = some m.cls := findClass_of_methodNamed B.named
  have hlocks := B.notSynchronized
  subst hsz
  have hD := hD0.self (sz := s.heap.size)
  generalize hAe : va_A [(g, .inr (10, [.int th, .ref mPd, .int (nI pn), .int (nI bn), .ref mSg, .ref mSz, .ref mTo, .int (nI en), .ref mRo, .ref mLi, .int (nI hn), .ref mKi, .ref mCo, .ref mEm, .ref mVa, .int (nI an), .ref mA1, .ref mA2, .ref mA3, .ref mA4, .int (nI ln), .ref mLk, .int (nI xn), .ref mEx, .int (nI qn), .ref mQp, .ref mQd, .int wh, .int wt, .int fd, .int pp, .int wn])), (mPd, .inl (cI, 40, .inl pd)), (mSg, .inl (cI, 800, .inl sg_)), (mSz, .inl (cI, 20, .inl sz_)), (mTo, .inl (cZ, 20, .inl to_))] s.heap.size = A at hD ⊢
  have hA : ∀ q : Nat, s.heap.size ≤ q → A q := fun q h => by rw [← hAe]; exact Or.inr h
  have hS : va_S A s.heap s.heap [] := va_S.rf
  have hP : va_P (dC, dI) vwCl [(g, .inr (10, [.int th, .ref mPd, .int (nI pn), .int (nI bn), .ref mSg, .ref mSz, .ref mTo, .int (nI en), .ref mRo, .ref mLi, .int (nI hn), .ref mKi, .ref mCo, .ref mEm, .ref mVa, .int (nI an), .ref mA1, .ref mA2, .ref mA3, .ref mA4, .int (nI ln), .ref mLk, .int (nI xn), .ref mEx, .int (nI qn), .ref mQp, .ref mQd, .int wh, .int wt, .int fd, .int pp, .int wn])), (mPd, .inl (cI, 40, .inl pd)), (mSg, .inl (cI, 800, .inl sg_)), (mSz, .inl (cI, 20, .inl sz_)), (mTo, .inl (cZ, 20, .inl to_))] s.heap := hP
  have iMD : ∀ w ∈ u_ws R_MD T_MD 32, w ∈ ws_MD_rule := fun w h => wb_MD_rule w (in_MD w h)
  have hl := lv_entry ([.ref g]) (n := 4) (Nat.le_of_ble_eq_true rfl)
  rw [lg_entry_eq]
  generalize (lg_sl ([.ref g]) ++ List.replicate (4 - (lg_sl ([.ref g])).length) Slot.unset).toArray = ls at hl ⊢
  have hl : lv_has ls 4 [(0, .ref g)] := hl
  refine lv_aload_n hx hb d_MD_rule_0 rfl (lv_at hl 0 rfl) ?_
  refine vz_join 15 [.ref g] (fun b9 H9 locs9 ls9 => (b9 = eqF (nI bn) 20) ∧ va_P (dC, dI) vwCl [(g, .inr (10, [.int th, .ref mPd, .int (nI pn), .int (nI bn), .ref mSg, .ref mSz, .ref mTo, .int (nI en), .ref mRo, .ref mLi, .int (nI hn), .ref mKi, .ref mCo, .ref mEm, .ref mVa, .int (nI an), .ref mA1, .ref mA2, .ref mA3, .ref mA4, .int (nI ln), .ref mLk, .int (nI xn), .ref mEx, .int (nI qn), .ref mQp, .ref mQd, .int wh, .int wt, .int fd, .int pp, .int wn])), (mPd, .inl (cI, 40, .inl pd)), (mSg, .inl (cI, 800, .inl sg_)), (mSz, .inl (cI, 20, .inl sz_)), (mTo, .inl (cZ, 20, .inl to_))] H9 ∧ va_D A [(g, .inr (10, [.int th, .ref mPd, .int (nI pn), .int (nI bn), .ref mSg, .ref mSz, .ref mTo, .int (nI en), .ref mRo, .ref mLi, .int (nI hn), .ref mKi, .ref mCo, .ref mEm, .ref mVa, .int (nI an), .ref mA1, .ref mA2, .ref mA3, .ref mA4, .int (nI ln), .ref mLk, .int (nI xn), .ref mEx, .int (nI qn), .ref mQp, .ref mQd, .int wh, .int wt, .int fd, .int pp, .int wn])), (mPd, .inl (cI, 40, .inl pd)), (mSg, .inl (cI, 800, .inl sg_)), (mSz, .inl (cI, 20, .inl sz_)), (mTo, .inl (cZ, 20, .inl to_))] ∧ va_S A s.heap H9 locs9 ∧ lv_has ls9 4 [(0, .ref g)]) (fun b9 H locs ls h9 => ?_) (fun k15 => ?_)
  · obtain ⟨rfl, hP, hD, hS, hl⟩ := h9
    refine lv_iconst (v := 0) hx hb d_MD_rule_15 (by decide) ?_
    refine lv_iconst (v := 0) hx hb d_MD_rule_16 (by decide) ?_
    have hPc := hP.sub (ws' := [(g, .inr (10, [.int th, .ref mPd, .int (nI pn), .int (nI bn), .ref mSg, .ref mSz, .ref mTo, .int (nI en), .ref mRo, .ref mLi, .int (nI hn), .ref mKi, .ref mCo, .ref mEm, .ref mVa, .int (nI an), .ref mA1, .ref mA2, .ref mA3, .ref mA4, .int (nI ln), .ref mLk, .int (nI xn), .ref mEx, .int (nI qn), .ref mQp, .ref mQd, .int wh, .int wt, .int fd, .int pp, .int wn]))]) [0] rfl
    have hKc := hK.sub (tys' := []) [] rfl
    have hDc := hD.sub (ws' := [(g, .inr (10, [.int th, .ref mPd, .int (nI pn), .int (nI bn), .ref mSg, .ref mSz, .ref mTo, .int (nI en), .ref mRo, .ref mLi, .int (nI hn), .ref mKi, .ref mCo, .ref mEm, .ref mVa, .int (nI an), .ref mA1, .ref mA2, .ref mA3, .ref mA4, .int (nI ln), .ref mLk, .int (nI xn), .ref mEx, .int (nI qn), .ref mQp, .ref mQd, .int wh, .int wt, .int fd, .int pp, .int wn]))]) [0] (by decide) rfl
    have hFc := va_free (wc := [(g, .inr (10, [.int th, .ref mPd, .int (nI pn), .int (nI bn), .ref mSg, .ref mSz, .ref mTo, .int (nI en), .ref mRo, .ref mLi, .int (nI hn), .ref mKi, .ref mCo, .ref mEm, .ref mVa, .int (nI an), .ref mA1, .ref mA2, .ref mA3, .ref mA4, .int (nI ln), .ref mLk, .int (nI xn), .ref mEx, .int (nI qn), .ref mQp, .ref mQd, .int wh, .int wt, .int fd, .int pp, .int wn]))]) hD hS hA [0] rfl
    refine va_calli (va_runV (As := [.int (eqF (nI bn) 20), .int 0, .int 0]) (rest := []) ⟨hx, hb, hml, hown, hts⟩ (c_MD_throwing l dC dI H.size g mPd mSg mSz mTo mRo mLi mKi mCo mEm mVa mA1 mA2 mA3 mA4 mLk mEx mQp mQd th pn bn en hn an ln xn qn wh wt fd pp wn (eqF (nI bn) 20) 0 0) (cwV 3 hts (vz_gV wb_MD_rule b_777 b_779 bs_15 b_11 wc_MD_throwing) rfl rfl rfl (by decide +kernel) ⟨Nat.le_of_ble_eq_true rfl, Nat.le_of_ble_eq_true rfl⟩) (vz_preVw (A := A) hPc hKc hDc (ci := 10) (q0 := 0) rfl rfl) rfl rfl hl.1 rfl (lv_room (Nat.le_of_ble_eq_true rfl)) d_MD_rule_17 ⟨Nat.le_of_ble_eq_true rfl, Nat.le_of_ble_eq_true rfl⟩) hS (fun q _ h => hFc q h) hFc (fun r17 u9 t9 H1 locs ht hvm hr17 hB hzx9 hkx9 hS => ?_)
    try dsimp only at hr17
    obtain ⟨hP1, hK1, hD1⟩ := hB
    rw [ht] at hP1
    obtain ⟨hP, hD⟩ := va_join (wr := [(mPd, .inl (cI, 40, .inl pd)), (mSg, .inl (cI, 800, .inl sg_)), (mSz, .inl (cI, 20, .inl sz_)), (mTo, .inl (cZ, 20, .inl to_))]) (w1 := [(g, .inr (10, [.int (thrF (eqF (nI bn) 20) 0 0), .ref mPd, .int (nI pn), .int (nI bn), .ref mSg, .ref mSz, .ref mTo, .int (nI en), .ref mRo, .ref mLi, .int (nI hn), .ref mKi, .ref mCo, .ref mEm, .ref mVa, .int (nI an), .ref mA1, .ref mA2, .ref mA3, .ref mA4, .int (nI ln), .ref mLk, .int (nI xn), .ref mEx, .int (nI qn), .ref mQp, .ref mQd, .int wh, .int wt, .int fd, .int pp, .int wn]))]) hP hD [0] [1, 2, 3, 4] rfl rfl (by decide) (by decide) hkx9 hFc hP1 hD1
    generalize H1 = H at hP hS ⊢
    have hP : va_P (dC, dI) vwCl [(mPd, .inl (cI, 40, .inl pd)), (mSg, .inl (cI, 800, .inl sg_)), (mSz, .inl (cI, 20, .inl sz_)), (mTo, .inl (cZ, 20, .inl to_)), (g, .inr (10, [.int (thrF (eqF (nI bn) 20) 0 0), .ref mPd, .int (nI pn), .int (nI bn), .ref mSg, .ref mSz, .ref mTo, .int (nI en), .ref mRo, .ref mLi, .int (nI hn), .ref mKi, .ref mCo, .ref mEm, .ref mVa, .int (nI an), .ref mA1, .ref mA2, .ref mA3, .ref mA4, .int (nI ln), .ref mLk, .int (nI xn), .ref mEx, .int (nI qn), .ref mQp, .ref mQd, .int wh, .int wt, .int fd, .int pp, .int wn]))] H := hP
    have hD : va_D A [(mPd, .inl (cI, 40, .inl pd)), (mSg, .inl (cI, 800, .inl sg_)), (mSz, .inl (cI, 20, .inl sz_)), (mTo, .inl (cZ, 20, .inl to_)), (g, .inr (10, [.int (thrF (eqF (nI bn) 20) 0 0), .ref mPd, .int (nI pn), .int (nI bn), .ref mSg, .ref mSz, .ref mTo, .int (nI en), .ref mRo, .ref mLi, .int (nI hn), .ref mKi, .ref mCo, .ref mEm, .ref mVa, .int (nI an), .ref mA1, .ref mA2, .ref mA3, .ref mA4, .int (nI ln), .ref mLk, .int (nI xn), .ref mEx, .int (nI qn), .ref mQp, .ref mQd, .int wh, .int wt, .int fd, .int pp, .int wn]))] := hD
    refine lv_if_eq (tgt := 25) hx hb d_MD_rule_20 (by decide) (fun c20 => ?_) (fun c20 => ?_)
    · refine lv_aload_n hx hb d_MD_rule_25 rfl (lv_at hl 0 rfl) ?_
      have hPc := hP.sub (ws' := [(g, .inr (10, [.int (thrF (eqF (nI bn) 20) 0 0), .ref mPd, .int (nI pn), .int (nI bn), .ref mSg, .ref mSz, .ref mTo, .int (nI en), .ref mRo, .ref mLi, .int (nI hn), .ref mKi, .ref mCo, .ref mEm, .ref mVa, .int (nI an), .ref mA1, .ref mA2, .ref mA3, .ref mA4, .int (nI ln), .ref mLk, .int (nI xn), .ref mEx, .int (nI qn), .ref mQp, .ref mQd, .int wh, .int wt, .int fd, .int pp, .int wn])), (mPd, .inl (cI, 40, .inl pd))]) [4, 0] rfl
      have hKc := hK.sub (tys' := [(cI, .int)]) [0] rfl
      refine va_calli (va_runV (As := []) (rest := []) ⟨hx, hb, hml, hown, hts⟩ (c_MD_wrongAt l dC dI cI g mPd mSg mSz mTo mRo mLi mKi mCo mEm mVa mA1 mA2 mA3 mA4 mLk mEx mQp mQd (thrF (eqF (nI bn) 20) 0 0) pn bn en hn an ln xn qn wh wt fd pp wn pd (by first | assumption | omega)) (cwV 0 hts (vz_gV wb_MD_rule b_785 b_787 bs_16 b_11 wc_MD_wrongAt) rfl rfl rfl (by decide +kernel) ⟨Nat.le_of_ble_eq_true rfl, Nat.le_of_ble_eq_true rfl⟩) (vz_preV hPc hKc (ci := 10) (q0 := 0) rfl rfl) rfl rfl hl.1 rfl (lv_room (Nat.le_of_ble_eq_true rfl)) d_MD_rule_26 ⟨Nat.le_of_ble_eq_true rfl, Nat.le_of_ble_eq_true rfl⟩) hS (fun q _ h => False.elim h) (fun q h => False.elim h) (fun r26 u9 t9 H1 locs ht hvm hr26 hB hzx9 hkx9 hS => ?_)
      try dsimp only at hr26
      have hP := vz_kept hP hkx9
      generalize H1 = H at hP hS ⊢
      refine lv_istore_n (lv' := [(1, .int r26), (0, .ref g)]) hx hb d_MD_rule_29 rfl hl (by decide) rfl (fun ls hl => ?_)
      refine lv_aload_n hx hb d_MD_rule_30 rfl (lv_at hl 1 rfl) ?_
      refine va_get (D := (dC, dI)) (ci := 10) (v := .int (nI pn)) (C := R_MD) (T := T_MD) (N := 32) hx hb hts iMD hown hK hP 4 rfl rfl 2 (by decide) (hts _ (wb_MD_rule _ b_670)) (fun _ h9 => h9) rfl d_MD_rule_31 ?_
      refine lv_istore_n (lv' := [(2, .int (nI pn)), (1, .int r26), (0, .ref g)]) hx hb d_MD_rule_34 rfl hl (by decide) rfl (fun ls hl => ?_)
      refine lv_aload_n hx hb d_MD_rule_35 rfl (lv_at hl 2 rfl) ?_
      refine lv_iconst (v := 0) hx hb d_MD_rule_36 (by decide) ?_
      refine va_put (D := (dC, dI)) (ci := 10) (v := .int 0) (ty := .int) (C := R_MD) (T := T_MD) (N := 32) hx hb hts iMD ty_MD tyok_MD nm_MD hown hK hP hD hS 4 rfl rfl 2 (by decide) (hts _ (wb_MD_rule _ b_670)) (fun _ h9 => h9) rfl rfl rfl rfl (Nat.le_of_ble_eq_true rfl) d_MD_rule_37 (fun H locs hP hD hS => ?_)
      have hP : va_P (dC, dI) vwCl [(mPd, .inl (cI, 40, .inl pd)), (mSg, .inl (cI, 800, .inl sg_)), (mSz, .inl (cI, 20, .inl sz_)), (mTo, .inl (cZ, 20, .inl to_)), (g, .inr (10, [.int (thrF (eqF (nI bn) 20) 0 0), .ref mPd, .int 0, .int (nI bn), .ref mSg, .ref mSz, .ref mTo, .int (nI en), .ref mRo, .ref mLi, .int (nI hn), .ref mKi, .ref mCo, .ref mEm, .ref mVa, .int (nI an), .ref mA1, .ref mA2, .ref mA3, .ref mA4, .int (nI ln), .ref mLk, .int (nI xn), .ref mEx, .int (nI qn), .ref mQp, .ref mQd, .int wh, .int wt, .int fd, .int pp, .int wn]))] H := hP
      have hD : va_D A [(mPd, .inl (cI, 40, .inl pd)), (mSg, .inl (cI, 800, .inl sg_)), (mSz, .inl (cI, 20, .inl sz_)), (mTo, .inl (cZ, 20, .inl to_)), (g, .inr (10, [.int (thrF (eqF (nI bn) 20) 0 0), .ref mPd, .int 0, .int (nI bn), .ref mSg, .ref mSz, .ref mTo, .int (nI en), .ref mRo, .ref mLi, .int (nI hn), .ref mKi, .ref mCo, .ref mEm, .ref mVa, .int (nI an), .ref mA1, .ref mA2, .ref mA3, .ref mA4, .int (nI ln), .ref mLk, .int (nI xn), .ref mEx, .int (nI qn), .ref mQp, .ref mQd, .int wh, .int wt, .int fd, .int pp, .int wn]))] := hD
      refine lv_iload_n hx hb d_MD_rule_40 rfl (lv_at hl 1 rfl) ?_
      refine lv_if_lt (tgt := 48) hx hb d_MD_rule_41 (by decide) (fun c41 => ?_) (fun c41 => ?_)
      · refine lv_iconst (v := 0) hx hb d_MD_rule_48 (by decide) ?_
        refine lv_istore_n (lv' := [(3, .int 0), (2, .int (nI pn)), (1, .int r26), (0, .ref g)]) hx hb d_MD_rule_49 rfl hl (by decide) rfl (fun ls hl => ?_)
        refine lp_MD_rule_50 dC dI cI cZ g mPd mSg mSz mTo mRo mLi mKi mCo mEm mVa mA1 mA2 mA3 mA4 mLk mEx mQp mQd th pn bn en hn an ln xn qn wh wt fd pp wn pd sg_ sz_ to_ hpn hbn hwr hok (thrF (eqF (nI bn) 20) 0 0) hx hb hml hts hown hK hA (fun f hv H locs hP hD hS ls hl => ?_) (pn + 1) 0 sg_ (by omega) (Nat.zero_le _) (rfl) _ _ (hP.sub [4, 0, 1, 2, 3] rfl) (hD.sub [4, 0, 1, 2, 3] (by decide) rfl) hS ls (lv_sub hl [0, 1, 3] rfl)
        · refine lv_aload_n hx hb d_MD_rule_81 rfl (lv_at hl 1 rfl) ?_
          refine va_get (D := (dC, dI)) (ci := 10) (v := .ref mSz) (C := R_MD) (T := T_MD) (N := 32) hx hb hts iMD hown hK hP 0 rfl rfl 5 (by decide) (hts _ (wb_MD_rule _ b_673)) (fun _ h9 => h9) rfl d_MD_rule_82 ?_
          refine lv_aload_n hx hb d_MD_rule_85 rfl (lv_at hl 1 rfl) ?_
          refine va_get (D := (dC, dI)) (ci := 10) (v := .int (nI bn)) (C := R_MD) (T := T_MD) (N := 32) hx hb hts iMD hown hK hP 0 rfl rfl 3 (by decide) (hts _ (wb_MD_rule _ b_671)) (fun _ h9 => h9) rfl d_MD_rule_86 ?_
          refine lv_iload_n hx hb d_MD_rule_89 rfl (lv_at hl 0 rfl) ?_
          refine vz_iast (k := bn) hx hb hK hP hD hS 3 0 rfl rfl (by omega) (by decide) d_MD_rule_90 (fun H locs hP hD hS => ?_)
          have hP : va_P (dC, dI) vwCl [(g, .inr (10, [.int (thrF (eqF (nI bn) 20) 0 0), .ref mPd, .int 0, .int (nI bn), .ref mSg, .ref mSz, .ref mTo, .int (nI en), .ref mRo, .ref mLi, .int (nI hn), .ref mKi, .ref mCo, .ref mEm, .ref mVa, .int (nI an), .ref mA1, .ref mA2, .ref mA3, .ref mA4, .int (nI ln), .ref mLk, .int (nI xn), .ref mEx, .int (nI qn), .ref mQp, .ref mQd, .int wh, .int wt, .int fd, .int pp, .int wn])), (mPd, .inl (cI, 40, .inl pd)), (mSg, .inl (cI, 800, .inl f)), (mSz, .inl (cI, 20, .inl (upd sz_ bn (nI pn)))), (mTo, .inl (cZ, 20, .inl to_))] H := hP
          have hD : va_D A [(g, .inr (10, [.int (thrF (eqF (nI bn) 20) 0 0), .ref mPd, .int 0, .int (nI bn), .ref mSg, .ref mSz, .ref mTo, .int (nI en), .ref mRo, .ref mLi, .int (nI hn), .ref mKi, .ref mCo, .ref mEm, .ref mVa, .int (nI an), .ref mA1, .ref mA2, .ref mA3, .ref mA4, .int (nI ln), .ref mLk, .int (nI xn), .ref mEx, .int (nI qn), .ref mQp, .ref mQd, .int wh, .int wt, .int fd, .int pp, .int wn])), (mPd, .inl (cI, 40, .inl pd)), (mSg, .inl (cI, 800, .inl f)), (mSz, .inl (cI, 20, .inl (upd sz_ bn (nI pn)))), (mTo, .inl (cZ, 20, .inl to_))] := hD
          refine lv_aload_n hx hb d_MD_rule_91 rfl (lv_at hl 1 rfl) ?_
          refine va_get (D := (dC, dI)) (ci := 10) (v := .ref mTo) (C := R_MD) (T := T_MD) (N := 32) hx hb hts iMD hown hK hP 0 rfl rfl 6 (by decide) (hts _ (wb_MD_rule _ b_674)) (fun _ h9 => h9) rfl d_MD_rule_92 ?_
          refine lv_aload_n hx hb d_MD_rule_95 rfl (lv_at hl 1 rfl) ?_
          refine va_get (D := (dC, dI)) (ci := 10) (v := .int (nI bn)) (C := R_MD) (T := T_MD) (N := 32) hx hb hts iMD hown hK hP 0 rfl rfl 3 (by decide) (hts _ (wb_MD_rule _ b_671)) (fun _ h9 => h9) rfl d_MD_rule_96 ?_
          refine lv_iconst (v := 1) hx hb d_MD_rule_99 (by decide) ?_
          refine vz_zast (k := bn) hx hb hK hP hD hS 4 1 rfl rfl (by omega) (by decide) d_MD_rule_100 (fun H locs hP hD hS => ?_)
          have hP : va_P (dC, dI) vwCl [(g, .inr (10, [.int (thrF (eqF (nI bn) 20) 0 0), .ref mPd, .int 0, .int (nI bn), .ref mSg, .ref mSz, .ref mTo, .int (nI en), .ref mRo, .ref mLi, .int (nI hn), .ref mKi, .ref mCo, .ref mEm, .ref mVa, .int (nI an), .ref mA1, .ref mA2, .ref mA3, .ref mA4, .int (nI ln), .ref mLk, .int (nI xn), .ref mEx, .int (nI qn), .ref mQp, .ref mQd, .int wh, .int wt, .int fd, .int pp, .int wn])), (mPd, .inl (cI, 40, .inl pd)), (mSg, .inl (cI, 800, .inl f)), (mSz, .inl (cI, 20, .inl (upd sz_ bn (nI pn)))), (mTo, .inl (cZ, 20, .inl (upd to_ bn (vp_nar .boolean 1))))] H := hP
          have hD : va_D A [(g, .inr (10, [.int (thrF (eqF (nI bn) 20) 0 0), .ref mPd, .int 0, .int (nI bn), .ref mSg, .ref mSz, .ref mTo, .int (nI en), .ref mRo, .ref mLi, .int (nI hn), .ref mKi, .ref mCo, .ref mEm, .ref mVa, .int (nI an), .ref mA1, .ref mA2, .ref mA3, .ref mA4, .int (nI ln), .ref mLk, .int (nI xn), .ref mEx, .int (nI qn), .ref mQp, .ref mQd, .int wh, .int wt, .int fd, .int pp, .int wn])), (mPd, .inl (cI, 40, .inl pd)), (mSg, .inl (cI, 800, .inl f)), (mSz, .inl (cI, 20, .inl (upd sz_ bn (nI pn)))), (mTo, .inl (cZ, 20, .inl (upd to_ bn (vp_nar .boolean 1))))] := hD
          refine lv_aload_n hx hb d_MD_rule_101 rfl (lv_at hl 1 rfl) ?_
          refine lv_dup hx hb d_MD_rule_102 rfl ?_
          refine va_get (D := (dC, dI)) (ci := 10) (v := .int (nI bn)) (C := R_MD) (T := T_MD) (N := 32) hx hb hts iMD hown hK hP 0 rfl rfl 3 (by decide) (hts _ (wb_MD_rule _ b_671)) (fun _ h9 => h9) rfl d_MD_rule_103 ?_
          refine lv_iconst (v := 1) hx hb d_MD_rule_106 (by decide) ?_
          refine lv_iadd hx hb d_MD_rule_107 ?_
          refine vz_top (y := nI (bn + 1)) (nI_1 bn) ?_
          refine va_put (D := (dC, dI)) (ci := 10) (v := .int (nI (bn + 1))) (ty := .int) (C := R_MD) (T := T_MD) (N := 32) hx hb hts iMD ty_MD tyok_MD nm_MD hown hK hP hD hS 0 rfl rfl 3 (by decide) (hts _ (wb_MD_rule _ b_671)) (fun _ h9 => h9) rfl rfl rfl rfl (Nat.le_of_ble_eq_true rfl) d_MD_rule_108 (fun H locs hP hD hS => ?_)
          have hP : va_P (dC, dI) vwCl [(g, .inr (10, [.int (thrF (eqF (nI bn) 20) 0 0), .ref mPd, .int 0, .int (nI (bn + 1)), .ref mSg, .ref mSz, .ref mTo, .int (nI en), .ref mRo, .ref mLi, .int (nI hn), .ref mKi, .ref mCo, .ref mEm, .ref mVa, .int (nI an), .ref mA1, .ref mA2, .ref mA3, .ref mA4, .int (nI ln), .ref mLk, .int (nI xn), .ref mEx, .int (nI qn), .ref mQp, .ref mQd, .int wh, .int wt, .int fd, .int pp, .int wn])), (mPd, .inl (cI, 40, .inl pd)), (mSg, .inl (cI, 800, .inl f)), (mSz, .inl (cI, 20, .inl (upd sz_ bn (nI pn)))), (mTo, .inl (cZ, 20, .inl (upd to_ bn (vp_nar .boolean 1))))] H := hP
          have hD : va_D A [(g, .inr (10, [.int (thrF (eqF (nI bn) 20) 0 0), .ref mPd, .int 0, .int (nI (bn + 1)), .ref mSg, .ref mSz, .ref mTo, .int (nI en), .ref mRo, .ref mLi, .int (nI hn), .ref mKi, .ref mCo, .ref mEm, .ref mVa, .int (nI an), .ref mA1, .ref mA2, .ref mA3, .ref mA4, .int (nI ln), .ref mLk, .int (nI xn), .ref mEx, .int (nI qn), .ref mQp, .ref mQd, .int wh, .int wt, .int fd, .int pp, .int wn])), (mPd, .inl (cI, 40, .inl pd)), (mSg, .inl (cI, 800, .inl f)), (mSz, .inl (cI, 20, .inl (upd sz_ bn (nI pn)))), (mTo, .inl (cZ, 20, .inl (upd to_ bn (vp_nar .boolean 1))))] := hD
          refine lv_aload_n hx hb d_MD_rule_111 rfl (lv_at hl 1 rfl) ?_
          refine va_get (D := (dC, dI)) (ci := 10) (v := .int (nI (bn + 1))) (C := R_MD) (T := T_MD) (N := 32) hx hb hts iMD hown hK hP 0 rfl rfl 3 (by decide) (hts _ (wb_MD_rule _ b_671)) (fun _ h9 => h9) rfl d_MD_rule_112 ?_
          refine lv_iconst (v := 1) hx hb d_MD_rule_115 (by decide) ?_
          refine lv_isub hx hb d_MD_rule_116 ?_
          have hP9 := hP.sub (ws' := [(g, .inr (10, [.int (thrF (eqF (nI bn) 20) 0 0), .ref mPd, .int 0, .int (nI (bn + 1)), .ref mSg, .ref mSz, .ref mTo, .int (nI en), .ref mRo, .ref mLi, .int (nI hn), .ref mKi, .ref mCo, .ref mEm, .ref mVa, .int (nI an), .ref mA1, .ref mA2, .ref mA3, .ref mA4, .int (nI ln), .ref mLk, .int (nI xn), .ref mEx, .int (nI qn), .ref mQp, .ref mQd, .int wh, .int wt, .int fd, .int pp, .int wn])), (mPd, .inl (cI, 40, .inl pd)), (mSg, .inl (cI, 800, .inl f)), (mSz, .inl (cI, 20, .inl (upd sz_ bn (nI pn)))), (mTo, .inl (cZ, 20, .inl (upd to_ bn (vp_nar .boolean 1))))]) [0, 1, 2, 3, 4] rfl
          have hD9 := hD.sub (ws' := [(g, .inr (10, [.int (thrF (eqF (nI bn) 20) 0 0), .ref mPd, .int 0, .int (nI (bn + 1)), .ref mSg, .ref mSz, .ref mTo, .int (nI en), .ref mRo, .ref mLi, .int (nI hn), .ref mKi, .ref mCo, .ref mEm, .ref mVa, .int (nI an), .ref mA1, .ref mA2, .ref mA3, .ref mA4, .int (nI ln), .ref mLk, .int (nI xn), .ref mEx, .int (nI qn), .ref mQp, .ref mQd, .int wh, .int wt, .int fd, .int pp, .int wn])), (mPd, .inl (cI, 40, .inl pd)), (mSg, .inl (cI, 800, .inl f)), (mSz, .inl (cI, 20, .inl (upd sz_ bn (nI pn)))), (mTo, .inl (cZ, 20, .inl (upd to_ bn (vp_nar .boolean 1))))]) [0, 1, 2, 3, 4] (by decide) rfl
          have e9 : ([(g, .inr (10, [.int (thrF (eqF (nI bn) 20) 0 0), .ref mPd, .int 0, .int (nI (bn + 1)), .ref mSg, .ref mSz, .ref mTo, .int (nI en), .ref mRo, .ref mLi, .int (nI hn), .ref mKi, .ref mCo, .ref mEm, .ref mVa, .int (nI an), .ref mA1, .ref mA2, .ref mA3, .ref mA4, .int (nI ln), .ref mLk, .int (nI xn), .ref mEx, .int (nI qn), .ref mQp, .ref mQd, .int wh, .int wt, .int fd, .int pp, .int wn])), (mPd, .inl (cI, 40, .inl pd)), (mSg, .inl (cI, 800, .inl f)), (mSz, .inl (cI, 20, .inl (upd sz_ bn (nI pn)))), (mTo, .inl (cZ, 20, .inl (upd to_ bn (vp_nar .boolean 1))))] : va_W) = [(g, .inr (10, [.int (thrF (eqF (nI bn) 20) 0 0), .ref mPd, .int 0, .int (nI (bn + 1)), .ref mSg, .ref mSz, .ref mTo, .int (nI en), .ref mRo, .ref mLi, .int (nI hn), .ref mKi, .ref mCo, .ref mEm, .ref mVa, .int (nI an), .ref mA1, .ref mA2, .ref mA3, .ref mA4, .int (nI ln), .ref mLk, .int (nI xn), .ref mEx, .int (nI qn), .ref mQp, .ref mQd, .int wh, .int wt, .int fd, .int pp, .int wn])), (mPd, .inl (cI, 40, .inl pd)), (mSg, .inl (cI, 800, .inl (cpM sg_ pd (40 * bn) pn))), (mSz, .inl (cI, 20, .inl (upd sz_ bn (nI pn)))), (mTo, .inl (cZ, 20, .inl (upd to_ bn (vp_nar .boolean 1))))] := by rw [hv]
          rw [e9] at hP9 hD9
          exact W.iret (v := (nI (bn + 1)) - 1) hx hb hr (fun t ht hW => ⟨⟨(nI (bn + 1)) - 1, (), rfl, nI_pred bn, by rw [ht]; exact hP9, va_K.moved hW.alike hK, hD9⟩, hS.F ht⟩) hS.2.2 d_MD_rule_117
      · exact absurd (hr26 ▸ hwr) c41
    · exact absurd (hr17.trans (thrB_z hok)) c20
  · refine lv_aload_n hx hb d_MD_rule_1 rfl (lv_at hl 0 rfl) ?_
    refine va_get (D := (dC, dI)) (ci := 10) (v := .int (nI bn)) (C := R_MD) (T := T_MD) (N := 32) hx hb hts iMD hown hK hP 0 rfl rfl 3 (by decide) (hts _ (wb_MD_rule _ b_671)) (fun _ h9 => h9) rfl d_MD_rule_2 ?_
    refine lv_bipush (v := 20) hx hb d_MD_rule_5 (by decide) ?_
    refine lv_icmp_ne (tgt := 14) hx hb d_MD_rule_7 (by decide) (fun c7 => ?_) (fun c7 => ?_)
    · refine lv_iconst (v := 0) hx hb d_MD_rule_14 (by decide) ?_
      exact k15 _ _ _ _ ⟨by simp [eqF, c7], hP, hD, hS, lv_sub hl [0] rfl⟩
    · refine lv_iconst (v := 1) hx hb d_MD_rule_10 (by decide) ?_
      refine lv_goto (tgt := 15) hx hb d_MD_rule_11 (by decide) ?_
      exact k15 _ _ _ _ ⟨by simp [eqF, c7], hP, hD, hS, lv_sub hl [0] rfl⟩
