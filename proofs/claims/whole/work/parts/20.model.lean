/-- what the reference's small methods answer -/
def thrF (o t r : Int32) : Int32 := if o = 0 then (if t = 0 then (if r = 0 then 0 else 3) else 2) else 1
def thrB (o t r : Int32) : Int32 := if o = 0 then (if t = 0 then (if r = 0 then 0 else 1) else 1) else 1
def inF (v a b : Int32) : Int32 := if v < a then 0 else if b < v then 0 else 1
def notF (b : Int32) : Int32 := if b = 0 then 1 else 0
def sgM (w k : Int32) : Int32 := (w >>> ((8 * k) &&& 31)) &&& 255
def digF (z : Int32) : Int32 := if z = 114 then 8 else if z = 99 then 8 else if z = 107 then 4 else if z = 112 then 4 else if z = 102 then 6 else 0
theorem inF_z (v a b : Int32) : narrow .boolean (.int (inF v a b)) = .int (inF v a b) := by unfold inF; (repeat' split) <;> rfl

set_option maxHeartbeats 4000000 in
set_option maxRecDepth 100000 in
theorem c_MD_thrown (l : Launch) (dC : Nat → ClassId) (dI : Nat → Nat → Nat) (g mPd mSg mSz mTo mRo mLi mKi mCo mEm mVa mA1 mA2 mA3 mA4 mLk mEx mQp mQd : Nat) (th : Int32) (pn bn en hn an ln xn qn : Nat) (wh wt fd pp wn : Int32) : Met l y_MD_thrown ws_MD_thrown ({ frames := 0, cells := 0, slots := 0, locals := 0 }) (va_Pc [.ref g] (fun U => va_P (dC, dI) vwCl [(g, .inr (10, [.int th, .ref mPd, .int (nI pn), .int (nI bn), .ref mSg, .ref mSz, .ref mTo, .int (nI en), .ref mRo, .ref mLi, .int (nI hn), .ref mKi, .ref mCo, .ref mEm, .ref mVa, .int (nI an), .ref mA1, .ref mA2, .ref mA3, .ref mA4, .int (nI ln), .ref mLk, .int (nI xn), .ref mEx, .int (nI qn), .ref mQp, .ref mQd, .int wh, .int wt, .int fd, .int pp, .int wn]))] U.heap ∧ va_K (dC, dI) vwCl [] U)) (va_Qi (fun (res : Int32) (_ : Unit) => res = th) (fun _ _ => True) (fun _ => False)) 0 0 (fun _ => False) := by
  refine Met.ofW (cc := k_MD_thrown) (maxL := 1) (ret := (some .int)) (by decide) rfl ?_
  intro p e s m args below meth c s₁ B hml hv
  obtain ⟨rfl, hP, hK⟩ := hv
  have hx := B.exec
  have hb := B.bytes
  have hr := B.returns
  have hts := atoms_spec (ws := ws_MD_thrown) B.pre
  have hown : s.vm.findClass R_MD = some m.cls := findClass_of_methodNamed B.named
  have hlocks := B.notSynchronized
  have hS : va_S (fun _ => False) s.heap s.heap [] := va_S.rf
  have hP : va_P (dC, dI) vwCl [(g, .inr (10, [.int th, .ref mPd, .int (nI pn), .int (nI bn), .ref mSg, .ref mSz, .ref mTo, .int (nI en), .ref mRo, .ref mLi, .int (nI hn), .ref mKi, .ref mCo, .ref mEm, .ref mVa, .int (nI an), .ref mA1, .ref mA2, .ref mA3, .ref mA4, .int (nI ln), .ref mLk, .int (nI xn), .ref mEx, .int (nI qn), .ref mQp, .ref mQd, .int wh, .int wt, .int fd, .int pp, .int wn]))] s.heap := hP
  have iMD : ∀ w ∈ u_ws R_MD T_MD 32, w ∈ ws_MD_thrown := fun w h => wb_MD_thrown w (in_MD w h)
  have hl := lv_entry ([.ref g]) (n := 1) (Nat.le_of_ble_eq_true rfl)
  rw [lg_entry_eq]
  generalize (lg_sl ([.ref g]) ++ List.replicate (1 - (lg_sl ([.ref g])).length) Slot.unset).toArray = ls at hl ⊢
  have hl : lv_has ls 1 [(0, .ref g)] := hl
  refine lv_aload_n hx hb d_MD_thrown_0 rfl (lv_at hl 0 rfl) ?_
  refine va_get (D := (dC, dI)) (ci := 10) (v := .int th) (C := R_MD) (T := T_MD) (N := 32) hx hb hts iMD hown hK hP 0 rfl rfl 0 (by decide) (hts _ (wb_MD_thrown _ b_668)) (fun _ h9 => h9) rfl d_MD_thrown_1 ?_
  exact W.iret (v := th) hx hb hr (fun t ht hW => ⟨⟨th, (), rfl, rfl, trivial⟩, hS.F ht⟩) hS.2.2 d_MD_thrown_4

set_option maxHeartbeats 4000000 in
set_option maxRecDepth 100000 in
theorem c_MD_throwing (l : Launch) (dC : Nat → ClassId) (dI : Nat → Nat → Nat) (sz : Nat) (g mPd mSg mSz mTo mRo mLi mKi mCo mEm mVa mA1 mA2 mA3 mA4 mLk mEx mQp mQd : Nat) (th : Int32) (pn bn en hn an ln xn qn : Nat) (wh wt fd pp wn : Int32) (b1 b2 b3 : Int32) : Met l y_MD_throwing ws_MD_throwing ({ frames := 0, cells := 0, slots := 0, locals := 0 }) (va_Pc [.ref g, .int b1, .int b2, .int b3] (fun U => U.heap.size = sz ∧ va_P (dC, dI) vwCl [(g, .inr (10, [.int th, .ref mPd, .int (nI pn), .int (nI bn), .ref mSg, .ref mSz, .ref mTo, .int (nI en), .ref mRo, .ref mLi, .int (nI hn), .ref mKi, .ref mCo, .ref mEm, .ref mVa, .int (nI an), .ref mA1, .ref mA2, .ref mA3, .ref mA4, .int (nI ln), .ref mLk, .int (nI xn), .ref mEx, .int (nI qn), .ref mQp, .ref mQd, .int wh, .int wt, .int fd, .int pp, .int wn]))] U.heap ∧ va_K (dC, dI) vwCl [] U ∧ va_D (fun _ => True) [(g, .inr (10, [.int th, .ref mPd, .int (nI pn), .int (nI bn), .ref mSg, .ref mSz, .ref mTo, .int (nI en), .ref mRo, .ref mLi, .int (nI hn), .ref mKi, .ref mCo, .ref mEm, .ref mVa, .int (nI an), .ref mA1, .ref mA2, .ref mA3, .ref mA4, .int (nI ln), .ref mLk, .int (nI xn), .ref mEx, .int (nI qn), .ref mQp, .ref mQd, .int wh, .int wt, .int fd, .int pp, .int wn]))])) (va_Qi (fun (res : Int32) (_ : Unit) => res = thrB b1 b2 b3) (fun _ t => va_P (dC, dI) vwCl [(g, .inr (10, [.int (thrF b1 b2 b3), .ref mPd, .int (nI pn), .int (nI bn), .ref mSg, .ref mSz, .ref mTo, .int (nI en), .ref mRo, .ref mLi, .int (nI hn), .ref mKi, .ref mCo, .ref mEm, .ref mVa, .int (nI an), .ref mA1, .ref mA2, .ref mA3, .ref mA4, .int (nI ln), .ref mLk, .int (nI xn), .ref mEx, .int (nI qn), .ref mQp, .ref mQd, .int wh, .int wt, .int fd, .int pp, .int wn]))] t.heap ∧ va_K (dC, dI) vwCl [] t ∧ va_D (va_A [(g, .inr (10, [.int th, .ref mPd, .int (nI pn), .int (nI bn), .ref mSg, .ref mSz, .ref mTo, .int (nI en), .ref mRo, .ref mLi, .int (nI hn), .ref mKi, .ref mCo, .ref mEm, .ref mVa, .int (nI an), .ref mA1, .ref mA2, .ref mA3, .ref mA4, .int (nI ln), .ref mLk, .int (nI xn), .ref mEx, .int (nI qn), .ref mQp, .ref mQd, .int wh, .int wt, .int fd, .int pp, .int wn]))] sz) [(g, .inr (10, [.int (thrF b1 b2 b3), .ref mPd, .int (nI pn), .int (nI bn), .ref mSg, .ref mSz, .ref mTo, .int (nI en), .ref mRo, .ref mLi, .int (nI hn), .ref mKi, .ref mCo, .ref mEm, .ref mVa, .int (nI an), .ref mA1, .ref mA2, .ref mA3, .ref mA4, .int (nI ln), .ref mLk, .int (nI xn), .ref mEx, .int (nI qn), .ref mQp, .ref mQd, .int wh, .int wt, .int fd, .int pp, .int wn]))]) (va_A [(g, .inr (10, [.int th, .ref mPd, .int (nI pn), .int (nI bn), .ref mSg, .ref mSz, .ref mTo, .int (nI en), .ref mRo, .ref mLi, .int (nI hn), .ref mKi, .ref mCo, .ref mEm, .ref mVa, .int (nI an), .ref mA1, .ref mA2, .ref mA3, .ref mA4, .int (nI ln), .ref mLk, .int (nI xn), .ref mEx, .int (nI qn), .ref mQp, .ref mQd, .int wh, .int wt, .int fd, .int pp, .int wn]))] sz)) 0 0 (va_A [(g, .inr (10, [.int th, .ref mPd, .int (nI pn), .int (nI bn), .ref mSg, .ref mSz, .ref mTo, .int (nI en), .ref mRo, .ref mLi, .int (nI hn), .ref mKi, .ref mCo, .ref mEm, .ref mVa, .int (nI an), .ref mA1, .ref mA2, .ref mA3, .ref mA4, .int (nI ln), .ref mLk, .int (nI xn), .ref mEx, .int (nI qn), .ref mQp, .ref mQd, .int wh, .int wt, .int fd, .int pp, .int wn]))] sz) := by
  refine Met.ofW (cc := k_MD_throwing) (maxL := 4) (ret := (some .boolean)) (by decide) rfl ?_
  intro p e s m args below meth c s₁ B hml hv
  obtain ⟨rfl, hsz, hP, hK, hD0⟩ := hv
  have hx := B.exec
  have hb := B.bytes
  have hr := B.returns
  have hts := atoms_spec (ws := ws_MD_throwing) B.pre
  have hown : s.vm.findClass R_MD = some m.cls := findClass_of_methodNamed B.named
  have hlocks := B.notSynchronized
  subst hsz
  have hD := hD0.self (sz := s.heap.size)
  generalize hAe : va_A [(g, .inr (10, [.int th, .ref mPd, .int (nI pn), .int (nI bn), .ref mSg, .ref mSz, .ref mTo, .int (nI en), .ref mRo, .ref mLi, .int (nI hn), .ref mKi, .ref mCo, .ref mEm, .ref mVa, .int (nI an), .ref mA1, .ref mA2, .ref mA3, .ref mA4, .int (nI ln), .ref mLk, .int (nI xn), .ref mEx, .int (nI qn), .ref mQp, .ref mQd, .int wh, .int wt, .int fd, .int pp, .int wn]))] s.heap.size = A at hD ⊢
  have hA : ∀ q : Nat, s.heap.size ≤ q → A q := fun q h => by rw [← hAe]; exact Or.inr h
  have hS : va_S A s.heap s.heap [] := va_S.rf
  have hP : va_P (dC, dI) vwCl [(g, .inr (10, [.int th, .ref mPd, .int (nI pn), .int (nI bn), .ref mSg, .ref mSz, .ref mTo, .int (nI en), .ref mRo, .ref mLi, .int (nI hn), .ref mKi, .ref mCo, .ref mEm, .ref mVa, .int (nI an), .ref mA1, .ref mA2, .ref mA3, .ref mA4, .int (nI ln), .ref mLk, .int (nI xn), .ref mEx, .int (nI qn), .ref mQp, .ref mQd, .int wh, .int wt, .int fd, .int pp, .int wn]))] s.heap := hP
  have iMD : ∀ w ∈ u_ws R_MD T_MD 32, w ∈ ws_MD_throwing := fun w h => wb_MD_throwing w (in_MD w h)
  have hl := lv_entry ([.ref g, .int b1, .int b2, .int b3]) (n := 4) (Nat.le_of_ble_eq_true rfl)
  rw [lg_entry_eq]
  generalize (lg_sl ([.ref g, .int b1, .int b2, .int b3]) ++ List.replicate (4 - (lg_sl ([.ref g, .int b1, .int b2, .int b3])).length) Slot.unset).toArray = ls at hl ⊢
  have hl : lv_has ls 4 [(0, .ref g), (1, .int b1), (2, .int b2), (3, .int b3)] := hl
  refine lv_aload_n hx hb d_MD_throwing_0 rfl (lv_at hl 0 rfl) ?_
  refine lv_iload_n hx hb d_MD_throwing_1 rfl (lv_at hl 1 rfl) ?_
  refine lv_if_eq (tgt := 9) hx hb d_MD_throwing_2 (by decide) (fun c2 => ?_) (fun c2 => ?_)
  · refine lv_iload_n hx hb d_MD_throwing_9 rfl (lv_at hl 2 rfl) ?_
    refine lv_if_eq (tgt := 17) hx hb d_MD_throwing_10 (by decide) (fun c10 => ?_) (fun c10 => ?_)
    · refine lv_iload_n hx hb d_MD_throwing_17 rfl (lv_at hl 3 rfl) ?_
      refine lv_if_eq (tgt := 25) hx hb d_MD_throwing_18 (by decide) (fun c18 => ?_) (fun c18 => ?_)
      · refine lv_iconst (v := 0) hx hb d_MD_throwing_25 (by decide) ?_
        refine va_put (D := (dC, dI)) (ci := 10) (v := .int 0) (ty := .int) (C := R_MD) (T := T_MD) (N := 32) hx hb hts iMD ty_MD tyok_MD nm_MD hown hK hP hD hS 0 rfl rfl 0 (by decide) (hts _ (wb_MD_throwing _ b_668)) (fun _ h9 => h9) rfl rfl rfl rfl (Nat.le_of_ble_eq_true rfl) d_MD_throwing_26 (fun H locs hP hD hS => ?_)
        have hP : va_P (dC, dI) vwCl [(g, .inr (10, [.int 0, .ref mPd, .int (nI pn), .int (nI bn), .ref mSg, .ref mSz, .ref mTo, .int (nI en), .ref mRo, .ref mLi, .int (nI hn), .ref mKi, .ref mCo, .ref mEm, .ref mVa, .int (nI an), .ref mA1, .ref mA2, .ref mA3, .ref mA4, .int (nI ln), .ref mLk, .int (nI xn), .ref mEx, .int (nI qn), .ref mQp, .ref mQd, .int wh, .int wt, .int fd, .int pp, .int wn]))] H := hP
        have hD : va_D A [(g, .inr (10, [.int 0, .ref mPd, .int (nI pn), .int (nI bn), .ref mSg, .ref mSz, .ref mTo, .int (nI en), .ref mRo, .ref mLi, .int (nI hn), .ref mKi, .ref mCo, .ref mEm, .ref mVa, .int (nI an), .ref mA1, .ref mA2, .ref mA3, .ref mA4, .int (nI ln), .ref mLk, .int (nI xn), .ref mEx, .int (nI qn), .ref mQp, .ref mQd, .int wh, .int wt, .int fd, .int pp, .int wn]))] := hD
        refine lv_aload_n hx hb d_MD_throwing_29 rfl (lv_at hl 0 rfl) ?_
        refine va_get (D := (dC, dI)) (ci := 10) (v := .int 0) (C := R_MD) (T := T_MD) (N := 32) hx hb hts iMD hown hK hP 0 rfl rfl 0 (by decide) (hts _ (wb_MD_throwing _ b_668)) (fun _ h9 => h9) rfl d_MD_throwing_30 ?_
        refine lv_if_le (tgt := 40) hx hb d_MD_throwing_33 (by decide) (fun c33 => ?_) (fun c33 => ?_)
        · refine lv_iconst (v := 0) hx hb d_MD_throwing_40 (by decide) ?_
          have hP9 := hP.sub (ws' := [(g, .inr (10, [.int 0, .ref mPd, .int (nI pn), .int (nI bn), .ref mSg, .ref mSz, .ref mTo, .int (nI en), .ref mRo, .ref mLi, .int (nI hn), .ref mKi, .ref mCo, .ref mEm, .ref mVa, .int (nI an), .ref mA1, .ref mA2, .ref mA3, .ref mA4, .int (nI ln), .ref mLk, .int (nI xn), .ref mEx, .int (nI qn), .ref mQp, .ref mQd, .int wh, .int wt, .int fd, .int pp, .int wn]))]) [0] rfl
          have hD9 := hD.sub (ws' := [(g, .inr (10, [.int 0, .ref mPd, .int (nI pn), .int (nI bn), .ref mSg, .ref mSz, .ref mTo, .int (nI en), .ref mRo, .ref mLi, .int (nI hn), .ref mKi, .ref mCo, .ref mEm, .ref mVa, .int (nI an), .ref mA1, .ref mA2, .ref mA3, .ref mA4, .int (nI ln), .ref mLk, .int (nI xn), .ref mEx, .int (nI qn), .ref mQp, .ref mQd, .int wh, .int wt, .int fd, .int pp, .int wn]))]) [0] (by decide) rfl
          have e9 : ([(g, .inr (10, [.int 0, .ref mPd, .int (nI pn), .int (nI bn), .ref mSg, .ref mSz, .ref mTo, .int (nI en), .ref mRo, .ref mLi, .int (nI hn), .ref mKi, .ref mCo, .ref mEm, .ref mVa, .int (nI an), .ref mA1, .ref mA2, .ref mA3, .ref mA4, .int (nI ln), .ref mLk, .int (nI xn), .ref mEx, .int (nI qn), .ref mQp, .ref mQd, .int wh, .int wt, .int fd, .int pp, .int wn]))] : va_W) = [(g, .inr (10, [.int (thrF b1 b2 b3), .ref mPd, .int (nI pn), .int (nI bn), .ref mSg, .ref mSz, .ref mTo, .int (nI en), .ref mRo, .ref mLi, .int (nI hn), .ref mKi, .ref mCo, .ref mEm, .ref mVa, .int (nI an), .ref mA1, .ref mA2, .ref mA3, .ref mA4, .int (nI ln), .ref mLk, .int (nI xn), .ref mEx, .int (nI qn), .ref mQp, .ref mQd, .int wh, .int wt, .int fd, .int pp, .int wn]))] := by simp [thrF, c2, c10, c18]
          rw [e9] at hP9 hD9
          exact W.zret (v := 0) hx hb hr (rfl) (fun t ht hW => ⟨⟨0, (), rfl, by simp [thrB, c2, c10, c18], by rw [ht]; exact hP9, va_K.moved hW.alike hK, hD9⟩, hS.F ht⟩) hS.2.2 d_MD_throwing_41
        · exact absurd c33 (by decide)
      · refine lv_iconst (v := 3) hx hb d_MD_throwing_21 (by decide) ?_
        refine lv_goto (tgt := 26) hx hb d_MD_throwing_22 (by decide) ?_
        refine va_put (D := (dC, dI)) (ci := 10) (v := .int 3) (ty := .int) (C := R_MD) (T := T_MD) (N := 32) hx hb hts iMD ty_MD tyok_MD nm_MD hown hK hP hD hS 0 rfl rfl 0 (by decide) (hts _ (wb_MD_throwing _ b_668)) (fun _ h9 => h9) rfl rfl rfl rfl (Nat.le_of_ble_eq_true rfl) d_MD_throwing_26 (fun H locs hP hD hS => ?_)
        have hP : va_P (dC, dI) vwCl [(g, .inr (10, [.int 3, .ref mPd, .int (nI pn), .int (nI bn), .ref mSg, .ref mSz, .ref mTo, .int (nI en), .ref mRo, .ref mLi, .int (nI hn), .ref mKi, .ref mCo, .ref mEm, .ref mVa, .int (nI an), .ref mA1, .ref mA2, .ref mA3, .ref mA4, .int (nI ln), .ref mLk, .int (nI xn), .ref mEx, .int (nI qn), .ref mQp, .ref mQd, .int wh, .int wt, .int fd, .int pp, .int wn]))] H := hP
        have hD : va_D A [(g, .inr (10, [.int 3, .ref mPd, .int (nI pn), .int (nI bn), .ref mSg, .ref mSz, .ref mTo, .int (nI en), .ref mRo, .ref mLi, .int (nI hn), .ref mKi, .ref mCo, .ref mEm, .ref mVa, .int (nI an), .ref mA1, .ref mA2, .ref mA3, .ref mA4, .int (nI ln), .ref mLk, .int (nI xn), .ref mEx, .int (nI qn), .ref mQp, .ref mQd, .int wh, .int wt, .int fd, .int pp, .int wn]))] := hD
        refine lv_aload_n hx hb d_MD_throwing_29 rfl (lv_at hl 0 rfl) ?_
        refine va_get (D := (dC, dI)) (ci := 10) (v := .int 3) (C := R_MD) (T := T_MD) (N := 32) hx hb hts iMD hown hK hP 0 rfl rfl 0 (by decide) (hts _ (wb_MD_throwing _ b_668)) (fun _ h9 => h9) rfl d_MD_throwing_30 ?_
        refine lv_if_le (tgt := 40) hx hb d_MD_throwing_33 (by decide) (fun c33 => ?_) (fun c33 => ?_)
        · exact absurd c33 (by decide)
        · refine lv_iconst (v := 1) hx hb d_MD_throwing_36 (by decide) ?_
          refine lv_goto (tgt := 41) hx hb d_MD_throwing_37 (by decide) ?_
          have hP9 := hP.sub (ws' := [(g, .inr (10, [.int 3, .ref mPd, .int (nI pn), .int (nI bn), .ref mSg, .ref mSz, .ref mTo, .int (nI en), .ref mRo, .ref mLi, .int (nI hn), .ref mKi, .ref mCo, .ref mEm, .ref mVa, .int (nI an), .ref mA1, .ref mA2, .ref mA3, .ref mA4, .int (nI ln), .ref mLk, .int (nI xn), .ref mEx, .int (nI qn), .ref mQp, .ref mQd, .int wh, .int wt, .int fd, .int pp, .int wn]))]) [0] rfl
          have hD9 := hD.sub (ws' := [(g, .inr (10, [.int 3, .ref mPd, .int (nI pn), .int (nI bn), .ref mSg, .ref mSz, .ref mTo, .int (nI en), .ref mRo, .ref mLi, .int (nI hn), .ref mKi, .ref mCo, .ref mEm, .ref mVa, .int (nI an), .ref mA1, .ref mA2, .ref mA3, .ref mA4, .int (nI ln), .ref mLk, .int (nI xn), .ref mEx, .int (nI qn), .ref mQp, .ref mQd, .int wh, .int wt, .int fd, .int pp, .int wn]))]) [0] (by decide) rfl
          have e9 : ([(g, .inr (10, [.int 3, .ref mPd, .int (nI pn), .int (nI bn), .ref mSg, .ref mSz, .ref mTo, .int (nI en), .ref mRo, .ref mLi, .int (nI hn), .ref mKi, .ref mCo, .ref mEm, .ref mVa, .int (nI an), .ref mA1, .ref mA2, .ref mA3, .ref mA4, .int (nI ln), .ref mLk, .int (nI xn), .ref mEx, .int (nI qn), .ref mQp, .ref mQd, .int wh, .int wt, .int fd, .int pp, .int wn]))] : va_W) = [(g, .inr (10, [.int (thrF b1 b2 b3), .ref mPd, .int (nI pn), .int (nI bn), .ref mSg, .ref mSz, .ref mTo, .int (nI en), .ref mRo, .ref mLi, .int (nI hn), .ref mKi, .ref mCo, .ref mEm, .ref mVa, .int (nI an), .ref mA1, .ref mA2, .ref mA3, .ref mA4, .int (nI ln), .ref mLk, .int (nI xn), .ref mEx, .int (nI qn), .ref mQp, .ref mQd, .int wh, .int wt, .int fd, .int pp, .int wn]))] := by simp [thrF, c2, c10, c18]
          rw [e9] at hP9 hD9
          exact W.zret (v := 1) hx hb hr (rfl) (fun t ht hW => ⟨⟨1, (), rfl, by simp [thrB, c2, c10, c18], by rw [ht]; exact hP9, va_K.moved hW.alike hK, hD9⟩, hS.F ht⟩) hS.2.2 d_MD_throwing_41
    · refine lv_iconst (v := 2) hx hb d_MD_throwing_13 (by decide) ?_
      refine lv_goto (tgt := 26) hx hb d_MD_throwing_14 (by decide) ?_
      refine va_put (D := (dC, dI)) (ci := 10) (v := .int 2) (ty := .int) (C := R_MD) (T := T_MD) (N := 32) hx hb hts iMD ty_MD tyok_MD nm_MD hown hK hP hD hS 0 rfl rfl 0 (by decide) (hts _ (wb_MD_throwing _ b_668)) (fun _ h9 => h9) rfl rfl rfl rfl (Nat.le_of_ble_eq_true rfl) d_MD_throwing_26 (fun H locs hP hD hS => ?_)
      have hP : va_P (dC, dI) vwCl [(g, .inr (10, [.int 2, .ref mPd, .int (nI pn), .int (nI bn), .ref mSg, .ref mSz, .ref mTo, .int (nI en), .ref mRo, .ref mLi, .int (nI hn), .ref mKi, .ref mCo, .ref mEm, .ref mVa, .int (nI an), .ref mA1, .ref mA2, .ref mA3, .ref mA4, .int (nI ln), .ref mLk, .int (nI xn), .ref mEx, .int (nI qn), .ref mQp, .ref mQd, .int wh, .int wt, .int fd, .int pp, .int wn]))] H := hP
      have hD : va_D A [(g, .inr (10, [.int 2, .ref mPd, .int (nI pn), .int (nI bn), .ref mSg, .ref mSz, .ref mTo, .int (nI en), .ref mRo, .ref mLi, .int (nI hn), .ref mKi, .ref mCo, .ref mEm, .ref mVa, .int (nI an), .ref mA1, .ref mA2, .ref mA3, .ref mA4, .int (nI ln), .ref mLk, .int (nI xn), .ref mEx, .int (nI qn), .ref mQp, .ref mQd, .int wh, .int wt, .int fd, .int pp, .int wn]))] := hD
      refine lv_aload_n hx hb d_MD_throwing_29 rfl (lv_at hl 0 rfl) ?_
      refine va_get (D := (dC, dI)) (ci := 10) (v := .int 2) (C := R_MD) (T := T_MD) (N := 32) hx hb hts iMD hown hK hP 0 rfl rfl 0 (by decide) (hts _ (wb_MD_throwing _ b_668)) (fun _ h9 => h9) rfl d_MD_throwing_30 ?_
      refine lv_if_le (tgt := 40) hx hb d_MD_throwing_33 (by decide) (fun c33 => ?_) (fun c33 => ?_)
      · exact absurd c33 (by decide)
      · refine lv_iconst (v := 1) hx hb d_MD_throwing_36 (by decide) ?_
        refine lv_goto (tgt := 41) hx hb d_MD_throwing_37 (by decide) ?_
        have hP9 := hP.sub (ws' := [(g, .inr (10, [.int 2, .ref mPd, .int (nI pn), .int (nI bn), .ref mSg, .ref mSz, .ref mTo, .int (nI en), .ref mRo, .ref mLi, .int (nI hn), .ref mKi, .ref mCo, .ref mEm, .ref mVa, .int (nI an), .ref mA1, .ref mA2, .ref mA3, .ref mA4, .int (nI ln), .ref mLk, .int (nI xn), .ref mEx, .int (nI qn), .ref mQp, .ref mQd, .int wh, .int wt, .int fd, .int pp, .int wn]))]) [0] rfl
        have hD9 := hD.sub (ws' := [(g, .inr (10, [.int 2, .ref mPd, .int (nI pn), .int (nI bn), .ref mSg, .ref mSz, .ref mTo, .int (nI en), .ref mRo, .ref mLi, .int (nI hn), .ref mKi, .ref mCo, .ref mEm, .ref mVa, .int (nI an), .ref mA1, .ref mA2, .ref mA3, .ref mA4, .int (nI ln), .ref mLk, .int (nI xn), .ref mEx, .int (nI qn), .ref mQp, .ref mQd, .int wh, .int wt, .int fd, .int pp, .int wn]))]) [0] (by decide) rfl
        have e9 : ([(g, .inr (10, [.int 2, .ref mPd, .int (nI pn), .int (nI bn), .ref mSg, .ref mSz, .ref mTo, .int (nI en), .ref mRo, .ref mLi, .int (nI hn), .ref mKi, .ref mCo, .ref mEm, .ref mVa, .int (nI an), .ref mA1, .ref mA2, .ref mA3, .ref mA4, .int (nI ln), .ref mLk, .int (nI xn), .ref mEx, .int (nI qn), .ref mQp, .ref mQd, .int wh, .int wt, .int fd, .int pp, .int wn]))] : va_W) = [(g, .inr (10, [.int (thrF b1 b2 b3), .ref mPd, .int (nI pn), .int (nI bn), .ref mSg, .ref mSz, .ref mTo, .int (nI en), .ref mRo, .ref mLi, .int (nI hn), .ref mKi, .ref mCo, .ref mEm, .ref mVa, .int (nI an), .ref mA1, .ref mA2, .ref mA3, .ref mA4, .int (nI ln), .ref mLk, .int (nI xn), .ref mEx, .int (nI qn), .ref mQp, .ref mQd, .int wh, .int wt, .int fd, .int pp, .int wn]))] := by simp [thrF, c2, c10]
        rw [e9] at hP9 hD9
        exact W.zret (v := 1) hx hb hr (rfl) (fun t ht hW => ⟨⟨1, (), rfl, by simp [thrB, c2, c10], by rw [ht]; exact hP9, va_K.moved hW.alike hK, hD9⟩, hS.F ht⟩) hS.2.2 d_MD_throwing_41
  · refine lv_iconst (v := 1) hx hb d_MD_throwing_5 (by decide) ?_
    refine lv_goto (tgt := 26) hx hb d_MD_throwing_6 (by decide) ?_
    refine va_put (D := (dC, dI)) (ci := 10) (v := .int 1) (ty := .int) (C := R_MD) (T := T_MD) (N := 32) hx hb hts iMD ty_MD tyok_MD nm_MD hown hK hP hD hS 0 rfl rfl 0 (by decide) (hts _ (wb_MD_throwing _ b_668)) (fun _ h9 => h9) rfl rfl rfl rfl (Nat.le_of_ble_eq_true rfl) d_MD_throwing_26 (fun H locs hP hD hS => ?_)
    have hP : va_P (dC, dI) vwCl [(g, .inr (10, [.int 1, .ref mPd, .int (nI pn), .int (nI bn), .ref mSg, .ref mSz, .ref mTo, .int (nI en), .ref mRo, .ref mLi, .int (nI hn), .ref mKi, .ref mCo, .ref mEm, .ref mVa, .int (nI an), .ref mA1, .ref mA2, .ref mA3, .ref mA4, .int (nI ln), .ref mLk, .int (nI xn), .ref mEx, .int (nI qn), .ref mQp, .ref mQd, .int wh, .int wt, .int fd, .int pp, .int wn]))] H := hP
    have hD : va_D A [(g, .inr (10, [.int 1, .ref mPd, .int (nI pn), .int (nI bn), .ref mSg, .ref mSz, .ref mTo, .int (nI en), .ref mRo, .ref mLi, .int (nI hn), .ref mKi, .ref mCo, .ref mEm, .ref mVa, .int (nI an), .ref mA1, .ref mA2, .ref mA3, .ref mA4, .int (nI ln), .ref mLk, .int (nI xn), .ref mEx, .int (nI qn), .ref mQp, .ref mQd, .int wh, .int wt, .int fd, .int pp, .int wn]))] := hD
    refine lv_aload_n hx hb d_MD_throwing_29 rfl (lv_at hl 0 rfl) ?_
    refine va_get (D := (dC, dI)) (ci := 10) (v := .int 1) (C := R_MD) (T := T_MD) (N := 32) hx hb hts iMD hown hK hP 0 rfl rfl 0 (by decide) (hts _ (wb_MD_throwing _ b_668)) (fun _ h9 => h9) rfl d_MD_throwing_30 ?_
    refine lv_if_le (tgt := 40) hx hb d_MD_throwing_33 (by decide) (fun c33 => ?_) (fun c33 => ?_)
    · exact absurd c33 (by decide)
    · refine lv_iconst (v := 1) hx hb d_MD_throwing_36 (by decide) ?_
      refine lv_goto (tgt := 41) hx hb d_MD_throwing_37 (by decide) ?_
      have hP9 := hP.sub (ws' := [(g, .inr (10, [.int 1, .ref mPd, .int (nI pn), .int (nI bn), .ref mSg, .ref mSz, .ref mTo, .int (nI en), .ref mRo, .ref mLi, .int (nI hn), .ref mKi, .ref mCo, .ref mEm, .ref mVa, .int (nI an), .ref mA1, .ref mA2, .ref mA3, .ref mA4, .int (nI ln), .ref mLk, .int (nI xn), .ref mEx, .int (nI qn), .ref mQp, .ref mQd, .int wh, .int wt, .int fd, .int pp, .int wn]))]) [0] rfl
      have hD9 := hD.sub (ws' := [(g, .inr (10, [.int 1, .ref mPd, .int (nI pn), .int (nI bn), .ref mSg, .ref mSz, .ref mTo, .int (nI en), .ref mRo, .ref mLi, .int (nI hn), .ref mKi, .ref mCo, .ref mEm, .ref mVa, .int (nI an), .ref mA1, .ref mA2, .ref mA3, .ref mA4, .int (nI ln), .ref mLk, .int (nI xn), .ref mEx, .int (nI qn), .ref mQp, .ref mQd, .int wh, .int wt, .int fd, .int pp, .int wn]))]) [0] (by decide) rfl
      have e9 : ([(g, .inr (10, [.int 1, .ref mPd, .int (nI pn), .int (nI bn), .ref mSg, .ref mSz, .ref mTo, .int (nI en), .ref mRo, .ref mLi, .int (nI hn), .ref mKi, .ref mCo, .ref mEm, .ref mVa, .int (nI an), .ref mA1, .ref mA2, .ref mA3, .ref mA4, .int (nI ln), .ref mLk, .int (nI xn), .ref mEx, .int (nI qn), .ref mQp, .ref mQd, .int wh, .int wt, .int fd, .int pp, .int wn]))] : va_W) = [(g, .inr (10, [.int (thrF b1 b2 b3), .ref mPd, .int (nI pn), .int (nI bn), .ref mSg, .ref mSz, .ref mTo, .int (nI en), .ref mRo, .ref mLi, .int (nI hn), .ref mKi, .ref mCo, .ref mEm, .ref mVa, .int (nI an), .ref mA1, .ref mA2, .ref mA3, .ref mA4, .int (nI ln), .ref mLk, .int (nI xn), .ref mEx, .int (nI qn), .ref mQp, .ref mQd, .int wh, .int wt, .int fd, .int pp, .int wn]))] := by simp [thrF, c2]
      rw [e9] at hP9 hD9
      exact W.zret (v := 1) hx hb hr (rfl) (fun t ht hW => ⟨⟨1, (), rfl, by simp [thrB, c2], by rw [ht]; exact hP9, va_K.moved hW.alike hK, hD9⟩, hS.F ht⟩) hS.2.2 d_MD_throwing_41

set_option maxHeartbeats 4000000 in
set_option maxRecDepth 100000 in
theorem c_MD_in (l : Launch) (dC : Nat → ClassId) (dI : Nat → Nat → Nat) (v a b : Int32) : Met l y_MD_in ws_MD_in ({ frames := 0, cells := 0, slots := 0, locals := 0 }) (va_Pc [.int v, .int a, .int b] (fun U => va_P (dC, dI) vwCl [] U.heap ∧ va_K (dC, dI) vwCl [] U)) (va_Qi (fun (res : Int32) (_ : Unit) => res = inF v a b) (fun _ _ => True) (fun _ => False)) 0 0 (fun _ => False) := by
  refine Met.ofW (cc := k_MD_in) (maxL := 3) (ret := (some .boolean)) (by decide) rfl ?_
  intro p e s m args below meth c s₁ B hml hv
  obtain ⟨rfl, hP, hK⟩ := hv
  have hx := B.exec
  have hb := B.bytes
  have hr := B.returns
  have hts := atoms_spec (ws := ws_MD_in) B.pre
  have hown : s.vm.findClass R_MD = some m.cls := findClass_of_methodNamed B.named
  have hlocks := B.notSynchronized
  have hS : va_S (fun _ => False) s.heap s.heap [] := va_S.rf
  have hP : va_P (dC, dI) vwCl [] s.heap := hP
  have hl := lv_entry ([.int v, .int a, .int b]) (n := 3) (Nat.le_of_ble_eq_true rfl)
  rw [lg_entry_eq]
  generalize (lg_sl ([.int v, .int a, .int b]) ++ List.replicate (3 - (lg_sl ([.int v, .int a, .int b])).length) Slot.unset).toArray = ls at hl ⊢
  have hl : lv_has ls 3 [(0, .int v), (1, .int a), (2, .int b)] := hl
  refine lv_iload_n hx hb d_MD_in_0 rfl (lv_at hl 0 rfl) ?_
  refine lv_iload_n hx hb d_MD_in_1 rfl (lv_at hl 1 rfl) ?_
  refine lv_icmp_lt (tgt := 14) hx hb d_MD_in_2 (by decide) (fun c2 => ?_) (fun c2 => ?_)
  · refine lv_iconst (v := 0) hx hb d_MD_in_14 (by decide) ?_
    exact W.zret (v := 0) hx hb hr (rfl) (fun t ht hW => ⟨⟨0, (), rfl, by simp [inF, c2], trivial⟩, hS.F ht⟩) hS.2.2 d_MD_in_15
  · refine lv_iload_n hx hb d_MD_in_5 rfl (lv_at hl 0 rfl) ?_
    refine lv_iload_n hx hb d_MD_in_6 rfl (lv_at hl 2 rfl) ?_
    refine lv_icmp_gt (tgt := 14) hx hb d_MD_in_7 (by decide) (fun c7 => ?_) (fun c7 => ?_)
    · refine lv_iconst (v := 0) hx hb d_MD_in_14 (by decide) ?_
      exact W.zret (v := 0) hx hb hr (rfl) (fun t ht hW => ⟨⟨0, (), rfl, by simp [inF, c2, c7], trivial⟩, hS.F ht⟩) hS.2.2 d_MD_in_15
    · refine lv_iconst (v := 1) hx hb d_MD_in_10 (by decide) ?_
      refine lv_goto (tgt := 15) hx hb d_MD_in_11 (by decide) ?_
      exact W.zret (v := 1) hx hb hr (rfl) (fun t ht hW => ⟨⟨1, (), rfl, by simp [inF, c2, c7], trivial⟩, hS.F ht⟩) hS.2.2 d_MD_in_15

set_option maxHeartbeats 4000000 in
set_option maxRecDepth 100000 in
theorem c_MD_isPerson (l : Launch) (dC : Nat → ClassId) (dI : Nat → Nat → Nat) (g mPd mSg mSz mTo mRo mLi mKi mCo mEm mVa mA1 mA2 mA3 mA4 mLk mEx mQp mQd : Nat) (th : Int32) (pn bn en hn an ln xn qn : Nat) (wh wt fd pp wn : Int32) (x : Int32) : Met l y_MD_isPerson ws_MD_isPerson ({ frames := 1, cells := 0, slots := 0, locals := 22 }) (va_Pc [.ref g, .int x] (fun U => va_P (dC, dI) vwCl [(g, .inr (10, [.int th, .ref mPd, .int (nI pn), .int (nI bn), .ref mSg, .ref mSz, .ref mTo, .int (nI en), .ref mRo, .ref mLi, .int (nI hn), .ref mKi, .ref mCo, .ref mEm, .ref mVa, .int (nI an), .ref mA1, .ref mA2, .ref mA3, .ref mA4, .int (nI ln), .ref mLk, .int (nI xn), .ref mEx, .int (nI qn), .ref mQp, .ref mQd, .int wh, .int wt, .int fd, .int pp, .int wn]))] U.heap ∧ va_K (dC, dI) vwCl [] U)) (va_Qi (fun (res : Int32) (_ : Unit) => res = inF x 0 (nI en - 1)) (fun _ _ => True) (fun _ => False)) 0 0 (fun _ => False) := by
  refine Met.ofW (cc := k_MD_isPerson) (maxL := 2) (ret := (some .boolean)) (by decide) rfl ?_
  intro p e s m args below meth c s₁ B hml hv
  obtain ⟨rfl, hP, hK⟩ := hv
  have hx := B.exec
  have hb := B.bytes
  have hr := B.returns
  have hts := atoms_spec (ws := ws_MD_isPerson) B.pre
  have hown : s.vm.findClass R_MD = some m.cls := findClass_of_methodNamed B.named
  have hlocks := B.notSynchronized
  have hS : va_S (fun _ => False) s.heap s.heap [] := va_S.rf
  have hP : va_P (dC, dI) vwCl [(g, .inr (10, [.int th, .ref mPd, .int (nI pn), .int (nI bn), .ref mSg, .ref mSz, .ref mTo, .int (nI en), .ref mRo, .ref mLi, .int (nI hn), .ref mKi, .ref mCo, .ref mEm, .ref mVa, .int (nI an), .ref mA1, .ref mA2, .ref mA3, .ref mA4, .int (nI ln), .ref mLk, .int (nI xn), .ref mEx, .int (nI qn), .ref mQp, .ref mQd, .int wh, .int wt, .int fd, .int pp, .int wn]))] s.heap := hP
  have iMD : ∀ w ∈ u_ws R_MD T_MD 32, w ∈ ws_MD_isPerson := fun w h => wb_MD_isPerson w (in_MD w h)
  have hl := lv_entry ([.ref g, .int x]) (n := 2) (Nat.le_of_ble_eq_true rfl)
  rw [lg_entry_eq]
  generalize (lg_sl ([.ref g, .int x]) ++ List.replicate (2 - (lg_sl ([.ref g, .int x])).length) Slot.unset).toArray = ls at hl ⊢
  have hl : lv_has ls 2 [(0, .ref g), (1, .int x)] := hl
  refine lv_iload_n hx hb d_MD_isPerson_0 rfl (lv_at hl 1 rfl) ?_
  refine lv_iconst (v := 0) hx hb d_MD_isPerson_1 (by decide) ?_
  refine lv_aload_n hx hb d_MD_isPerson_2 rfl (lv_at hl 0 rfl) ?_
  refine va_get (D := (dC, dI)) (ci := 10) (v := .int (nI en)) (C := R_MD) (T := T_MD) (N := 32) hx hb hts iMD hown hK hP 0 rfl rfl 7 (by decide) (hts _ (wb_MD_isPerson _ b_675)) (fun _ h9 => h9) rfl d_MD_isPerson_3 ?_
  refine lv_iconst (v := 1) hx hb d_MD_isPerson_6 (by decide) ?_
  refine lv_isub hx hb d_MD_isPerson_7 ?_
  have hPc := hP.sub (ws' := []) [] rfl
  have hKc := hK.sub (tys' := []) [] rfl
  refine va_calli (va_runS (As := [.int x, .int 0, .int ((nI en) - 1)]) (rest := []) ⟨hx, hb, hml, hown, hts⟩ (c_MD_in l dC dI x 0 ((nI en) - 1)) (va_cwS 3 hts (vz_gS wb_MD_isPerson b_796 b_797 b_11 wc_MD_in) rfl rfl rfl (by decide +kernel) ⟨Nat.le_of_ble_eq_true rfl, Nat.le_of_ble_eq_true rfl⟩) (vz_preS hPc hKc) rfl rfl hl.1 rfl (lv_room (Nat.le_of_ble_eq_true rfl)) d_MD_isPerson_8 ⟨Nat.le_of_ble_eq_true rfl, Nat.le_of_ble_eq_true rfl⟩) hS (fun q _ h => False.elim h) (fun q h => False.elim h) (fun r8 u9 t9 H1 locs ht hvm hr8 hB hzx9 hkx9 hS => ?_)
  try dsimp only at hr8
  have hP := vz_kept hP hkx9
  generalize H1 = H at hP hS ⊢
  exact W.zret (v := r8) hx hb hr (by rw [hr8]; exact inF_z _ _ _) (fun t ht hW => ⟨⟨r8, (), rfl, hr8, trivial⟩, hS.F ht⟩) hS.2.2 d_MD_isPerson_11

set_option maxHeartbeats 4000000 in
set_option maxRecDepth 100000 in
theorem c_MD_isRecord (l : Launch) (dC : Nat → ClassId) (dI : Nat → Nat → Nat) (g mPd mSg mSz mTo mRo mLi mKi mCo mEm mVa mA1 mA2 mA3 mA4 mLk mEx mQp mQd : Nat) (th : Int32) (pn bn en hn an ln xn qn : Nat) (wh wt fd pp wn : Int32) (x : Int32) : Met l y_MD_isRecord ws_MD_isRecord ({ frames := 1, cells := 0, slots := 0, locals := 22 }) (va_Pc [.ref g, .int x] (fun U => va_P (dC, dI) vwCl [(g, .inr (10, [.int th, .ref mPd, .int (nI pn), .int (nI bn), .ref mSg, .ref mSz, .ref mTo, .int (nI en), .ref mRo, .ref mLi, .int (nI hn), .ref mKi, .ref mCo, .ref mEm, .ref mVa, .int (nI an), .ref mA1, .ref mA2, .ref mA3, .ref mA4, .int (nI ln), .ref mLk, .int (nI xn), .ref mEx, .int (nI qn), .ref mQp, .ref mQd, .int wh, .int wt, .int fd, .int pp, .int wn]))] U.heap ∧ va_K (dC, dI) vwCl [] U)) (va_Qi (fun (res : Int32) (_ : Unit) => res = inF x 0 (nI hn - 1)) (fun _ _ => True) (fun _ => False)) 0 0 (fun _ => False) := by
  refine Met.ofW (cc := k_MD_isRecord) (maxL := 2) (ret := (some .boolean)) (by decide) rfl ?_
  intro p e s m args below meth c s₁ B hml hv
  obtain ⟨rfl, hP, hK⟩ := hv
  have hx := B.exec
  have hb := B.bytes
  have hr := B.returns
  have hts := atoms_spec (ws := ws_MD_isRecord) B.pre
  have hown : s.vm.findClass R_MD = some m.cls := findClass_of_methodNamed B.named
  have hlocks := B.notSynchronized
  have hS : va_S (fun _ => False) s.heap s.heap [] := va_S.rf
  have hP : va_P (dC, dI) vwCl [(g, .inr (10, [.int th, .ref mPd, .int (nI pn), .int (nI bn), .ref mSg, .ref mSz, .ref mTo, .int (nI en), .ref mRo, .ref mLi, .int (nI hn), .ref mKi, .ref mCo, .ref mEm, .ref mVa, .int (nI an), .ref mA1, .ref mA2, .ref mA3, .ref mA4, .int (nI ln), .ref mLk, .int (nI xn), .ref mEx, .int (nI qn), .ref mQp, .ref mQd, .int wh, .int wt, .int fd, .int pp, .int wn]))] s.heap := hP
  have iMD : ∀ w ∈ u_ws R_MD T_MD 32, w ∈ ws_MD_isRecord := fun w h => wb_MD_isRecord w (in_MD w h)
  have hl := lv_entry ([.ref g, .int x]) (n := 2) (Nat.le_of_ble_eq_true rfl)
  rw [lg_entry_eq]
  generalize (lg_sl ([.ref g, .int x]) ++ List.replicate (2 - (lg_sl ([.ref g, .int x])).length) Slot.unset).toArray = ls at hl ⊢
  have hl : lv_has ls 2 [(0, .ref g), (1, .int x)] := hl
  refine lv_iload_n hx hb d_MD_isRecord_0 rfl (lv_at hl 1 rfl) ?_
  refine lv_iconst (v := 0) hx hb d_MD_isRecord_1 (by decide) ?_
  refine lv_aload_n hx hb d_MD_isRecord_2 rfl (lv_at hl 0 rfl) ?_
  refine va_get (D := (dC, dI)) (ci := 10) (v := .int (nI hn)) (C := R_MD) (T := T_MD) (N := 32) hx hb hts iMD hown hK hP 0 rfl rfl 10 (by decide) (hts _ (wb_MD_isRecord _ b_678)) (fun _ h9 => h9) rfl d_MD_isRecord_3 ?_
  refine lv_iconst (v := 1) hx hb d_MD_isRecord_6 (by decide) ?_
  refine lv_isub hx hb d_MD_isRecord_7 ?_
  have hPc := hP.sub (ws' := []) [] rfl
  have hKc := hK.sub (tys' := []) [] rfl
  refine va_calli (va_runS (As := [.int x, .int 0, .int ((nI hn) - 1)]) (rest := []) ⟨hx, hb, hml, hown, hts⟩ (c_MD_in l dC dI x 0 ((nI hn) - 1)) (va_cwS 3 hts (vz_gS wb_MD_isRecord b_796 b_797 b_11 wc_MD_in) rfl rfl rfl (by decide +kernel) ⟨Nat.le_of_ble_eq_true rfl, Nat.le_of_ble_eq_true rfl⟩) (vz_preS hPc hKc) rfl rfl hl.1 rfl (lv_room (Nat.le_of_ble_eq_true rfl)) d_MD_isRecord_8 ⟨Nat.le_of_ble_eq_true rfl, Nat.le_of_ble_eq_true rfl⟩) hS (fun q _ h => False.elim h) (fun q h => False.elim h) (fun r8 u9 t9 H1 locs ht hvm hr8 hB hzx9 hkx9 hS => ?_)
  try dsimp only at hr8
  have hP := vz_kept hP hkx9
  generalize H1 = H at hP hS ⊢
  exact W.zret (v := r8) hx hb hr (by rw [hr8]; exact inF_z _ _ _) (fun t ht hW => ⟨⟨r8, (), rfl, hr8, trivial⟩, hS.F ht⟩) hS.2.2 d_MD_isRecord_11

set_option maxHeartbeats 4000000 in
set_option maxRecDepth 100000 in
theorem c_MD_isField (l : Launch) (dC : Nat → ClassId) (dI : Nat → Nat → Nat) (x : Int32) : Met l y_MD_isField ws_MD_isField ({ frames := 1, cells := 0, slots := 0, locals := 22 }) (va_Pc [.int x] (fun U => va_P (dC, dI) vwCl [] U.heap ∧ va_K (dC, dI) vwCl [] U)) (va_Qi (fun (res : Int32) (_ : Unit) => res = inF x 0 5) (fun _ _ => True) (fun _ => False)) 0 0 (fun _ => False) := by
  refine Met.ofW (cc := k_MD_isField) (maxL := 1) (ret := (some .boolean)) (by decide) rfl ?_
  intro p e s m args below meth c s₁ B hml hv
  obtain ⟨rfl, hP, hK⟩ := hv
  have hx := B.exec
  have hb := B.bytes
  have hr := B.returns
  have hts := atoms_spec (ws := ws_MD_isField) B.pre
  have hown : s.vm.findClass R_MD = some m.cls := findClass_of_methodNamed B.named
  have hlocks := B.notSynchronized
  have hS : va_S (fun _ => False) s.heap s.heap [] := va_S.rf
  have hP : va_P (dC, dI) vwCl [] s.heap := hP
  have hl := lv_entry ([.int x]) (n := 1) (Nat.le_of_ble_eq_true rfl)
  rw [lg_entry_eq]
  generalize (lg_sl ([.int x]) ++ List.replicate (1 - (lg_sl ([.int x])).length) Slot.unset).toArray = ls at hl ⊢
  have hl : lv_has ls 1 [(0, .int x)] := hl
  refine lv_iload_n hx hb d_MD_isField_0 rfl (lv_at hl 0 rfl) ?_
  refine lv_iconst (v := 0) hx hb d_MD_isField_1 (by decide) ?_
  refine lv_iconst (v := 5) hx hb d_MD_isField_2 (by decide) ?_
  have hPc := hP.sub (ws' := []) [] rfl
  have hKc := hK.sub (tys' := []) [] rfl
  refine va_calli (va_runS (As := [.int x, .int 0, .int 5]) (rest := []) ⟨hx, hb, hml, hown, hts⟩ (c_MD_in l dC dI x 0 5) (va_cwS 3 hts (vz_gS wb_MD_isField b_796 b_797 b_11 wc_MD_in) rfl rfl rfl (by decide +kernel) ⟨Nat.le_of_ble_eq_true rfl, Nat.le_of_ble_eq_true rfl⟩) (vz_preS hPc hKc) rfl rfl hl.1 rfl (lv_room (Nat.le_of_ble_eq_true rfl)) d_MD_isField_3 ⟨Nat.le_of_ble_eq_true rfl, Nat.le_of_ble_eq_true rfl⟩) hS (fun q _ h => False.elim h) (fun q h => False.elim h) (fun r3 u9 t9 H1 locs ht hvm hr3 hB hzx9 hkx9 hS => ?_)
  try dsimp only at hr3
  have hP := vz_kept hP hkx9
  generalize H1 = H at hP hS ⊢
  exact W.zret (v := r3) hx hb hr (by rw [hr3]; exact inF_z _ _ _) (fun t ht hW => ⟨⟨r3, (), rfl, hr3, trivial⟩, hS.F ht⟩) hS.2.2 d_MD_isField_6

set_option maxHeartbeats 4000000 in
set_option maxRecDepth 100000 in
theorem c_MD_isDay (l : Launch) (dC : Nat → ClassId) (dI : Nat → Nat → Nat) (x : Int32) : Met l y_MD_isDay ws_MD_isDay ({ frames := 1, cells := 0, slots := 0, locals := 22 }) (va_Pc [.int x] (fun U => va_P (dC, dI) vwCl [] U.heap ∧ va_K (dC, dI) vwCl [] U)) (va_Qi (fun (res : Int32) (_ : Unit) => res = inF x 0 100000) (fun _ _ => True) (fun _ => False)) 0 0 (fun _ => False) := by
  refine Met.ofW (cc := k_MD_isDay) (maxL := 1) (ret := (some .boolean)) (by decide) rfl ?_
  intro p e s m args below meth c s₁ B hml hv
  obtain ⟨rfl, hP, hK⟩ := hv
  have hx := B.exec
  have hb := B.bytes
  have hr := B.returns
  have hts := atoms_spec (ws := ws_MD_isDay) B.pre
  have hown : s.vm.findClass R_MD = some m.cls := findClass_of_methodNamed B.named
  have hlocks := B.notSynchronized
  have hS : va_S (fun _ => False) s.heap s.heap [] := va_S.rf
  have hP : va_P (dC, dI) vwCl [] s.heap := hP
  have hl := lv_entry ([.int x]) (n := 1) (Nat.le_of_ble_eq_true rfl)
  rw [lg_entry_eq]
  generalize (lg_sl ([.int x]) ++ List.replicate (1 - (lg_sl ([.int x])).length) Slot.unset).toArray = ls at hl ⊢
  have hl : lv_has ls 1 [(0, .int x)] := hl
  refine lv_iload_n hx hb d_MD_isDay_0 rfl (lv_at hl 0 rfl) ?_
  refine lv_iconst (v := 0) hx hb d_MD_isDay_1 (by decide) ?_
  refine lv_ldc (v := 100000) hx hb hown (hts _ (wb_MD_isDay _ b_829)) d_MD_isDay_2 ?_
  have hPc := hP.sub (ws' := []) [] rfl
  have hKc := hK.sub (tys' := []) [] rfl
  refine va_calli (va_runS (As := [.int x, .int 0, .int 100000]) (rest := []) ⟨hx, hb, hml, hown, hts⟩ (c_MD_in l dC dI x 0 100000) (va_cwS 3 hts (vz_gS wb_MD_isDay b_796 b_797 b_11 wc_MD_in) rfl rfl rfl (by decide +kernel) ⟨Nat.le_of_ble_eq_true rfl, Nat.le_of_ble_eq_true rfl⟩) (vz_preS hPc hKc) rfl rfl hl.1 rfl (lv_room (Nat.le_of_ble_eq_true rfl)) d_MD_isDay_4 ⟨Nat.le_of_ble_eq_true rfl, Nat.le_of_ble_eq_true rfl⟩) hS (fun q _ h => False.elim h) (fun q h => False.elim h) (fun r4 u9 t9 H1 locs ht hvm hr4 hB hzx9 hkx9 hS => ?_)
  try dsimp only at hr4
  have hP := vz_kept hP hkx9
  generalize H1 = H at hP hS ⊢
  exact W.zret (v := r4) hx hb hr (by rw [hr4]; exact inF_z _ _ _) (fun t ht hW => ⟨⟨r4, (), rfl, hr4, trivial⟩, hS.F ht⟩) hS.2.2 d_MD_isDay_7

set_option maxHeartbeats 4000000 in
set_option maxRecDepth 100000 in
theorem c_MD_signOf (l : Launch) (dC : Nat → ClassId) (dI : Nat → Nat → Nat) (w k : Int32) : Met l y_MD_signOf ws_MD_signOf ({ frames := 0, cells := 0, slots := 0, locals := 0 }) (va_Pc [.int w, .int k] (fun U => va_P (dC, dI) vwCl [] U.heap ∧ va_K (dC, dI) vwCl [] U)) (va_Qi (fun (res : Int32) (_ : Unit) => res = sgM w k) (fun _ _ => True) (fun _ => False)) 0 0 (fun _ => False) := by
  refine Met.ofW (cc := k_MD_signOf) (maxL := 2) (ret := (some .int)) (by decide) rfl ?_
  intro p e s m args below meth c s₁ B hml hv
  obtain ⟨rfl, hP, hK⟩ := hv
  have hx := B.exec
  have hb := B.bytes
  have hr := B.returns
  have hts := atoms_spec (ws := ws_MD_signOf) B.pre
  have hown : s.vm.findClass R_MD = some m.cls := findClass_of_methodNamed B.named
  have hlocks := B.notSynchronized
  have hS : va_S (fun _ => False) s.heap s.heap [] := va_S.rf
  have hP : va_P (dC, dI) vwCl [] s.heap := hP
  have hl := lv_entry ([.int w, .int k]) (n := 2) (Nat.le_of_ble_eq_true rfl)
  rw [lg_entry_eq]
  generalize (lg_sl ([.int w, .int k]) ++ List.replicate (2 - (lg_sl ([.int w, .int k])).length) Slot.unset).toArray = ls at hl ⊢
  have hl : lv_has ls 2 [(0, .int w), (1, .int k)] := hl
  refine lv_iload_n hx hb d_MD_signOf_0 rfl (lv_at hl 0 rfl) ?_
  refine lv_bipush (v := 8) hx hb d_MD_signOf_1 (by decide) ?_
  refine lv_iload_n hx hb d_MD_signOf_3 rfl (lv_at hl 1 rfl) ?_
  refine lv_imul hx hb d_MD_signOf_4 ?_
  refine lv_ishr hx hb d_MD_signOf_5 ?_
  refine lv_sipush (v := 255) hx hb d_MD_signOf_6 (by decide) ?_
  refine lv_iand hx hb d_MD_signOf_9 ?_
  exact W.iret (v := (w >>> ((8 * k) &&& 31)) &&& 255) hx hb hr (fun t ht hW => ⟨⟨(w >>> ((8 * k) &&& 31)) &&& 255, (), rfl, rfl, trivial⟩, hS.F ht⟩) hS.2.2 d_MD_signOf_10

set_option maxHeartbeats 4000000 in
set_option maxRecDepth 100000 in
theorem c_MD_digitsOf (l : Launch) (dC : Nat → ClassId) (dI : Nat → Nat → Nat) (z : Int32) : Met l y_MD_digitsOf ws_MD_digitsOf ({ frames := 0, cells := 0, slots := 0, locals := 0 }) (va_Pc [.int z] (fun U => va_P (dC, dI) vwCl [] U.heap ∧ va_K (dC, dI) vwCl [] U)) (va_Qi (fun (res : Int32) (_ : Unit) => res = digF z) (fun _ _ => True) (fun _ => False)) 0 0 (fun _ => False) := by
  refine Met.ofW (cc := k_MD_digitsOf) (maxL := 1) (ret := (some .int)) (by decide) rfl ?_
  intro p e s m args below meth c s₁ B hml hv
  obtain ⟨rfl, hP, hK⟩ := hv
  have hx := B.exec
  have hb := B.bytes
  have hr := B.returns
  have hts := atoms_spec (ws := ws_MD_digitsOf) B.pre
  have hown : s.vm.findClass R_MD = some m.cls := findClass_of_methodNamed B.named
  have hlocks := B.notSynchronized
  have hS : va_S (fun _ => False) s.heap s.heap [] := va_S.rf
  have hP : va_P (dC, dI) vwCl [] s.heap := hP
  have hl := lv_entry ([.int z]) (n := 1) (Nat.le_of_ble_eq_true rfl)
  rw [lg_entry_eq]
  generalize (lg_sl ([.int z]) ++ List.replicate (1 - (lg_sl ([.int z])).length) Slot.unset).toArray = ls at hl ⊢
  have hl : lv_has ls 1 [(0, .int z)] := hl
  refine lv_iload_n hx hb d_MD_digitsOf_0 rfl (lv_at hl 0 rfl) ?_
  refine lv_bipush (v := 114) hx hb d_MD_digitsOf_1 (by decide) ?_
  refine lv_icmp_eq (tgt := 12) hx hb d_MD_digitsOf_3 (by decide) (fun c3 => ?_) (fun c3 => ?_)
  · refine lv_bipush (v := 8) hx hb d_MD_digitsOf_12 (by decide) ?_
    exact W.iret (v := 8) hx hb hr (fun t ht hW => ⟨⟨8, (), rfl, by simp [digF, c3], trivial⟩, hS.F ht⟩) hS.2.2 d_MD_digitsOf_14
  · refine lv_iload_n hx hb d_MD_digitsOf_6 rfl (lv_at hl 0 rfl) ?_
    refine lv_bipush (v := 99) hx hb d_MD_digitsOf_7 (by decide) ?_
    refine lv_icmp_ne (tgt := 15) hx hb d_MD_digitsOf_9 (by decide) (fun c9 => ?_) (fun c9 => ?_)
    · refine lv_iload_n hx hb d_MD_digitsOf_15 rfl (lv_at hl 0 rfl) ?_
      refine lv_bipush (v := 107) hx hb d_MD_digitsOf_16 (by decide) ?_
      refine lv_icmp_eq (tgt := 27) hx hb d_MD_digitsOf_18 (by decide) (fun c18 => ?_) (fun c18 => ?_)
      · refine lv_iconst (v := 4) hx hb d_MD_digitsOf_27 (by decide) ?_
        exact W.iret (v := 4) hx hb hr (fun t ht hW => ⟨⟨4, (), rfl, by simp [digF, c3, c9, c18], trivial⟩, hS.F ht⟩) hS.2.2 d_MD_digitsOf_28
      · refine lv_iload_n hx hb d_MD_digitsOf_21 rfl (lv_at hl 0 rfl) ?_
        refine lv_bipush (v := 112) hx hb d_MD_digitsOf_22 (by decide) ?_
        refine lv_icmp_ne (tgt := 29) hx hb d_MD_digitsOf_24 (by decide) (fun c24 => ?_) (fun c24 => ?_)
        · refine lv_iload_n hx hb d_MD_digitsOf_29 rfl (lv_at hl 0 rfl) ?_
          refine lv_bipush (v := 102) hx hb d_MD_digitsOf_30 (by decide) ?_
          refine lv_icmp_ne (tgt := 40) hx hb d_MD_digitsOf_32 (by decide) (fun c32 => ?_) (fun c32 => ?_)
          · refine lv_iconst (v := 0) hx hb d_MD_digitsOf_40 (by decide) ?_
            exact W.iret (v := 0) hx hb hr (fun t ht hW => ⟨⟨0, (), rfl, by simp [digF, c3, c9, c18, c24, c32], trivial⟩, hS.F ht⟩) hS.2.2 d_MD_digitsOf_41
          · refine lv_bipush (v := 6) hx hb d_MD_digitsOf_35 (by decide) ?_
            refine lv_goto (tgt := 41) hx hb d_MD_digitsOf_37 (by decide) ?_
            exact W.iret (v := 6) hx hb hr (fun t ht hW => ⟨⟨6, (), rfl, by simp [digF, c3, c9, c18, c24, c32], trivial⟩, hS.F ht⟩) hS.2.2 d_MD_digitsOf_41
        · refine lv_iconst (v := 4) hx hb d_MD_digitsOf_27 (by decide) ?_
          exact W.iret (v := 4) hx hb hr (fun t ht hW => ⟨⟨4, (), rfl, by simp [digF, c3, c9, c18, c24], trivial⟩, hS.F ht⟩) hS.2.2 d_MD_digitsOf_28
    · refine lv_bipush (v := 8) hx hb d_MD_digitsOf_12 (by decide) ?_
      exact W.iret (v := 8) hx hb hr (fun t ht hW => ⟨⟨8, (), rfl, by simp [digF, c3, c9], trivial⟩, hS.F ht⟩) hS.2.2 d_MD_digitsOf_14

set_option maxHeartbeats 4000000 in
set_option maxRecDepth 100000 in
theorem c_MD_padAt (l : Launch) (dC : Nat → ClassId) (dI : Nat → Nat → Nat) (cI : ClassId) (g mPd mSg mSz mTo mRo mLi mKi mCo mEm mVa mA1 mA2 mA3 mA4 mLk mEx mQp mQd : Nat) (th : Int32) (pn bn en hn an ln xn qn : Nat) (wh wt fd pp wn : Int32) (pd : Nat → Int32) (hpn : pn ≤ 40) (k : Nat) (hk : k ≤ 100) : Met l y_MD_padAt ws_MD_padAt ({ frames := 0, cells := 0, slots := 0, locals := 0 }) (va_Pc [.ref g, .int (nI k)] (fun U => va_P (dC, dI) vwCl [(g, .inr (10, [.int th, .ref mPd, .int (nI pn), .int (nI bn), .ref mSg, .ref mSz, .ref mTo, .int (nI en), .ref mRo, .ref mLi, .int (nI hn), .ref mKi, .ref mCo, .ref mEm, .ref mVa, .int (nI an), .ref mA1, .ref mA2, .ref mA3, .ref mA4, .int (nI ln), .ref mLk, .int (nI xn), .ref mEx, .int (nI qn), .ref mQp, .ref mQd, .int wh, .int wt, .int fd, .int pp, .int wn])), (mPd, .inl (cI, 40, .inl pd))] U.heap ∧ va_K (dC, dI) vwCl [(cI, .int)] U)) (va_Qi (fun (res : Int32) (_ : Unit) => res = if k < pn then pd k else -1) (fun _ _ => True) (fun _ => False)) 0 0 (fun _ => False) := by
  refine Met.ofW (cc := k_MD_padAt) (maxL := 2) (ret := (some .int)) (by decide) rfl ?_
  intro p e s m args below meth c s₁ B hml hv
  obtain ⟨rfl, hP, hK⟩ := hv
  have hx := B.exec
  have hb := B.bytes
  have hr := B.returns
  have hts := atoms_spec (ws := ws_MD_padAt) B.pre
  have hown : s.vm.findClass R_MD = some m.cls := findClass_of_methodNamed B.named
  have hlocks := B.notSynchronized
  have hS : va_S (fun _ => False) s.heap s.heap [] := va_S.rf
  have hP : va_P (dC, dI) vwCl [(g, .inr (10, [.int th, .ref mPd, .int (nI pn), .int (nI bn), .ref mSg, .ref mSz, .ref mTo, .int (nI en), .ref mRo, .ref mLi, .int (nI hn), .ref mKi, .ref mCo, .ref mEm, .ref mVa, .int (nI an), .ref mA1, .ref mA2, .ref mA3, .ref mA4, .int (nI ln), .ref mLk, .int (nI xn), .ref mEx, .int (nI qn), .ref mQp, .ref mQd, .int wh, .int wt, .int fd, .int pp, .int wn])), (mPd, .inl (cI, 40, .inl pd))] s.heap := hP
  have iMD : ∀ w ∈ u_ws R_MD T_MD 32, w ∈ ws_MD_padAt := fun w h => wb_MD_padAt w (in_MD w h)
  have hl := lv_entry ([.ref g, .int (nI k)]) (n := 2) (Nat.le_of_ble_eq_true rfl)
  rw [lg_entry_eq]
  generalize (lg_sl ([.ref g, .int (nI k)]) ++ List.replicate (2 - (lg_sl ([.ref g, .int (nI k)])).length) Slot.unset).toArray = ls at hl ⊢
  have hl : lv_has ls 2 [(0, .ref g), (1, .int (nI k))] := hl
  refine lv_iload_n hx hb d_MD_padAt_0 rfl (lv_at hl 1 rfl) ?_
  refine lv_aload_n hx hb d_MD_padAt_1 rfl (lv_at hl 0 rfl) ?_
  refine va_get (D := (dC, dI)) (ci := 10) (v := .int (nI pn)) (C := R_MD) (T := T_MD) (N := 32) hx hb hts iMD hown hK hP 0 rfl rfl 2 (by decide) (hts _ (wb_MD_padAt _ b_670)) (fun _ h9 => h9) rfl d_MD_padAt_2 ?_
  refine lv_icmp_ge (tgt := 17) hx hb d_MD_padAt_5 (by decide) (fun c5 => ?_) (fun c5 => ?_)
  · have hge : pn ≤ k := (nI_leI (show pn < 2147483648 by omega) (show k < 2147483648 by omega)).mp c5
    refine lv_iconst (v := (-1)) hx hb d_MD_padAt_17 (by decide) ?_
    exact W.iret (v := (-1)) hx hb hr (fun t ht hW => ⟨⟨(-1), (), rfl, by rw [if_neg (by omega)], trivial⟩, hS.F ht⟩) hS.2.2 d_MD_padAt_18
  · have hlt : k < pn := Nat.lt_of_not_le (mt (nI_leI (show pn < 2147483648 by omega) (show k < 2147483648 by omega)).mpr c5)
    refine lv_aload_n hx hb d_MD_padAt_8 rfl (lv_at hl 0 rfl) ?_
    refine va_get (D := (dC, dI)) (ci := 10) (v := .ref mPd) (C := R_MD) (T := T_MD) (N := 32) hx hb hts iMD hown hK hP 0 rfl rfl 1 (by decide) (hts _ (wb_MD_padAt _ b_669)) (fun _ h9 => h9) rfl d_MD_padAt_9 ?_
    refine lv_iload_n hx hb d_MD_padAt_12 rfl (lv_at hl 1 rfl) ?_
    refine vz_iald (k := k) hx hb hK hP 1 0 rfl rfl (by omega) (by decide) d_MD_padAt_13 ?_
    refine lv_goto (tgt := 18) hx hb d_MD_padAt_14 (by decide) ?_
    exact W.iret (v := pd k) hx hb hr (fun t ht hW => ⟨⟨pd k, (), rfl, by rw [if_pos hlt], trivial⟩, hS.F ht⟩) hS.2.2 d_MD_padAt_18

theorem thrB_z {a b c : Int32} (h : thrF a b c = 0) : thrB a b c = 0 := by
  unfold thrF at h
  unfold thrB
  by_cases h1 : a = 0 <;> by_cases h2 : b = 0 <;> by_cases h3 : c = 0 <;> simp_all
theorem thrF_z {a b c : Int32} (h : thrB a b c = 0) : thrF a b c = 0 := by
  unfold thrB at h
  unfold thrF
  by_cases h1 : a = 0 <;> by_cases h2 : b = 0 <;> by_cases h3 : c = 0 <;> simp_all
/-- 1 where one of two is 0 -/
def orN (a b : Int32) : Int32 := if a = 0 then 1 else if b = 0 then 1 else 0
def eqF (a b : Int32) : Int32 := if a = b then 1 else 0

set_option maxHeartbeats 4000000 in
set_option maxRecDepth 100000 in
theorem c_MD_dropB (l : Launch) (dC : Nat → ClassId) (dI : Nat → Nat → Nat) (sz : Nat) (g mPd mSg mSz mTo mRo mLi mKi mCo mEm mVa mA1 mA2 mA3 mA4 mLk mEx mQp mQd : Nat) (th : Int32) (pn bn en hn an ln xn qn : Nat) (wh wt fd pp wn : Int32) (x0 : Int32) (hok : ¬ thrF (notF (inF x0 0 (nI bn - 1))) 0 0 = 0) : Met l y_MD_drop ws_MD_drop ({ frames := 1, cells := 0, slots := 0, locals := 23 }) (va_Pc [.ref g, .int x0] (fun U => U.heap.size = sz ∧ va_P (dC, dI) vwCl [(g, .inr (10, [.int th, .ref mPd, .int (nI pn), .int (nI bn), .ref mSg, .ref mSz, .ref mTo, .int (nI en), .ref mRo, .ref mLi, .int (nI hn), .ref mKi, .ref mCo, .ref mEm, .ref mVa, .int (nI an), .ref mA1, .ref mA2, .ref mA3, .ref mA4, .int (nI ln), .ref mLk, .int (nI xn), .ref mEx, .int (nI qn), .ref mQp, .ref mQd, .int wh, .int wt, .int fd, .int pp, .int wn]))] U.heap ∧ va_K (dC, dI) vwCl [] U ∧ va_D (fun _ => True) [(g, .inr (10, [.int th, .ref mPd, .int (nI pn), .int (nI bn), .ref mSg, .ref mSz, .ref mTo, .int (nI en), .ref mRo, .ref mLi, .int (nI hn), .ref mKi, .ref mCo, .ref mEm, .ref mVa, .int (nI an), .ref mA1, .ref mA2, .ref mA3, .ref mA4, .int (nI ln), .ref mLk, .int (nI xn), .ref mEx, .int (nI qn), .ref mQp, .ref mQd, .int wh, .int wt, .int fd, .int pp, .int wn]))])) (va_Qi (fun (res : Int32) (_ : Unit) => res = 0) (fun _ t => va_P (dC, dI) vwCl [(g, .inr (10, [.int (thrF (notF (inF x0 0 (nI bn - 1))) 0 0), .ref mPd, .int (nI pn), .int (nI bn), .ref mSg, .ref mSz, .ref mTo, .int (nI en), .ref mRo, .ref mLi, .int (nI hn), .ref mKi, .ref mCo, .ref mEm, .ref mVa, .int (nI an), .ref mA1, .ref mA2, .ref mA3, .ref mA4, .int (nI ln), .ref mLk, .int (nI xn), .ref mEx, .int (nI qn), .ref mQp, .ref mQd, .int wh, .int wt, .int fd, .int pp, .int wn]))] t.heap ∧ va_K (dC, dI) vwCl [] t ∧ va_D (va_A [(g, .inr (10, [.int th, .ref mPd, .int (nI pn), .int (nI bn), .ref mSg, .ref mSz, .ref mTo, .int (nI en), .ref mRo, .ref mLi, .int (nI hn), .ref mKi, .ref mCo, .ref mEm, .ref mVa, .int (nI an), .ref mA1, .ref mA2, .ref mA3, .ref mA4, .int (nI ln), .ref mLk, .int (nI xn), .ref mEx, .int (nI qn), .ref mQp, .ref mQd, .int wh, .int wt, .int fd, .int pp, .int wn]))] sz) [(g, .inr (10, [.int (thrF (notF (inF x0 0 (nI bn - 1))) 0 0), .ref mPd, .int (nI pn), .int (nI bn), .ref mSg, .ref mSz, .ref mTo, .int (nI en), .ref mRo, .ref mLi, .int (nI hn), .ref mKi, .ref mCo, .ref mEm, .ref mVa, .int (nI an), .ref mA1, .ref mA2, .ref mA3, .ref mA4, .int (nI ln), .ref mLk, .int (nI xn), .ref mEx, .int (nI qn), .ref mQp, .ref mQd, .int wh, .int wt, .int fd, .int pp, .int wn]))]) (va_A [(g, .inr (10, [.int th, .ref mPd, .int (nI pn), .int (nI bn), .ref mSg, .ref mSz, .ref mTo, .int (nI en), .ref mRo, .ref mLi, .int (nI hn), .ref mKi, .ref mCo, .ref mEm, .ref mVa, .int (nI an), .ref mA1, .ref mA2, .ref mA3, .ref mA4, .int (nI ln), .ref mLk, .int (nI xn), .ref mEx, .int (nI qn), .ref mQp, .ref mQd, .int wh, .int wt, .int fd, .int pp, .int wn]))] sz)) 0 0 (va_A [(g, .inr (10, [.int th, .ref mPd, .int (nI pn), .int (nI bn), .ref mSg, .ref mSz, .ref mTo, .int (nI en), .ref mRo, .ref mLi, .int (nI hn), .ref mKi, .ref mCo, .ref mEm, .ref mVa, .int (nI an), .ref mA1, .ref mA2, .ref mA3, .ref mA4, .int (nI ln), .ref mLk, .int (nI xn), .ref mEx, .int (nI qn), .ref mQp, .ref mQd, .int wh, .int wt, .int fd, .int pp, .int wn]))] sz) := by
  refine Met.ofW (cc := k_MD_drop) (maxL := 3) (ret := (some .boolean)) (by decide) rfl ?_
  intro p e s m args below meth c s₁ B hml hv
  obtain ⟨rfl, hsz, hP, hK, hD0⟩ := hv
  have hx := B.exec
  have hb := B.bytes
  have hr := B.returns
  have hts := atoms_spec (ws := ws_MD_drop) B.pre
  have hown : s.vm.findClass R_MD = some m.cls := findClass_of_methodNamed B.named
  have hlocks := B.notSynchronized
  subst hsz
  have hD := hD0.self (sz := s.heap.size)
  generalize hAe : va_A [(g, .inr (10, [.int th, .ref mPd, .int (nI pn), .int (nI bn), .ref mSg, .ref mSz, .ref mTo, .int (nI en), .ref mRo, .ref mLi, .int (nI hn), .ref mKi, .ref mCo, .ref mEm, .ref mVa, .int (nI an), .ref mA1, .ref mA2, .ref mA3, .ref mA4, .int (nI ln), .ref mLk, .int (nI xn), .ref mEx, .int (nI qn), .ref mQp, .ref mQd, .int wh, .int wt, .int fd, .int pp, .int wn]))] s.heap.size = A at hD ⊢
  have hA : ∀ q : Nat, s.heap.size ≤ q → A q := fun q h => by rw [← hAe]; exact Or.inr h
  have hS : va_S A s.heap s.heap [] := va_S.rf
  have hP : va_P (dC, dI) vwCl [(g, .inr (10, [.int th, .ref mPd, .int (nI pn), .int (nI bn), .ref mSg, .ref mSz, .ref mTo, .int (nI en), .ref mRo, .ref mLi, .int (nI hn), .ref mKi, .ref mCo, .ref mEm, .ref mVa, .int (nI an), .ref mA1, .ref mA2, .ref mA3, .ref mA4, .int (nI ln), .ref mLk, .int (nI xn), .ref mEx, .int (nI qn), .ref mQp, .ref mQd, .int wh, .int wt, .int fd, .int pp, .int wn]))] s.heap := hP
  have iMD : ∀ w ∈ u_ws R_MD T_MD 32, w ∈ ws_MD_drop := fun w h => wb_MD_drop w (in_MD w h)
  have hl := lv_entry ([.ref g, .int x0]) (n := 3) (Nat.le_of_ble_eq_true rfl)
  rw [lg_entry_eq]
  generalize (lg_sl ([.ref g, .int x0]) ++ List.replicate (3 - (lg_sl ([.ref g, .int x0])).length) Slot.unset).toArray = ls at hl ⊢
  have hl : lv_has ls 3 [(0, .ref g), (1, .int x0)] := hl
  refine lv_aload_n hx hb d_MD_drop_0 rfl (lv_at hl 0 rfl) ?_
  refine vz_join 20 [.ref g] (fun b9 H9 locs9 ls9 => (b9 = notF (inF x0 0 (nI bn - 1))) ∧ va_P (dC, dI) vwCl [(g, .inr (10, [.int th, .ref mPd, .int (nI pn), .int (nI bn), .ref mSg, .ref mSz, .ref mTo, .int (nI en), .ref mRo, .ref mLi, .int (nI hn), .ref mKi, .ref mCo, .ref mEm, .ref mVa, .int (nI an), .ref mA1, .ref mA2, .ref mA3, .ref mA4, .int (nI ln), .ref mLk, .int (nI xn), .ref mEx, .int (nI qn), .ref mQp, .ref mQd, .int wh, .int wt, .int fd, .int pp, .int wn]))] H9 ∧ va_D A [(g, .inr (10, [.int th, .ref mPd, .int (nI pn), .int (nI bn), .ref mSg, .ref mSz, .ref mTo, .int (nI en), .ref mRo, .ref mLi, .int (nI hn), .ref mKi, .ref mCo, .ref mEm, .ref mVa, .int (nI an), .ref mA1, .ref mA2, .ref mA3, .ref mA4, .int (nI ln), .ref mLk, .int (nI xn), .ref mEx, .int (nI qn), .ref mQp, .ref mQd, .int wh, .int wt, .int fd, .int pp, .int wn]))] ∧ va_S A s.heap H9 locs9 ∧ lv_has ls9 3 [(0, .ref g), (1, .int x0)]) (fun b9 H locs ls h9 => ?_) (fun k20 => ?_)
  · obtain ⟨rfl, hP, hD, hS, hl⟩ := h9
    refine lv_iconst (v := 0) hx hb d_MD_drop_20 (by decide) ?_
    refine lv_iconst (v := 0) hx hb d_MD_drop_21 (by decide) ?_
    have hPc := hP.sub (ws' := [(g, .inr (10, [.int th, .ref mPd, .int (nI pn), .int (nI bn), .ref mSg, .ref mSz, .ref mTo, .int (nI en), .ref mRo, .ref mLi, .int (nI hn), .ref mKi, .ref mCo, .ref mEm, .ref mVa, .int (nI an), .ref mA1, .ref mA2, .ref mA3, .ref mA4, .int (nI ln), .ref mLk, .int (nI xn), .ref mEx, .int (nI qn), .ref mQp, .ref mQd, .int wh, .int wt, .int fd, .int pp, .int wn]))]) [0] rfl
    have hKc := hK.sub (tys' := []) [] rfl
    have hDc := hD.sub (ws' := [(g, .inr (10, [.int th, .ref mPd, .int (nI pn), .int (nI bn), .ref mSg, .ref mSz, .ref mTo, .int (nI en), .ref mRo, .ref mLi, .int (nI hn), .ref mKi, .ref mCo, .ref mEm, .ref mVa, .int (nI an), .ref mA1, .ref mA2, .ref mA3, .ref mA4, .int (nI ln), .ref mLk, .int (nI xn), .ref mEx, .int (nI qn), .ref mQp, .ref mQd, .int wh, .int wt, .int fd, .int pp, .int wn]))]) [0] (by decide) rfl
    have hFc := va_free (wc := [(g, .inr (10, [.int th, .ref mPd, .int (nI pn), .int (nI bn), .ref mSg, .ref mSz, .ref mTo, .int (nI en), .ref mRo, .ref mLi, .int (nI hn), .ref mKi, .ref mCo, .ref mEm, .ref mVa, .int (nI an), .ref mA1, .ref mA2, .ref mA3, .ref mA4, .int (nI ln), .ref mLk, .int (nI xn), .ref mEx, .int (nI qn), .ref mQp, .ref mQd, .int wh, .int wt, .int fd, .int pp, .int wn]))]) hD hS hA [0] rfl
    refine va_calli (va_runV (As := [.int (notF (inF x0 0 (nI bn - 1))), .int 0, .int 0]) (rest := []) ⟨hx, hb, hml, hown, hts⟩ (c_MD_throwing l dC dI H.size g mPd mSg mSz mTo mRo mLi mKi mCo mEm mVa mA1 mA2 mA3 mA4 mLk mEx mQp mQd th pn bn en hn an ln xn qn wh wt fd pp wn (notF (inF x0 0 (nI bn - 1))) 0 0) (cwV 3 hts (vz_gV wb_MD_drop b_777 b_779 bs_15 b_11 wc_MD_throwing) rfl rfl rfl (by decide +kernel) ⟨Nat.le_of_ble_eq_true rfl, Nat.le_of_ble_eq_true rfl⟩) (vz_preVw (A := A) hPc hKc hDc (ci := 10) (q0 := 0) rfl rfl) rfl rfl hl.1 rfl (lv_room (Nat.le_of_ble_eq_true rfl)) d_MD_drop_22 ⟨Nat.le_of_ble_eq_true rfl, Nat.le_of_ble_eq_true rfl⟩) hS (fun q _ h => hFc q h) hFc (fun r22 u9 t9 H1 locs ht hvm hr22 hB hzx9 hkx9 hS => ?_)
    try dsimp only at hr22
    obtain ⟨hP1, hK1, hD1⟩ := hB
    rw [ht] at hP1
    obtain ⟨hP, hD⟩ := va_join (wr := []) (w1 := [(g, .inr (10, [.int (thrF (notF (inF x0 0 (nI bn - 1))) 0 0), .ref mPd, .int (nI pn), .int (nI bn), .ref mSg, .ref mSz, .ref mTo, .int (nI en), .ref mRo, .ref mLi, .int (nI hn), .ref mKi, .ref mCo, .ref mEm, .ref mVa, .int (nI an), .ref mA1, .ref mA2, .ref mA3, .ref mA4, .int (nI ln), .ref mLk, .int (nI xn), .ref mEx, .int (nI qn), .ref mQp, .ref mQd, .int wh, .int wt, .int fd, .int pp, .int wn]))]) hP hD [0] [] rfl rfl (by decide) (by decide) hkx9 hFc hP1 hD1
    generalize H1 = H at hP hS ⊢
    have hP : va_P (dC, dI) vwCl [(g, .inr (10, [.int (thrF (notF (inF x0 0 (nI bn - 1))) 0 0), .ref mPd, .int (nI pn), .int (nI bn), .ref mSg, .ref mSz, .ref mTo, .int (nI en), .ref mRo, .ref mLi, .int (nI hn), .ref mKi, .ref mCo, .ref mEm, .ref mVa, .int (nI an), .ref mA1, .ref mA2, .ref mA3, .ref mA4, .int (nI ln), .ref mLk, .int (nI xn), .ref mEx, .int (nI qn), .ref mQp, .ref mQd, .int wh, .int wt, .int fd, .int pp, .int wn]))] H := hP
    have hD : va_D A [(g, .inr (10, [.int (thrF (notF (inF x0 0 (nI bn - 1))) 0 0), .ref mPd, .int (nI pn), .int (nI bn), .ref mSg, .ref mSz, .ref mTo, .int (nI en), .ref mRo, .ref mLi, .int (nI hn), .ref mKi, .ref mCo, .ref mEm, .ref mVa, .int (nI an), .ref mA1, .ref mA2, .ref mA3, .ref mA4, .int (nI ln), .ref mLk, .int (nI xn), .ref mEx, .int (nI qn), .ref mQp, .ref mQd, .int wh, .int wt, .int fd, .int pp, .int wn]))] := hD
    refine lv_if_eq (tgt := 30) hx hb d_MD_drop_25 (by decide) (fun c25 => ?_) (fun c25 => ?_)
    · exact absurd (thrF_z (hr22.symm.trans c25)) hok
    · refine lv_iconst (v := 0) hx hb d_MD_drop_28 (by decide) ?_
      have hP9 := hP.sub (ws' := [(g, .inr (10, [.int (thrF (notF (inF x0 0 (nI bn - 1))) 0 0), .ref mPd, .int (nI pn), .int (nI bn), .ref mSg, .ref mSz, .ref mTo, .int (nI en), .ref mRo, .ref mLi, .int (nI hn), .ref mKi, .ref mCo, .ref mEm, .ref mVa, .int (nI an), .ref mA1, .ref mA2, .ref mA3, .ref mA4, .int (nI ln), .ref mLk, .int (nI xn), .ref mEx, .int (nI qn), .ref mQp, .ref mQd, .int wh, .int wt, .int fd, .int pp, .int wn]))]) [0] rfl
      have hD9 := hD.sub (ws' := [(g, .inr (10, [.int (thrF (notF (inF x0 0 (nI bn - 1))) 0 0), .ref mPd, .int (nI pn), .int (nI bn), .ref mSg, .ref mSz, .ref mTo, .int (nI en), .ref mRo, .ref mLi, .int (nI hn), .ref mKi, .ref mCo, .ref mEm, .ref mVa, .int (nI an), .ref mA1, .ref mA2, .ref mA3, .ref mA4, .int (nI ln), .ref mLk, .int (nI xn), .ref mEx, .int (nI qn), .ref mQp, .ref mQd, .int wh, .int wt, .int fd, .int pp, .int wn]))]) [0] (by decide) rfl
      exact W.zret (v := 0) hx hb hr (rfl) (fun t ht hW => ⟨⟨0, (), rfl, rfl, by rw [ht]; exact hP9, va_K.moved hW.alike hK, hD9⟩, hS.F ht⟩) hS.2.2 d_MD_drop_29
  · refine lv_iload_n hx hb d_MD_drop_1 rfl (lv_at hl 1 rfl) ?_
    refine lv_iconst (v := 0) hx hb d_MD_drop_2 (by decide) ?_
    refine lv_aload_n hx hb d_MD_drop_3 rfl (lv_at hl 0 rfl) ?_
    refine va_get (D := (dC, dI)) (ci := 10) (v := .int (nI bn)) (C := R_MD) (T := T_MD) (N := 32) hx hb hts iMD hown hK hP 0 rfl rfl 3 (by decide) (hts _ (wb_MD_drop _ b_671)) (fun _ h9 => h9) rfl d_MD_drop_4 ?_
    refine lv_iconst (v := 1) hx hb d_MD_drop_7 (by decide) ?_
    refine lv_isub hx hb d_MD_drop_8 ?_
    have hPc := hP.sub (ws' := []) [] rfl
    have hKc := hK.sub (tys' := []) [] rfl
    refine va_calli (va_runS (As := [.int x0, .int 0, .int ((nI bn) - 1)]) (rest := [.ref g]) ⟨hx, hb, hml, hown, hts⟩ (c_MD_in l dC dI x0 0 ((nI bn) - 1)) (va_cwS 3 hts (vz_gS wb_MD_drop b_796 b_797 b_11 wc_MD_in) rfl rfl rfl (by decide +kernel) ⟨Nat.le_of_ble_eq_true rfl, Nat.le_of_ble_eq_true rfl⟩) (vz_preS hPc hKc) rfl rfl hl.1 rfl (lv_room (Nat.le_of_ble_eq_true rfl)) d_MD_drop_9 ⟨Nat.le_of_ble_eq_true rfl, Nat.le_of_ble_eq_true rfl⟩) hS (fun q _ h => False.elim h) (fun q h => False.elim h) (fun r9 u9 t9 H1 locs ht hvm hr9 hB hzx9 hkx9 hS => ?_)
    try dsimp only at hr9
    have hP := vz_kept hP hkx9
    generalize H1 = H at hP hS ⊢
    refine lv_if_ne (tgt := 19) hx hb d_MD_drop_12 (by decide) (fun c12 => ?_) (fun c12 => ?_)
    · refine lv_iconst (v := 0) hx hb d_MD_drop_19 (by decide) ?_
      exact k20 _ _ _ _ ⟨by simp [notF, ← hr9, c12], hP, hD, hS, lv_sub hl [0, 1] rfl⟩
    · refine lv_iconst (v := 1) hx hb d_MD_drop_15 (by decide) ?_
      refine lv_goto (tgt := 20) hx hb d_MD_drop_16 (by decide) ?_
      exact k20 _ _ _ _ ⟨by simp [notF, ← hr9, c12], hP, hD, hS, lv_sub hl [0, 1] rfl⟩

set_option maxHeartbeats 4000000 in
set_option maxRecDepth 100000 in
theorem c_MD_dropG (l : Launch) (dC : Nat → ClassId) (dI : Nat → Nat → Nat) (sz : Nat) (cZ : ClassId) (g mPd mSg mSz mTo mRo mLi mKi mCo mEm mVa mA1 mA2 mA3 mA4 mLk mEx mQp mQd : Nat) (th : Int32) (pn bn en hn an ln xn qn : Nat) (wh wt fd pp wn : Int32) (to_ : Nat → Int32) (hbn : bn ≤ 20) (htz : ∀ k, to_ k = 0 ∨ to_ k = 1) (j : Nat) (hj : j < bn) (hok : thrF (notF (inF (nI j) 0 (nI bn - 1))) 0 0 = 0) : Met l y_MD_drop ws_MD_drop ({ frames := 1, cells := 0, slots := 0, locals := 23 }) (va_Pc [.ref g, .int (nI j)] (fun U => U.heap.size = sz ∧ va_P (dC, dI) vwCl [(g, .inr (10, [.int th, .ref mPd, .int (nI pn), .int (nI bn), .ref mSg, .ref mSz, .ref mTo, .int (nI en), .ref mRo, .ref mLi, .int (nI hn), .ref mKi, .ref mCo, .ref mEm, .ref mVa, .int (nI an), .ref mA1, .ref mA2, .ref mA3, .ref mA4, .int (nI ln), .ref mLk, .int (nI xn), .ref mEx, .int (nI qn), .ref mQp, .ref mQd, .int wh, .int wt, .int fd, .int pp, .int wn])), (mTo, .inl (cZ, 20, .inl to_))] U.heap ∧ va_K (dC, dI) vwCl [(cZ, .boolean)] U ∧ va_D (fun _ => True) [(g, .inr (10, [.int th, .ref mPd, .int (nI pn), .int (nI bn), .ref mSg, .ref mSz, .ref mTo, .int (nI en), .ref mRo, .ref mLi, .int (nI hn), .ref mKi, .ref mCo, .ref mEm, .ref mVa, .int (nI an), .ref mA1, .ref mA2, .ref mA3, .ref mA4, .int (nI ln), .ref mLk, .int (nI xn), .ref mEx, .int (nI qn), .ref mQp, .ref mQd, .int wh, .int wt, .int fd, .int pp, .int wn])), (mTo, .inl (cZ, 20, .inl to_))])) (va_Qi (fun (res : Int32) (_ : Unit) => res = to_ j) (fun _ t => va_P (dC, dI) vwCl [(g, .inr (10, [.int (thrF (notF (inF (nI j) 0 (nI bn - 1))) 0 0), .ref mPd, .int (nI pn), .int (nI bn), .ref mSg, .ref mSz, .ref mTo, .int (nI en), .ref mRo, .ref mLi, .int (nI hn), .ref mKi, .ref mCo, .ref mEm, .ref mVa, .int (nI an), .ref mA1, .ref mA2, .ref mA3, .ref mA4, .int (nI ln), .ref mLk, .int (nI xn), .ref mEx, .int (nI qn), .ref mQp, .ref mQd, .int wh, .int wt, .int fd, .int pp, .int wn])), (mTo, .inl (cZ, 20, .inl (upd to_ j (vp_nar .boolean 0))))] t.heap ∧ va_K (dC, dI) vwCl [(cZ, .boolean)] t ∧ va_D (va_A [(g, .inr (10, [.int th, .ref mPd, .int (nI pn), .int (nI bn), .ref mSg, .ref mSz, .ref mTo, .int (nI en), .ref mRo, .ref mLi, .int (nI hn), .ref mKi, .ref mCo, .ref mEm, .ref mVa, .int (nI an), .ref mA1, .ref mA2, .ref mA3, .ref mA4, .int (nI ln), .ref mLk, .int (nI xn), .ref mEx, .int (nI qn), .ref mQp, .ref mQd, .int wh, .int wt, .int fd, .int pp, .int wn])), (mTo, .inl (cZ, 20, .inl to_))] sz) [(g, .inr (10, [.int (thrF (notF (inF (nI j) 0 (nI bn - 1))) 0 0), .ref mPd, .int (nI pn), .int (nI bn), .ref mSg, .ref mSz, .ref mTo, .int (nI en), .ref mRo, .ref mLi, .int (nI hn), .ref mKi, .ref mCo, .ref mEm, .ref mVa, .int (nI an), .ref mA1, .ref mA2, .ref mA3, .ref mA4, .int (nI ln), .ref mLk, .int (nI xn), .ref mEx, .int (nI qn), .ref mQp, .ref mQd, .int wh, .int wt, .int fd, .int pp, .int wn])), (mTo, .inl (cZ, 20, .inl (upd to_ j (vp_nar .boolean 0))))]) (va_A [(g, .inr (10, [.int th, .ref mPd, .int (nI pn), .int (nI bn), .ref mSg, .ref mSz, .ref mTo, .int (nI en), .ref mRo, .ref mLi, .int (nI hn), .ref mKi, .ref mCo, .ref mEm, .ref mVa, .int (nI an), .ref mA1, .ref mA2, .ref mA3, .ref mA4, .int (nI ln), .ref mLk, .int (nI xn), .ref mEx, .int (nI qn), .ref mQp, .ref mQd, .int wh, .int wt, .int fd, .int pp, .int wn])), (mTo, .inl (cZ, 20, .inl to_))] sz)) 0 0 (va_A [(g, .inr (10, [.int th, .ref mPd, .int (nI pn), .int (nI bn), .ref mSg, .ref mSz, .ref mTo, .int (nI en), .ref mRo, .ref mLi, .int (nI hn), .ref mKi, .ref mCo, .ref mEm, .ref mVa, .int (nI an), .ref mA1, .ref mA2, .ref mA3, .ref mA4, .int (nI ln), .ref mLk, .int (nI xn), .ref mEx, .int (nI qn), .ref mQp, .ref mQd, .int wh, .int wt, .int fd, .int pp, .int wn])), (mTo, .inl (cZ, 20, .inl to_))] sz) := by
  refine Met.ofW (cc := k_MD_drop) (maxL := 3) (ret := (some .boolean)) (by decide) rfl ?_
  intro p e s m args below meth c s₁ B hml hv
  obtain ⟨rfl, hsz, hP, hK, hD0⟩ := hv
  have hx := B.exec
  have hb := B.bytes
  have hr := B.returns
  have hts := atoms_spec (ws := ws_MD_drop) B.pre
  have hown : s.vm.findClass R_MD = some m.cls := findClass_of_methodNamed B.named
  have hlocks := B.notSynchronized
  subst hsz
  have hD := hD0.self (sz := s.heap.size)
  generalize hAe : va_A [(g, .inr (10, [.int th, .ref mPd, .int (nI pn), .int (nI bn), .ref mSg, .ref mSz, .ref mTo, .int (nI en), .ref mRo, .ref mLi, .int (nI hn), .ref mKi, .ref mCo, .ref mEm, .ref mVa, .int (nI an), .ref mA1, .ref mA2, .ref mA3, .ref mA4, .int (nI ln), .ref mLk, .int (nI xn), .ref mEx, .int (nI qn), .ref mQp, .ref mQd, .int wh, .int wt, .int fd, .int pp, .int wn])), (mTo, .inl (cZ, 20, .inl to_))] s.heap.size = A at hD ⊢
  have hA : ∀ q : Nat, s.heap.size ≤ q → A q := fun q h => by rw [← hAe]; exact Or.inr h
  have hS : va_S A s.heap s.heap [] := va_S.rf
  have hP : va_P (dC, dI) vwCl [(g, .inr (10, [.int th, .ref mPd, .int (nI pn), .int (nI bn), .ref mSg, .ref mSz, .ref mTo, .int (nI en), .ref mRo, .ref mLi, .int (nI hn), .ref mKi, .ref mCo, .ref mEm, .ref mVa, .int (nI an), .ref mA1, .ref mA2, .ref mA3, .ref mA4, .int (nI ln), .ref mLk, .int (nI xn), .ref mEx, .int (nI qn), .ref mQp, .ref mQd, .int wh, .int wt, .int fd, .int pp, .int wn])), (mTo, .inl (cZ, 20, .inl to_))] s.heap := hP
  have iMD : ∀ w ∈ u_ws R_MD T_MD 32, w ∈ ws_MD_drop := fun w h => wb_MD_drop w (in_MD w h)
  have hl := lv_entry ([.ref g, .int (nI j)]) (n := 3) (Nat.le_of_ble_eq_true rfl)
  rw [lg_entry_eq]
  generalize (lg_sl ([.ref g, .int (nI j)]) ++ List.replicate (3 - (lg_sl ([.ref g, .int (nI j)])).length) Slot.unset).toArray = ls at hl ⊢
  have hl : lv_has ls 3 [(0, .ref g), (1, .int (nI j))] := hl
  refine lv_aload_n hx hb d_MD_drop_0 rfl (lv_at hl 0 rfl) ?_
  refine vz_join 20 [.ref g] (fun b9 H9 locs9 ls9 => (b9 = notF (inF (nI j) 0 (nI bn - 1))) ∧ va_P (dC, dI) vwCl [(g, .inr (10, [.int th, .ref mPd, .int (nI pn), .int (nI bn), .ref mSg, .ref mSz, .ref mTo, .int (nI en), .ref mRo, .ref mLi, .int (nI hn), .ref mKi, .ref mCo, .ref mEm, .ref mVa, .int (nI an), .ref mA1, .ref mA2, .ref mA3, .ref mA4, .int (nI ln), .ref mLk, .int (nI xn), .ref mEx, .int (nI qn), .ref mQp, .ref mQd, .int wh, .int wt, .int fd, .int pp, .int wn])), (mTo, .inl (cZ, 20, .inl to_))] H9 ∧ va_D A [(g, .inr (10, [.int th, .ref mPd, .int (nI pn), .int (nI bn), .ref mSg, .ref mSz, .ref mTo, .int (nI en), .ref mRo, .ref mLi, .int (nI hn), .ref mKi, .ref mCo, .ref mEm, .ref mVa, .int (nI an), .ref mA1, .ref mA2, .ref mA3, .ref mA4, .int (nI ln), .ref mLk, .int (nI xn), .ref mEx, .int (nI qn), .ref mQp, .ref mQd, .int wh, .int wt, .int fd, .int pp, .int wn])), (mTo, .inl (cZ, 20, .inl to_))] ∧ va_S A s.heap H9 locs9 ∧ lv_has ls9 3 [(0, .ref g), (1, .int (nI j))]) (fun b9 H locs ls h9 => ?_) (fun k20 => ?_)
  · obtain ⟨rfl, hP, hD, hS, hl⟩ := h9
    refine lv_iconst (v := 0) hx hb d_MD_drop_20 (by decide) ?_
    refine lv_iconst (v := 0) hx hb d_MD_drop_21 (by decide) ?_
    have hPc := hP.sub (ws' := [(g, .inr (10, [.int th, .ref mPd, .int (nI pn), .int (nI bn), .ref mSg, .ref mSz, .ref mTo, .int (nI en), .ref mRo, .ref mLi, .int (nI hn), .ref mKi, .ref mCo, .ref mEm, .ref mVa, .int (nI an), .ref mA1, .ref mA2, .ref mA3, .ref mA4, .int (nI ln), .ref mLk, .int (nI xn), .ref mEx, .int (nI qn), .ref mQp, .ref mQd, .int wh, .int wt, .int fd, .int pp, .int wn]))]) [0] rfl
    have hKc := hK.sub (tys' := []) [] rfl
    have hDc := hD.sub (ws' := [(g, .inr (10, [.int th, .ref mPd, .int (nI pn), .int (nI bn), .ref mSg, .ref mSz, .ref mTo, .int (nI en), .ref mRo, .ref mLi, .int (nI hn), .ref mKi, .ref mCo, .ref mEm, .ref mVa, .int (nI an), .ref mA1, .ref mA2, .ref mA3, .ref mA4, .int (nI ln), .ref mLk, .int (nI xn), .ref mEx, .int (nI qn), .ref mQp, .ref mQd, .int wh, .int wt, .int fd, .int pp, .int wn]))]) [0] (by decide) rfl
    have hFc := va_free (wc := [(g, .inr (10, [.int th, .ref mPd, .int (nI pn), .int (nI bn), .ref mSg, .ref mSz, .ref mTo, .int (nI en), .ref mRo, .ref mLi, .int (nI hn), .ref mKi, .ref mCo, .ref mEm, .ref mVa, .int (nI an), .ref mA1, .ref mA2, .ref mA3, .ref mA4, .int (nI ln), .ref mLk, .int (nI xn), .ref mEx, .int (nI qn), .ref mQp, .ref mQd, .int wh, .int wt, .int fd, .int pp, .int wn]))]) hD hS hA [0] rfl
    refine va_calli (va_runV (As := [.int (notF (inF (nI j) 0 (nI bn - 1))), .int 0, .int 0]) (rest := []) ⟨hx, hb, hml, hown, hts⟩ (c_MD_throwing l dC dI H.size g mPd mSg mSz mTo mRo mLi mKi mCo mEm mVa mA1 mA2 mA3 mA4 mLk mEx mQp mQd th pn bn en hn an ln xn qn wh wt fd pp wn (notF (inF (nI j) 0 (nI bn - 1))) 0 0) (cwV 3 hts (vz_gV wb_MD_drop b_777 b_779 bs_15 b_11 wc_MD_throwing) rfl rfl rfl (by decide +kernel) ⟨Nat.le_of_ble_eq_true rfl, Nat.le_of_ble_eq_true rfl⟩) (vz_preVw (A := A) hPc hKc hDc (ci := 10) (q0 := 0) rfl rfl) rfl rfl hl.1 rfl (lv_room (Nat.le_of_ble_eq_true rfl)) d_MD_drop_22 ⟨Nat.le_of_ble_eq_true rfl, Nat.le_of_ble_eq_true rfl⟩) hS (fun q _ h => hFc q h) hFc (fun r22 u9 t9 H1 locs ht hvm hr22 hB hzx9 hkx9 hS => ?_)
    try dsimp only at hr22
    obtain ⟨hP1, hK1, hD1⟩ := hB
    rw [ht] at hP1
    obtain ⟨hP, hD⟩ := va_join (wr := [(mTo, .inl (cZ, 20, .inl to_))]) (w1 := [(g, .inr (10, [.int (thrF (notF (inF (nI j) 0 (nI bn - 1))) 0 0), .ref mPd, .int (nI pn), .int (nI bn), .ref mSg, .ref mSz, .ref mTo, .int (nI en), .ref mRo, .ref mLi, .int (nI hn), .ref mKi, .ref mCo, .ref mEm, .ref mVa, .int (nI an), .ref mA1, .ref mA2, .ref mA3, .ref mA4, .int (nI ln), .ref mLk, .int (nI xn), .ref mEx, .int (nI qn), .ref mQp, .ref mQd, .int wh, .int wt, .int fd, .int pp, .int wn]))]) hP hD [0] [1] rfl rfl (by decide) (by decide) hkx9 hFc hP1 hD1
    generalize H1 = H at hP hS ⊢
    have hP : va_P (dC, dI) vwCl [(mTo, .inl (cZ, 20, .inl to_)), (g, .inr (10, [.int (thrF (notF (inF (nI j) 0 (nI bn - 1))) 0 0), .ref mPd, .int (nI pn), .int (nI bn), .ref mSg, .ref mSz, .ref mTo, .int (nI en), .ref mRo, .ref mLi, .int (nI hn), .ref mKi, .ref mCo, .ref mEm, .ref mVa, .int (nI an), .ref mA1, .ref mA2, .ref mA3, .ref mA4, .int (nI ln), .ref mLk, .int (nI xn), .ref mEx, .int (nI qn), .ref mQp, .ref mQd, .int wh, .int wt, .int fd, .int pp, .int wn]))] H := hP
    have hD : va_D A [(mTo, .inl (cZ, 20, .inl to_)), (g, .inr (10, [.int (thrF (notF (inF (nI j) 0 (nI bn - 1))) 0 0), .ref mPd, .int (nI pn), .int (nI bn), .ref mSg, .ref mSz, .ref mTo, .int (nI en), .ref mRo, .ref mLi, .int (nI hn), .ref mKi, .ref mCo, .ref mEm, .ref mVa, .int (nI an), .ref mA1, .ref mA2, .ref mA3, .ref mA4, .int (nI ln), .ref mLk, .int (nI xn), .ref mEx, .int (nI qn), .ref mQp, .ref mQd, .int wh, .int wt, .int fd, .int pp, .int wn]))] := hD
    refine lv_if_eq (tgt := 30) hx hb d_MD_drop_25 (by decide) (fun c25 => ?_) (fun c25 => ?_)
    · refine lv_aload_n hx hb d_MD_drop_30 rfl (lv_at hl 0 rfl) ?_
      refine va_get (D := (dC, dI)) (ci := 10) (v := .ref mTo) (C := R_MD) (T := T_MD) (N := 32) hx hb hts iMD hown hK hP 1 rfl rfl 6 (by decide) (hts _ (wb_MD_drop _ b_674)) (fun _ h9 => h9) rfl d_MD_drop_31 ?_
      refine lv_iload_n hx hb d_MD_drop_34 rfl (lv_at hl 1 rfl) ?_
      refine vz_zald (k := j) hx hb hK hP 0 0 rfl rfl (by omega) (by decide) d_MD_drop_35 ?_
      refine lv_istore_n (lv' := [(2, .int (to_ j)), (0, .ref g), (1, .int (nI j))]) hx hb d_MD_drop_36 rfl hl (by decide) rfl (fun ls hl => ?_)
      refine lv_aload_n hx hb d_MD_drop_37 rfl (lv_at hl 1 rfl) ?_
      refine va_get (D := (dC, dI)) (ci := 10) (v := .ref mTo) (C := R_MD) (T := T_MD) (N := 32) hx hb hts iMD hown hK hP 1 rfl rfl 6 (by decide) (hts _ (wb_MD_drop _ b_674)) (fun _ h9 => h9) rfl d_MD_drop_38 ?_
      refine lv_iload_n hx hb d_MD_drop_41 rfl (lv_at hl 2 rfl) ?_
      refine lv_iconst (v := 0) hx hb d_MD_drop_42 (by decide) ?_
      refine vz_zast (k := j) hx hb hK hP hD hS 0 0 rfl rfl (by omega) (by decide) d_MD_drop_43 (fun H locs hP hD hS => ?_)
      have hP : va_P (dC, dI) vwCl [(mTo, .inl (cZ, 20, .inl (upd to_ j (vp_nar .boolean 0)))), (g, .inr (10, [.int (thrF (notF (inF (nI j) 0 (nI bn - 1))) 0 0), .ref mPd, .int (nI pn), .int (nI bn), .ref mSg, .ref mSz, .ref mTo, .int (nI en), .ref mRo, .ref mLi, .int (nI hn), .ref mKi, .ref mCo, .ref mEm, .ref mVa, .int (nI an), .ref mA1, .ref mA2, .ref mA3, .ref mA4, .int (nI ln), .ref mLk, .int (nI xn), .ref mEx, .int (nI qn), .ref mQp, .ref mQd, .int wh, .int wt, .int fd, .int pp, .int wn]))] H := hP
      have hD : va_D A [(mTo, .inl (cZ, 20, .inl (upd to_ j (vp_nar .boolean 0)))), (g, .inr (10, [.int (thrF (notF (inF (nI j) 0 (nI bn - 1))) 0 0), .ref mPd, .int (nI pn), .int (nI bn), .ref mSg, .ref mSz, .ref mTo, .int (nI en), .ref mRo, .ref mLi, .int (nI hn), .ref mKi, .ref mCo, .ref mEm, .ref mVa, .int (nI an), .ref mA1, .ref mA2, .ref mA3, .ref mA4, .int (nI ln), .ref mLk, .int (nI xn), .ref mEx, .int (nI qn), .ref mQp, .ref mQd, .int wh, .int wt, .int fd, .int pp, .int wn]))] := hD
      refine lv_iload_n hx hb d_MD_drop_44 rfl (lv_at hl 0 rfl) ?_
      have hP9 := hP.sub (ws' := [(g, .inr (10, [.int (thrF (notF (inF (nI j) 0 (nI bn - 1))) 0 0), .ref mPd, .int (nI pn), .int (nI bn), .ref mSg, .ref mSz, .ref mTo, .int (nI en), .ref mRo, .ref mLi, .int (nI hn), .ref mKi, .ref mCo, .ref mEm, .ref mVa, .int (nI an), .ref mA1, .ref mA2, .ref mA3, .ref mA4, .int (nI ln), .ref mLk, .int (nI xn), .ref mEx, .int (nI qn), .ref mQp, .ref mQd, .int wh, .int wt, .int fd, .int pp, .int wn])), (mTo, .inl (cZ, 20, .inl (upd to_ j (vp_nar .boolean 0))))]) [1, 0] rfl
      have hD9 := hD.sub (ws' := [(g, .inr (10, [.int (thrF (notF (inF (nI j) 0 (nI bn - 1))) 0 0), .ref mPd, .int (nI pn), .int (nI bn), .ref mSg, .ref mSz, .ref mTo, .int (nI en), .ref mRo, .ref mLi, .int (nI hn), .ref mKi, .ref mCo, .ref mEm, .ref mVa, .int (nI an), .ref mA1, .ref mA2, .ref mA3, .ref mA4, .int (nI ln), .ref mLk, .int (nI xn), .ref mEx, .int (nI qn), .ref mQp, .ref mQd, .int wh, .int wt, .int fd, .int pp, .int wn])), (mTo, .inl (cZ, 20, .inl (upd to_ j (vp_nar .boolean 0))))]) [1, 0] (by decide) rfl
      exact W.zret (v := to_ j) hx hb hr (by rcases htz j with h9 | h9 <;> rw [h9] <;> rfl) (fun t ht hW => ⟨⟨to_ j, (), rfl, rfl, by rw [ht]; exact hP9, va_K.moved hW.alike hK, hD9⟩, hS.F ht⟩) hS.2.2 d_MD_drop_45
    · exact absurd (hr22.trans (thrB_z hok)) c25
  · refine lv_iload_n hx hb d_MD_drop_1 rfl (lv_at hl 1 rfl) ?_
    refine lv_iconst (v := 0) hx hb d_MD_drop_2 (by decide) ?_
    refine lv_aload_n hx hb d_MD_drop_3 rfl (lv_at hl 0 rfl) ?_
    refine va_get (D := (dC, dI)) (ci := 10) (v := .int (nI bn)) (C := R_MD) (T := T_MD) (N := 32) hx hb hts iMD hown hK hP 0 rfl rfl 3 (by decide) (hts _ (wb_MD_drop _ b_671)) (fun _ h9 => h9) rfl d_MD_drop_4 ?_
    refine lv_iconst (v := 1) hx hb d_MD_drop_7 (by decide) ?_
    refine lv_isub hx hb d_MD_drop_8 ?_
    have hPc := hP.sub (ws' := []) [] rfl
    have hKc := hK.sub (tys' := []) [] rfl
    refine va_calli (va_runS (As := [.int (nI j), .int 0, .int ((nI bn) - 1)]) (rest := [.ref g]) ⟨hx, hb, hml, hown, hts⟩ (c_MD_in l dC dI (nI j) 0 ((nI bn) - 1)) (va_cwS 3 hts (vz_gS wb_MD_drop b_796 b_797 b_11 wc_MD_in) rfl rfl rfl (by decide +kernel) ⟨Nat.le_of_ble_eq_true rfl, Nat.le_of_ble_eq_true rfl⟩) (vz_preS hPc hKc) rfl rfl hl.1 rfl (lv_room (Nat.le_of_ble_eq_true rfl)) d_MD_drop_9 ⟨Nat.le_of_ble_eq_true rfl, Nat.le_of_ble_eq_true rfl⟩) hS (fun q _ h => False.elim h) (fun q h => False.elim h) (fun r9 u9 t9 H1 locs ht hvm hr9 hB hzx9 hkx9 hS => ?_)
    try dsimp only at hr9
    have hP := vz_kept hP hkx9
    generalize H1 = H at hP hS ⊢
    refine lv_if_ne (tgt := 19) hx hb d_MD_drop_12 (by decide) (fun c12 => ?_) (fun c12 => ?_)
    · refine lv_iconst (v := 0) hx hb d_MD_drop_19 (by decide) ?_
      exact k20 _ _ _ _ ⟨by simp [notF, ← hr9, c12], hP, hD, hS, lv_sub hl [0, 1] rfl⟩
    · refine lv_iconst (v := 1) hx hb d_MD_drop_15 (by decide) ?_
      refine lv_goto (tgt := 20) hx hb d_MD_drop_16 (by decide) ?_
      exact k20 _ _ _ _ ⟨by simp [notF, ← hr9, c12], hP, hD, hS, lv_sub hl [0, 1] rfl⟩

set_option maxHeartbeats 4000000 in
set_option maxRecDepth 100000 in
theorem c_MD_personB (l : Launch) (dC : Nat → ClassId) (dI : Nat → Nat → Nat) (sz : Nat) (g mPd mSg mSz mTo mRo mLi mKi mCo mEm mVa mA1 mA2 mA3 mA4 mLk mEx mQp mQd : Nat) (th : Int32) (pn bn en hn an ln xn qn : Nat) (wh wt fd pp wn : Int32) (z : Int32) (hok : ¬ thrF (notF (inF z 0 255)) (eqF (nI en) 12) 0 = 0) : Met l y_MD_person ws_MD_person ({ frames := 1, cells := 0, slots := 0, locals := 23 }) (va_Pc [.ref g, .int z] (fun U => U.heap.size = sz ∧ va_P (dC, dI) vwCl [(g, .inr (10, [.int th, .ref mPd, .int (nI pn), .int (nI bn), .ref mSg, .ref mSz, .ref mTo, .int (nI en), .ref mRo, .ref mLi, .int (nI hn), .ref mKi, .ref mCo, .ref mEm, .ref mVa, .int (nI an), .ref mA1, .ref mA2, .ref mA3, .ref mA4, .int (nI ln), .ref mLk, .int (nI xn), .ref mEx, .int (nI qn), .ref mQp, .ref mQd, .int wh, .int wt, .int fd, .int pp, .int wn]))] U.heap ∧ va_K (dC, dI) vwCl [] U ∧ va_D (fun _ => True) [(g, .inr (10, [.int th, .ref mPd, .int (nI pn), .int (nI bn), .ref mSg, .ref mSz, .ref mTo, .int (nI en), .ref mRo, .ref mLi, .int (nI hn), .ref mKi, .ref mCo, .ref mEm, .ref mVa, .int (nI an), .ref mA1, .ref mA2, .ref mA3, .ref mA4, .int (nI ln), .ref mLk, .int (nI xn), .ref mEx, .int (nI qn), .ref mQp, .ref mQd, .int wh, .int wt, .int fd, .int pp, .int wn]))])) (va_Qi (fun (res : Int32) (_ : Unit) => res = 0) (fun _ t => va_P (dC, dI) vwCl [(g, .inr (10, [.int (thrF (notF (inF z 0 255)) (eqF (nI en) 12) 0), .ref mPd, .int (nI pn), .int (nI bn), .ref mSg, .ref mSz, .ref mTo, .int (nI en), .ref mRo, .ref mLi, .int (nI hn), .ref mKi, .ref mCo, .ref mEm, .ref mVa, .int (nI an), .ref mA1, .ref mA2, .ref mA3, .ref mA4, .int (nI ln), .ref mLk, .int (nI xn), .ref mEx, .int (nI qn), .ref mQp, .ref mQd, .int wh, .int wt, .int fd, .int pp, .int wn]))] t.heap ∧ va_K (dC, dI) vwCl [] t ∧ va_D (va_A [(g, .inr (10, [.int th, .ref mPd, .int (nI pn), .int (nI bn), .ref mSg, .ref mSz, .ref mTo, .int (nI en), .ref mRo, .ref mLi, .int (nI hn), .ref mKi, .ref mCo, .ref mEm, .ref mVa, .int (nI an), .ref mA1, .ref mA2, .ref mA3, .ref mA4, .int (nI ln), .ref mLk, .int (nI xn), .ref mEx, .int (nI qn), .ref mQp, .ref mQd, .int wh, .int wt, .int fd, .int pp, .int wn]))] sz) [(g, .inr (10, [.int (thrF (notF (inF z 0 255)) (eqF (nI en) 12) 0), .ref mPd, .int (nI pn), .int (nI bn), .ref mSg, .ref mSz, .ref mTo, .int (nI en), .ref mRo, .ref mLi, .int (nI hn), .ref mKi, .ref mCo, .ref mEm, .ref mVa, .int (nI an), .ref mA1, .ref mA2, .ref mA3, .ref mA4, .int (nI ln), .ref mLk, .int (nI xn), .ref mEx, .int (nI qn), .ref mQp, .ref mQd, .int wh, .int wt, .int fd, .int pp, .int wn]))]) (va_A [(g, .inr (10, [.int th, .ref mPd, .int (nI pn), .int (nI bn), .ref mSg, .ref mSz, .ref mTo, .int (nI en), .ref mRo, .ref mLi, .int (nI hn), .ref mKi, .ref mCo, .ref mEm, .ref mVa, .int (nI an), .ref mA1, .ref mA2, .ref mA3, .ref mA4, .int (nI ln), .ref mLk, .int (nI xn), .ref mEx, .int (nI qn), .ref mQp, .ref mQd, .int wh, .int wt, .int fd, .int pp, .int wn]))] sz)) 0 0 (va_A [(g, .inr (10, [.int th, .ref mPd, .int (nI pn), .int (nI bn), .ref mSg, .ref mSz, .ref mTo, .int (nI en), .ref mRo, .ref mLi, .int (nI hn), .ref mKi, .ref mCo, .ref mEm, .ref mVa, .int (nI an), .ref mA1, .ref mA2, .ref mA3, .ref mA4, .int (nI ln), .ref mLk, .int (nI xn), .ref mEx, .int (nI qn), .ref mQp, .ref mQd, .int wh, .int wt, .int fd, .int pp, .int wn]))] sz) := by
  refine Met.ofW (cc := k_MD_person) (maxL := 2) (ret := (some .int)) (by decide) rfl ?_
  intro p e s m args below meth c s₁ B hml hv
  obtain ⟨rfl, hsz, hP, hK, hD0⟩ := hv
  have hx := B.exec
  have hb := B.bytes
  have hr := B.returns
  have hts := atoms_spec (ws := ws_MD_person) B.pre
  have hown : s.vm.findClass R_MD = some m.cls := findClass_of_methodNamed B.named
  have hlocks := B.notSynchronized
  subst hsz
  have hD := hD0.self (sz := s.heap.size)
  generalize hAe : va_A [(g, .inr (10, [.int th, .ref mPd, .int (nI pn), .int (nI bn), .ref mSg, .ref mSz, .ref mTo, .int (nI en), .ref mRo, .ref mLi, .int (nI hn), .ref mKi, .ref mCo, .ref mEm, .ref mVa, .int (nI an), .ref mA1, .ref mA2, .ref mA3, .ref mA4, .int (nI ln), .ref mLk, .int (nI xn), .ref mEx, .int (nI qn), .ref mQp, .ref mQd, .int wh, .int wt, .int fd, .int pp, .int wn]))] s.heap.size = A at hD ⊢
  have hA : ∀ q : Nat, s.heap.size ≤ q → A q := fun q h => by rw [← hAe]; exact Or.inr h
  have hS : va_S A s.heap s.heap [] := va_S.rf
  have hP : va_P (dC, dI) vwCl [(g, .inr (10, [.int th, .ref mPd, .int (nI pn), .int (nI bn), .ref mSg, .ref mSz, .ref mTo, .int (nI en), .ref mRo, .ref mLi, .int (nI hn), .ref mKi, .ref mCo, .ref mEm, .ref mVa, .int (nI an), .ref mA1, .ref mA2, .ref mA3, .ref mA4, .int (nI ln), .ref mLk, .int (nI xn), .ref mEx, .int (nI qn), .ref mQp, .ref mQd, .int wh, .int wt, .int fd, .int pp, .int wn]))] s.heap := hP
  have iMD : ∀ w ∈ u_ws R_MD T_MD 32, w ∈ ws_MD_person := fun w h => wb_MD_person w (in_MD w h)
  have hl := lv_entry ([.ref g, .int z]) (n := 2) (Nat.le_of_ble_eq_true rfl)
  rw [lg_entry_eq]
  generalize (lg_sl ([.ref g, .int z]) ++ List.replicate (2 - (lg_sl ([.ref g, .int z])).length) Slot.unset).toArray = ls at hl ⊢
  have hl : lv_has ls 2 [(0, .ref g), (1, .int z)] := hl
  refine lv_aload_n hx hb d_MD_person_0 rfl (lv_at hl 0 rfl) ?_
  refine vz_join 17 [.ref g] (fun b9 H9 locs9 ls9 => (b9 = notF (inF z 0 255)) ∧ va_P (dC, dI) vwCl [(g, .inr (10, [.int th, .ref mPd, .int (nI pn), .int (nI bn), .ref mSg, .ref mSz, .ref mTo, .int (nI en), .ref mRo, .ref mLi, .int (nI hn), .ref mKi, .ref mCo, .ref mEm, .ref mVa, .int (nI an), .ref mA1, .ref mA2, .ref mA3, .ref mA4, .int (nI ln), .ref mLk, .int (nI xn), .ref mEx, .int (nI qn), .ref mQp, .ref mQd, .int wh, .int wt, .int fd, .int pp, .int wn]))] H9 ∧ va_D A [(g, .inr (10, [.int th, .ref mPd, .int (nI pn), .int (nI bn), .ref mSg, .ref mSz, .ref mTo, .int (nI en), .ref mRo, .ref mLi, .int (nI hn), .ref mKi, .ref mCo, .ref mEm, .ref mVa, .int (nI an), .ref mA1, .ref mA2, .ref mA3, .ref mA4, .int (nI ln), .ref mLk, .int (nI xn), .ref mEx, .int (nI qn), .ref mQp, .ref mQd, .int wh, .int wt, .int fd, .int pp, .int wn]))] ∧ va_S A s.heap H9 locs9 ∧ lv_has ls9 2 [(0, .ref g), (1, .int z)]) (fun b9 H locs ls h9 => ?_) (fun k17 => ?_)
  · obtain ⟨rfl, hP, hD, hS, hl⟩ := h9
    refine vz_join 31 [.int (notF (inF z 0 255)), .ref g] (fun b9 H9 locs9 ls9 => (b9 = eqF (nI en) 12) ∧ va_P (dC, dI) vwCl [(g, .inr (10, [.int th, .ref mPd, .int (nI pn), .int (nI bn), .ref mSg, .ref mSz, .ref mTo, .int (nI en), .ref mRo, .ref mLi, .int (nI hn), .ref mKi, .ref mCo, .ref mEm, .ref mVa, .int (nI an), .ref mA1, .ref mA2, .ref mA3, .ref mA4, .int (nI ln), .ref mLk, .int (nI xn), .ref mEx, .int (nI qn), .ref mQp, .ref mQd, .int wh, .int wt, .int fd, .int pp, .int wn]))] H9 ∧ va_D A [(g, .inr (10, [.int th, .ref mPd, .int (nI pn), .int (nI bn), .ref mSg, .ref mSz, .ref mTo, .int (nI en), .ref mRo, .ref mLi, .int (nI hn), .ref mKi, .ref mCo, .ref mEm, .ref mVa, .int (nI an), .ref mA1, .ref mA2, .ref mA3, .ref mA4, .int (nI ln), .ref mLk, .int (nI xn), .ref mEx, .int (nI qn), .ref mQp, .ref mQd, .int wh, .int wt, .int fd, .int pp, .int wn]))] ∧ va_S A s.heap H9 locs9 ∧ lv_has ls9 2 [(0, .ref g), (1, .int z)]) (fun b9 H locs ls h9 => ?_) (fun k31 => ?_)
    · obtain ⟨rfl, hP, hD, hS, hl⟩ := h9
      refine lv_iconst (v := 0) hx hb d_MD_person_31 (by decide) ?_
      have hPc := hP.sub (ws' := [(g, .inr (10, [.int th, .ref mPd, .int (nI pn), .int (nI bn), .ref mSg, .ref mSz, .ref mTo, .int (nI en), .ref mRo, .ref mLi, .int (nI hn), .ref mKi, .ref mCo, .ref mEm, .ref mVa, .int (nI an), .ref mA1, .ref mA2, .ref mA3, .ref mA4, .int (nI ln), .ref mLk, .int (nI xn), .ref mEx, .int (nI qn), .ref mQp, .ref mQd, .int wh, .int wt, .int fd, .int pp, .int wn]))]) [0] rfl
      have hKc := hK.sub (tys' := []) [] rfl
      have hDc := hD.sub (ws' := [(g, .inr (10, [.int th, .ref mPd, .int (nI pn), .int (nI bn), .ref mSg, .ref mSz, .ref mTo, .int (nI en), .ref mRo, .ref mLi, .int (nI hn), .ref mKi, .ref mCo, .ref mEm, .ref mVa, .int (nI an), .ref mA1, .ref mA2, .ref mA3, .ref mA4, .int (nI ln), .ref mLk, .int (nI xn), .ref mEx, .int (nI qn), .ref mQp, .ref mQd, .int wh, .int wt, .int fd, .int pp, .int wn]))]) [0] (by decide) rfl
      have hFc := va_free (wc := [(g, .inr (10, [.int th, .ref mPd, .int (nI pn), .int (nI bn), .ref mSg, .ref mSz, .ref mTo, .int (nI en), .ref mRo, .ref mLi, .int (nI hn), .ref mKi, .ref mCo, .ref mEm, .ref mVa, .int (nI an), .ref mA1, .ref mA2, .ref mA3, .ref mA4, .int (nI ln), .ref mLk, .int (nI xn), .ref mEx, .int (nI qn), .ref mQp, .ref mQd, .int wh, .int wt, .int fd, .int pp, .int wn]))]) hD hS hA [0] rfl
      refine va_calli (va_runV (As := [.int (notF (inF z 0 255)), .int (eqF (nI en) 12), .int 0]) (rest := []) ⟨hx, hb, hml, hown, hts⟩ (c_MD_throwing l dC dI H.size g mPd mSg mSz mTo mRo mLi mKi mCo mEm mVa mA1 mA2 mA3 mA4 mLk mEx mQp mQd th pn bn en hn an ln xn qn wh wt fd pp wn (notF (inF z 0 255)) (eqF (nI en) 12) 0) (cwV 3 hts (vz_gV wb_MD_person b_777 b_779 bs_15 b_11 wc_MD_throwing) rfl rfl rfl (by decide +kernel) ⟨Nat.le_of_ble_eq_true rfl, Nat.le_of_ble_eq_true rfl⟩) (vz_preVw (A := A) hPc hKc hDc (ci := 10) (q0 := 0) rfl rfl) rfl rfl hl.1 rfl (lv_room (Nat.le_of_ble_eq_true rfl)) d_MD_person_32 ⟨Nat.le_of_ble_eq_true rfl, Nat.le_of_ble_eq_true rfl⟩) hS (fun q _ h => hFc q h) hFc (fun r32 u9 t9 H1 locs ht hvm hr32 hB hzx9 hkx9 hS => ?_)
      try dsimp only at hr32
      obtain ⟨hP1, hK1, hD1⟩ := hB
      rw [ht] at hP1
      obtain ⟨hP, hD⟩ := va_join (wr := []) (w1 := [(g, .inr (10, [.int (thrF (notF (inF z 0 255)) (eqF (nI en) 12) 0), .ref mPd, .int (nI pn), .int (nI bn), .ref mSg, .ref mSz, .ref mTo, .int (nI en), .ref mRo, .ref mLi, .int (nI hn), .ref mKi, .ref mCo, .ref mEm, .ref mVa, .int (nI an), .ref mA1, .ref mA2, .ref mA3, .ref mA4, .int (nI ln), .ref mLk, .int (nI xn), .ref mEx, .int (nI qn), .ref mQp, .ref mQd, .int wh, .int wt, .int fd, .int pp, .int wn]))]) hP hD [0] [] rfl rfl (by decide) (by decide) hkx9 hFc hP1 hD1
      generalize H1 = H at hP hS ⊢
      have hP : va_P (dC, dI) vwCl [(g, .inr (10, [.int (thrF (notF (inF z 0 255)) (eqF (nI en) 12) 0), .ref mPd, .int (nI pn), .int (nI bn), .ref mSg, .ref mSz, .ref mTo, .int (nI en), .ref mRo, .ref mLi, .int (nI hn), .ref mKi, .ref mCo, .ref mEm, .ref mVa, .int (nI an), .ref mA1, .ref mA2, .ref mA3, .ref mA4, .int (nI ln), .ref mLk, .int (nI xn), .ref mEx, .int (nI qn), .ref mQp, .ref mQd, .int wh, .int wt, .int fd, .int pp, .int wn]))] H := hP
      have hD : va_D A [(g, .inr (10, [.int (thrF (notF (inF z 0 255)) (eqF (nI en) 12) 0), .ref mPd, .int (nI pn), .int (nI bn), .ref mSg, .ref mSz, .ref mTo, .int (nI en), .ref mRo, .ref mLi, .int (nI hn), .ref mKi, .ref mCo, .ref mEm, .ref mVa, .int (nI an), .ref mA1, .ref mA2, .ref mA3, .ref mA4, .int (nI ln), .ref mLk, .int (nI xn), .ref mEx, .int (nI qn), .ref mQp, .ref mQd, .int wh, .int wt, .int fd, .int pp, .int wn]))] := hD
      refine lv_if_eq (tgt := 40) hx hb d_MD_person_35 (by decide) (fun c35 => ?_) (fun c35 => ?_)
      · exact absurd (thrF_z (hr32.symm.trans c35)) hok
      · refine lv_iconst (v := 0) hx hb d_MD_person_38 (by decide) ?_
        have hP9 := hP.sub (ws' := [(g, .inr (10, [.int (thrF (notF (inF z 0 255)) (eqF (nI en) 12) 0), .ref mPd, .int (nI pn), .int (nI bn), .ref mSg, .ref mSz, .ref mTo, .int (nI en), .ref mRo, .ref mLi, .int (nI hn), .ref mKi, .ref mCo, .ref mEm, .ref mVa, .int (nI an), .ref mA1, .ref mA2, .ref mA3, .ref mA4, .int (nI ln), .ref mLk, .int (nI xn), .ref mEx, .int (nI qn), .ref mQp, .ref mQd, .int wh, .int wt, .int fd, .int pp, .int wn]))]) [0] rfl
        have hD9 := hD.sub (ws' := [(g, .inr (10, [.int (thrF (notF (inF z 0 255)) (eqF (nI en) 12) 0), .ref mPd, .int (nI pn), .int (nI bn), .ref mSg, .ref mSz, .ref mTo, .int (nI en), .ref mRo, .ref mLi, .int (nI hn), .ref mKi, .ref mCo, .ref mEm, .ref mVa, .int (nI an), .ref mA1, .ref mA2, .ref mA3, .ref mA4, .int (nI ln), .ref mLk, .int (nI xn), .ref mEx, .int (nI qn), .ref mQp, .ref mQd, .int wh, .int wt, .int fd, .int pp, .int wn]))]) [0] (by decide) rfl
        exact W.iret (v := 0) hx hb hr (fun t ht hW => ⟨⟨0, (), rfl, rfl, by rw [ht]; exact hP9, va_K.moved hW.alike hK, hD9⟩, hS.F ht⟩) hS.2.2 d_MD_person_39
    · refine lv_aload_n hx hb d_MD_person_17 rfl (lv_at hl 0 rfl) ?_
      refine va_get (D := (dC, dI)) (ci := 10) (v := .int (nI en)) (C := R_MD) (T := T_MD) (N := 32) hx hb hts iMD hown hK hP 0 rfl rfl 7 (by decide) (hts _ (wb_MD_person _ b_675)) (fun _ h9 => h9) rfl d_MD_person_18 ?_
      refine lv_bipush (v := 12) hx hb d_MD_person_21 (by decide) ?_
      refine lv_icmp_ne (tgt := 30) hx hb d_MD_person_23 (by decide) (fun c23 => ?_) (fun c23 => ?_)
      · refine lv_iconst (v := 0) hx hb d_MD_person_30 (by decide) ?_
        exact k31 _ _ _ _ ⟨by simp [eqF, c23], hP, hD, hS, lv_sub hl [0, 1] rfl⟩
      · refine lv_iconst (v := 1) hx hb d_MD_person_26 (by decide) ?_
        refine lv_goto (tgt := 31) hx hb d_MD_person_27 (by decide) ?_
        exact k31 _ _ _ _ ⟨by simp [eqF, c23], hP, hD, hS, lv_sub hl [0, 1] rfl⟩
  · refine lv_iload_n hx hb d_MD_person_1 rfl (lv_at hl 1 rfl) ?_
    refine lv_iconst (v := 0) hx hb d_MD_person_2 (by decide) ?_
    refine lv_sipush (v := 255) hx hb d_MD_person_3 (by decide) ?_
    have hPc := hP.sub (ws' := []) [] rfl
    have hKc := hK.sub (tys' := []) [] rfl
    refine va_calli (va_runS (As := [.int z, .int 0, .int 255]) (rest := [.ref g]) ⟨hx, hb, hml, hown, hts⟩ (c_MD_in l dC dI z 0 255) (va_cwS 3 hts (vz_gS wb_MD_person b_796 b_797 b_11 wc_MD_in) rfl rfl rfl (by decide +kernel) ⟨Nat.le_of_ble_eq_true rfl, Nat.le_of_ble_eq_true rfl⟩) (vz_preS hPc hKc) rfl rfl hl.1 rfl (lv_room (Nat.le_of_ble_eq_true rfl)) d_MD_person_6 ⟨Nat.le_of_ble_eq_true rfl, Nat.le_of_ble_eq_true rfl⟩) hS (fun q _ h => False.elim h) (fun q h => False.elim h) (fun r6 u9 t9 H1 locs ht hvm hr6 hB hzx9 hkx9 hS => ?_)
    try dsimp only at hr6
    have hP := vz_kept hP hkx9
    generalize H1 = H at hP hS ⊢
    refine lv_if_ne (tgt := 16) hx hb d_MD_person_9 (by decide) (fun c9 => ?_) (fun c9 => ?_)
    · refine lv_iconst (v := 0) hx hb d_MD_person_16 (by decide) ?_
      exact k17 _ _ _ _ ⟨by simp [notF, ← hr6, c9], hP, hD, hS, lv_sub hl [0, 1] rfl⟩
    · refine lv_iconst (v := 1) hx hb d_MD_person_12 (by decide) ?_
      refine lv_goto (tgt := 17) hx hb d_MD_person_13 (by decide) ?_
      exact k17 _ _ _ _ ⟨by simp [notF, ← hr6, c9], hP, hD, hS, lv_sub hl [0, 1] rfl⟩

set_option maxHeartbeats 4000000 in
set_option maxRecDepth 100000 in
theorem c_MD_personG (l : Launch) (dC : Nat → ClassId) (dI : Nat → Nat → Nat) (sz : Nat) (cI : ClassId) (g mPd mSg mSz mTo mRo mLi mKi mCo mEm mVa mA1 mA2 mA3 mA4 mLk mEx mQp mQd : Nat) (th : Int32) (pn bn en hn an ln xn qn : Nat) (wh wt fd pp wn : Int32) (ro : Nat → Int32) (li : Nat → Int32) (hen : en < 12) (z : Int32) (hok : thrF (notF (inF z 0 255)) (eqF (nI en) 12) 0 = 0) : Met l y_MD_person ws_MD_person ({ frames := 1, cells := 0, slots := 0, locals := 23 }) (va_Pc [.ref g, .int z] (fun U => U.heap.size = sz ∧ va_P (dC, dI) vwCl [(g, .inr (10, [.int th, .ref mPd, .int (nI pn), .int (nI bn), .ref mSg, .ref mSz, .ref mTo, .int (nI en), .ref mRo, .ref mLi, .int (nI hn), .ref mKi, .ref mCo, .ref mEm, .ref mVa, .int (nI an), .ref mA1, .ref mA2, .ref mA3, .ref mA4, .int (nI ln), .ref mLk, .int (nI xn), .ref mEx, .int (nI qn), .ref mQp, .ref mQd, .int wh, .int wt, .int fd, .int pp, .int wn])), (mRo, .inl (cI, 12, .inl ro)), (mLi, .inl (cI, 12, .inl li))] U.heap ∧ va_K (dC, dI) vwCl [(cI, .int)] U ∧ va_D (fun _ => True) [(g, .inr (10, [.int th, .ref mPd, .int (nI pn), .int (nI bn), .ref mSg, .ref mSz, .ref mTo, .int (nI en), .ref mRo, .ref mLi, .int (nI hn), .ref mKi, .ref mCo, .ref mEm, .ref mVa, .int (nI an), .ref mA1, .ref mA2, .ref mA3, .ref mA4, .int (nI ln), .ref mLk, .int (nI xn), .ref mEx, .int (nI qn), .ref mQp, .ref mQd, .int wh, .int wt, .int fd, .int pp, .int wn])), (mRo, .inl (cI, 12, .inl ro)), (mLi, .inl (cI, 12, .inl li))])) (va_Qi (fun (res : Int32) (_ : Unit) => res = nI en) (fun _ t => va_P (dC, dI) vwCl [(g, .inr (10, [.int (thrF (notF (inF z 0 255)) (eqF (nI en) 12) 0), .ref mPd, .int (nI pn), .int (nI bn), .ref mSg, .ref mSz, .ref mTo, .int (nI (en + 1)), .ref mRo, .ref mLi, .int (nI hn), .ref mKi, .ref mCo, .ref mEm, .ref mVa, .int (nI an), .ref mA1, .ref mA2, .ref mA3, .ref mA4, .int (nI ln), .ref mLk, .int (nI xn), .ref mEx, .int (nI qn), .ref mQp, .ref mQd, .int wh, .int wt, .int fd, .int pp, .int wn])), (mRo, .inl (cI, 12, .inl (upd ro en z))), (mLi, .inl (cI, 12, .inl (upd li en 3)))] t.heap ∧ va_K (dC, dI) vwCl [(cI, .int)] t ∧ va_D (va_A [(g, .inr (10, [.int th, .ref mPd, .int (nI pn), .int (nI bn), .ref mSg, .ref mSz, .ref mTo, .int (nI en), .ref mRo, .ref mLi, .int (nI hn), .ref mKi, .ref mCo, .ref mEm, .ref mVa, .int (nI an), .ref mA1, .ref mA2, .ref mA3, .ref mA4, .int (nI ln), .ref mLk, .int (nI xn), .ref mEx, .int (nI qn), .ref mQp, .ref mQd, .int wh, .int wt, .int fd, .int pp, .int wn])), (mRo, .inl (cI, 12, .inl ro)), (mLi, .inl (cI, 12, .inl li))] sz) [(g, .inr (10, [.int (thrF (notF (inF z 0 255)) (eqF (nI en) 12) 0), .ref mPd, .int (nI pn), .int (nI bn), .ref mSg, .ref mSz, .ref mTo, .int (nI (en + 1)), .ref mRo, .ref mLi, .int (nI hn), .ref mKi, .ref mCo, .ref mEm, .ref mVa, .int (nI an), .ref mA1, .ref mA2, .ref mA3, .ref mA4, .int (nI ln), .ref mLk, .int (nI xn), .ref mEx, .int (nI qn), .ref mQp, .ref mQd, .int wh, .int wt, .int fd, .int pp, .int wn])), (mRo, .inl (cI, 12, .inl (upd ro en z))), (mLi, .inl (cI, 12, .inl (upd li en 3)))]) (va_A [(g, .inr (10, [.int th, .ref mPd, .int (nI pn), .int (nI bn), .ref mSg, .ref mSz, .ref mTo, .int (nI en), .ref mRo, .ref mLi, .int (nI hn), .ref mKi, .ref mCo, .ref mEm, .ref mVa, .int (nI an), .ref mA1, .ref mA2, .ref mA3, .ref mA4, .int (nI ln), .ref mLk, .int (nI xn), .ref mEx, .int (nI qn), .ref mQp, .ref mQd, .int wh, .int wt, .int fd, .int pp, .int wn])), (mRo, .inl (cI, 12, .inl ro)), (mLi, .inl (cI, 12, .inl li))] sz)) 0 0 (va_A [(g, .inr (10, [.int th, .ref mPd, .int (nI pn), .int (nI bn), .ref mSg, .ref mSz, .ref mTo, .int (nI en), .ref mRo, .ref mLi, .int (nI hn), .ref mKi, .ref mCo, .ref mEm, .ref mVa, .int (nI an), .ref mA1, .ref mA2, .ref mA3, .ref mA4, .int (nI ln), .ref mLk, .int (nI xn), .ref mEx, .int (nI qn), .ref mQp, .ref mQd, .int wh, .int wt, .int fd, .int pp, .int wn])), (mRo, .inl (cI, 12, .inl ro)), (mLi, .inl (cI, 12, .inl li))] sz) := by
  refine Met.ofW (cc := k_MD_person) (maxL := 2) (ret := (some .int)) (by decide) rfl ?_
  intro p e s m args below meth c s₁ B hml hv
  obtain ⟨rfl, hsz, hP, hK, hD0⟩ := hv
  have hx := B.exec
  have hb := B.bytes
  have hr := B.returns
  have hts := atoms_spec (ws := ws_MD_person) B.pre
  have hown : s.vm.findClass R_MD = some m.cls := findClass_of_methodNamed B.named
  have hlocks := B.notSynchronized
  subst hsz
  have hD := hD0.self (sz := s.heap.size)
  generalize hAe : va_A [(g, .inr (10, [.int th, .ref mPd, .int (nI pn), .int (nI bn), .ref mSg, .ref mSz, .ref mTo, .int (nI en), .ref mRo, .ref mLi, .int (nI hn), .ref mKi, .ref mCo, .ref mEm, .ref mVa, .int (nI an), .ref mA1, .ref mA2, .ref mA3, .ref mA4, .int (nI ln), .ref mLk, .int (nI xn), .ref mEx, .int (nI qn), .ref mQp, .ref mQd, .int wh, .int wt, .int fd, .int pp, .int wn])), (mRo, .inl (cI, 12, .inl ro)), (mLi, .inl (cI, 12, .inl li))] s.heap.size = A at hD ⊢
  have hA : ∀ q : Nat, s.heap.size ≤ q → A q := fun q h => by rw [← hAe]; exact Or.inr h
  have hS : va_S A s.heap s.heap [] := va_S.rf
  have hP : va_P (dC, dI) vwCl [(g, .inr (10, [.int th, .ref mPd, .int (nI pn), .int (nI bn), .ref mSg, .ref mSz, .ref mTo, .int (nI en), .ref mRo, .ref mLi, .int (nI hn), .ref mKi, .ref mCo, .ref mEm, .ref mVa, .int (nI an), .ref mA1, .ref mA2, .ref mA3, .ref mA4, .int (nI ln), .ref mLk, .int (nI xn), .ref mEx, .int (nI qn), .ref mQp, .ref mQd, .int wh, .int wt, .int fd, .int pp, .int wn])), (mRo, .inl (cI, 12, .inl ro)), (mLi, .inl (cI, 12, .inl li))] s.heap := hP
  have iMD : ∀ w ∈ u_ws R_MD T_MD 32, w ∈ ws_MD_person := fun w h => wb_MD_person w (in_MD w h)
  have hl := lv_entry ([.ref g, .int z]) (n := 2) (Nat.le_of_ble_eq_true rfl)
  rw [lg_entry_eq]
  generalize (lg_sl ([.ref g, .int z]) ++ List.replicate (2 - (lg_sl ([.ref g, .int z])).length) Slot.unset).toArray = ls at hl ⊢
  have hl : lv_has ls 2 [(0, .ref g), (1, .int z)] := hl
  refine lv_aload_n hx hb d_MD_person_0 rfl (lv_at hl 0 rfl) ?_
  refine vz_join 17 [.ref g] (fun b9 H9 locs9 ls9 => (b9 = notF (inF z 0 255)) ∧ va_P (dC, dI) vwCl [(g, .inr (10, [.int th, .ref mPd, .int (nI pn), .int (nI bn), .ref mSg, .ref mSz, .ref mTo, .int (nI en), .ref mRo, .ref mLi, .int (nI hn), .ref mKi, .ref mCo, .ref mEm, .ref mVa, .int (nI an), .ref mA1, .ref mA2, .ref mA3, .ref mA4, .int (nI ln), .ref mLk, .int (nI xn), .ref mEx, .int (nI qn), .ref mQp, .ref mQd, .int wh, .int wt, .int fd, .int pp, .int wn])), (mRo, .inl (cI, 12, .inl ro)), (mLi, .inl (cI, 12, .inl li))] H9 ∧ va_D A [(g, .inr (10, [.int th, .ref mPd, .int (nI pn), .int (nI bn), .ref mSg, .ref mSz, .ref mTo, .int (nI en), .ref mRo, .ref mLi, .int (nI hn), .ref mKi, .ref mCo, .ref mEm, .ref mVa, .int (nI an), .ref mA1, .ref mA2, .ref mA3, .ref mA4, .int (nI ln), .ref mLk, .int (nI xn), .ref mEx, .int (nI qn), .ref mQp, .ref mQd, .int wh, .int wt, .int fd, .int pp, .int wn])), (mRo, .inl (cI, 12, .inl ro)), (mLi, .inl (cI, 12, .inl li))] ∧ va_S A s.heap H9 locs9 ∧ lv_has ls9 2 [(0, .ref g), (1, .int z)]) (fun b9 H locs ls h9 => ?_) (fun k17 => ?_)
  · obtain ⟨rfl, hP, hD, hS, hl⟩ := h9
    refine vz_join 31 [.int (notF (inF z 0 255)), .ref g] (fun b9 H9 locs9 ls9 => (b9 = eqF (nI en) 12) ∧ va_P (dC, dI) vwCl [(g, .inr (10, [.int th, .ref mPd, .int (nI pn), .int (nI bn), .ref mSg, .ref mSz, .ref mTo, .int (nI en), .ref mRo, .ref mLi, .int (nI hn), .ref mKi, .ref mCo, .ref mEm, .ref mVa, .int (nI an), .ref mA1, .ref mA2, .ref mA3, .ref mA4, .int (nI ln), .ref mLk, .int (nI xn), .ref mEx, .int (nI qn), .ref mQp, .ref mQd, .int wh, .int wt, .int fd, .int pp, .int wn])), (mRo, .inl (cI, 12, .inl ro)), (mLi, .inl (cI, 12, .inl li))] H9 ∧ va_D A [(g, .inr (10, [.int th, .ref mPd, .int (nI pn), .int (nI bn), .ref mSg, .ref mSz, .ref mTo, .int (nI en), .ref mRo, .ref mLi, .int (nI hn), .ref mKi, .ref mCo, .ref mEm, .ref mVa, .int (nI an), .ref mA1, .ref mA2, .ref mA3, .ref mA4, .int (nI ln), .ref mLk, .int (nI xn), .ref mEx, .int (nI qn), .ref mQp, .ref mQd, .int wh, .int wt, .int fd, .int pp, .int wn])), (mRo, .inl (cI, 12, .inl ro)), (mLi, .inl (cI, 12, .inl li))] ∧ va_S A s.heap H9 locs9 ∧ lv_has ls9 2 [(0, .ref g), (1, .int z)]) (fun b9 H locs ls h9 => ?_) (fun k31 => ?_)
    · obtain ⟨rfl, hP, hD, hS, hl⟩ := h9
      refine lv_iconst (v := 0) hx hb d_MD_person_31 (by decide) ?_
      have hPc := hP.sub (ws' := [(g, .inr (10, [.int th, .ref mPd, .int (nI pn), .int (nI bn), .ref mSg, .ref mSz, .ref mTo, .int (nI en), .ref mRo, .ref mLi, .int (nI hn), .ref mKi, .ref mCo, .ref mEm, .ref mVa, .int (nI an), .ref mA1, .ref mA2, .ref mA3, .ref mA4, .int (nI ln), .ref mLk, .int (nI xn), .ref mEx, .int (nI qn), .ref mQp, .ref mQd, .int wh, .int wt, .int fd, .int pp, .int wn]))]) [0] rfl
      have hKc := hK.sub (tys' := []) [] rfl
      have hDc := hD.sub (ws' := [(g, .inr (10, [.int th, .ref mPd, .int (nI pn), .int (nI bn), .ref mSg, .ref mSz, .ref mTo, .int (nI en), .ref mRo, .ref mLi, .int (nI hn), .ref mKi, .ref mCo, .ref mEm, .ref mVa, .int (nI an), .ref mA1, .ref mA2, .ref mA3, .ref mA4, .int (nI ln), .ref mLk, .int (nI xn), .ref mEx, .int (nI qn), .ref mQp, .ref mQd, .int wh, .int wt, .int fd, .int pp, .int wn]))]) [0] (by decide) rfl
      have hFc := va_free (wc := [(g, .inr (10, [.int th, .ref mPd, .int (nI pn), .int (nI bn), .ref mSg, .ref mSz, .ref mTo, .int (nI en), .ref mRo, .ref mLi, .int (nI hn), .ref mKi, .ref mCo, .ref mEm, .ref mVa, .int (nI an), .ref mA1, .ref mA2, .ref mA3, .ref mA4, .int (nI ln), .ref mLk, .int (nI xn), .ref mEx, .int (nI qn), .ref mQp, .ref mQd, .int wh, .int wt, .int fd, .int pp, .int wn]))]) hD hS hA [0] rfl
      refine va_calli (va_runV (As := [.int (notF (inF z 0 255)), .int (eqF (nI en) 12), .int 0]) (rest := []) ⟨hx, hb, hml, hown, hts⟩ (c_MD_throwing l dC dI H.size g mPd mSg mSz mTo mRo mLi mKi mCo mEm mVa mA1 mA2 mA3 mA4 mLk mEx mQp mQd th pn bn en hn an ln xn qn wh wt fd pp wn (notF (inF z 0 255)) (eqF (nI en) 12) 0) (cwV 3 hts (vz_gV wb_MD_person b_777 b_779 bs_15 b_11 wc_MD_throwing) rfl rfl rfl (by decide +kernel) ⟨Nat.le_of_ble_eq_true rfl, Nat.le_of_ble_eq_true rfl⟩) (vz_preVw (A := A) hPc hKc hDc (ci := 10) (q0 := 0) rfl rfl) rfl rfl hl.1 rfl (lv_room (Nat.le_of_ble_eq_true rfl)) d_MD_person_32 ⟨Nat.le_of_ble_eq_true rfl, Nat.le_of_ble_eq_true rfl⟩) hS (fun q _ h => hFc q h) hFc (fun r32 u9 t9 H1 locs ht hvm hr32 hB hzx9 hkx9 hS => ?_)
      try dsimp only at hr32
      obtain ⟨hP1, hK1, hD1⟩ := hB
      rw [ht] at hP1
      obtain ⟨hP, hD⟩ := va_join (wr := [(mRo, .inl (cI, 12, .inl ro)), (mLi, .inl (cI, 12, .inl li))]) (w1 := [(g, .inr (10, [.int (thrF (notF (inF z 0 255)) (eqF (nI en) 12) 0), .ref mPd, .int (nI pn), .int (nI bn), .ref mSg, .ref mSz, .ref mTo, .int (nI en), .ref mRo, .ref mLi, .int (nI hn), .ref mKi, .ref mCo, .ref mEm, .ref mVa, .int (nI an), .ref mA1, .ref mA2, .ref mA3, .ref mA4, .int (nI ln), .ref mLk, .int (nI xn), .ref mEx, .int (nI qn), .ref mQp, .ref mQd, .int wh, .int wt, .int fd, .int pp, .int wn]))]) hP hD [0] [1, 2] rfl rfl (by decide) (by decide) hkx9 hFc hP1 hD1
      generalize H1 = H at hP hS ⊢
      have hP : va_P (dC, dI) vwCl [(mRo, .inl (cI, 12, .inl ro)), (mLi, .inl (cI, 12, .inl li)), (g, .inr (10, [.int (thrF (notF (inF z 0 255)) (eqF (nI en) 12) 0), .ref mPd, .int (nI pn), .int (nI bn), .ref mSg, .ref mSz, .ref mTo, .int (nI en), .ref mRo, .ref mLi, .int (nI hn), .ref mKi, .ref mCo, .ref mEm, .ref mVa, .int (nI an), .ref mA1, .ref mA2, .ref mA3, .ref mA4, .int (nI ln), .ref mLk, .int (nI xn), .ref mEx, .int (nI qn), .ref mQp, .ref mQd, .int wh, .int wt, .int fd, .int pp, .int wn]))] H := hP
      have hD : va_D A [(mRo, .inl (cI, 12, .inl ro)), (mLi, .inl (cI, 12, .inl li)), (g, .inr (10, [.int (thrF (notF (inF z 0 255)) (eqF (nI en) 12) 0), .ref mPd, .int (nI pn), .int (nI bn), .ref mSg, .ref mSz, .ref mTo, .int (nI en), .ref mRo, .ref mLi, .int (nI hn), .ref mKi, .ref mCo, .ref mEm, .ref mVa, .int (nI an), .ref mA1, .ref mA2, .ref mA3, .ref mA4, .int (nI ln), .ref mLk, .int (nI xn), .ref mEx, .int (nI qn), .ref mQp, .ref mQd, .int wh, .int wt, .int fd, .int pp, .int wn]))] := hD
      refine lv_if_eq (tgt := 40) hx hb d_MD_person_35 (by decide) (fun c35 => ?_) (fun c35 => ?_)
      · refine lv_aload_n hx hb d_MD_person_40 rfl (lv_at hl 0 rfl) ?_
        refine va_get (D := (dC, dI)) (ci := 10) (v := .ref mRo) (C := R_MD) (T := T_MD) (N := 32) hx hb hts iMD hown hK hP 2 rfl rfl 8 (by decide) (hts _ (wb_MD_person _ b_676)) (fun _ h9 => h9) rfl d_MD_person_41 ?_
        refine lv_aload_n hx hb d_MD_person_44 rfl (lv_at hl 0 rfl) ?_
        refine va_get (D := (dC, dI)) (ci := 10) (v := .int (nI en)) (C := R_MD) (T := T_MD) (N := 32) hx hb hts iMD hown hK hP 2 rfl rfl 7 (by decide) (hts _ (wb_MD_person _ b_675)) (fun _ h9 => h9) rfl d_MD_person_45 ?_
        refine lv_iload_n hx hb d_MD_person_48 rfl (lv_at hl 1 rfl) ?_
        refine vz_iast (k := en) hx hb hK hP hD hS 0 0 rfl rfl (by omega) (by decide) d_MD_person_49 (fun H locs hP hD hS => ?_)
        have hP : va_P (dC, dI) vwCl [(mRo, .inl (cI, 12, .inl (upd ro en z))), (mLi, .inl (cI, 12, .inl li)), (g, .inr (10, [.int (thrF (notF (inF z 0 255)) (eqF (nI en) 12) 0), .ref mPd, .int (nI pn), .int (nI bn), .ref mSg, .ref mSz, .ref mTo, .int (nI en), .ref mRo, .ref mLi, .int (nI hn), .ref mKi, .ref mCo, .ref mEm, .ref mVa, .int (nI an), .ref mA1, .ref mA2, .ref mA3, .ref mA4, .int (nI ln), .ref mLk, .int (nI xn), .ref mEx, .int (nI qn), .ref mQp, .ref mQd, .int wh, .int wt, .int fd, .int pp, .int wn]))] H := hP
        have hD : va_D A [(mRo, .inl (cI, 12, .inl (upd ro en z))), (mLi, .inl (cI, 12, .inl li)), (g, .inr (10, [.int (thrF (notF (inF z 0 255)) (eqF (nI en) 12) 0), .ref mPd, .int (nI pn), .int (nI bn), .ref mSg, .ref mSz, .ref mTo, .int (nI en), .ref mRo, .ref mLi, .int (nI hn), .ref mKi, .ref mCo, .ref mEm, .ref mVa, .int (nI an), .ref mA1, .ref mA2, .ref mA3, .ref mA4, .int (nI ln), .ref mLk, .int (nI xn), .ref mEx, .int (nI qn), .ref mQp, .ref mQd, .int wh, .int wt, .int fd, .int pp, .int wn]))] := hD
        refine lv_aload_n hx hb d_MD_person_50 rfl (lv_at hl 0 rfl) ?_
        refine va_get (D := (dC, dI)) (ci := 10) (v := .ref mLi) (C := R_MD) (T := T_MD) (N := 32) hx hb hts iMD hown hK hP 2 rfl rfl 9 (by decide) (hts _ (wb_MD_person _ b_677)) (fun _ h9 => h9) rfl d_MD_person_51 ?_
        refine lv_aload_n hx hb d_MD_person_54 rfl (lv_at hl 0 rfl) ?_
        refine va_get (D := (dC, dI)) (ci := 10) (v := .int (nI en)) (C := R_MD) (T := T_MD) (N := 32) hx hb hts iMD hown hK hP 2 rfl rfl 7 (by decide) (hts _ (wb_MD_person _ b_675)) (fun _ h9 => h9) rfl d_MD_person_55 ?_
        refine lv_iconst (v := 3) hx hb d_MD_person_58 (by decide) ?_
        refine vz_iast (k := en) hx hb hK hP hD hS 1 0 rfl rfl (by omega) (by decide) d_MD_person_59 (fun H locs hP hD hS => ?_)
        have hP : va_P (dC, dI) vwCl [(mRo, .inl (cI, 12, .inl (upd ro en z))), (mLi, .inl (cI, 12, .inl (upd li en 3))), (g, .inr (10, [.int (thrF (notF (inF z 0 255)) (eqF (nI en) 12) 0), .ref mPd, .int (nI pn), .int (nI bn), .ref mSg, .ref mSz, .ref mTo, .int (nI en), .ref mRo, .ref mLi, .int (nI hn), .ref mKi, .ref mCo, .ref mEm, .ref mVa, .int (nI an), .ref mA1, .ref mA2, .ref mA3, .ref mA4, .int (nI ln), .ref mLk, .int (nI xn), .ref mEx, .int (nI qn), .ref mQp, .ref mQd, .int wh, .int wt, .int fd, .int pp, .int wn]))] H := hP
        have hD : va_D A [(mRo, .inl (cI, 12, .inl (upd ro en z))), (mLi, .inl (cI, 12, .inl (upd li en 3))), (g, .inr (10, [.int (thrF (notF (inF z 0 255)) (eqF (nI en) 12) 0), .ref mPd, .int (nI pn), .int (nI bn), .ref mSg, .ref mSz, .ref mTo, .int (nI en), .ref mRo, .ref mLi, .int (nI hn), .ref mKi, .ref mCo, .ref mEm, .ref mVa, .int (nI an), .ref mA1, .ref mA2, .ref mA3, .ref mA4, .int (nI ln), .ref mLk, .int (nI xn), .ref mEx, .int (nI qn), .ref mQp, .ref mQd, .int wh, .int wt, .int fd, .int pp, .int wn]))] := hD
        refine lv_aload_n hx hb d_MD_person_60 rfl (lv_at hl 0 rfl) ?_
        refine lv_dup hx hb d_MD_person_61 rfl ?_
        refine va_get (D := (dC, dI)) (ci := 10) (v := .int (nI en)) (C := R_MD) (T := T_MD) (N := 32) hx hb hts iMD hown hK hP 2 rfl rfl 7 (by decide) (hts _ (wb_MD_person _ b_675)) (fun _ h9 => h9) rfl d_MD_person_62 ?_
        refine lv_iconst (v := 1) hx hb d_MD_person_65 (by decide) ?_
        refine lv_iadd hx hb d_MD_person_66 ?_
        refine vz_top (y := nI (en + 1)) (nI_1 en) ?_
        refine va_put (D := (dC, dI)) (ci := 10) (v := .int (nI (en + 1))) (ty := .int) (C := R_MD) (T := T_MD) (N := 32) hx hb hts iMD ty_MD tyok_MD nm_MD hown hK hP hD hS 2 rfl rfl 7 (by decide) (hts _ (wb_MD_person _ b_675)) (fun _ h9 => h9) rfl rfl rfl rfl (Nat.le_of_ble_eq_true rfl) d_MD_person_67 (fun H locs hP hD hS => ?_)
        have hP : va_P (dC, dI) vwCl [(mRo, .inl (cI, 12, .inl (upd ro en z))), (mLi, .inl (cI, 12, .inl (upd li en 3))), (g, .inr (10, [.int (thrF (notF (inF z 0 255)) (eqF (nI en) 12) 0), .ref mPd, .int (nI pn), .int (nI bn), .ref mSg, .ref mSz, .ref mTo, .int (nI (en + 1)), .ref mRo, .ref mLi, .int (nI hn), .ref mKi, .ref mCo, .ref mEm, .ref mVa, .int (nI an), .ref mA1, .ref mA2, .ref mA3, .ref mA4, .int (nI ln), .ref mLk, .int (nI xn), .ref mEx, .int (nI qn), .ref mQp, .ref mQd, .int wh, .int wt, .int fd, .int pp, .int wn]))] H := hP
        have hD : va_D A [(mRo, .inl (cI, 12, .inl (upd ro en z))), (mLi, .inl (cI, 12, .inl (upd li en 3))), (g, .inr (10, [.int (thrF (notF (inF z 0 255)) (eqF (nI en) 12) 0), .ref mPd, .int (nI pn), .int (nI bn), .ref mSg, .ref mSz, .ref mTo, .int (nI (en + 1)), .ref mRo, .ref mLi, .int (nI hn), .ref mKi, .ref mCo, .ref mEm, .ref mVa, .int (nI an), .ref mA1, .ref mA2, .ref mA3, .ref mA4, .int (nI ln), .ref mLk, .int (nI xn), .ref mEx, .int (nI qn), .ref mQp, .ref mQd, .int wh, .int wt, .int fd, .int pp, .int wn]))] := hD
        refine lv_aload_n hx hb d_MD_person_70 rfl (lv_at hl 0 rfl) ?_
        refine va_get (D := (dC, dI)) (ci := 10) (v := .int (nI (en + 1))) (C := R_MD) (T := T_MD) (N := 32) hx hb hts iMD hown hK hP 2 rfl rfl 7 (by decide) (hts _ (wb_MD_person _ b_675)) (fun _ h9 => h9) rfl d_MD_person_71 ?_
        refine lv_iconst (v := 1) hx hb d_MD_person_74 (by decide) ?_
        refine lv_isub hx hb d_MD_person_75 ?_
        have hP9 := hP.sub (ws' := [(g, .inr (10, [.int (thrF (notF (inF z 0 255)) (eqF (nI en) 12) 0), .ref mPd, .int (nI pn), .int (nI bn), .ref mSg, .ref mSz, .ref mTo, .int (nI (en + 1)), .ref mRo, .ref mLi, .int (nI hn), .ref mKi, .ref mCo, .ref mEm, .ref mVa, .int (nI an), .ref mA1, .ref mA2, .ref mA3, .ref mA4, .int (nI ln), .ref mLk, .int (nI xn), .ref mEx, .int (nI qn), .ref mQp, .ref mQd, .int wh, .int wt, .int fd, .int pp, .int wn])), (mRo, .inl (cI, 12, .inl (upd ro en z))), (mLi, .inl (cI, 12, .inl (upd li en 3)))]) [2, 0, 1] rfl
        have hD9 := hD.sub (ws' := [(g, .inr (10, [.int (thrF (notF (inF z 0 255)) (eqF (nI en) 12) 0), .ref mPd, .int (nI pn), .int (nI bn), .ref mSg, .ref mSz, .ref mTo, .int (nI (en + 1)), .ref mRo, .ref mLi, .int (nI hn), .ref mKi, .ref mCo, .ref mEm, .ref mVa, .int (nI an), .ref mA1, .ref mA2, .ref mA3, .ref mA4, .int (nI ln), .ref mLk, .int (nI xn), .ref mEx, .int (nI qn), .ref mQp, .ref mQd, .int wh, .int wt, .int fd, .int pp, .int wn])), (mRo, .inl (cI, 12, .inl (upd ro en z))), (mLi, .inl (cI, 12, .inl (upd li en 3)))]) [2, 0, 1] (by decide) rfl
        exact W.iret (v := (nI (en + 1)) - 1) hx hb hr (fun t ht hW => ⟨⟨(nI (en + 1)) - 1, (), rfl, nI_pred en, by rw [ht]; exact hP9, va_K.moved hW.alike hK, hD9⟩, hS.F ht⟩) hS.2.2 d_MD_person_76
      · exact absurd (hr32.trans (thrB_z hok)) c35
    · refine lv_aload_n hx hb d_MD_person_17 rfl (lv_at hl 0 rfl) ?_
      refine va_get (D := (dC, dI)) (ci := 10) (v := .int (nI en)) (C := R_MD) (T := T_MD) (N := 32) hx hb hts iMD hown hK hP 0 rfl rfl 7 (by decide) (hts _ (wb_MD_person _ b_675)) (fun _ h9 => h9) rfl d_MD_person_18 ?_
      refine lv_bipush (v := 12) hx hb d_MD_person_21 (by decide) ?_
      refine lv_icmp_ne (tgt := 30) hx hb d_MD_person_23 (by decide) (fun c23 => ?_) (fun c23 => ?_)
      · refine lv_iconst (v := 0) hx hb d_MD_person_30 (by decide) ?_
        exact k31 _ _ _ _ ⟨by simp [eqF, c23], hP, hD, hS, lv_sub hl [0, 1] rfl⟩
      · refine lv_iconst (v := 1) hx hb d_MD_person_26 (by decide) ?_
        refine lv_goto (tgt := 31) hx hb d_MD_person_27 (by decide) ?_
        exact k31 _ _ _ _ ⟨by simp [eqF, c23], hP, hD, hS, lv_sub hl [0, 1] rfl⟩
  · refine lv_iload_n hx hb d_MD_person_1 rfl (lv_at hl 1 rfl) ?_
    refine lv_iconst (v := 0) hx hb d_MD_person_2 (by decide) ?_
    refine lv_sipush (v := 255) hx hb d_MD_person_3 (by decide) ?_
    have hPc := hP.sub (ws' := []) [] rfl
    have hKc := hK.sub (tys' := []) [] rfl
    refine va_calli (va_runS (As := [.int z, .int 0, .int 255]) (rest := [.ref g]) ⟨hx, hb, hml, hown, hts⟩ (c_MD_in l dC dI z 0 255) (va_cwS 3 hts (vz_gS wb_MD_person b_796 b_797 b_11 wc_MD_in) rfl rfl rfl (by decide +kernel) ⟨Nat.le_of_ble_eq_true rfl, Nat.le_of_ble_eq_true rfl⟩) (vz_preS hPc hKc) rfl rfl hl.1 rfl (lv_room (Nat.le_of_ble_eq_true rfl)) d_MD_person_6 ⟨Nat.le_of_ble_eq_true rfl, Nat.le_of_ble_eq_true rfl⟩) hS (fun q _ h => False.elim h) (fun q h => False.elim h) (fun r6 u9 t9 H1 locs ht hvm hr6 hB hzx9 hkx9 hS => ?_)
    try dsimp only at hr6
    have hP := vz_kept hP hkx9
    generalize H1 = H at hP hS ⊢
    refine lv_if_ne (tgt := 16) hx hb d_MD_person_9 (by decide) (fun c9 => ?_) (fun c9 => ?_)
    · refine lv_iconst (v := 0) hx hb d_MD_person_16 (by decide) ?_
      exact k17 _ _ _ _ ⟨by simp [notF, ← hr6, c9], hP, hD, hS, lv_sub hl [0, 1] rfl⟩
    · refine lv_iconst (v := 1) hx hb d_MD_person_12 (by decide) ?_
      refine lv_goto (tgt := 17) hx hb d_MD_person_13 (by decide) ?_
      exact k17 _ _ _ _ ⟨by simp [notF, ← hr6, c9], hP, hD, hS, lv_sub hl [0, 1] rfl⟩

set_option maxHeartbeats 4000000 in
set_option maxRecDepth 100000 in
theorem c_MD_recordB (l : Launch) (dC : Nat → ClassId) (dI : Nat → Nat → Nat) (sz : Nat) (g mPd mSg mSz mTo mRo mLi mKi mCo mEm mVa mA1 mA2 mA3 mA4 mLk mEx mQp mQd : Nat) (th : Int32) (pn bn en hn an ln xn qn : Nat) (wh wt fd pp wn : Int32) (k z : Int32) (hok : ¬ thrF (orN (inF k 0 3) (inF z (-1) 7)) (eqF (nI hn) 16) 0 = 0) : Met l y_MD_record ws_MD_record ({ frames := 1, cells := 0, slots := 0, locals := 23 }) (va_Pc [.ref g, .int k, .int z] (fun U => U.heap.size = sz ∧ va_P (dC, dI) vwCl [(g, .inr (10, [.int th, .ref mPd, .int (nI pn), .int (nI bn), .ref mSg, .ref mSz, .ref mTo, .int (nI en), .ref mRo, .ref mLi, .int (nI hn), .ref mKi, .ref mCo, .ref mEm, .ref mVa, .int (nI an), .ref mA1, .ref mA2, .ref mA3, .ref mA4, .int (nI ln), .ref mLk, .int (nI xn), .ref mEx, .int (nI qn), .ref mQp, .ref mQd, .int wh, .int wt, .int fd, .int pp, .int wn]))] U.heap ∧ va_K (dC, dI) vwCl [] U ∧ va_D (fun _ => True) [(g, .inr (10, [.int th, .ref mPd, .int (nI pn), .int (nI bn), .ref mSg, .ref mSz, .ref mTo, .int (nI en), .ref mRo, .ref mLi, .int (nI hn), .ref mKi, .ref mCo, .ref mEm, .ref mVa, .int (nI an), .ref mA1, .ref mA2, .ref mA3, .ref mA4, .int (nI ln), .ref mLk, .int (nI xn), .ref mEx, .int (nI qn), .ref mQp, .ref mQd, .int wh, .int wt, .int fd, .int pp, .int wn]))])) (va_Qi (fun (res : Int32) (_ : Unit) => res = 0) (fun _ t => va_P (dC, dI) vwCl [(g, .inr (10, [.int (thrF (orN (inF k 0 3) (inF z (-1) 7)) (eqF (nI hn) 16) 0), .ref mPd, .int (nI pn), .int (nI bn), .ref mSg, .ref mSz, .ref mTo, .int (nI en), .ref mRo, .ref mLi, .int (nI hn), .ref mKi, .ref mCo, .ref mEm, .ref mVa, .int (nI an), .ref mA1, .ref mA2, .ref mA3, .ref mA4, .int (nI ln), .ref mLk, .int (nI xn), .ref mEx, .int (nI qn), .ref mQp, .ref mQd, .int wh, .int wt, .int fd, .int pp, .int wn]))] t.heap ∧ va_K (dC, dI) vwCl [] t ∧ va_D (va_A [(g, .inr (10, [.int th, .ref mPd, .int (nI pn), .int (nI bn), .ref mSg, .ref mSz, .ref mTo, .int (nI en), .ref mRo, .ref mLi, .int (nI hn), .ref mKi, .ref mCo, .ref mEm, .ref mVa, .int (nI an), .ref mA1, .ref mA2, .ref mA3, .ref mA4, .int (nI ln), .ref mLk, .int (nI xn), .ref mEx, .int (nI qn), .ref mQp, .ref mQd, .int wh, .int wt, .int fd, .int pp, .int wn]))] sz) [(g, .inr (10, [.int (thrF (orN (inF k 0 3) (inF z (-1) 7)) (eqF (nI hn) 16) 0), .ref mPd, .int (nI pn), .int (nI bn), .ref mSg, .ref mSz, .ref mTo, .int (nI en), .ref mRo, .ref mLi, .int (nI hn), .ref mKi, .ref mCo, .ref mEm, .ref mVa, .int (nI an), .ref mA1, .ref mA2, .ref mA3, .ref mA4, .int (nI ln), .ref mLk, .int (nI xn), .ref mEx, .int (nI qn), .ref mQp, .ref mQd, .int wh, .int wt, .int fd, .int pp, .int wn]))]) (va_A [(g, .inr (10, [.int th, .ref mPd, .int (nI pn), .int (nI bn), .ref mSg, .ref mSz, .ref mTo, .int (nI en), .ref mRo, .ref mLi, .int (nI hn), .ref mKi, .ref mCo, .ref mEm, .ref mVa, .int (nI an), .ref mA1, .ref mA2, .ref mA3, .ref mA4, .int (nI ln), .ref mLk, .int (nI xn), .ref mEx, .int (nI qn), .ref mQp, .ref mQd, .int wh, .int wt, .int fd, .int pp, .int wn]))] sz)) 0 0 (va_A [(g, .inr (10, [.int th, .ref mPd, .int (nI pn), .int (nI bn), .ref mSg, .ref mSz, .ref mTo, .int (nI en), .ref mRo, .ref mLi, .int (nI hn), .ref mKi, .ref mCo, .ref mEm, .ref mVa, .int (nI an), .ref mA1, .ref mA2, .ref mA3, .ref mA4, .int (nI ln), .ref mLk, .int (nI xn), .ref mEx, .int (nI qn), .ref mQp, .ref mQd, .int wh, .int wt, .int fd, .int pp, .int wn]))] sz) := by
  refine Met.ofW (cc := k_MD_record) (maxL := 3) (ret := (some .int)) (by decide) rfl ?_
  intro p e s m args below meth c s₁ B hml hv
  obtain ⟨rfl, hsz, hP, hK, hD0⟩ := hv
  have hx := B.exec
  have hb := B.bytes
  have hr := B.returns
  have hts := atoms_spec (ws := ws_MD_record) B.pre
  have hown : s.vm.findClass R_MD = some m.cls := findClass_of_methodNamed B.named
  have hlocks := B.notSynchronized
  subst hsz
  have hD := hD0.self (sz := s.heap.size)
  generalize hAe : va_A [(g, .inr (10, [.int th, .ref mPd, .int (nI pn), .int (nI bn), .ref mSg, .ref mSz, .ref mTo, .int (nI en), .ref mRo, .ref mLi, .int (nI hn), .ref mKi, .ref mCo, .ref mEm, .ref mVa, .int (nI an), .ref mA1, .ref mA2, .ref mA3, .ref mA4, .int (nI ln), .ref mLk, .int (nI xn), .ref mEx, .int (nI qn), .ref mQp, .ref mQd, .int wh, .int wt, .int fd, .int pp, .int wn]))] s.heap.size = A at hD ⊢
  have hA : ∀ q : Nat, s.heap.size ≤ q → A q := fun q h => by rw [← hAe]; exact Or.inr h
  have hS : va_S A s.heap s.heap [] := va_S.rf
  have hP : va_P (dC, dI) vwCl [(g, .inr (10, [.int th, .ref mPd, .int (nI pn), .int (nI bn), .ref mSg, .ref mSz, .ref mTo, .int (nI en), .ref mRo, .ref mLi, .int (nI hn), .ref mKi, .ref mCo, .ref mEm, .ref mVa, .int (nI an), .ref mA1, .ref mA2, .ref mA3, .ref mA4, .int (nI ln), .ref mLk, .int (nI xn), .ref mEx, .int (nI qn), .ref mQp, .ref mQd, .int wh, .int wt, .int fd, .int pp, .int wn]))] s.heap := hP
  have iMD : ∀ w ∈ u_ws R_MD T_MD 32, w ∈ ws_MD_record := fun w h => wb_MD_record w (in_MD w h)
  have hl := lv_entry ([.ref g, .int k, .int z]) (n := 3) (Nat.le_of_ble_eq_true rfl)
  rw [lg_entry_eq]
  generalize (lg_sl ([.ref g, .int k, .int z]) ++ List.replicate (3 - (lg_sl ([.ref g, .int k, .int z])).length) Slot.unset).toArray = ls at hl ⊢
  have hl : lv_has ls 3 [(0, .ref g), (1, .int k), (2, .int z)] := hl
  refine lv_aload_n hx hb d_MD_record_0 rfl (lv_at hl 0 rfl) ?_
  refine vz_join 25 [.ref g] (fun b9 H9 locs9 ls9 => (b9 = orN (inF k 0 3) (inF z (-1) 7)) ∧ va_P (dC, dI) vwCl [(g, .inr (10, [.int th, .ref mPd, .int (nI pn), .int (nI bn), .ref mSg, .ref mSz, .ref mTo, .int (nI en), .ref mRo, .ref mLi, .int (nI hn), .ref mKi, .ref mCo, .ref mEm, .ref mVa, .int (nI an), .ref mA1, .ref mA2, .ref mA3, .ref mA4, .int (nI ln), .ref mLk, .int (nI xn), .ref mEx, .int (nI qn), .ref mQp, .ref mQd, .int wh, .int wt, .int fd, .int pp, .int wn]))] H9 ∧ va_D A [(g, .inr (10, [.int th, .ref mPd, .int (nI pn), .int (nI bn), .ref mSg, .ref mSz, .ref mTo, .int (nI en), .ref mRo, .ref mLi, .int (nI hn), .ref mKi, .ref mCo, .ref mEm, .ref mVa, .int (nI an), .ref mA1, .ref mA2, .ref mA3, .ref mA4, .int (nI ln), .ref mLk, .int (nI xn), .ref mEx, .int (nI qn), .ref mQp, .ref mQd, .int wh, .int wt, .int fd, .int pp, .int wn]))] ∧ va_S A s.heap H9 locs9 ∧ lv_has ls9 3 [(0, .ref g), (1, .int k), (2, .int z)]) (fun b9 H locs ls h9 => ?_) (fun k25 => ?_)
  · obtain ⟨rfl, hP, hD, hS, hl⟩ := h9
    refine vz_join 39 [.int (orN (inF k 0 3) (inF z (-1) 7)), .ref g] (fun b9 H9 locs9 ls9 => (b9 = eqF (nI hn) 16) ∧ va_P (dC, dI) vwCl [(g, .inr (10, [.int th, .ref mPd, .int (nI pn), .int (nI bn), .ref mSg, .ref mSz, .ref mTo, .int (nI en), .ref mRo, .ref mLi, .int (nI hn), .ref mKi, .ref mCo, .ref mEm, .ref mVa, .int (nI an), .ref mA1, .ref mA2, .ref mA3, .ref mA4, .int (nI ln), .ref mLk, .int (nI xn), .ref mEx, .int (nI qn), .ref mQp, .ref mQd, .int wh, .int wt, .int fd, .int pp, .int wn]))] H9 ∧ va_D A [(g, .inr (10, [.int th, .ref mPd, .int (nI pn), .int (nI bn), .ref mSg, .ref mSz, .ref mTo, .int (nI en), .ref mRo, .ref mLi, .int (nI hn), .ref mKi, .ref mCo, .ref mEm, .ref mVa, .int (nI an), .ref mA1, .ref mA2, .ref mA3, .ref mA4, .int (nI ln), .ref mLk, .int (nI xn), .ref mEx, .int (nI qn), .ref mQp, .ref mQd, .int wh, .int wt, .int fd, .int pp, .int wn]))] ∧ va_S A s.heap H9 locs9 ∧ lv_has ls9 3 [(0, .ref g), (1, .int k), (2, .int z)]) (fun b9 H locs ls h9 => ?_) (fun k39 => ?_)
    · obtain ⟨rfl, hP, hD, hS, hl⟩ := h9
      refine lv_iconst (v := 0) hx hb d_MD_record_39 (by decide) ?_
      have hPc := hP.sub (ws' := [(g, .inr (10, [.int th, .ref mPd, .int (nI pn), .int (nI bn), .ref mSg, .ref mSz, .ref mTo, .int (nI en), .ref mRo, .ref mLi, .int (nI hn), .ref mKi, .ref mCo, .ref mEm, .ref mVa, .int (nI an), .ref mA1, .ref mA2, .ref mA3, .ref mA4, .int (nI ln), .ref mLk, .int (nI xn), .ref mEx, .int (nI qn), .ref mQp, .ref mQd, .int wh, .int wt, .int fd, .int pp, .int wn]))]) [0] rfl
      have hKc := hK.sub (tys' := []) [] rfl
      have hDc := hD.sub (ws' := [(g, .inr (10, [.int th, .ref mPd, .int (nI pn), .int (nI bn), .ref mSg, .ref mSz, .ref mTo, .int (nI en), .ref mRo, .ref mLi, .int (nI hn), .ref mKi, .ref mCo, .ref mEm, .ref mVa, .int (nI an), .ref mA1, .ref mA2, .ref mA3, .ref mA4, .int (nI ln), .ref mLk, .int (nI xn), .ref mEx, .int (nI qn), .ref mQp, .ref mQd, .int wh, .int wt, .int fd, .int pp, .int wn]))]) [0] (by decide) rfl
      have hFc := va_free (wc := [(g, .inr (10, [.int th, .ref mPd, .int (nI pn), .int (nI bn), .ref mSg, .ref mSz, .ref mTo, .int (nI en), .ref mRo, .ref mLi, .int (nI hn), .ref mKi, .ref mCo, .ref mEm, .ref mVa, .int (nI an), .ref mA1, .ref mA2, .ref mA3, .ref mA4, .int (nI ln), .ref mLk, .int (nI xn), .ref mEx, .int (nI qn), .ref mQp, .ref mQd, .int wh, .int wt, .int fd, .int pp, .int wn]))]) hD hS hA [0] rfl
      refine va_calli (va_runV (As := [.int (orN (inF k 0 3) (inF z (-1) 7)), .int (eqF (nI hn) 16), .int 0]) (rest := []) ⟨hx, hb, hml, hown, hts⟩ (c_MD_throwing l dC dI H.size g mPd mSg mSz mTo mRo mLi mKi mCo mEm mVa mA1 mA2 mA3 mA4 mLk mEx mQp mQd th pn bn en hn an ln xn qn wh wt fd pp wn (orN (inF k 0 3) (inF z (-1) 7)) (eqF (nI hn) 16) 0) (cwV 3 hts (vz_gV wb_MD_record b_777 b_779 bs_15 b_11 wc_MD_throwing) rfl rfl rfl (by decide +kernel) ⟨Nat.le_of_ble_eq_true rfl, Nat.le_of_ble_eq_true rfl⟩) (vz_preVw (A := A) hPc hKc hDc (ci := 10) (q0 := 0) rfl rfl) rfl rfl hl.1 rfl (lv_room (Nat.le_of_ble_eq_true rfl)) d_MD_record_40 ⟨Nat.le_of_ble_eq_true rfl, Nat.le_of_ble_eq_true rfl⟩) hS (fun q _ h => hFc q h) hFc (fun r40 u9 t9 H1 locs ht hvm hr40 hB hzx9 hkx9 hS => ?_)
      try dsimp only at hr40
      obtain ⟨hP1, hK1, hD1⟩ := hB
      rw [ht] at hP1
      obtain ⟨hP, hD⟩ := va_join (wr := []) (w1 := [(g, .inr (10, [.int (thrF (orN (inF k 0 3) (inF z (-1) 7)) (eqF (nI hn) 16) 0), .ref mPd, .int (nI pn), .int (nI bn), .ref mSg, .ref mSz, .ref mTo, .int (nI en), .ref mRo, .ref mLi, .int (nI hn), .ref mKi, .ref mCo, .ref mEm, .ref mVa, .int (nI an), .ref mA1, .ref mA2, .ref mA3, .ref mA4, .int (nI ln), .ref mLk, .int (nI xn), .ref mEx, .int (nI qn), .ref mQp, .ref mQd, .int wh, .int wt, .int fd, .int pp, .int wn]))]) hP hD [0] [] rfl rfl (by decide) (by decide) hkx9 hFc hP1 hD1
      generalize H1 = H at hP hS ⊢
      have hP : va_P (dC, dI) vwCl [(g, .inr (10, [.int (thrF (orN (inF k 0 3) (inF z (-1) 7)) (eqF (nI hn) 16) 0), .ref mPd, .int (nI pn), .int (nI bn), .ref mSg, .ref mSz, .ref mTo, .int (nI en), .ref mRo, .ref mLi, .int (nI hn), .ref mKi, .ref mCo, .ref mEm, .ref mVa, .int (nI an), .ref mA1, .ref mA2, .ref mA3, .ref mA4, .int (nI ln), .ref mLk, .int (nI xn), .ref mEx, .int (nI qn), .ref mQp, .ref mQd, .int wh, .int wt, .int fd, .int pp, .int wn]))] H := hP
      have hD : va_D A [(g, .inr (10, [.int (thrF (orN (inF k 0 3) (inF z (-1) 7)) (eqF (nI hn) 16) 0), .ref mPd, .int (nI pn), .int (nI bn), .ref mSg, .ref mSz, .ref mTo, .int (nI en), .ref mRo, .ref mLi, .int (nI hn), .ref mKi, .ref mCo, .ref mEm, .ref mVa, .int (nI an), .ref mA1, .ref mA2, .ref mA3, .ref mA4, .int (nI ln), .ref mLk, .int (nI xn), .ref mEx, .int (nI qn), .ref mQp, .ref mQd, .int wh, .int wt, .int fd, .int pp, .int wn]))] := hD
      refine lv_if_eq (tgt := 48) hx hb d_MD_record_43 (by decide) (fun c43 => ?_) (fun c43 => ?_)
      · exact absurd (thrF_z (hr40.symm.trans c43)) hok
      · refine lv_iconst (v := 0) hx hb d_MD_record_46 (by decide) ?_
        have hP9 := hP.sub (ws' := [(g, .inr (10, [.int (thrF (orN (inF k 0 3) (inF z (-1) 7)) (eqF (nI hn) 16) 0), .ref mPd, .int (nI pn), .int (nI bn), .ref mSg, .ref mSz, .ref mTo, .int (nI en), .ref mRo, .ref mLi, .int (nI hn), .ref mKi, .ref mCo, .ref mEm, .ref mVa, .int (nI an), .ref mA1, .ref mA2, .ref mA3, .ref mA4, .int (nI ln), .ref mLk, .int (nI xn), .ref mEx, .int (nI qn), .ref mQp, .ref mQd, .int wh, .int wt, .int fd, .int pp, .int wn]))]) [0] rfl
        have hD9 := hD.sub (ws' := [(g, .inr (10, [.int (thrF (orN (inF k 0 3) (inF z (-1) 7)) (eqF (nI hn) 16) 0), .ref mPd, .int (nI pn), .int (nI bn), .ref mSg, .ref mSz, .ref mTo, .int (nI en), .ref mRo, .ref mLi, .int (nI hn), .ref mKi, .ref mCo, .ref mEm, .ref mVa, .int (nI an), .ref mA1, .ref mA2, .ref mA3, .ref mA4, .int (nI ln), .ref mLk, .int (nI xn), .ref mEx, .int (nI qn), .ref mQp, .ref mQd, .int wh, .int wt, .int fd, .int pp, .int wn]))]) [0] (by decide) rfl
        exact W.iret (v := 0) hx hb hr (fun t ht hW => ⟨⟨0, (), rfl, rfl, by rw [ht]; exact hP9, va_K.moved hW.alike hK, hD9⟩, hS.F ht⟩) hS.2.2 d_MD_record_47
    · refine lv_aload_n hx hb d_MD_record_25 rfl (lv_at hl 0 rfl) ?_
      refine va_get (D := (dC, dI)) (ci := 10) (v := .int (nI hn)) (C := R_MD) (T := T_MD) (N := 32) hx hb hts iMD hown hK hP 0 rfl rfl 10 (by decide) (hts _ (wb_MD_record _ b_678)) (fun _ h9 => h9) rfl d_MD_record_26 ?_
      refine lv_bipush (v := 16) hx hb d_MD_record_29 (by decide) ?_
      refine lv_icmp_ne (tgt := 38) hx hb d_MD_record_31 (by decide) (fun c31 => ?_) (fun c31 => ?_)
      · refine lv_iconst (v := 0) hx hb d_MD_record_38 (by decide) ?_
        exact k39 _ _ _ _ ⟨by simp [eqF, c31], hP, hD, hS, lv_sub hl [0, 1, 2] rfl⟩
      · refine lv_iconst (v := 1) hx hb d_MD_record_34 (by decide) ?_
        refine lv_goto (tgt := 39) hx hb d_MD_record_35 (by decide) ?_
        exact k39 _ _ _ _ ⟨by simp [eqF, c31], hP, hD, hS, lv_sub hl [0, 1, 2] rfl⟩
  · refine lv_iload_n hx hb d_MD_record_1 rfl (lv_at hl 1 rfl) ?_
    refine lv_iconst (v := 0) hx hb d_MD_record_2 (by decide) ?_
    refine lv_iconst (v := 3) hx hb d_MD_record_3 (by decide) ?_
    have hPc := hP.sub (ws' := []) [] rfl
    have hKc := hK.sub (tys' := []) [] rfl
    refine va_calli (va_runS (As := [.int k, .int 0, .int 3]) (rest := [.ref g]) ⟨hx, hb, hml, hown, hts⟩ (c_MD_in l dC dI k 0 3) (va_cwS 3 hts (vz_gS wb_MD_record b_796 b_797 b_11 wc_MD_in) rfl rfl rfl (by decide +kernel) ⟨Nat.le_of_ble_eq_true rfl, Nat.le_of_ble_eq_true rfl⟩) (vz_preS hPc hKc) rfl rfl hl.1 rfl (lv_room (Nat.le_of_ble_eq_true rfl)) d_MD_record_4 ⟨Nat.le_of_ble_eq_true rfl, Nat.le_of_ble_eq_true rfl⟩) hS (fun q _ h => False.elim h) (fun q h => False.elim h) (fun r4 u9 t9 H1 locs ht hvm hr4 hB hzx9 hkx9 hS => ?_)
    try dsimp only at hr4
    have hP := vz_kept hP hkx9
    generalize H1 = H at hP hS ⊢
    refine lv_if_eq (tgt := 20) hx hb d_MD_record_7 (by decide) (fun c7 => ?_) (fun c7 => ?_)
    · refine lv_iconst (v := 1) hx hb d_MD_record_20 (by decide) ?_
      refine lv_goto (tgt := 25) hx hb d_MD_record_21 (by decide) ?_
      exact k25 _ _ _ _ ⟨by simp [orN, ← hr4, c7], hP, hD, hS, lv_sub hl [0, 1, 2] rfl⟩
    · refine lv_iload_n hx hb d_MD_record_10 rfl (lv_at hl 2 rfl) ?_
      refine lv_iconst (v := (-1)) hx hb d_MD_record_11 (by decide) ?_
      refine lv_bipush (v := 7) hx hb d_MD_record_12 (by decide) ?_
      have hPc := hP.sub (ws' := []) [] rfl
      have hKc := hK.sub (tys' := []) [] rfl
      refine va_calli (va_runS (As := [.int z, .int (-1), .int 7]) (rest := [.ref g]) ⟨hx, hb, hml, hown, hts⟩ (c_MD_in l dC dI z (-1) 7) (va_cwS 3 hts (vz_gS wb_MD_record b_796 b_797 b_11 wc_MD_in) rfl rfl rfl (by decide +kernel) ⟨Nat.le_of_ble_eq_true rfl, Nat.le_of_ble_eq_true rfl⟩) (vz_preS hPc hKc) rfl rfl hl.1 rfl (lv_room (Nat.le_of_ble_eq_true rfl)) d_MD_record_14 ⟨Nat.le_of_ble_eq_true rfl, Nat.le_of_ble_eq_true rfl⟩) hS (fun q _ h => False.elim h) (fun q h => False.elim h) (fun r14 u9 t9 H1 locs ht hvm hr14 hB hzx9 hkx9 hS => ?_)
      try dsimp only at hr14
      have hP := vz_kept hP hkx9
      generalize H1 = H at hP hS ⊢
      refine lv_if_ne (tgt := 24) hx hb d_MD_record_17 (by decide) (fun c17 => ?_) (fun c17 => ?_)
      · refine lv_iconst (v := 0) hx hb d_MD_record_24 (by decide) ?_
        exact k25 _ _ _ _ ⟨by simp [orN, ← hr4, c7, ← hr14, c17], hP, hD, hS, lv_sub hl [0, 1, 2] rfl⟩
      · refine lv_iconst (v := 1) hx hb d_MD_record_20 (by decide) ?_
        refine lv_goto (tgt := 25) hx hb d_MD_record_21 (by decide) ?_
        exact k25 _ _ _ _ ⟨by simp [orN, ← hr4, c7, ← hr14, c17], hP, hD, hS, lv_sub hl [0, 1, 2] rfl⟩

set_option maxHeartbeats 4000000 in
set_option maxRecDepth 100000 in
theorem c_MD_recordG (l : Launch) (dC : Nat → ClassId) (dI : Nat → Nat → Nat) (sz : Nat) (cI : ClassId) (g mPd mSg mSz mTo mRo mLi mKi mCo mEm mVa mA1 mA2 mA3 mA4 mLk mEx mQp mQd : Nat) (th : Int32) (pn bn en hn an ln xn qn : Nat) (wh wt fd pp wn : Int32) (ki : Nat → Int32) (co : Nat → Int32) (em : Nat → Int32) (hhn : hn < 16) (k z : Int32) (hok : thrF (orN (inF k 0 3) (inF z (-1) 7)) (eqF (nI hn) 16) 0 = 0) : Met l y_MD_record ws_MD_record ({ frames := 1, cells := 0, slots := 0, locals := 23 }) (va_Pc [.ref g, .int k, .int z] (fun U => U.heap.size = sz ∧ va_P (dC, dI) vwCl [(g, .inr (10, [.int th, .ref mPd, .int (nI pn), .int (nI bn), .ref mSg, .ref mSz, .ref mTo, .int (nI en), .ref mRo, .ref mLi, .int (nI hn), .ref mKi, .ref mCo, .ref mEm, .ref mVa, .int (nI an), .ref mA1, .ref mA2, .ref mA3, .ref mA4, .int (nI ln), .ref mLk, .int (nI xn), .ref mEx, .int (nI qn), .ref mQp, .ref mQd, .int wh, .int wt, .int fd, .int pp, .int wn])), (mKi, .inl (cI, 16, .inl ki)), (mCo, .inl (cI, 16, .inl co)), (mEm, .inl (cI, 16, .inl em))] U.heap ∧ va_K (dC, dI) vwCl [(cI, .int)] U ∧ va_D (fun _ => True) [(g, .inr (10, [.int th, .ref mPd, .int (nI pn), .int (nI bn), .ref mSg, .ref mSz, .ref mTo, .int (nI en), .ref mRo, .ref mLi, .int (nI hn), .ref mKi, .ref mCo, .ref mEm, .ref mVa, .int (nI an), .ref mA1, .ref mA2, .ref mA3, .ref mA4, .int (nI ln), .ref mLk, .int (nI xn), .ref mEx, .int (nI qn), .ref mQp, .ref mQd, .int wh, .int wt, .int fd, .int pp, .int wn])), (mKi, .inl (cI, 16, .inl ki)), (mCo, .inl (cI, 16, .inl co)), (mEm, .inl (cI, 16, .inl em))])) (va_Qi (fun (res : Int32) (_ : Unit) => res = nI hn) (fun _ t => va_P (dC, dI) vwCl [(g, .inr (10, [.int (thrF (orN (inF k 0 3) (inF z (-1) 7)) (eqF (nI hn) 16) 0), .ref mPd, .int (nI pn), .int (nI bn), .ref mSg, .ref mSz, .ref mTo, .int (nI en), .ref mRo, .ref mLi, .int (nI (hn + 1)), .ref mKi, .ref mCo, .ref mEm, .ref mVa, .int (nI an), .ref mA1, .ref mA2, .ref mA3, .ref mA4, .int (nI ln), .ref mLk, .int (nI xn), .ref mEx, .int (nI qn), .ref mQp, .ref mQd, .int wh, .int wt, .int fd, .int pp, .int wn])), (mKi, .inl (cI, 16, .inl (upd ki hn k))), (mCo, .inl (cI, 16, .inl (upd co hn z))), (mEm, .inl (cI, 16, .inl (upd em hn (-1))))] t.heap ∧ va_K (dC, dI) vwCl [(cI, .int)] t ∧ va_D (va_A [(g, .inr (10, [.int th, .ref mPd, .int (nI pn), .int (nI bn), .ref mSg, .ref mSz, .ref mTo, .int (nI en), .ref mRo, .ref mLi, .int (nI hn), .ref mKi, .ref mCo, .ref mEm, .ref mVa, .int (nI an), .ref mA1, .ref mA2, .ref mA3, .ref mA4, .int (nI ln), .ref mLk, .int (nI xn), .ref mEx, .int (nI qn), .ref mQp, .ref mQd, .int wh, .int wt, .int fd, .int pp, .int wn])), (mKi, .inl (cI, 16, .inl ki)), (mCo, .inl (cI, 16, .inl co)), (mEm, .inl (cI, 16, .inl em))] sz) [(g, .inr (10, [.int (thrF (orN (inF k 0 3) (inF z (-1) 7)) (eqF (nI hn) 16) 0), .ref mPd, .int (nI pn), .int (nI bn), .ref mSg, .ref mSz, .ref mTo, .int (nI en), .ref mRo, .ref mLi, .int (nI (hn + 1)), .ref mKi, .ref mCo, .ref mEm, .ref mVa, .int (nI an), .ref mA1, .ref mA2, .ref mA3, .ref mA4, .int (nI ln), .ref mLk, .int (nI xn), .ref mEx, .int (nI qn), .ref mQp, .ref mQd, .int wh, .int wt, .int fd, .int pp, .int wn])), (mKi, .inl (cI, 16, .inl (upd ki hn k))), (mCo, .inl (cI, 16, .inl (upd co hn z))), (mEm, .inl (cI, 16, .inl (upd em hn (-1))))]) (va_A [(g, .inr (10, [.int th, .ref mPd, .int (nI pn), .int (nI bn), .ref mSg, .ref mSz, .ref mTo, .int (nI en), .ref mRo, .ref mLi, .int (nI hn), .ref mKi, .ref mCo, .ref mEm, .ref mVa, .int (nI an), .ref mA1, .ref mA2, .ref mA3, .ref mA4, .int (nI ln), .ref mLk, .int (nI xn), .ref mEx, .int (nI qn), .ref mQp, .ref mQd, .int wh, .int wt, .int fd, .int pp, .int wn])), (mKi, .inl (cI, 16, .inl ki)), (mCo, .inl (cI, 16, .inl co)), (mEm, .inl (cI, 16, .inl em))] sz)) 0 0 (va_A [(g, .inr (10, [.int th, .ref mPd, .int (nI pn), .int (nI bn), .ref mSg, .ref mSz, .ref mTo, .int (nI en), .ref mRo, .ref mLi, .int (nI hn), .ref mKi, .ref mCo, .ref mEm, .ref mVa, .int (nI an), .ref mA1, .ref mA2, .ref mA3, .ref mA4, .int (nI ln), .ref mLk, .int (nI xn), .ref mEx, .int (nI qn), .ref mQp, .ref mQd, .int wh, .int wt, .int fd, .int pp, .int wn])), (mKi, .inl (cI, 16, .inl ki)), (mCo, .inl (cI, 16, .inl co)), (mEm, .inl (cI, 16, .inl em))] sz) := by
  refine Met.ofW (cc := k_MD_record) (maxL := 3) (ret := (some .int)) (by decide) rfl ?_
  intro p e s m args below meth c s₁ B hml hv
  obtain ⟨rfl, hsz, hP, hK, hD0⟩ := hv
  have hx := B.exec
  have hb := B.bytes
  have hr := B.returns
  have hts := atoms_spec (ws := ws_MD_record) B.pre
  have hown : s.vm.findClass R_MD = some m.cls := findClass_of_methodNamed B.named
  have hlocks := B.notSynchronized
  subst hsz
  have hD := hD0.self (sz := s.heap.size)
  generalize hAe : va_A [(g, .inr (10, [.int th, .ref mPd, .int (nI pn), .int (nI bn), .ref mSg, .ref mSz, .ref mTo, .int (nI en), .ref mRo, .ref mLi, .int (nI hn), .ref mKi, .ref mCo, .ref mEm, .ref mVa, .int (nI an), .ref mA1, .ref mA2, .ref mA3, .ref mA4, .int (nI ln), .ref mLk, .int (nI xn), .ref mEx, .int (nI qn), .ref mQp, .ref mQd, .int wh, .int wt, .int fd, .int pp, .int wn])), (mKi, .inl (cI, 16, .inl ki)), (mCo, .inl (cI, 16, .inl co)), (mEm, .inl (cI, 16, .inl em))] s.heap.size = A at hD ⊢
  have hA : ∀ q : Nat, s.heap.size ≤ q → A q := fun q h => by rw [← hAe]; exact Or.inr h
  have hS : va_S A s.heap s.heap [] := va_S.rf
  have hP : va_P (dC, dI) vwCl [(g, .inr (10, [.int th, .ref mPd, .int (nI pn), .int (nI bn), .ref mSg, .ref mSz, .ref mTo, .int (nI en), .ref mRo, .ref mLi, .int (nI hn), .ref mKi, .ref mCo, .ref mEm, .ref mVa, .int (nI an), .ref mA1, .ref mA2, .ref mA3, .ref mA4, .int (nI ln), .ref mLk, .int (nI xn), .ref mEx, .int (nI qn), .ref mQp, .ref mQd, .int wh, .int wt, .int fd, .int pp, .int wn])), (mKi, .inl (cI, 16, .inl ki)), (mCo, .inl (cI, 16, .inl co)), (mEm, .inl (cI, 16, .inl em))] s.heap := hP
  have iMD : ∀ w ∈ u_ws R_MD T_MD 32, w ∈ ws_MD_record := fun w h => wb_MD_record w (in_MD w h)
  have hl := lv_entry ([.ref g, .int k, .int z]) (n := 3) (Nat.le_of_ble_eq_true rfl)
  rw [lg_entry_eq]
  generalize (lg_sl ([.ref g, .int k, .int z]) ++ List.replicate (3 - (lg_sl ([.ref g, .int k, .int z])).length) Slot.unset).toArray = ls at hl ⊢
  have hl : lv_has ls 3 [(0, .ref g), (1, .int k), (2, .int z)] := hl
  refine lv_aload_n hx hb d_MD_record_0 rfl (lv_at hl 0 rfl) ?_
  refine vz_join 25 [.ref g] (fun b9 H9 locs9 ls9 => (b9 = orN (inF k 0 3) (inF z (-1) 7)) ∧ va_P (dC, dI) vwCl [(g, .inr (10, [.int th, .ref mPd, .int (nI pn), .int (nI bn), .ref mSg, .ref mSz, .ref mTo, .int (nI en), .ref mRo, .ref mLi, .int (nI hn), .ref mKi, .ref mCo, .ref mEm, .ref mVa, .int (nI an), .ref mA1, .ref mA2, .ref mA3, .ref mA4, .int (nI ln), .ref mLk, .int (nI xn), .ref mEx, .int (nI qn), .ref mQp, .ref mQd, .int wh, .int wt, .int fd, .int pp, .int wn])), (mKi, .inl (cI, 16, .inl ki)), (mCo, .inl (cI, 16, .inl co)), (mEm, .inl (cI, 16, .inl em))] H9 ∧ va_D A [(g, .inr (10, [.int th, .ref mPd, .int (nI pn), .int (nI bn), .ref mSg, .ref mSz, .ref mTo, .int (nI en), .ref mRo, .ref mLi, .int (nI hn), .ref mKi, .ref mCo, .ref mEm, .ref mVa, .int (nI an), .ref mA1, .ref mA2, .ref mA3, .ref mA4, .int (nI ln), .ref mLk, .int (nI xn), .ref mEx, .int (nI qn), .ref mQp, .ref mQd, .int wh, .int wt, .int fd, .int pp, .int wn])), (mKi, .inl (cI, 16, .inl ki)), (mCo, .inl (cI, 16, .inl co)), (mEm, .inl (cI, 16, .inl em))] ∧ va_S A s.heap H9 locs9 ∧ lv_has ls9 3 [(0, .ref g), (1, .int k), (2, .int z)]) (fun b9 H locs ls h9 => ?_) (fun k25 => ?_)
  · obtain ⟨rfl, hP, hD, hS, hl⟩ := h9
    refine vz_join 39 [.int (orN (inF k 0 3) (inF z (-1) 7)), .ref g] (fun b9 H9 locs9 ls9 => (b9 = eqF (nI hn) 16) ∧ va_P (dC, dI) vwCl [(g, .inr (10, [.int th, .ref mPd, .int (nI pn), .int (nI bn), .ref mSg, .ref mSz, .ref mTo, .int (nI en), .ref mRo, .ref mLi, .int (nI hn), .ref mKi, .ref mCo, .ref mEm, .ref mVa, .int (nI an), .ref mA1, .ref mA2, .ref mA3, .ref mA4, .int (nI ln), .ref mLk, .int (nI xn), .ref mEx, .int (nI qn), .ref mQp, .ref mQd, .int wh, .int wt, .int fd, .int pp, .int wn])), (mKi, .inl (cI, 16, .inl ki)), (mCo, .inl (cI, 16, .inl co)), (mEm, .inl (cI, 16, .inl em))] H9 ∧ va_D A [(g, .inr (10, [.int th, .ref mPd, .int (nI pn), .int (nI bn), .ref mSg, .ref mSz, .ref mTo, .int (nI en), .ref mRo, .ref mLi, .int (nI hn), .ref mKi, .ref mCo, .ref mEm, .ref mVa, .int (nI an), .ref mA1, .ref mA2, .ref mA3, .ref mA4, .int (nI ln), .ref mLk, .int (nI xn), .ref mEx, .int (nI qn), .ref mQp, .ref mQd, .int wh, .int wt, .int fd, .int pp, .int wn])), (mKi, .inl (cI, 16, .inl ki)), (mCo, .inl (cI, 16, .inl co)), (mEm, .inl (cI, 16, .inl em))] ∧ va_S A s.heap H9 locs9 ∧ lv_has ls9 3 [(0, .ref g), (1, .int k), (2, .int z)]) (fun b9 H locs ls h9 => ?_) (fun k39 => ?_)
    · obtain ⟨rfl, hP, hD, hS, hl⟩ := h9
      refine lv_iconst (v := 0) hx hb d_MD_record_39 (by decide) ?_
      have hPc := hP.sub (ws' := [(g, .inr (10, [.int th, .ref mPd, .int (nI pn), .int (nI bn), .ref mSg, .ref mSz, .ref mTo, .int (nI en), .ref mRo, .ref mLi, .int (nI hn), .ref mKi, .ref mCo, .ref mEm, .ref mVa, .int (nI an), .ref mA1, .ref mA2, .ref mA3, .ref mA4, .int (nI ln), .ref mLk, .int (nI xn), .ref mEx, .int (nI qn), .ref mQp, .ref mQd, .int wh, .int wt, .int fd, .int pp, .int wn]))]) [0] rfl
      have hKc := hK.sub (tys' := []) [] rfl
      have hDc := hD.sub (ws' := [(g, .inr (10, [.int th, .ref mPd, .int (nI pn), .int (nI bn), .ref mSg, .ref mSz, .ref mTo, .int (nI en), .ref mRo, .ref mLi, .int (nI hn), .ref mKi, .ref mCo, .ref mEm, .ref mVa, .int (nI an), .ref mA1, .ref mA2, .ref mA3, .ref mA4, .int (nI ln), .ref mLk, .int (nI xn), .ref mEx, .int (nI qn), .ref mQp, .ref mQd, .int wh, .int wt, .int fd, .int pp, .int wn]))]) [0] (by decide) rfl
      have hFc := va_free (wc := [(g, .inr (10, [.int th, .ref mPd, .int (nI pn), .int (nI bn), .ref mSg, .ref mSz, .ref mTo, .int (nI en), .ref mRo, .ref mLi, .int (nI hn), .ref mKi, .ref mCo, .ref mEm, .ref mVa, .int (nI an), .ref mA1, .ref mA2, .ref mA3, .ref mA4, .int (nI ln), .ref mLk, .int (nI xn), .ref mEx, .int (nI qn), .ref mQp, .ref mQd, .int wh, .int wt, .int fd, .int pp, .int wn]))]) hD hS hA [0] rfl
      refine va_calli (va_runV (As := [.int (orN (inF k 0 3) (inF z (-1) 7)), .int (eqF (nI hn) 16), .int 0]) (rest := []) ⟨hx, hb, hml, hown, hts⟩ (c_MD_throwing l dC dI H.size g mPd mSg mSz mTo mRo mLi mKi mCo mEm mVa mA1 mA2 mA3 mA4 mLk mEx mQp mQd th pn bn en hn an ln xn qn wh wt fd pp wn (orN (inF k 0 3) (inF z (-1) 7)) (eqF (nI hn) 16) 0) (cwV 3 hts (vz_gV wb_MD_record b_777 b_779 bs_15 b_11 wc_MD_throwing) rfl rfl rfl (by decide +kernel) ⟨Nat.le_of_ble_eq_true rfl, Nat.le_of_ble_eq_true rfl⟩) (vz_preVw (A := A) hPc hKc hDc (ci := 10) (q0 := 0) rfl rfl) rfl rfl hl.1 rfl (lv_room (Nat.le_of_ble_eq_true rfl)) d_MD_record_40 ⟨Nat.le_of_ble_eq_true rfl, Nat.le_of_ble_eq_true rfl⟩) hS (fun q _ h => hFc q h) hFc (fun r40 u9 t9 H1 locs ht hvm hr40 hB hzx9 hkx9 hS => ?_)
      try dsimp only at hr40
      obtain ⟨hP1, hK1, hD1⟩ := hB
      rw [ht] at hP1
      obtain ⟨hP, hD⟩ := va_join (wr := [(mKi, .inl (cI, 16, .inl ki)), (mCo, .inl (cI, 16, .inl co)), (mEm, .inl (cI, 16, .inl em))]) (w1 := [(g, .inr (10, [.int (thrF (orN (inF k 0 3) (inF z (-1) 7)) (eqF (nI hn) 16) 0), .ref mPd, .int (nI pn), .int (nI bn), .ref mSg, .ref mSz, .ref mTo, .int (nI en), .ref mRo, .ref mLi, .int (nI hn), .ref mKi, .ref mCo, .ref mEm, .ref mVa, .int (nI an), .ref mA1, .ref mA2, .ref mA3, .ref mA4, .int (nI ln), .ref mLk, .int (nI xn), .ref mEx, .int (nI qn), .ref mQp, .ref mQd, .int wh, .int wt, .int fd, .int pp, .int wn]))]) hP hD [0] [1, 2, 3] rfl rfl (by decide) (by decide) hkx9 hFc hP1 hD1
      generalize H1 = H at hP hS ⊢
      have hP : va_P (dC, dI) vwCl [(mKi, .inl (cI, 16, .inl ki)), (mCo, .inl (cI, 16, .inl co)), (mEm, .inl (cI, 16, .inl em)), (g, .inr (10, [.int (thrF (orN (inF k 0 3) (inF z (-1) 7)) (eqF (nI hn) 16) 0), .ref mPd, .int (nI pn), .int (nI bn), .ref mSg, .ref mSz, .ref mTo, .int (nI en), .ref mRo, .ref mLi, .int (nI hn), .ref mKi, .ref mCo, .ref mEm, .ref mVa, .int (nI an), .ref mA1, .ref mA2, .ref mA3, .ref mA4, .int (nI ln), .ref mLk, .int (nI xn), .ref mEx, .int (nI qn), .ref mQp, .ref mQd, .int wh, .int wt, .int fd, .int pp, .int wn]))] H := hP
      have hD : va_D A [(mKi, .inl (cI, 16, .inl ki)), (mCo, .inl (cI, 16, .inl co)), (mEm, .inl (cI, 16, .inl em)), (g, .inr (10, [.int (thrF (orN (inF k 0 3) (inF z (-1) 7)) (eqF (nI hn) 16) 0), .ref mPd, .int (nI pn), .int (nI bn), .ref mSg, .ref mSz, .ref mTo, .int (nI en), .ref mRo, .ref mLi, .int (nI hn), .ref mKi, .ref mCo, .ref mEm, .ref mVa, .int (nI an), .ref mA1, .ref mA2, .ref mA3, .ref mA4, .int (nI ln), .ref mLk, .int (nI xn), .ref mEx, .int (nI qn), .ref mQp, .ref mQd, .int wh, .int wt, .int fd, .int pp, .int wn]))] := hD
      refine lv_if_eq (tgt := 48) hx hb d_MD_record_43 (by decide) (fun c43 => ?_) (fun c43 => ?_)
      · refine lv_aload_n hx hb d_MD_record_48 rfl (lv_at hl 0 rfl) ?_
        refine va_get (D := (dC, dI)) (ci := 10) (v := .ref mKi) (C := R_MD) (T := T_MD) (N := 32) hx hb hts iMD hown hK hP 3 rfl rfl 11 (by decide) (hts _ (wb_MD_record _ b_679)) (fun _ h9 => h9) rfl d_MD_record_49 ?_
        refine lv_aload_n hx hb d_MD_record_52 rfl (lv_at hl 0 rfl) ?_
        refine va_get (D := (dC, dI)) (ci := 10) (v := .int (nI hn)) (C := R_MD) (T := T_MD) (N := 32) hx hb hts iMD hown hK hP 3 rfl rfl 10 (by decide) (hts _ (wb_MD_record _ b_678)) (fun _ h9 => h9) rfl d_MD_record_53 ?_
        refine lv_iload_n hx hb d_MD_record_56 rfl (lv_at hl 1 rfl) ?_
        refine vz_iast (k := hn) hx hb hK hP hD hS 0 0 rfl rfl (by omega) (by decide) d_MD_record_57 (fun H locs hP hD hS => ?_)
        have hP : va_P (dC, dI) vwCl [(mKi, .inl (cI, 16, .inl (upd ki hn k))), (mCo, .inl (cI, 16, .inl co)), (mEm, .inl (cI, 16, .inl em)), (g, .inr (10, [.int (thrF (orN (inF k 0 3) (inF z (-1) 7)) (eqF (nI hn) 16) 0), .ref mPd, .int (nI pn), .int (nI bn), .ref mSg, .ref mSz, .ref mTo, .int (nI en), .ref mRo, .ref mLi, .int (nI hn), .ref mKi, .ref mCo, .ref mEm, .ref mVa, .int (nI an), .ref mA1, .ref mA2, .ref mA3, .ref mA4, .int (nI ln), .ref mLk, .int (nI xn), .ref mEx, .int (nI qn), .ref mQp, .ref mQd, .int wh, .int wt, .int fd, .int pp, .int wn]))] H := hP
        have hD : va_D A [(mKi, .inl (cI, 16, .inl (upd ki hn k))), (mCo, .inl (cI, 16, .inl co)), (mEm, .inl (cI, 16, .inl em)), (g, .inr (10, [.int (thrF (orN (inF k 0 3) (inF z (-1) 7)) (eqF (nI hn) 16) 0), .ref mPd, .int (nI pn), .int (nI bn), .ref mSg, .ref mSz, .ref mTo, .int (nI en), .ref mRo, .ref mLi, .int (nI hn), .ref mKi, .ref mCo, .ref mEm, .ref mVa, .int (nI an), .ref mA1, .ref mA2, .ref mA3, .ref mA4, .int (nI ln), .ref mLk, .int (nI xn), .ref mEx, .int (nI qn), .ref mQp, .ref mQd, .int wh, .int wt, .int fd, .int pp, .int wn]))] := hD
        refine lv_aload_n hx hb d_MD_record_58 rfl (lv_at hl 0 rfl) ?_
        refine va_get (D := (dC, dI)) (ci := 10) (v := .ref mCo) (C := R_MD) (T := T_MD) (N := 32) hx hb hts iMD hown hK hP 3 rfl rfl 12 (by decide) (hts _ (wb_MD_record _ b_680)) (fun _ h9 => h9) rfl d_MD_record_59 ?_
        refine lv_aload_n hx hb d_MD_record_62 rfl (lv_at hl 0 rfl) ?_
        refine va_get (D := (dC, dI)) (ci := 10) (v := .int (nI hn)) (C := R_MD) (T := T_MD) (N := 32) hx hb hts iMD hown hK hP 3 rfl rfl 10 (by decide) (hts _ (wb_MD_record _ b_678)) (fun _ h9 => h9) rfl d_MD_record_63 ?_
        refine lv_iload_n hx hb d_MD_record_66 rfl (lv_at hl 2 rfl) ?_
        refine vz_iast (k := hn) hx hb hK hP hD hS 1 0 rfl rfl (by omega) (by decide) d_MD_record_67 (fun H locs hP hD hS => ?_)
        have hP : va_P (dC, dI) vwCl [(mKi, .inl (cI, 16, .inl (upd ki hn k))), (mCo, .inl (cI, 16, .inl (upd co hn z))), (mEm, .inl (cI, 16, .inl em)), (g, .inr (10, [.int (thrF (orN (inF k 0 3) (inF z (-1) 7)) (eqF (nI hn) 16) 0), .ref mPd, .int (nI pn), .int (nI bn), .ref mSg, .ref mSz, .ref mTo, .int (nI en), .ref mRo, .ref mLi, .int (nI hn), .ref mKi, .ref mCo, .ref mEm, .ref mVa, .int (nI an), .ref mA1, .ref mA2, .ref mA3, .ref mA4, .int (nI ln), .ref mLk, .int (nI xn), .ref mEx, .int (nI qn), .ref mQp, .ref mQd, .int wh, .int wt, .int fd, .int pp, .int wn]))] H := hP
        have hD : va_D A [(mKi, .inl (cI, 16, .inl (upd ki hn k))), (mCo, .inl (cI, 16, .inl (upd co hn z))), (mEm, .inl (cI, 16, .inl em)), (g, .inr (10, [.int (thrF (orN (inF k 0 3) (inF z (-1) 7)) (eqF (nI hn) 16) 0), .ref mPd, .int (nI pn), .int (nI bn), .ref mSg, .ref mSz, .ref mTo, .int (nI en), .ref mRo, .ref mLi, .int (nI hn), .ref mKi, .ref mCo, .ref mEm, .ref mVa, .int (nI an), .ref mA1, .ref mA2, .ref mA3, .ref mA4, .int (nI ln), .ref mLk, .int (nI xn), .ref mEx, .int (nI qn), .ref mQp, .ref mQd, .int wh, .int wt, .int fd, .int pp, .int wn]))] := hD
        refine lv_aload_n hx hb d_MD_record_68 rfl (lv_at hl 0 rfl) ?_
        refine va_get (D := (dC, dI)) (ci := 10) (v := .ref mEm) (C := R_MD) (T := T_MD) (N := 32) hx hb hts iMD hown hK hP 3 rfl rfl 13 (by decide) (hts _ (wb_MD_record _ b_681)) (fun _ h9 => h9) rfl d_MD_record_69 ?_
        refine lv_aload_n hx hb d_MD_record_72 rfl (lv_at hl 0 rfl) ?_
        refine va_get (D := (dC, dI)) (ci := 10) (v := .int (nI hn)) (C := R_MD) (T := T_MD) (N := 32) hx hb hts iMD hown hK hP 3 rfl rfl 10 (by decide) (hts _ (wb_MD_record _ b_678)) (fun _ h9 => h9) rfl d_MD_record_73 ?_
        refine lv_iconst (v := (-1)) hx hb d_MD_record_76 (by decide) ?_
        refine vz_iast (k := hn) hx hb hK hP hD hS 2 0 rfl rfl (by omega) (by decide) d_MD_record_77 (fun H locs hP hD hS => ?_)
        have hP : va_P (dC, dI) vwCl [(mKi, .inl (cI, 16, .inl (upd ki hn k))), (mCo, .inl (cI, 16, .inl (upd co hn z))), (mEm, .inl (cI, 16, .inl (upd em hn (-1)))), (g, .inr (10, [.int (thrF (orN (inF k 0 3) (inF z (-1) 7)) (eqF (nI hn) 16) 0), .ref mPd, .int (nI pn), .int (nI bn), .ref mSg, .ref mSz, .ref mTo, .int (nI en), .ref mRo, .ref mLi, .int (nI hn), .ref mKi, .ref mCo, .ref mEm, .ref mVa, .int (nI an), .ref mA1, .ref mA2, .ref mA3, .ref mA4, .int (nI ln), .ref mLk, .int (nI xn), .ref mEx, .int (nI qn), .ref mQp, .ref mQd, .int wh, .int wt, .int fd, .int pp, .int wn]))] H := hP
        have hD : va_D A [(mKi, .inl (cI, 16, .inl (upd ki hn k))), (mCo, .inl (cI, 16, .inl (upd co hn z))), (mEm, .inl (cI, 16, .inl (upd em hn (-1)))), (g, .inr (10, [.int (thrF (orN (inF k 0 3) (inF z (-1) 7)) (eqF (nI hn) 16) 0), .ref mPd, .int (nI pn), .int (nI bn), .ref mSg, .ref mSz, .ref mTo, .int (nI en), .ref mRo, .ref mLi, .int (nI hn), .ref mKi, .ref mCo, .ref mEm, .ref mVa, .int (nI an), .ref mA1, .ref mA2, .ref mA3, .ref mA4, .int (nI ln), .ref mLk, .int (nI xn), .ref mEx, .int (nI qn), .ref mQp, .ref mQd, .int wh, .int wt, .int fd, .int pp, .int wn]))] := hD
        refine lv_aload_n hx hb d_MD_record_78 rfl (lv_at hl 0 rfl) ?_
        refine lv_dup hx hb d_MD_record_79 rfl ?_
        refine va_get (D := (dC, dI)) (ci := 10) (v := .int (nI hn)) (C := R_MD) (T := T_MD) (N := 32) hx hb hts iMD hown hK hP 3 rfl rfl 10 (by decide) (hts _ (wb_MD_record _ b_678)) (fun _ h9 => h9) rfl d_MD_record_80 ?_
        refine lv_iconst (v := 1) hx hb d_MD_record_83 (by decide) ?_
        refine lv_iadd hx hb d_MD_record_84 ?_
        refine vz_top (y := nI (hn + 1)) (nI_1 hn) ?_
        refine va_put (D := (dC, dI)) (ci := 10) (v := .int (nI (hn + 1))) (ty := .int) (C := R_MD) (T := T_MD) (N := 32) hx hb hts iMD ty_MD tyok_MD nm_MD hown hK hP hD hS 3 rfl rfl 10 (by decide) (hts _ (wb_MD_record _ b_678)) (fun _ h9 => h9) rfl rfl rfl rfl (Nat.le_of_ble_eq_true rfl) d_MD_record_85 (fun H locs hP hD hS => ?_)
        have hP : va_P (dC, dI) vwCl [(mKi, .inl (cI, 16, .inl (upd ki hn k))), (mCo, .inl (cI, 16, .inl (upd co hn z))), (mEm, .inl (cI, 16, .inl (upd em hn (-1)))), (g, .inr (10, [.int (thrF (orN (inF k 0 3) (inF z (-1) 7)) (eqF (nI hn) 16) 0), .ref mPd, .int (nI pn), .int (nI bn), .ref mSg, .ref mSz, .ref mTo, .int (nI en), .ref mRo, .ref mLi, .int (nI (hn + 1)), .ref mKi, .ref mCo, .ref mEm, .ref mVa, .int (nI an), .ref mA1, .ref mA2, .ref mA3, .ref mA4, .int (nI ln), .ref mLk, .int (nI xn), .ref mEx, .int (nI qn), .ref mQp, .ref mQd, .int wh, .int wt, .int fd, .int pp, .int wn]))] H := hP
        have hD : va_D A [(mKi, .inl (cI, 16, .inl (upd ki hn k))), (mCo, .inl (cI, 16, .inl (upd co hn z))), (mEm, .inl (cI, 16, .inl (upd em hn (-1)))), (g, .inr (10, [.int (thrF (orN (inF k 0 3) (inF z (-1) 7)) (eqF (nI hn) 16) 0), .ref mPd, .int (nI pn), .int (nI bn), .ref mSg, .ref mSz, .ref mTo, .int (nI en), .ref mRo, .ref mLi, .int (nI (hn + 1)), .ref mKi, .ref mCo, .ref mEm, .ref mVa, .int (nI an), .ref mA1, .ref mA2, .ref mA3, .ref mA4, .int (nI ln), .ref mLk, .int (nI xn), .ref mEx, .int (nI qn), .ref mQp, .ref mQd, .int wh, .int wt, .int fd, .int pp, .int wn]))] := hD
        refine lv_aload_n hx hb d_MD_record_88 rfl (lv_at hl 0 rfl) ?_
        refine va_get (D := (dC, dI)) (ci := 10) (v := .int (nI (hn + 1))) (C := R_MD) (T := T_MD) (N := 32) hx hb hts iMD hown hK hP 3 rfl rfl 10 (by decide) (hts _ (wb_MD_record _ b_678)) (fun _ h9 => h9) rfl d_MD_record_89 ?_
        refine lv_iconst (v := 1) hx hb d_MD_record_92 (by decide) ?_
        refine lv_isub hx hb d_MD_record_93 ?_
        have hP9 := hP.sub (ws' := [(g, .inr (10, [.int (thrF (orN (inF k 0 3) (inF z (-1) 7)) (eqF (nI hn) 16) 0), .ref mPd, .int (nI pn), .int (nI bn), .ref mSg, .ref mSz, .ref mTo, .int (nI en), .ref mRo, .ref mLi, .int (nI (hn + 1)), .ref mKi, .ref mCo, .ref mEm, .ref mVa, .int (nI an), .ref mA1, .ref mA2, .ref mA3, .ref mA4, .int (nI ln), .ref mLk, .int (nI xn), .ref mEx, .int (nI qn), .ref mQp, .ref mQd, .int wh, .int wt, .int fd, .int pp, .int wn])), (mKi, .inl (cI, 16, .inl (upd ki hn k))), (mCo, .inl (cI, 16, .inl (upd co hn z))), (mEm, .inl (cI, 16, .inl (upd em hn (-1))))]) [3, 0, 1, 2] rfl
        have hD9 := hD.sub (ws' := [(g, .inr (10, [.int (thrF (orN (inF k 0 3) (inF z (-1) 7)) (eqF (nI hn) 16) 0), .ref mPd, .int (nI pn), .int (nI bn), .ref mSg, .ref mSz, .ref mTo, .int (nI en), .ref mRo, .ref mLi, .int (nI (hn + 1)), .ref mKi, .ref mCo, .ref mEm, .ref mVa, .int (nI an), .ref mA1, .ref mA2, .ref mA3, .ref mA4, .int (nI ln), .ref mLk, .int (nI xn), .ref mEx, .int (nI qn), .ref mQp, .ref mQd, .int wh, .int wt, .int fd, .int pp, .int wn])), (mKi, .inl (cI, 16, .inl (upd ki hn k))), (mCo, .inl (cI, 16, .inl (upd co hn z))), (mEm, .inl (cI, 16, .inl (upd em hn (-1))))]) [3, 0, 1, 2] (by decide) rfl
        exact W.iret (v := (nI (hn + 1)) - 1) hx hb hr (fun t ht hW => ⟨⟨(nI (hn + 1)) - 1, (), rfl, nI_pred hn, by rw [ht]; exact hP9, va_K.moved hW.alike hK, hD9⟩, hS.F ht⟩) hS.2.2 d_MD_record_94
      · exact absurd (hr40.trans (thrB_z hok)) c43
    · refine lv_aload_n hx hb d_MD_record_25 rfl (lv_at hl 0 rfl) ?_
      refine va_get (D := (dC, dI)) (ci := 10) (v := .int (nI hn)) (C := R_MD) (T := T_MD) (N := 32) hx hb hts iMD hown hK hP 0 rfl rfl 10 (by decide) (hts _ (wb_MD_record _ b_678)) (fun _ h9 => h9) rfl d_MD_record_26 ?_
      refine lv_bipush (v := 16) hx hb d_MD_record_29 (by decide) ?_
      refine lv_icmp_ne (tgt := 38) hx hb d_MD_record_31 (by decide) (fun c31 => ?_) (fun c31 => ?_)
      · refine lv_iconst (v := 0) hx hb d_MD_record_38 (by decide) ?_
        exact k39 _ _ _ _ ⟨by simp [eqF, c31], hP, hD, hS, lv_sub hl [0, 1, 2] rfl⟩
      · refine lv_iconst (v := 1) hx hb d_MD_record_34 (by decide) ?_
        refine lv_goto (tgt := 39) hx hb d_MD_record_35 (by decide) ?_
        exact k39 _ _ _ _ ⟨by simp [eqF, c31], hP, hD, hS, lv_sub hl [0, 1, 2] rfl⟩
  · refine lv_iload_n hx hb d_MD_record_1 rfl (lv_at hl 1 rfl) ?_
    refine lv_iconst (v := 0) hx hb d_MD_record_2 (by decide) ?_
    refine lv_iconst (v := 3) hx hb d_MD_record_3 (by decide) ?_
    have hPc := hP.sub (ws' := []) [] rfl
    have hKc := hK.sub (tys' := []) [] rfl
    refine va_calli (va_runS (As := [.int k, .int 0, .int 3]) (rest := [.ref g]) ⟨hx, hb, hml, hown, hts⟩ (c_MD_in l dC dI k 0 3) (va_cwS 3 hts (vz_gS wb_MD_record b_796 b_797 b_11 wc_MD_in) rfl rfl rfl (by decide +kernel) ⟨Nat.le_of_ble_eq_true rfl, Nat.le_of_ble_eq_true rfl⟩) (vz_preS hPc hKc) rfl rfl hl.1 rfl (lv_room (Nat.le_of_ble_eq_true rfl)) d_MD_record_4 ⟨Nat.le_of_ble_eq_true rfl, Nat.le_of_ble_eq_true rfl⟩) hS (fun q _ h => False.elim h) (fun q h => False.elim h) (fun r4 u9 t9 H1 locs ht hvm hr4 hB hzx9 hkx9 hS => ?_)
    try dsimp only at hr4
    have hP := vz_kept hP hkx9
    generalize H1 = H at hP hS ⊢
    refine lv_if_eq (tgt := 20) hx hb d_MD_record_7 (by decide) (fun c7 => ?_) (fun c7 => ?_)
    · refine lv_iconst (v := 1) hx hb d_MD_record_20 (by decide) ?_
      refine lv_goto (tgt := 25) hx hb d_MD_record_21 (by decide) ?_
      exact k25 _ _ _ _ ⟨by simp [orN, ← hr4, c7], hP, hD, hS, lv_sub hl [0, 1, 2] rfl⟩
    · refine lv_iload_n hx hb d_MD_record_10 rfl (lv_at hl 2 rfl) ?_
      refine lv_iconst (v := (-1)) hx hb d_MD_record_11 (by decide) ?_
      refine lv_bipush (v := 7) hx hb d_MD_record_12 (by decide) ?_
      have hPc := hP.sub (ws' := []) [] rfl
      have hKc := hK.sub (tys' := []) [] rfl
      refine va_calli (va_runS (As := [.int z, .int (-1), .int 7]) (rest := [.ref g]) ⟨hx, hb, hml, hown, hts⟩ (c_MD_in l dC dI z (-1) 7) (va_cwS 3 hts (vz_gS wb_MD_record b_796 b_797 b_11 wc_MD_in) rfl rfl rfl (by decide +kernel) ⟨Nat.le_of_ble_eq_true rfl, Nat.le_of_ble_eq_true rfl⟩) (vz_preS hPc hKc) rfl rfl hl.1 rfl (lv_room (Nat.le_of_ble_eq_true rfl)) d_MD_record_14 ⟨Nat.le_of_ble_eq_true rfl, Nat.le_of_ble_eq_true rfl⟩) hS (fun q _ h => False.elim h) (fun q h => False.elim h) (fun r14 u9 t9 H1 locs ht hvm hr14 hB hzx9 hkx9 hS => ?_)
      try dsimp only at hr14
      have hP := vz_kept hP hkx9
      generalize H1 = H at hP hS ⊢
      refine lv_if_ne (tgt := 24) hx hb d_MD_record_17 (by decide) (fun c17 => ?_) (fun c17 => ?_)
      · refine lv_iconst (v := 0) hx hb d_MD_record_24 (by decide) ?_
        exact k25 _ _ _ _ ⟨by simp [orN, ← hr4, c7, ← hr14, c17], hP, hD, hS, lv_sub hl [0, 1, 2] rfl⟩
      · refine lv_iconst (v := 1) hx hb d_MD_record_20 (by decide) ?_
        refine lv_goto (tgt := 25) hx hb d_MD_record_21 (by decide) ?_
        exact k25 _ _ _ _ ⟨by simp [orN, ← hr4, c7, ← hr14, c17], hP, hD, hS, lv_sub hl [0, 1, 2] rfl⟩

set_option maxHeartbeats 4000000 in
set_option maxRecDepth 100000 in
theorem c_MD_valueB (l : Launch) (dC : Nat → ClassId) (dI : Nat → Nat → Nat) (sz : Nat) (g mPd mSg mSz mTo mRo mLi mKi mCo mEm mVa mA1 mA2 mA3 mA4 mLk mEx mQp mQd : Nat) (th : Int32) (pn bn en hn an ln xn qn : Nat) (wh wt fd pp wn : Int32) (r f : Int32) (v : Int64) (hok : ¬ thrF (orN (inF r 0 (nI hn - 1)) (inF f 0 5)) 0 0 = 0) : Met l y_MD_value ws_MD_value ({ frames := 2, cells := 0, slots := 0, locals := 43 }) (va_Pc [.ref g, .int r, .int f, .long v] (fun U => U.heap.size = sz ∧ va_P (dC, dI) vwCl [(g, .inr (10, [.int th, .ref mPd, .int (nI pn), .int (nI bn), .ref mSg, .ref mSz, .ref mTo, .int (nI en), .ref mRo, .ref mLi, .int (nI hn), .ref mKi, .ref mCo, .ref mEm, .ref mVa, .int (nI an), .ref mA1, .ref mA2, .ref mA3, .ref mA4, .int (nI ln), .ref mLk, .int (nI xn), .ref mEx, .int (nI qn), .ref mQp, .ref mQd, .int wh, .int wt, .int fd, .int pp, .int wn]))] U.heap ∧ va_K (dC, dI) vwCl [] U ∧ va_D (fun _ => True) [(g, .inr (10, [.int th, .ref mPd, .int (nI pn), .int (nI bn), .ref mSg, .ref mSz, .ref mTo, .int (nI en), .ref mRo, .ref mLi, .int (nI hn), .ref mKi, .ref mCo, .ref mEm, .ref mVa, .int (nI an), .ref mA1, .ref mA2, .ref mA3, .ref mA4, .int (nI ln), .ref mLk, .int (nI xn), .ref mEx, .int (nI qn), .ref mQp, .ref mQd, .int wh, .int wt, .int fd, .int pp, .int wn]))])) (va_Ql (fun (res : Int64) (_ : Unit) => res = 0) (fun _ t => va_P (dC, dI) vwCl [(g, .inr (10, [.int (thrF (orN (inF r 0 (nI hn - 1)) (inF f 0 5)) 0 0), .ref mPd, .int (nI pn), .int (nI bn), .ref mSg, .ref mSz, .ref mTo, .int (nI en), .ref mRo, .ref mLi, .int (nI hn), .ref mKi, .ref mCo, .ref mEm, .ref mVa, .int (nI an), .ref mA1, .ref mA2, .ref mA3, .ref mA4, .int (nI ln), .ref mLk, .int (nI xn), .ref mEx, .int (nI qn), .ref mQp, .ref mQd, .int wh, .int wt, .int fd, .int pp, .int wn]))] t.heap ∧ va_K (dC, dI) vwCl [] t ∧ va_D (va_A [(g, .inr (10, [.int th, .ref mPd, .int (nI pn), .int (nI bn), .ref mSg, .ref mSz, .ref mTo, .int (nI en), .ref mRo, .ref mLi, .int (nI hn), .ref mKi, .ref mCo, .ref mEm, .ref mVa, .int (nI an), .ref mA1, .ref mA2, .ref mA3, .ref mA4, .int (nI ln), .ref mLk, .int (nI xn), .ref mEx, .int (nI qn), .ref mQp, .ref mQd, .int wh, .int wt, .int fd, .int pp, .int wn]))] sz) [(g, .inr (10, [.int (thrF (orN (inF r 0 (nI hn - 1)) (inF f 0 5)) 0 0), .ref mPd, .int (nI pn), .int (nI bn), .ref mSg, .ref mSz, .ref mTo, .int (nI en), .ref mRo, .ref mLi, .int (nI hn), .ref mKi, .ref mCo, .ref mEm, .ref mVa, .int (nI an), .ref mA1, .ref mA2, .ref mA3, .ref mA4, .int (nI ln), .ref mLk, .int (nI xn), .ref mEx, .int (nI qn), .ref mQp, .ref mQd, .int wh, .int wt, .int fd, .int pp, .int wn]))]) (va_A [(g, .inr (10, [.int th, .ref mPd, .int (nI pn), .int (nI bn), .ref mSg, .ref mSz, .ref mTo, .int (nI en), .ref mRo, .ref mLi, .int (nI hn), .ref mKi, .ref mCo, .ref mEm, .ref mVa, .int (nI an), .ref mA1, .ref mA2, .ref mA3, .ref mA4, .int (nI ln), .ref mLk, .int (nI xn), .ref mEx, .int (nI qn), .ref mQp, .ref mQd, .int wh, .int wt, .int fd, .int pp, .int wn]))] sz)) 0 0 (va_A [(g, .inr (10, [.int th, .ref mPd, .int (nI pn), .int (nI bn), .ref mSg, .ref mSz, .ref mTo, .int (nI en), .ref mRo, .ref mLi, .int (nI hn), .ref mKi, .ref mCo, .ref mEm, .ref mVa, .int (nI an), .ref mA1, .ref mA2, .ref mA3, .ref mA4, .int (nI ln), .ref mLk, .int (nI xn), .ref mEx, .int (nI qn), .ref mQp, .ref mQd, .int wh, .int wt, .int fd, .int pp, .int wn]))] sz) := by
  refine Met.ofW (cc := k_MD_value) (maxL := 7) (ret := (some .long)) (by decide) rfl ?_
  intro p e s m args below meth c s₁ B hml hv
  obtain ⟨rfl, hsz, hP, hK, hD0⟩ := hv
  have hx := B.exec
  have hb := B.bytes
  have hr := B.returns
  have hts := atoms_spec (ws := ws_MD_value) B.pre
  have hown : s.vm.findClass R_MD = some m.cls := findClass_of_methodNamed B.named
  have hlocks := B.notSynchronized
  subst hsz
  have hD := hD0.self (sz := s.heap.size)
  generalize hAe : va_A [(g, .inr (10, [.int th, .ref mPd, .int (nI pn), .int (nI bn), .ref mSg, .ref mSz, .ref mTo, .int (nI en), .ref mRo, .ref mLi, .int (nI hn), .ref mKi, .ref mCo, .ref mEm, .ref mVa, .int (nI an), .ref mA1, .ref mA2, .ref mA3, .ref mA4, .int (nI ln), .ref mLk, .int (nI xn), .ref mEx, .int (nI qn), .ref mQp, .ref mQd, .int wh, .int wt, .int fd, .int pp, .int wn]))] s.heap.size = A at hD ⊢
  have hA : ∀ q : Nat, s.heap.size ≤ q → A q := fun q h => by rw [← hAe]; exact Or.inr h
  have hS : va_S A s.heap s.heap [] := va_S.rf
  have hP : va_P (dC, dI) vwCl [(g, .inr (10, [.int th, .ref mPd, .int (nI pn), .int (nI bn), .ref mSg, .ref mSz, .ref mTo, .int (nI en), .ref mRo, .ref mLi, .int (nI hn), .ref mKi, .ref mCo, .ref mEm, .ref mVa, .int (nI an), .ref mA1, .ref mA2, .ref mA3, .ref mA4, .int (nI ln), .ref mLk, .int (nI xn), .ref mEx, .int (nI qn), .ref mQp, .ref mQd, .int wh, .int wt, .int fd, .int pp, .int wn]))] s.heap := hP
  have iMD : ∀ w ∈ u_ws R_MD T_MD 32, w ∈ ws_MD_value := fun w h => wb_MD_value w (in_MD w h)
  have hl := lv_entry ([.ref g, .int r, .int f, .long v]) (n := 7) (Nat.le_of_ble_eq_true rfl)
  rw [lg_entry_eq]
  generalize (lg_sl ([.ref g, .int r, .int f, .long v]) ++ List.replicate (7 - (lg_sl ([.ref g, .int r, .int f, .long v])).length) Slot.unset).toArray = ls at hl ⊢
  have hl : lv_has ls 7 [(0, .ref g), (1, .int r), (2, .int f), (3, .long v)] := hl
  refine lv_aload_n hx hb d_MD_value_0 rfl (lv_at hl 0 rfl) ?_
  refine vz_join 21 [.ref g] (fun b9 H9 locs9 ls9 => (b9 = orN (inF r 0 (nI hn - 1)) (inF f 0 5)) ∧ va_P (dC, dI) vwCl [(g, .inr (10, [.int th, .ref mPd, .int (nI pn), .int (nI bn), .ref mSg, .ref mSz, .ref mTo, .int (nI en), .ref mRo, .ref mLi, .int (nI hn), .ref mKi, .ref mCo, .ref mEm, .ref mVa, .int (nI an), .ref mA1, .ref mA2, .ref mA3, .ref mA4, .int (nI ln), .ref mLk, .int (nI xn), .ref mEx, .int (nI qn), .ref mQp, .ref mQd, .int wh, .int wt, .int fd, .int pp, .int wn]))] H9 ∧ va_D A [(g, .inr (10, [.int th, .ref mPd, .int (nI pn), .int (nI bn), .ref mSg, .ref mSz, .ref mTo, .int (nI en), .ref mRo, .ref mLi, .int (nI hn), .ref mKi, .ref mCo, .ref mEm, .ref mVa, .int (nI an), .ref mA1, .ref mA2, .ref mA3, .ref mA4, .int (nI ln), .ref mLk, .int (nI xn), .ref mEx, .int (nI qn), .ref mQp, .ref mQd, .int wh, .int wt, .int fd, .int pp, .int wn]))] ∧ va_S A s.heap H9 locs9 ∧ lv_has ls9 7 [(0, .ref g), (1, .int r), (2, .int f), (3, .long v)]) (fun b9 H locs ls h9 => ?_) (fun k21 => ?_)
  · obtain ⟨rfl, hP, hD, hS, hl⟩ := h9
    refine lv_iconst (v := 0) hx hb d_MD_value_21 (by decide) ?_
    refine lv_iconst (v := 0) hx hb d_MD_value_22 (by decide) ?_
    have hPc := hP.sub (ws' := [(g, .inr (10, [.int th, .ref mPd, .int (nI pn), .int (nI bn), .ref mSg, .ref mSz, .ref mTo, .int (nI en), .ref mRo, .ref mLi, .int (nI hn), .ref mKi, .ref mCo, .ref mEm, .ref mVa, .int (nI an), .ref mA1, .ref mA2, .ref mA3, .ref mA4, .int (nI ln), .ref mLk, .int (nI xn), .ref mEx, .int (nI qn), .ref mQp, .ref mQd, .int wh, .int wt, .int fd, .int pp, .int wn]))]) [0] rfl
    have hKc := hK.sub (tys' := []) [] rfl
    have hDc := hD.sub (ws' := [(g, .inr (10, [.int th, .ref mPd, .int (nI pn), .int (nI bn), .ref mSg, .ref mSz, .ref mTo, .int (nI en), .ref mRo, .ref mLi, .int (nI hn), .ref mKi, .ref mCo, .ref mEm, .ref mVa, .int (nI an), .ref mA1, .ref mA2, .ref mA3, .ref mA4, .int (nI ln), .ref mLk, .int (nI xn), .ref mEx, .int (nI qn), .ref mQp, .ref mQd, .int wh, .int wt, .int fd, .int pp, .int wn]))]) [0] (by decide) rfl
    have hFc := va_free (wc := [(g, .inr (10, [.int th, .ref mPd, .int (nI pn), .int (nI bn), .ref mSg, .ref mSz, .ref mTo, .int (nI en), .ref mRo, .ref mLi, .int (nI hn), .ref mKi, .ref mCo, .ref mEm, .ref mVa, .int (nI an), .ref mA1, .ref mA2, .ref mA3, .ref mA4, .int (nI ln), .ref mLk, .int (nI xn), .ref mEx, .int (nI qn), .ref mQp, .ref mQd, .int wh, .int wt, .int fd, .int pp, .int wn]))]) hD hS hA [0] rfl
    refine va_calli (va_runV (As := [.int (orN (inF r 0 (nI hn - 1)) (inF f 0 5)), .int 0, .int 0]) (rest := []) ⟨hx, hb, hml, hown, hts⟩ (c_MD_throwing l dC dI H.size g mPd mSg mSz mTo mRo mLi mKi mCo mEm mVa mA1 mA2 mA3 mA4 mLk mEx mQp mQd th pn bn en hn an ln xn qn wh wt fd pp wn (orN (inF r 0 (nI hn - 1)) (inF f 0 5)) 0 0) (cwV 3 hts (vz_gV wb_MD_value b_777 b_779 bs_15 b_11 wc_MD_throwing) rfl rfl rfl (by decide +kernel) ⟨Nat.le_of_ble_eq_true rfl, Nat.le_of_ble_eq_true rfl⟩) (vz_preVw (A := A) hPc hKc hDc (ci := 10) (q0 := 0) rfl rfl) rfl rfl hl.1 rfl (lv_room (Nat.le_of_ble_eq_true rfl)) d_MD_value_23 ⟨Nat.le_of_ble_eq_true rfl, Nat.le_of_ble_eq_true rfl⟩) hS (fun q _ h => hFc q h) hFc (fun r23 u9 t9 H1 locs ht hvm hr23 hB hzx9 hkx9 hS => ?_)
    try dsimp only at hr23
    obtain ⟨hP1, hK1, hD1⟩ := hB
    rw [ht] at hP1
    obtain ⟨hP, hD⟩ := va_join (wr := []) (w1 := [(g, .inr (10, [.int (thrF (orN (inF r 0 (nI hn - 1)) (inF f 0 5)) 0 0), .ref mPd, .int (nI pn), .int (nI bn), .ref mSg, .ref mSz, .ref mTo, .int (nI en), .ref mRo, .ref mLi, .int (nI hn), .ref mKi, .ref mCo, .ref mEm, .ref mVa, .int (nI an), .ref mA1, .ref mA2, .ref mA3, .ref mA4, .int (nI ln), .ref mLk, .int (nI xn), .ref mEx, .int (nI qn), .ref mQp, .ref mQd, .int wh, .int wt, .int fd, .int pp, .int wn]))]) hP hD [0] [] rfl rfl (by decide) (by decide) hkx9 hFc hP1 hD1
    generalize H1 = H at hP hS ⊢
    have hP : va_P (dC, dI) vwCl [(g, .inr (10, [.int (thrF (orN (inF r 0 (nI hn - 1)) (inF f 0 5)) 0 0), .ref mPd, .int (nI pn), .int (nI bn), .ref mSg, .ref mSz, .ref mTo, .int (nI en), .ref mRo, .ref mLi, .int (nI hn), .ref mKi, .ref mCo, .ref mEm, .ref mVa, .int (nI an), .ref mA1, .ref mA2, .ref mA3, .ref mA4, .int (nI ln), .ref mLk, .int (nI xn), .ref mEx, .int (nI qn), .ref mQp, .ref mQd, .int wh, .int wt, .int fd, .int pp, .int wn]))] H := hP
    have hD : va_D A [(g, .inr (10, [.int (thrF (orN (inF r 0 (nI hn - 1)) (inF f 0 5)) 0 0), .ref mPd, .int (nI pn), .int (nI bn), .ref mSg, .ref mSz, .ref mTo, .int (nI en), .ref mRo, .ref mLi, .int (nI hn), .ref mKi, .ref mCo, .ref mEm, .ref mVa, .int (nI an), .ref mA1, .ref mA2, .ref mA3, .ref mA4, .int (nI ln), .ref mLk, .int (nI xn), .ref mEx, .int (nI qn), .ref mQp, .ref mQd, .int wh, .int wt, .int fd, .int pp, .int wn]))] := hD
    refine lv_if_eq (tgt := 31) hx hb d_MD_value_26 (by decide) (fun c26 => ?_) (fun c26 => ?_)
    · exact absurd (thrF_z (hr23.symm.trans c26)) hok
    · refine lv_lconst (v := 0) hx hb d_MD_value_29 (by decide) ?_
      have hP9 := hP.sub (ws' := [(g, .inr (10, [.int (thrF (orN (inF r 0 (nI hn - 1)) (inF f 0 5)) 0 0), .ref mPd, .int (nI pn), .int (nI bn), .ref mSg, .ref mSz, .ref mTo, .int (nI en), .ref mRo, .ref mLi, .int (nI hn), .ref mKi, .ref mCo, .ref mEm, .ref mVa, .int (nI an), .ref mA1, .ref mA2, .ref mA3, .ref mA4, .int (nI ln), .ref mLk, .int (nI xn), .ref mEx, .int (nI qn), .ref mQp, .ref mQd, .int wh, .int wt, .int fd, .int pp, .int wn]))]) [0] rfl
      have hD9 := hD.sub (ws' := [(g, .inr (10, [.int (thrF (orN (inF r 0 (nI hn - 1)) (inF f 0 5)) 0 0), .ref mPd, .int (nI pn), .int (nI bn), .ref mSg, .ref mSz, .ref mTo, .int (nI en), .ref mRo, .ref mLi, .int (nI hn), .ref mKi, .ref mCo, .ref mEm, .ref mVa, .int (nI an), .ref mA1, .ref mA2, .ref mA3, .ref mA4, .int (nI ln), .ref mLk, .int (nI xn), .ref mEx, .int (nI qn), .ref mQp, .ref mQd, .int wh, .int wt, .int fd, .int pp, .int wn]))]) [0] (by decide) rfl
      exact W.lret (v := 0) hx hb hr (fun t ht hW => ⟨⟨0, (), rfl, rfl, by rw [ht]; exact hP9, va_K.moved hW.alike hK, hD9⟩, hS.F ht⟩) hS.2.2 d_MD_value_30
  · refine lv_aload_n hx hb d_MD_value_1 rfl (lv_at hl 0 rfl) ?_
    refine lv_iload_n hx hb d_MD_value_2 rfl (lv_at hl 1 rfl) ?_
    have hPc := hP.sub (ws' := [(g, .inr (10, [.int th, .ref mPd, .int (nI pn), .int (nI bn), .ref mSg, .ref mSz, .ref mTo, .int (nI en), .ref mRo, .ref mLi, .int (nI hn), .ref mKi, .ref mCo, .ref mEm, .ref mVa, .int (nI an), .ref mA1, .ref mA2, .ref mA3, .ref mA4, .int (nI ln), .ref mLk, .int (nI xn), .ref mEx, .int (nI qn), .ref mQp, .ref mQd, .int wh, .int wt, .int fd, .int pp, .int wn]))]) [0] rfl
    have hKc := hK.sub (tys' := []) [] rfl
    refine va_calli (va_runV (As := [.int r]) (rest := [.ref g]) ⟨hx, hb, hml, hown, hts⟩ (c_MD_isRecord l dC dI g mPd mSg mSz mTo mRo mLi mKi mCo mEm mVa mA1 mA2 mA3 mA4 mLk mEx mQp mQd th pn bn en hn an ln xn qn wh wt fd pp wn r) (cwV 1 hts (vz_gV wb_MD_value b_815 b_817 bs_18 b_11 wc_MD_isRecord) rfl rfl rfl (by decide +kernel) ⟨Nat.le_of_ble_eq_true rfl, Nat.le_of_ble_eq_true rfl⟩) (vz_preV hPc hKc (ci := 10) (q0 := 0) rfl rfl) rfl rfl hl.1 rfl (lv_room (Nat.le_of_ble_eq_true rfl)) d_MD_value_3 ⟨Nat.le_of_ble_eq_true rfl, Nat.le_of_ble_eq_true rfl⟩) hS (fun q _ h => False.elim h) (fun q h => False.elim h) (fun r3 u9 t9 H1 locs ht hvm hr3 hB hzx9 hkx9 hS => ?_)
    try dsimp only at hr3
    have hP := vz_kept hP hkx9
    generalize H1 = H at hP hS ⊢
    refine lv_if_eq (tgt := 16) hx hb d_MD_value_6 (by decide) (fun c6 => ?_) (fun c6 => ?_)
    · refine lv_iconst (v := 1) hx hb d_MD_value_16 (by decide) ?_
      refine lv_goto (tgt := 21) hx hb d_MD_value_17 (by decide) ?_
      exact k21 _ _ _ _ ⟨by simp [orN, ← hr3, c6], hP, hD, hS, lv_sub hl [0, 1, 2, 3] rfl⟩
    · refine lv_iload_n hx hb d_MD_value_9 rfl (lv_at hl 2 rfl) ?_
      have hPc := hP.sub (ws' := []) [] rfl
      have hKc := hK.sub (tys' := []) [] rfl
      refine va_calli (va_runS (As := [.int f]) (rest := [.ref g]) ⟨hx, hb, hml, hown, hts⟩ (c_MD_isField l dC dI f) (va_cwS 1 hts (vz_gS wb_MD_value b_819 b_820 b_11 wc_MD_isField) rfl rfl rfl (by decide +kernel) ⟨Nat.le_of_ble_eq_true rfl, Nat.le_of_ble_eq_true rfl⟩) (vz_preS hPc hKc) rfl rfl hl.1 rfl (lv_room (Nat.le_of_ble_eq_true rfl)) d_MD_value_10 ⟨Nat.le_of_ble_eq_true rfl, Nat.le_of_ble_eq_true rfl⟩) hS (fun q _ h => False.elim h) (fun q h => False.elim h) (fun r10 u9 t9 H1 locs ht hvm hr10 hB hzx9 hkx9 hS => ?_)
      try dsimp only at hr10
      have hP := vz_kept hP hkx9
      generalize H1 = H at hP hS ⊢
      refine lv_if_ne (tgt := 20) hx hb d_MD_value_13 (by decide) (fun c13 => ?_) (fun c13 => ?_)
      · refine lv_iconst (v := 0) hx hb d_MD_value_20 (by decide) ?_
        exact k21 _ _ _ _ ⟨by simp [orN, ← hr3, c6, ← hr10, c13], hP, hD, hS, lv_sub hl [0, 1, 2, 3] rfl⟩
      · refine lv_iconst (v := 1) hx hb d_MD_value_16 (by decide) ?_
        refine lv_goto (tgt := 21) hx hb d_MD_value_17 (by decide) ?_
        exact k21 _ _ _ _ ⟨by simp [orN, ← hr3, c6, ← hr10, c13], hP, hD, hS, lv_sub hl [0, 1, 2, 3] rfl⟩

set_option maxHeartbeats 4000000 in
set_option maxRecDepth 100000 in
theorem c_MD_valueG (l : Launch) (dC : Nat → ClassId) (dI : Nat → Nat → Nat) (sz : Nat) (cL : ClassId) (g mPd mSg mSz mTo mRo mLi mKi mCo mEm mVa mA1 mA2 mA3 mA4 mLk mEx mQp mQd : Nat) (th : Int32) (pn bn en hn an ln xn qn : Nat) (wh wt fd pp wn : Int32) (va : Nat → Int64) (hhn : hn ≤ 16) (r f : Nat) (hr : r < hn) (hf : f < 6) (v : Int64) (hok : thrF (orN (inF (nI r) 0 (nI hn - 1)) (inF (nI f) 0 5)) 0 0 = 0) : Met l y_MD_value ws_MD_value ({ frames := 2, cells := 0, slots := 0, locals := 43 }) (va_Pc [.ref g, .int (nI r), .int (nI f), .long v] (fun U => U.heap.size = sz ∧ va_P (dC, dI) vwCl [(g, .inr (10, [.int th, .ref mPd, .int (nI pn), .int (nI bn), .ref mSg, .ref mSz, .ref mTo, .int (nI en), .ref mRo, .ref mLi, .int (nI hn), .ref mKi, .ref mCo, .ref mEm, .ref mVa, .int (nI an), .ref mA1, .ref mA2, .ref mA3, .ref mA4, .int (nI ln), .ref mLk, .int (nI xn), .ref mEx, .int (nI qn), .ref mQp, .ref mQd, .int wh, .int wt, .int fd, .int pp, .int wn])), (mVa, .inl (cL, 96, .inr (.inl va)))] U.heap ∧ va_K (dC, dI) vwCl [(cL, .long)] U ∧ va_D (fun _ => True) [(g, .inr (10, [.int th, .ref mPd, .int (nI pn), .int (nI bn), .ref mSg, .ref mSz, .ref mTo, .int (nI en), .ref mRo, .ref mLi, .int (nI hn), .ref mKi, .ref mCo, .ref mEm, .ref mVa, .int (nI an), .ref mA1, .ref mA2, .ref mA3, .ref mA4, .int (nI ln), .ref mLk, .int (nI xn), .ref mEx, .int (nI qn), .ref mQp, .ref mQd, .int wh, .int wt, .int fd, .int pp, .int wn])), (mVa, .inl (cL, 96, .inr (.inl va)))])) (va_Ql (fun (res : Int64) (_ : Unit) => res = va (6 * r + f)) (fun _ t => va_P (dC, dI) vwCl [(g, .inr (10, [.int (thrF (orN (inF (nI r) 0 (nI hn - 1)) (inF (nI f) 0 5)) 0 0), .ref mPd, .int (nI pn), .int (nI bn), .ref mSg, .ref mSz, .ref mTo, .int (nI en), .ref mRo, .ref mLi, .int (nI hn), .ref mKi, .ref mCo, .ref mEm, .ref mVa, .int (nI an), .ref mA1, .ref mA2, .ref mA3, .ref mA4, .int (nI ln), .ref mLk, .int (nI xn), .ref mEx, .int (nI qn), .ref mQp, .ref mQd, .int wh, .int wt, .int fd, .int pp, .int wn])), (mVa, .inl (cL, 96, .inr (.inl (vp_updL va (6 * r + f) v))))] t.heap ∧ va_K (dC, dI) vwCl [(cL, .long)] t ∧ va_D (va_A [(g, .inr (10, [.int th, .ref mPd, .int (nI pn), .int (nI bn), .ref mSg, .ref mSz, .ref mTo, .int (nI en), .ref mRo, .ref mLi, .int (nI hn), .ref mKi, .ref mCo, .ref mEm, .ref mVa, .int (nI an), .ref mA1, .ref mA2, .ref mA3, .ref mA4, .int (nI ln), .ref mLk, .int (nI xn), .ref mEx, .int (nI qn), .ref mQp, .ref mQd, .int wh, .int wt, .int fd, .int pp, .int wn])), (mVa, .inl (cL, 96, .inr (.inl va)))] sz) [(g, .inr (10, [.int (thrF (orN (inF (nI r) 0 (nI hn - 1)) (inF (nI f) 0 5)) 0 0), .ref mPd, .int (nI pn), .int (nI bn), .ref mSg, .ref mSz, .ref mTo, .int (nI en), .ref mRo, .ref mLi, .int (nI hn), .ref mKi, .ref mCo, .ref mEm, .ref mVa, .int (nI an), .ref mA1, .ref mA2, .ref mA3, .ref mA4, .int (nI ln), .ref mLk, .int (nI xn), .ref mEx, .int (nI qn), .ref mQp, .ref mQd, .int wh, .int wt, .int fd, .int pp, .int wn])), (mVa, .inl (cL, 96, .inr (.inl (vp_updL va (6 * r + f) v))))]) (va_A [(g, .inr (10, [.int th, .ref mPd, .int (nI pn), .int (nI bn), .ref mSg, .ref mSz, .ref mTo, .int (nI en), .ref mRo, .ref mLi, .int (nI hn), .ref mKi, .ref mCo, .ref mEm, .ref mVa, .int (nI an), .ref mA1, .ref mA2, .ref mA3, .ref mA4, .int (nI ln), .ref mLk, .int (nI xn), .ref mEx, .int (nI qn), .ref mQp, .ref mQd, .int wh, .int wt, .int fd, .int pp, .int wn])), (mVa, .inl (cL, 96, .inr (.inl va)))] sz)) 0 0 (va_A [(g, .inr (10, [.int th, .ref mPd, .int (nI pn), .int (nI bn), .ref mSg, .ref mSz, .ref mTo, .int (nI en), .ref mRo, .ref mLi, .int (nI hn), .ref mKi, .ref mCo, .ref mEm, .ref mVa, .int (nI an), .ref mA1, .ref mA2, .ref mA3, .ref mA4, .int (nI ln), .ref mLk, .int (nI xn), .ref mEx, .int (nI qn), .ref mQp, .ref mQd, .int wh, .int wt, .int fd, .int pp, .int wn])), (mVa, .inl (cL, 96, .inr (.inl va)))] sz) := by
  refine Met.ofW (cc := k_MD_value) (maxL := 7) (ret := (some .long)) (by decide) rfl ?_
  intro p e s m args below meth c s₁ B hml hv
  obtain ⟨rfl, hsz, hP, hK, hD0⟩ := hv
  have hx := B.exec
  have hb := B.bytes
  have hr := B.returns
  have hts := atoms_spec (ws := ws_MD_value) B.pre
  have hown : s.vm.findClass R_MD = some m.cls := findClass_of_methodNamed B.named
  have hlocks := B.notSynchronized
  subst hsz
  have hD := hD0.self (sz := s.heap.size)
  generalize hAe : va_A [(g, .inr (10, [.int th, .ref mPd, .int (nI pn), .int (nI bn), .ref mSg, .ref mSz, .ref mTo, .int (nI en), .ref mRo, .ref mLi, .int (nI hn), .ref mKi, .ref mCo, .ref mEm, .ref mVa, .int (nI an), .ref mA1, .ref mA2, .ref mA3, .ref mA4, .int (nI ln), .ref mLk, .int (nI xn), .ref mEx, .int (nI qn), .ref mQp, .ref mQd, .int wh, .int wt, .int fd, .int pp, .int wn])), (mVa, .inl (cL, 96, .inr (.inl va)))] s.heap.size = A at hD ⊢
  have hA : ∀ q : Nat, s.heap.size ≤ q → A q := fun q h => by rw [← hAe]; exact Or.inr h
  have hS : va_S A s.heap s.heap [] := va_S.rf
  have hP : va_P (dC, dI) vwCl [(g, .inr (10, [.int th, .ref mPd, .int (nI pn), .int (nI bn), .ref mSg, .ref mSz, .ref mTo, .int (nI en), .ref mRo, .ref mLi, .int (nI hn), .ref mKi, .ref mCo, .ref mEm, .ref mVa, .int (nI an), .ref mA1, .ref mA2, .ref mA3, .ref mA4, .int (nI ln), .ref mLk, .int (nI xn), .ref mEx, .int (nI qn), .ref mQp, .ref mQd, .int wh, .int wt, .int fd, .int pp, .int wn])), (mVa, .inl (cL, 96, .inr (.inl va)))] s.heap := hP
  have iMD : ∀ w ∈ u_ws R_MD T_MD 32, w ∈ ws_MD_value := fun w h => wb_MD_value w (in_MD w h)
  have hl := lv_entry ([.ref g, .int (nI r), .int (nI f), .long v]) (n := 7) (Nat.le_of_ble_eq_true rfl)
  rw [lg_entry_eq]
  generalize (lg_sl ([.ref g, .int (nI r), .int (nI f), .long v]) ++ List.replicate (7 - (lg_sl ([.ref g, .int (nI r), .int (nI f), .long v])).length) Slot.unset).toArray = ls at hl ⊢
  have hl : lv_has ls 7 [(0, .ref g), (1, .int (nI r)), (2, .int (nI f)), (3, .long v)] := hl
  refine lv_aload_n hx hb d_MD_value_0 rfl (lv_at hl 0 rfl) ?_
  refine vz_join 21 [.ref g] (fun b9 H9 locs9 ls9 => (b9 = orN (inF (nI r) 0 (nI hn - 1)) (inF (nI f) 0 5)) ∧ va_P (dC, dI) vwCl [(g, .inr (10, [.int th, .ref mPd, .int (nI pn), .int (nI bn), .ref mSg, .ref mSz, .ref mTo, .int (nI en), .ref mRo, .ref mLi, .int (nI hn), .ref mKi, .ref mCo, .ref mEm, .ref mVa, .int (nI an), .ref mA1, .ref mA2, .ref mA3, .ref mA4, .int (nI ln), .ref mLk, .int (nI xn), .ref mEx, .int (nI qn), .ref mQp, .ref mQd, .int wh, .int wt, .int fd, .int pp, .int wn])), (mVa, .inl (cL, 96, .inr (.inl va)))] H9 ∧ va_D A [(g, .inr (10, [.int th, .ref mPd, .int (nI pn), .int (nI bn), .ref mSg, .ref mSz, .ref mTo, .int (nI en), .ref mRo, .ref mLi, .int (nI hn), .ref mKi, .ref mCo, .ref mEm, .ref mVa, .int (nI an), .ref mA1, .ref mA2, .ref mA3, .ref mA4, .int (nI ln), .ref mLk, .int (nI xn), .ref mEx, .int (nI qn), .ref mQp, .ref mQd, .int wh, .int wt, .int fd, .int pp, .int wn])), (mVa, .inl (cL, 96, .inr (.inl va)))] ∧ va_S A s.heap H9 locs9 ∧ lv_has ls9 7 [(0, .ref g), (1, .int (nI r)), (2, .int (nI f)), (3, .long v)]) (fun b9 H locs ls h9 => ?_) (fun k21 => ?_)
  · obtain ⟨rfl, hP, hD, hS, hl⟩ := h9
    refine lv_iconst (v := 0) hx hb d_MD_value_21 (by decide) ?_
    refine lv_iconst (v := 0) hx hb d_MD_value_22 (by decide) ?_
    have hPc := hP.sub (ws' := [(g, .inr (10, [.int th, .ref mPd, .int (nI pn), .int (nI bn), .ref mSg, .ref mSz, .ref mTo, .int (nI en), .ref mRo, .ref mLi, .int (nI hn), .ref mKi, .ref mCo, .ref mEm, .ref mVa, .int (nI an), .ref mA1, .ref mA2, .ref mA3, .ref mA4, .int (nI ln), .ref mLk, .int (nI xn), .ref mEx, .int (nI qn), .ref mQp, .ref mQd, .int wh, .int wt, .int fd, .int pp, .int wn]))]) [0] rfl
    have hKc := hK.sub (tys' := []) [] rfl
    have hDc := hD.sub (ws' := [(g, .inr (10, [.int th, .ref mPd, .int (nI pn), .int (nI bn), .ref mSg, .ref mSz, .ref mTo, .int (nI en), .ref mRo, .ref mLi, .int (nI hn), .ref mKi, .ref mCo, .ref mEm, .ref mVa, .int (nI an), .ref mA1, .ref mA2, .ref mA3, .ref mA4, .int (nI ln), .ref mLk, .int (nI xn), .ref mEx, .int (nI qn), .ref mQp, .ref mQd, .int wh, .int wt, .int fd, .int pp, .int wn]))]) [0] (by decide) rfl
    have hFc := va_free (wc := [(g, .inr (10, [.int th, .ref mPd, .int (nI pn), .int (nI bn), .ref mSg, .ref mSz, .ref mTo, .int (nI en), .ref mRo, .ref mLi, .int (nI hn), .ref mKi, .ref mCo, .ref mEm, .ref mVa, .int (nI an), .ref mA1, .ref mA2, .ref mA3, .ref mA4, .int (nI ln), .ref mLk, .int (nI xn), .ref mEx, .int (nI qn), .ref mQp, .ref mQd, .int wh, .int wt, .int fd, .int pp, .int wn]))]) hD hS hA [0] rfl
    refine va_calli (va_runV (As := [.int (orN (inF (nI r) 0 (nI hn - 1)) (inF (nI f) 0 5)), .int 0, .int 0]) (rest := []) ⟨hx, hb, hml, hown, hts⟩ (c_MD_throwing l dC dI H.size g mPd mSg mSz mTo mRo mLi mKi mCo mEm mVa mA1 mA2 mA3 mA4 mLk mEx mQp mQd th pn bn en hn an ln xn qn wh wt fd pp wn (orN (inF (nI r) 0 (nI hn - 1)) (inF (nI f) 0 5)) 0 0) (cwV 3 hts (vz_gV wb_MD_value b_777 b_779 bs_15 b_11 wc_MD_throwing) rfl rfl rfl (by decide +kernel) ⟨Nat.le_of_ble_eq_true rfl, Nat.le_of_ble_eq_true rfl⟩) (vz_preVw (A := A) hPc hKc hDc (ci := 10) (q0 := 0) rfl rfl) rfl rfl hl.1 rfl (lv_room (Nat.le_of_ble_eq_true rfl)) d_MD_value_23 ⟨Nat.le_of_ble_eq_true rfl, Nat.le_of_ble_eq_true rfl⟩) hS (fun q _ h => hFc q h) hFc (fun r23 u9 t9 H1 locs ht hvm hr23 hB hzx9 hkx9 hS => ?_)
    try dsimp only at hr23
    obtain ⟨hP1, hK1, hD1⟩ := hB
    rw [ht] at hP1
    obtain ⟨hP, hD⟩ := va_join (wr := [(mVa, .inl (cL, 96, .inr (.inl va)))]) (w1 := [(g, .inr (10, [.int (thrF (orN (inF (nI r) 0 (nI hn - 1)) (inF (nI f) 0 5)) 0 0), .ref mPd, .int (nI pn), .int (nI bn), .ref mSg, .ref mSz, .ref mTo, .int (nI en), .ref mRo, .ref mLi, .int (nI hn), .ref mKi, .ref mCo, .ref mEm, .ref mVa, .int (nI an), .ref mA1, .ref mA2, .ref mA3, .ref mA4, .int (nI ln), .ref mLk, .int (nI xn), .ref mEx, .int (nI qn), .ref mQp, .ref mQd, .int wh, .int wt, .int fd, .int pp, .int wn]))]) hP hD [0] [1] rfl rfl (by decide) (by decide) hkx9 hFc hP1 hD1
    generalize H1 = H at hP hS ⊢
    have hP : va_P (dC, dI) vwCl [(mVa, .inl (cL, 96, .inr (.inl va))), (g, .inr (10, [.int (thrF (orN (inF (nI r) 0 (nI hn - 1)) (inF (nI f) 0 5)) 0 0), .ref mPd, .int (nI pn), .int (nI bn), .ref mSg, .ref mSz, .ref mTo, .int (nI en), .ref mRo, .ref mLi, .int (nI hn), .ref mKi, .ref mCo, .ref mEm, .ref mVa, .int (nI an), .ref mA1, .ref mA2, .ref mA3, .ref mA4, .int (nI ln), .ref mLk, .int (nI xn), .ref mEx, .int (nI qn), .ref mQp, .ref mQd, .int wh, .int wt, .int fd, .int pp, .int wn]))] H := hP
    have hD : va_D A [(mVa, .inl (cL, 96, .inr (.inl va))), (g, .inr (10, [.int (thrF (orN (inF (nI r) 0 (nI hn - 1)) (inF (nI f) 0 5)) 0 0), .ref mPd, .int (nI pn), .int (nI bn), .ref mSg, .ref mSz, .ref mTo, .int (nI en), .ref mRo, .ref mLi, .int (nI hn), .ref mKi, .ref mCo, .ref mEm, .ref mVa, .int (nI an), .ref mA1, .ref mA2, .ref mA3, .ref mA4, .int (nI ln), .ref mLk, .int (nI xn), .ref mEx, .int (nI qn), .ref mQp, .ref mQd, .int wh, .int wt, .int fd, .int pp, .int wn]))] := hD
    refine lv_if_eq (tgt := 31) hx hb d_MD_value_26 (by decide) (fun c26 => ?_) (fun c26 => ?_)
    · refine lv_aload_n hx hb d_MD_value_31 rfl (lv_at hl 0 rfl) ?_
      refine va_get (D := (dC, dI)) (ci := 10) (v := .ref mVa) (C := R_MD) (T := T_MD) (N := 32) hx hb hts iMD hown hK hP 1 rfl rfl 14 (by decide) (hts _ (wb_MD_value _ b_682)) (fun _ h9 => h9) rfl d_MD_value_32 ?_
      refine lv_bipush (v := 6) hx hb d_MD_value_35 (by decide) ?_
      refine lv_iload_n hx hb d_MD_value_37 rfl (lv_at hl 1 rfl) ?_
      refine lv_imul hx hb d_MD_value_38 ?_
      refine lv_iload_n hx hb d_MD_value_39 rfl (lv_at hl 2 rfl) ?_
      refine lv_iadd hx hb d_MD_value_40 ?_
      refine vz_top (y := nI (6 * r + f)) (by rw [show 6 * nI r = nI (6 * r) from pk_mul 6 r, nI_add]) ?_
      refine vz_lald (k := (6 * r + f)) hx hb hK hP 0 0 rfl rfl (by omega) (by decide) d_MD_value_41 ?_
      refine lv_lstore (lv' := [(5, .long (va (6 * r + f))), (0, .ref g), (1, .int (nI r)), (2, .int (nI f)), (3, .long v)]) hx hb d_MD_value_42 hl (by decide) rfl (fun ls hl => ?_)
      refine lv_aload_n hx hb d_MD_value_44 rfl (lv_at hl 1 rfl) ?_
      refine va_get (D := (dC, dI)) (ci := 10) (v := .ref mVa) (C := R_MD) (T := T_MD) (N := 32) hx hb hts iMD hown hK hP 1 rfl rfl 14 (by decide) (hts _ (wb_MD_value _ b_682)) (fun _ h9 => h9) rfl d_MD_value_45 ?_
      refine lv_bipush (v := 6) hx hb d_MD_value_48 (by decide) ?_
      refine lv_iload_n hx hb d_MD_value_50 rfl (lv_at hl 2 rfl) ?_
      refine lv_imul hx hb d_MD_value_51 ?_
      refine lv_iload_n hx hb d_MD_value_52 rfl (lv_at hl 3 rfl) ?_
      refine lv_iadd hx hb d_MD_value_53 ?_
      refine vz_top (y := nI (6 * r + f)) (by rw [show 6 * nI r = nI (6 * r) from pk_mul 6 r, nI_add]) ?_
      refine lv_lload_n hx hb d_MD_value_54 rfl (lv_at hl 4 rfl) ?_
      refine vz_last (k := (6 * r + f)) hx hb hK hP hD hS 0 0 rfl rfl (by omega) (by decide) d_MD_value_55 (fun H locs hP hD hS => ?_)
      have hP : va_P (dC, dI) vwCl [(mVa, .inl (cL, 96, .inr (.inl (vp_updL va (6 * r + f) v)))), (g, .inr (10, [.int (thrF (orN (inF (nI r) 0 (nI hn - 1)) (inF (nI f) 0 5)) 0 0), .ref mPd, .int (nI pn), .int (nI bn), .ref mSg, .ref mSz, .ref mTo, .int (nI en), .ref mRo, .ref mLi, .int (nI hn), .ref mKi, .ref mCo, .ref mEm, .ref mVa, .int (nI an), .ref mA1, .ref mA2, .ref mA3, .ref mA4, .int (nI ln), .ref mLk, .int (nI xn), .ref mEx, .int (nI qn), .ref mQp, .ref mQd, .int wh, .int wt, .int fd, .int pp, .int wn]))] H := hP
      have hD : va_D A [(mVa, .inl (cL, 96, .inr (.inl (vp_updL va (6 * r + f) v)))), (g, .inr (10, [.int (thrF (orN (inF (nI r) 0 (nI hn - 1)) (inF (nI f) 0 5)) 0 0), .ref mPd, .int (nI pn), .int (nI bn), .ref mSg, .ref mSz, .ref mTo, .int (nI en), .ref mRo, .ref mLi, .int (nI hn), .ref mKi, .ref mCo, .ref mEm, .ref mVa, .int (nI an), .ref mA1, .ref mA2, .ref mA3, .ref mA4, .int (nI ln), .ref mLk, .int (nI xn), .ref mEx, .int (nI qn), .ref mQp, .ref mQd, .int wh, .int wt, .int fd, .int pp, .int wn]))] := hD
      refine lv_lload hx hb d_MD_value_56 (lv_at hl 0 rfl) ?_
      have hP9 := hP.sub (ws' := [(g, .inr (10, [.int (thrF (orN (inF (nI r) 0 (nI hn - 1)) (inF (nI f) 0 5)) 0 0), .ref mPd, .int (nI pn), .int (nI bn), .ref mSg, .ref mSz, .ref mTo, .int (nI en), .ref mRo, .ref mLi, .int (nI hn), .ref mKi, .ref mCo, .ref mEm, .ref mVa, .int (nI an), .ref mA1, .ref mA2, .ref mA3, .ref mA4, .int (nI ln), .ref mLk, .int (nI xn), .ref mEx, .int (nI qn), .ref mQp, .ref mQd, .int wh, .int wt, .int fd, .int pp, .int wn])), (mVa, .inl (cL, 96, .inr (.inl (vp_updL va (6 * r + f) v))))]) [1, 0] rfl
      have hD9 := hD.sub (ws' := [(g, .inr (10, [.int (thrF (orN (inF (nI r) 0 (nI hn - 1)) (inF (nI f) 0 5)) 0 0), .ref mPd, .int (nI pn), .int (nI bn), .ref mSg, .ref mSz, .ref mTo, .int (nI en), .ref mRo, .ref mLi, .int (nI hn), .ref mKi, .ref mCo, .ref mEm, .ref mVa, .int (nI an), .ref mA1, .ref mA2, .ref mA3, .ref mA4, .int (nI ln), .ref mLk, .int (nI xn), .ref mEx, .int (nI qn), .ref mQp, .ref mQd, .int wh, .int wt, .int fd, .int pp, .int wn])), (mVa, .inl (cL, 96, .inr (.inl (vp_updL va (6 * r + f) v))))]) [1, 0] (by decide) rfl
      exact W.lret (v := va (6 * r + f)) hx hb hr (fun t ht hW => ⟨⟨va (6 * r + f), (), rfl, rfl, by rw [ht]; exact hP9, va_K.moved hW.alike hK, hD9⟩, hS.F ht⟩) hS.2.2 d_MD_value_58
    · exact absurd (hr23.trans (thrB_z hok)) c26
  · refine lv_aload_n hx hb d_MD_value_1 rfl (lv_at hl 0 rfl) ?_
    refine lv_iload_n hx hb d_MD_value_2 rfl (lv_at hl 1 rfl) ?_
    have hPc := hP.sub (ws' := [(g, .inr (10, [.int th, .ref mPd, .int (nI pn), .int (nI bn), .ref mSg, .ref mSz, .ref mTo, .int (nI en), .ref mRo, .ref mLi, .int (nI hn), .ref mKi, .ref mCo, .ref mEm, .ref mVa, .int (nI an), .ref mA1, .ref mA2, .ref mA3, .ref mA4, .int (nI ln), .ref mLk, .int (nI xn), .ref mEx, .int (nI qn), .ref mQp, .ref mQd, .int wh, .int wt, .int fd, .int pp, .int wn]))]) [0] rfl
    have hKc := hK.sub (tys' := []) [] rfl
    refine va_calli (va_runV (As := [.int (nI r)]) (rest := [.ref g]) ⟨hx, hb, hml, hown, hts⟩ (c_MD_isRecord l dC dI g mPd mSg mSz mTo mRo mLi mKi mCo mEm mVa mA1 mA2 mA3 mA4 mLk mEx mQp mQd th pn bn en hn an ln xn qn wh wt fd pp wn (nI r)) (cwV 1 hts (vz_gV wb_MD_value b_815 b_817 bs_18 b_11 wc_MD_isRecord) rfl rfl rfl (by decide +kernel) ⟨Nat.le_of_ble_eq_true rfl, Nat.le_of_ble_eq_true rfl⟩) (vz_preV hPc hKc (ci := 10) (q0 := 0) rfl rfl) rfl rfl hl.1 rfl (lv_room (Nat.le_of_ble_eq_true rfl)) d_MD_value_3 ⟨Nat.le_of_ble_eq_true rfl, Nat.le_of_ble_eq_true rfl⟩) hS (fun q _ h => False.elim h) (fun q h => False.elim h) (fun r3 u9 t9 H1 locs ht hvm hr3 hB hzx9 hkx9 hS => ?_)
    try dsimp only at hr3
    have hP := vz_kept hP hkx9
    generalize H1 = H at hP hS ⊢
    refine lv_if_eq (tgt := 16) hx hb d_MD_value_6 (by decide) (fun c6 => ?_) (fun c6 => ?_)
    · refine lv_iconst (v := 1) hx hb d_MD_value_16 (by decide) ?_
      refine lv_goto (tgt := 21) hx hb d_MD_value_17 (by decide) ?_
      exact k21 _ _ _ _ ⟨by simp [orN, ← hr3, c6], hP, hD, hS, lv_sub hl [0, 1, 2, 3] rfl⟩
    · refine lv_iload_n hx hb d_MD_value_9 rfl (lv_at hl 2 rfl) ?_
      have hPc := hP.sub (ws' := []) [] rfl
      have hKc := hK.sub (tys' := []) [] rfl
      refine va_calli (va_runS (As := [.int (nI f)]) (rest := [.ref g]) ⟨hx, hb, hml, hown, hts⟩ (c_MD_isField l dC dI (nI f)) (va_cwS 1 hts (vz_gS wb_MD_value b_819 b_820 b_11 wc_MD_isField) rfl rfl rfl (by decide +kernel) ⟨Nat.le_of_ble_eq_true rfl, Nat.le_of_ble_eq_true rfl⟩) (vz_preS hPc hKc) rfl rfl hl.1 rfl (lv_room (Nat.le_of_ble_eq_true rfl)) d_MD_value_10 ⟨Nat.le_of_ble_eq_true rfl, Nat.le_of_ble_eq_true rfl⟩) hS (fun q _ h => False.elim h) (fun q h => False.elim h) (fun r10 u9 t9 H1 locs ht hvm hr10 hB hzx9 hkx9 hS => ?_)
      try dsimp only at hr10
      have hP := vz_kept hP hkx9
      generalize H1 = H at hP hS ⊢
      refine lv_if_ne (tgt := 20) hx hb d_MD_value_13 (by decide) (fun c13 => ?_) (fun c13 => ?_)
      · refine lv_iconst (v := 0) hx hb d_MD_value_20 (by decide) ?_
        exact k21 _ _ _ _ ⟨by simp [orN, ← hr3, c6, ← hr10, c13], hP, hD, hS, lv_sub hl [0, 1, 2, 3] rfl⟩
      · refine lv_iconst (v := 1) hx hb d_MD_value_16 (by decide) ?_
        refine lv_goto (tgt := 21) hx hb d_MD_value_17 (by decide) ?_
        exact k21 _ _ _ _ ⟨by simp [orN, ← hr3, c6, ← hr10, c13], hP, hD, hS, lv_sub hl [0, 1, 2, 3] rfl⟩

set_option maxHeartbeats 4000000 in
set_option maxRecDepth 100000 in
theorem c_MD_maskedB (l : Launch) (dC : Nat → ClassId) (dI : Nat → Nat → Nat) (sz : Nat) (g mPd mSg mSz mTo mRo mLi mKi mCo mEm mVa mA1 mA2 mA3 mA4 mLk mEx mQp mQd : Nat) (th : Int32) (pn bn en hn an ln xn qn : Nat) (wh wt fd pp wn : Int32) (r f : Int32) (hok : ¬ thrF (orN (inF r 0 (nI hn - 1)) (inF f 0 5)) 0 0 = 0) : Met l y_MD_masked ws_MD_masked ({ frames := 2, cells := 0, slots := 0, locals := 43 }) (va_Pc [.ref g, .int r, .int f] (fun U => U.heap.size = sz ∧ va_P (dC, dI) vwCl [(g, .inr (10, [.int th, .ref mPd, .int (nI pn), .int (nI bn), .ref mSg, .ref mSz, .ref mTo, .int (nI en), .ref mRo, .ref mLi, .int (nI hn), .ref mKi, .ref mCo, .ref mEm, .ref mVa, .int (nI an), .ref mA1, .ref mA2, .ref mA3, .ref mA4, .int (nI ln), .ref mLk, .int (nI xn), .ref mEx, .int (nI qn), .ref mQp, .ref mQd, .int wh, .int wt, .int fd, .int pp, .int wn]))] U.heap ∧ va_K (dC, dI) vwCl [] U ∧ va_D (fun _ => True) [(g, .inr (10, [.int th, .ref mPd, .int (nI pn), .int (nI bn), .ref mSg, .ref mSz, .ref mTo, .int (nI en), .ref mRo, .ref mLi, .int (nI hn), .ref mKi, .ref mCo, .ref mEm, .ref mVa, .int (nI an), .ref mA1, .ref mA2, .ref mA3, .ref mA4, .int (nI ln), .ref mLk, .int (nI xn), .ref mEx, .int (nI qn), .ref mQp, .ref mQd, .int wh, .int wt, .int fd, .int pp, .int wn]))])) (va_Ql (fun (res : Int64) (_ : Unit) => res = 0) (fun _ t => va_P (dC, dI) vwCl [(g, .inr (10, [.int (thrF (orN (inF r 0 (nI hn - 1)) (inF f 0 5)) 0 0), .ref mPd, .int (nI pn), .int (nI bn), .ref mSg, .ref mSz, .ref mTo, .int (nI en), .ref mRo, .ref mLi, .int (nI hn), .ref mKi, .ref mCo, .ref mEm, .ref mVa, .int (nI an), .ref mA1, .ref mA2, .ref mA3, .ref mA4, .int (nI ln), .ref mLk, .int (nI xn), .ref mEx, .int (nI qn), .ref mQp, .ref mQd, .int wh, .int wt, .int fd, .int pp, .int wn]))] t.heap ∧ va_K (dC, dI) vwCl [] t ∧ va_D (va_A [(g, .inr (10, [.int th, .ref mPd, .int (nI pn), .int (nI bn), .ref mSg, .ref mSz, .ref mTo, .int (nI en), .ref mRo, .ref mLi, .int (nI hn), .ref mKi, .ref mCo, .ref mEm, .ref mVa, .int (nI an), .ref mA1, .ref mA2, .ref mA3, .ref mA4, .int (nI ln), .ref mLk, .int (nI xn), .ref mEx, .int (nI qn), .ref mQp, .ref mQd, .int wh, .int wt, .int fd, .int pp, .int wn]))] sz) [(g, .inr (10, [.int (thrF (orN (inF r 0 (nI hn - 1)) (inF f 0 5)) 0 0), .ref mPd, .int (nI pn), .int (nI bn), .ref mSg, .ref mSz, .ref mTo, .int (nI en), .ref mRo, .ref mLi, .int (nI hn), .ref mKi, .ref mCo, .ref mEm, .ref mVa, .int (nI an), .ref mA1, .ref mA2, .ref mA3, .ref mA4, .int (nI ln), .ref mLk, .int (nI xn), .ref mEx, .int (nI qn), .ref mQp, .ref mQd, .int wh, .int wt, .int fd, .int pp, .int wn]))]) (va_A [(g, .inr (10, [.int th, .ref mPd, .int (nI pn), .int (nI bn), .ref mSg, .ref mSz, .ref mTo, .int (nI en), .ref mRo, .ref mLi, .int (nI hn), .ref mKi, .ref mCo, .ref mEm, .ref mVa, .int (nI an), .ref mA1, .ref mA2, .ref mA3, .ref mA4, .int (nI ln), .ref mLk, .int (nI xn), .ref mEx, .int (nI qn), .ref mQp, .ref mQd, .int wh, .int wt, .int fd, .int pp, .int wn]))] sz)) 0 0 (va_A [(g, .inr (10, [.int th, .ref mPd, .int (nI pn), .int (nI bn), .ref mSg, .ref mSz, .ref mTo, .int (nI en), .ref mRo, .ref mLi, .int (nI hn), .ref mKi, .ref mCo, .ref mEm, .ref mVa, .int (nI an), .ref mA1, .ref mA2, .ref mA3, .ref mA4, .int (nI ln), .ref mLk, .int (nI xn), .ref mEx, .int (nI qn), .ref mQp, .ref mQd, .int wh, .int wt, .int fd, .int pp, .int wn]))] sz) := by
  refine Met.ofW (cc := k_MD_masked) (maxL := 3) (ret := (some .long)) (by decide) rfl ?_
  intro p e s m args below meth c s₁ B hml hv
  obtain ⟨rfl, hsz, hP, hK, hD0⟩ := hv
  have hx := B.exec
  have hb := B.bytes
  have hr := B.returns
  have hts := atoms_spec (ws := ws_MD_masked) B.pre
  have hown : s.vm.findClass R_MD = some m.cls := findClass_of_methodNamed B.named
  have hlocks := B.notSynchronized
  subst hsz
  have hD := hD0.self (sz := s.heap.size)
  generalize hAe : va_A [(g, .inr (10, [.int th, .ref mPd, .int (nI pn), .int (nI bn), .ref mSg, .ref mSz, .ref mTo, .int (nI en), .ref mRo, .ref mLi, .int (nI hn), .ref mKi, .ref mCo, .ref mEm, .ref mVa, .int (nI an), .ref mA1, .ref mA2, .ref mA3, .ref mA4, .int (nI ln), .ref mLk, .int (nI xn), .ref mEx, .int (nI qn), .ref mQp, .ref mQd, .int wh, .int wt, .int fd, .int pp, .int wn]))] s.heap.size = A at hD ⊢
  have hA : ∀ q : Nat, s.heap.size ≤ q → A q := fun q h => by rw [← hAe]; exact Or.inr h
  have hS : va_S A s.heap s.heap [] := va_S.rf
  have hP : va_P (dC, dI) vwCl [(g, .inr (10, [.int th, .ref mPd, .int (nI pn), .int (nI bn), .ref mSg, .ref mSz, .ref mTo, .int (nI en), .ref mRo, .ref mLi, .int (nI hn), .ref mKi, .ref mCo, .ref mEm, .ref mVa, .int (nI an), .ref mA1, .ref mA2, .ref mA3, .ref mA4, .int (nI ln), .ref mLk, .int (nI xn), .ref mEx, .int (nI qn), .ref mQp, .ref mQd, .int wh, .int wt, .int fd, .int pp, .int wn]))] s.heap := hP
  have iMD : ∀ w ∈ u_ws R_MD T_MD 32, w ∈ ws_MD_masked := fun w h => wb_MD_masked w (in_MD w h)
  have hl := lv_entry ([.ref g, .int r, .int f]) (n := 3) (Nat.le_of_ble_eq_true rfl)
  rw [lg_entry_eq]
  generalize (lg_sl ([.ref g, .int r, .int f]) ++ List.replicate (3 - (lg_sl ([.ref g, .int r, .int f])).length) Slot.unset).toArray = ls at hl ⊢
  have hl : lv_has ls 3 [(0, .ref g), (1, .int r), (2, .int f)] := hl
  refine lv_aload_n hx hb d_MD_masked_0 rfl (lv_at hl 0 rfl) ?_
  refine vz_join 21 [.ref g] (fun b9 H9 locs9 ls9 => (b9 = orN (inF r 0 (nI hn - 1)) (inF f 0 5)) ∧ va_P (dC, dI) vwCl [(g, .inr (10, [.int th, .ref mPd, .int (nI pn), .int (nI bn), .ref mSg, .ref mSz, .ref mTo, .int (nI en), .ref mRo, .ref mLi, .int (nI hn), .ref mKi, .ref mCo, .ref mEm, .ref mVa, .int (nI an), .ref mA1, .ref mA2, .ref mA3, .ref mA4, .int (nI ln), .ref mLk, .int (nI xn), .ref mEx, .int (nI qn), .ref mQp, .ref mQd, .int wh, .int wt, .int fd, .int pp, .int wn]))] H9 ∧ va_D A [(g, .inr (10, [.int th, .ref mPd, .int (nI pn), .int (nI bn), .ref mSg, .ref mSz, .ref mTo, .int (nI en), .ref mRo, .ref mLi, .int (nI hn), .ref mKi, .ref mCo, .ref mEm, .ref mVa, .int (nI an), .ref mA1, .ref mA2, .ref mA3, .ref mA4, .int (nI ln), .ref mLk, .int (nI xn), .ref mEx, .int (nI qn), .ref mQp, .ref mQd, .int wh, .int wt, .int fd, .int pp, .int wn]))] ∧ va_S A s.heap H9 locs9 ∧ lv_has ls9 3 [(0, .ref g), (1, .int r), (2, .int f)]) (fun b9 H locs ls h9 => ?_) (fun k21 => ?_)
  · obtain ⟨rfl, hP, hD, hS, hl⟩ := h9
    refine lv_iconst (v := 0) hx hb d_MD_masked_21 (by decide) ?_
    refine lv_iconst (v := 0) hx hb d_MD_masked_22 (by decide) ?_
    have hPc := hP.sub (ws' := [(g, .inr (10, [.int th, .ref mPd, .int (nI pn), .int (nI bn), .ref mSg, .ref mSz, .ref mTo, .int (nI en), .ref mRo, .ref mLi, .int (nI hn), .ref mKi, .ref mCo, .ref mEm, .ref mVa, .int (nI an), .ref mA1, .ref mA2, .ref mA3, .ref mA4, .int (nI ln), .ref mLk, .int (nI xn), .ref mEx, .int (nI qn), .ref mQp, .ref mQd, .int wh, .int wt, .int fd, .int pp, .int wn]))]) [0] rfl
    have hKc := hK.sub (tys' := []) [] rfl
    have hDc := hD.sub (ws' := [(g, .inr (10, [.int th, .ref mPd, .int (nI pn), .int (nI bn), .ref mSg, .ref mSz, .ref mTo, .int (nI en), .ref mRo, .ref mLi, .int (nI hn), .ref mKi, .ref mCo, .ref mEm, .ref mVa, .int (nI an), .ref mA1, .ref mA2, .ref mA3, .ref mA4, .int (nI ln), .ref mLk, .int (nI xn), .ref mEx, .int (nI qn), .ref mQp, .ref mQd, .int wh, .int wt, .int fd, .int pp, .int wn]))]) [0] (by decide) rfl
    have hFc := va_free (wc := [(g, .inr (10, [.int th, .ref mPd, .int (nI pn), .int (nI bn), .ref mSg, .ref mSz, .ref mTo, .int (nI en), .ref mRo, .ref mLi, .int (nI hn), .ref mKi, .ref mCo, .ref mEm, .ref mVa, .int (nI an), .ref mA1, .ref mA2, .ref mA3, .ref mA4, .int (nI ln), .ref mLk, .int (nI xn), .ref mEx, .int (nI qn), .ref mQp, .ref mQd, .int wh, .int wt, .int fd, .int pp, .int wn]))]) hD hS hA [0] rfl
    refine va_calli (va_runV (As := [.int (orN (inF r 0 (nI hn - 1)) (inF f 0 5)), .int 0, .int 0]) (rest := []) ⟨hx, hb, hml, hown, hts⟩ (c_MD_throwing l dC dI H.size g mPd mSg mSz mTo mRo mLi mKi mCo mEm mVa mA1 mA2 mA3 mA4 mLk mEx mQp mQd th pn bn en hn an ln xn qn wh wt fd pp wn (orN (inF r 0 (nI hn - 1)) (inF f 0 5)) 0 0) (cwV 3 hts (vz_gV wb_MD_masked b_777 b_779 bs_15 b_11 wc_MD_throwing) rfl rfl rfl (by decide +kernel) ⟨Nat.le_of_ble_eq_true rfl, Nat.le_of_ble_eq_true rfl⟩) (vz_preVw (A := A) hPc hKc hDc (ci := 10) (q0 := 0) rfl rfl) rfl rfl hl.1 rfl (lv_room (Nat.le_of_ble_eq_true rfl)) d_MD_masked_23 ⟨Nat.le_of_ble_eq_true rfl, Nat.le_of_ble_eq_true rfl⟩) hS (fun q _ h => hFc q h) hFc (fun r23 u9 t9 H1 locs ht hvm hr23 hB hzx9 hkx9 hS => ?_)
    try dsimp only at hr23
    obtain ⟨hP1, hK1, hD1⟩ := hB
    rw [ht] at hP1
    obtain ⟨hP, hD⟩ := va_join (wr := []) (w1 := [(g, .inr (10, [.int (thrF (orN (inF r 0 (nI hn - 1)) (inF f 0 5)) 0 0), .ref mPd, .int (nI pn), .int (nI bn), .ref mSg, .ref mSz, .ref mTo, .int (nI en), .ref mRo, .ref mLi, .int (nI hn), .ref mKi, .ref mCo, .ref mEm, .ref mVa, .int (nI an), .ref mA1, .ref mA2, .ref mA3, .ref mA4, .int (nI ln), .ref mLk, .int (nI xn), .ref mEx, .int (nI qn), .ref mQp, .ref mQd, .int wh, .int wt, .int fd, .int pp, .int wn]))]) hP hD [0] [] rfl rfl (by decide) (by decide) hkx9 hFc hP1 hD1
    generalize H1 = H at hP hS ⊢
    have hP : va_P (dC, dI) vwCl [(g, .inr (10, [.int (thrF (orN (inF r 0 (nI hn - 1)) (inF f 0 5)) 0 0), .ref mPd, .int (nI pn), .int (nI bn), .ref mSg, .ref mSz, .ref mTo, .int (nI en), .ref mRo, .ref mLi, .int (nI hn), .ref mKi, .ref mCo, .ref mEm, .ref mVa, .int (nI an), .ref mA1, .ref mA2, .ref mA3, .ref mA4, .int (nI ln), .ref mLk, .int (nI xn), .ref mEx, .int (nI qn), .ref mQp, .ref mQd, .int wh, .int wt, .int fd, .int pp, .int wn]))] H := hP
    have hD : va_D A [(g, .inr (10, [.int (thrF (orN (inF r 0 (nI hn - 1)) (inF f 0 5)) 0 0), .ref mPd, .int (nI pn), .int (nI bn), .ref mSg, .ref mSz, .ref mTo, .int (nI en), .ref mRo, .ref mLi, .int (nI hn), .ref mKi, .ref mCo, .ref mEm, .ref mVa, .int (nI an), .ref mA1, .ref mA2, .ref mA3, .ref mA4, .int (nI ln), .ref mLk, .int (nI xn), .ref mEx, .int (nI qn), .ref mQp, .ref mQd, .int wh, .int wt, .int fd, .int pp, .int wn]))] := hD
    refine lv_if_eq (tgt := 31) hx hb d_MD_masked_26 (by decide) (fun c26 => ?_) (fun c26 => ?_)
    · exact absurd (thrF_z (hr23.symm.trans c26)) hok
    · refine lv_lconst (v := 0) hx hb d_MD_masked_29 (by decide) ?_
      have hP9 := hP.sub (ws' := [(g, .inr (10, [.int (thrF (orN (inF r 0 (nI hn - 1)) (inF f 0 5)) 0 0), .ref mPd, .int (nI pn), .int (nI bn), .ref mSg, .ref mSz, .ref mTo, .int (nI en), .ref mRo, .ref mLi, .int (nI hn), .ref mKi, .ref mCo, .ref mEm, .ref mVa, .int (nI an), .ref mA1, .ref mA2, .ref mA3, .ref mA4, .int (nI ln), .ref mLk, .int (nI xn), .ref mEx, .int (nI qn), .ref mQp, .ref mQd, .int wh, .int wt, .int fd, .int pp, .int wn]))]) [0] rfl
      have hD9 := hD.sub (ws' := [(g, .inr (10, [.int (thrF (orN (inF r 0 (nI hn - 1)) (inF f 0 5)) 0 0), .ref mPd, .int (nI pn), .int (nI bn), .ref mSg, .ref mSz, .ref mTo, .int (nI en), .ref mRo, .ref mLi, .int (nI hn), .ref mKi, .ref mCo, .ref mEm, .ref mVa, .int (nI an), .ref mA1, .ref mA2, .ref mA3, .ref mA4, .int (nI ln), .ref mLk, .int (nI xn), .ref mEx, .int (nI qn), .ref mQp, .ref mQd, .int wh, .int wt, .int fd, .int pp, .int wn]))]) [0] (by decide) rfl
      exact W.lret (v := 0) hx hb hr (fun t ht hW => ⟨⟨0, (), rfl, rfl, by rw [ht]; exact hP9, va_K.moved hW.alike hK, hD9⟩, hS.F ht⟩) hS.2.2 d_MD_masked_30
  · refine lv_aload_n hx hb d_MD_masked_1 rfl (lv_at hl 0 rfl) ?_
    refine lv_iload_n hx hb d_MD_masked_2 rfl (lv_at hl 1 rfl) ?_
    have hPc := hP.sub (ws' := [(g, .inr (10, [.int th, .ref mPd, .int (nI pn), .int (nI bn), .ref mSg, .ref mSz, .ref mTo, .int (nI en), .ref mRo, .ref mLi, .int (nI hn), .ref mKi, .ref mCo, .ref mEm, .ref mVa, .int (nI an), .ref mA1, .ref mA2, .ref mA3, .ref mA4, .int (nI ln), .ref mLk, .int (nI xn), .ref mEx, .int (nI qn), .ref mQp, .ref mQd, .int wh, .int wt, .int fd, .int pp, .int wn]))]) [0] rfl
    have hKc := hK.sub (tys' := []) [] rfl
    refine va_calli (va_runV (As := [.int r]) (rest := [.ref g]) ⟨hx, hb, hml, hown, hts⟩ (c_MD_isRecord l dC dI g mPd mSg mSz mTo mRo mLi mKi mCo mEm mVa mA1 mA2 mA3 mA4 mLk mEx mQp mQd th pn bn en hn an ln xn qn wh wt fd pp wn r) (cwV 1 hts (vz_gV wb_MD_masked b_815 b_817 bs_18 b_11 wc_MD_isRecord) rfl rfl rfl (by decide +kernel) ⟨Nat.le_of_ble_eq_true rfl, Nat.le_of_ble_eq_true rfl⟩) (vz_preV hPc hKc (ci := 10) (q0 := 0) rfl rfl) rfl rfl hl.1 rfl (lv_room (Nat.le_of_ble_eq_true rfl)) d_MD_masked_3 ⟨Nat.le_of_ble_eq_true rfl, Nat.le_of_ble_eq_true rfl⟩) hS (fun q _ h => False.elim h) (fun q h => False.elim h) (fun r3 u9 t9 H1 locs ht hvm hr3 hB hzx9 hkx9 hS => ?_)
    try dsimp only at hr3
    have hP := vz_kept hP hkx9
    generalize H1 = H at hP hS ⊢
    refine lv_if_eq (tgt := 16) hx hb d_MD_masked_6 (by decide) (fun c6 => ?_) (fun c6 => ?_)
    · refine lv_iconst (v := 1) hx hb d_MD_masked_16 (by decide) ?_
      refine lv_goto (tgt := 21) hx hb d_MD_masked_17 (by decide) ?_
      exact k21 _ _ _ _ ⟨by simp [orN, ← hr3, c6], hP, hD, hS, lv_sub hl [0, 1, 2] rfl⟩
    · refine lv_iload_n hx hb d_MD_masked_9 rfl (lv_at hl 2 rfl) ?_
      have hPc := hP.sub (ws' := []) [] rfl
      have hKc := hK.sub (tys' := []) [] rfl
      refine va_calli (va_runS (As := [.int f]) (rest := [.ref g]) ⟨hx, hb, hml, hown, hts⟩ (c_MD_isField l dC dI f) (va_cwS 1 hts (vz_gS wb_MD_masked b_819 b_820 b_11 wc_MD_isField) rfl rfl rfl (by decide +kernel) ⟨Nat.le_of_ble_eq_true rfl, Nat.le_of_ble_eq_true rfl⟩) (vz_preS hPc hKc) rfl rfl hl.1 rfl (lv_room (Nat.le_of_ble_eq_true rfl)) d_MD_masked_10 ⟨Nat.le_of_ble_eq_true rfl, Nat.le_of_ble_eq_true rfl⟩) hS (fun q _ h => False.elim h) (fun q h => False.elim h) (fun r10 u9 t9 H1 locs ht hvm hr10 hB hzx9 hkx9 hS => ?_)
      try dsimp only at hr10
      have hP := vz_kept hP hkx9
      generalize H1 = H at hP hS ⊢
      refine lv_if_ne (tgt := 20) hx hb d_MD_masked_13 (by decide) (fun c13 => ?_) (fun c13 => ?_)
      · refine lv_iconst (v := 0) hx hb d_MD_masked_20 (by decide) ?_
        exact k21 _ _ _ _ ⟨by simp [orN, ← hr3, c6, ← hr10, c13], hP, hD, hS, lv_sub hl [0, 1, 2] rfl⟩
      · refine lv_iconst (v := 1) hx hb d_MD_masked_16 (by decide) ?_
        refine lv_goto (tgt := 21) hx hb d_MD_masked_17 (by decide) ?_
        exact k21 _ _ _ _ ⟨by simp [orN, ← hr3, c6, ← hr10, c13], hP, hD, hS, lv_sub hl [0, 1, 2] rfl⟩

set_option maxHeartbeats 4000000 in
set_option maxRecDepth 100000 in
theorem c_MD_maskedG (l : Launch) (dC : Nat → ClassId) (dI : Nat → Nat → Nat) (sz : Nat) (cL : ClassId) (g mPd mSg mSz mTo mRo mLi mKi mCo mEm mVa mA1 mA2 mA3 mA4 mLk mEx mQp mQd : Nat) (th : Int32) (pn bn en hn an ln xn qn : Nat) (wh wt fd pp wn : Int32) (va : Nat → Int64) (hhn : hn ≤ 16) (r f : Nat) (hr : r < hn) (hf : f < 6) (hok : thrF (orN (inF (nI r) 0 (nI hn - 1)) (inF (nI f) 0 5)) 0 0 = 0) : Met l y_MD_masked ws_MD_masked ({ frames := 2, cells := 0, slots := 0, locals := 43 }) (va_Pc [.ref g, .int (nI r), .int (nI f)] (fun U => U.heap.size = sz ∧ va_P (dC, dI) vwCl [(g, .inr (10, [.int th, .ref mPd, .int (nI pn), .int (nI bn), .ref mSg, .ref mSz, .ref mTo, .int (nI en), .ref mRo, .ref mLi, .int (nI hn), .ref mKi, .ref mCo, .ref mEm, .ref mVa, .int (nI an), .ref mA1, .ref mA2, .ref mA3, .ref mA4, .int (nI ln), .ref mLk, .int (nI xn), .ref mEx, .int (nI qn), .ref mQp, .ref mQd, .int wh, .int wt, .int fd, .int pp, .int wn])), (mVa, .inl (cL, 96, .inr (.inl va)))] U.heap ∧ va_K (dC, dI) vwCl [(cL, .long)] U ∧ va_D (fun _ => True) [(g, .inr (10, [.int th, .ref mPd, .int (nI pn), .int (nI bn), .ref mSg, .ref mSz, .ref mTo, .int (nI en), .ref mRo, .ref mLi, .int (nI hn), .ref mKi, .ref mCo, .ref mEm, .ref mVa, .int (nI an), .ref mA1, .ref mA2, .ref mA3, .ref mA4, .int (nI ln), .ref mLk, .int (nI xn), .ref mEx, .int (nI qn), .ref mQp, .ref mQd, .int wh, .int wt, .int fd, .int pp, .int wn])), (mVa, .inl (cL, 96, .inr (.inl va)))])) (va_Ql (fun (res : Int64) (_ : Unit) => res = va (6 * r + f) - (va (6 * r + f) - va (6 * r + f) / 1000 * 1000)) (fun _ t => va_P (dC, dI) vwCl [(g, .inr (10, [.int (thrF (orN (inF (nI r) 0 (nI hn - 1)) (inF (nI f) 0 5)) 0 0), .ref mPd, .int (nI pn), .int (nI bn), .ref mSg, .ref mSz, .ref mTo, .int (nI en), .ref mRo, .ref mLi, .int (nI hn), .ref mKi, .ref mCo, .ref mEm, .ref mVa, .int (nI an), .ref mA1, .ref mA2, .ref mA3, .ref mA4, .int (nI ln), .ref mLk, .int (nI xn), .ref mEx, .int (nI qn), .ref mQp, .ref mQd, .int wh, .int wt, .int fd, .int pp, .int wn])), (mVa, .inl (cL, 96, .inr (.inl va)))] t.heap ∧ va_K (dC, dI) vwCl [(cL, .long)] t ∧ va_D (va_A [(g, .inr (10, [.int th, .ref mPd, .int (nI pn), .int (nI bn), .ref mSg, .ref mSz, .ref mTo, .int (nI en), .ref mRo, .ref mLi, .int (nI hn), .ref mKi, .ref mCo, .ref mEm, .ref mVa, .int (nI an), .ref mA1, .ref mA2, .ref mA3, .ref mA4, .int (nI ln), .ref mLk, .int (nI xn), .ref mEx, .int (nI qn), .ref mQp, .ref mQd, .int wh, .int wt, .int fd, .int pp, .int wn])), (mVa, .inl (cL, 96, .inr (.inl va)))] sz) [(g, .inr (10, [.int (thrF (orN (inF (nI r) 0 (nI hn - 1)) (inF (nI f) 0 5)) 0 0), .ref mPd, .int (nI pn), .int (nI bn), .ref mSg, .ref mSz, .ref mTo, .int (nI en), .ref mRo, .ref mLi, .int (nI hn), .ref mKi, .ref mCo, .ref mEm, .ref mVa, .int (nI an), .ref mA1, .ref mA2, .ref mA3, .ref mA4, .int (nI ln), .ref mLk, .int (nI xn), .ref mEx, .int (nI qn), .ref mQp, .ref mQd, .int wh, .int wt, .int fd, .int pp, .int wn])), (mVa, .inl (cL, 96, .inr (.inl va)))]) (va_A [(g, .inr (10, [.int th, .ref mPd, .int (nI pn), .int (nI bn), .ref mSg, .ref mSz, .ref mTo, .int (nI en), .ref mRo, .ref mLi, .int (nI hn), .ref mKi, .ref mCo, .ref mEm, .ref mVa, .int (nI an), .ref mA1, .ref mA2, .ref mA3, .ref mA4, .int (nI ln), .ref mLk, .int (nI xn), .ref mEx, .int (nI qn), .ref mQp, .ref mQd, .int wh, .int wt, .int fd, .int pp, .int wn])), (mVa, .inl (cL, 96, .inr (.inl va)))] sz)) 0 0 (va_A [(g, .inr (10, [.int th, .ref mPd, .int (nI pn), .int (nI bn), .ref mSg, .ref mSz, .ref mTo, .int (nI en), .ref mRo, .ref mLi, .int (nI hn), .ref mKi, .ref mCo, .ref mEm, .ref mVa, .int (nI an), .ref mA1, .ref mA2, .ref mA3, .ref mA4, .int (nI ln), .ref mLk, .int (nI xn), .ref mEx, .int (nI qn), .ref mQp, .ref mQd, .int wh, .int wt, .int fd, .int pp, .int wn])), (mVa, .inl (cL, 96, .inr (.inl va)))] sz) := by
  refine Met.ofW (cc := k_MD_masked) (maxL := 3) (ret := (some .long)) (by decide) rfl ?_
  intro p e s m args below meth c s₁ B hml hv
  obtain ⟨rfl, hsz, hP, hK, hD0⟩ := hv
  have hx := B.exec
  have hb := B.bytes
  have hr := B.returns
  have hts := atoms_spec (ws := ws_MD_masked) B.pre
  have hown : s.vm.findClass R_MD = some m.cls := findClass_of_methodNamed B.named
  have hlocks := B.notSynchronized
  subst hsz
  have hD := hD0.self (sz := s.heap.size)
  generalize hAe : va_A [(g, .inr (10, [.int th, .ref mPd, .int (nI pn), .int (nI bn), .ref mSg, .ref mSz, .ref mTo, .int (nI en), .ref mRo, .ref mLi, .int (nI hn), .ref mKi, .ref mCo, .ref mEm, .ref mVa, .int (nI an), .ref mA1, .ref mA2, .ref mA3, .ref mA4, .int (nI ln), .ref mLk, .int (nI xn), .ref mEx, .int (nI qn), .ref mQp, .ref mQd, .int wh, .int wt, .int fd, .int pp, .int wn])), (mVa, .inl (cL, 96, .inr (.inl va)))] s.heap.size = A at hD ⊢
  have hA : ∀ q : Nat, s.heap.size ≤ q → A q := fun q h => by rw [← hAe]; exact Or.inr h
  have hS : va_S A s.heap s.heap [] := va_S.rf
  have hP : va_P (dC, dI) vwCl [(g, .inr (10, [.int th, .ref mPd, .int (nI pn), .int (nI bn), .ref mSg, .ref mSz, .ref mTo, .int (nI en), .ref mRo, .ref mLi, .int (nI hn), .ref mKi, .ref mCo, .ref mEm, .ref mVa, .int (nI an), .ref mA1, .ref mA2, .ref mA3, .ref mA4, .int (nI ln), .ref mLk, .int (nI xn), .ref mEx, .int (nI qn), .ref mQp, .ref mQd, .int wh, .int wt, .int fd, .int pp, .int wn])), (mVa, .inl (cL, 96, .inr (.inl va)))] s.heap := hP
  have iMD : ∀ w ∈ u_ws R_MD T_MD 32, w ∈ ws_MD_masked := fun w h => wb_MD_masked w (in_MD w h)
  have hl := lv_entry ([.ref g, .int (nI r), .int (nI f)]) (n := 3) (Nat.le_of_ble_eq_true rfl)
  rw [lg_entry_eq]
  generalize (lg_sl ([.ref g, .int (nI r), .int (nI f)]) ++ List.replicate (3 - (lg_sl ([.ref g, .int (nI r), .int (nI f)])).length) Slot.unset).toArray = ls at hl ⊢
  have hl : lv_has ls 3 [(0, .ref g), (1, .int (nI r)), (2, .int (nI f))] := hl
  refine lv_aload_n hx hb d_MD_masked_0 rfl (lv_at hl 0 rfl) ?_
  refine vz_join 21 [.ref g] (fun b9 H9 locs9 ls9 => (b9 = orN (inF (nI r) 0 (nI hn - 1)) (inF (nI f) 0 5)) ∧ va_P (dC, dI) vwCl [(g, .inr (10, [.int th, .ref mPd, .int (nI pn), .int (nI bn), .ref mSg, .ref mSz, .ref mTo, .int (nI en), .ref mRo, .ref mLi, .int (nI hn), .ref mKi, .ref mCo, .ref mEm, .ref mVa, .int (nI an), .ref mA1, .ref mA2, .ref mA3, .ref mA4, .int (nI ln), .ref mLk, .int (nI xn), .ref mEx, .int (nI qn), .ref mQp, .ref mQd, .int wh, .int wt, .int fd, .int pp, .int wn])), (mVa, .inl (cL, 96, .inr (.inl va)))] H9 ∧ va_D A [(g, .inr (10, [.int th, .ref mPd, .int (nI pn), .int (nI bn), .ref mSg, .ref mSz, .ref mTo, .int (nI en), .ref mRo, .ref mLi, .int (nI hn), .ref mKi, .ref mCo, .ref mEm, .ref mVa, .int (nI an), .ref mA1, .ref mA2, .ref mA3, .ref mA4, .int (nI ln), .ref mLk, .int (nI xn), .ref mEx, .int (nI qn), .ref mQp, .ref mQd, .int wh, .int wt, .int fd, .int pp, .int wn])), (mVa, .inl (cL, 96, .inr (.inl va)))] ∧ va_S A s.heap H9 locs9 ∧ lv_has ls9 3 [(0, .ref g), (1, .int (nI r)), (2, .int (nI f))]) (fun b9 H locs ls h9 => ?_) (fun k21 => ?_)
  · obtain ⟨rfl, hP, hD, hS, hl⟩ := h9
    refine lv_iconst (v := 0) hx hb d_MD_masked_21 (by decide) ?_
    refine lv_iconst (v := 0) hx hb d_MD_masked_22 (by decide) ?_
    have hPc := hP.sub (ws' := [(g, .inr (10, [.int th, .ref mPd, .int (nI pn), .int (nI bn), .ref mSg, .ref mSz, .ref mTo, .int (nI en), .ref mRo, .ref mLi, .int (nI hn), .ref mKi, .ref mCo, .ref mEm, .ref mVa, .int (nI an), .ref mA1, .ref mA2, .ref mA3, .ref mA4, .int (nI ln), .ref mLk, .int (nI xn), .ref mEx, .int (nI qn), .ref mQp, .ref mQd, .int wh, .int wt, .int fd, .int pp, .int wn]))]) [0] rfl
    have hKc := hK.sub (tys' := []) [] rfl
    have hDc := hD.sub (ws' := [(g, .inr (10, [.int th, .ref mPd, .int (nI pn), .int (nI bn), .ref mSg, .ref mSz, .ref mTo, .int (nI en), .ref mRo, .ref mLi, .int (nI hn), .ref mKi, .ref mCo, .ref mEm, .ref mVa, .int (nI an), .ref mA1, .ref mA2, .ref mA3, .ref mA4, .int (nI ln), .ref mLk, .int (nI xn), .ref mEx, .int (nI qn), .ref mQp, .ref mQd, .int wh, .int wt, .int fd, .int pp, .int wn]))]) [0] (by decide) rfl
    have hFc := va_free (wc := [(g, .inr (10, [.int th, .ref mPd, .int (nI pn), .int (nI bn), .ref mSg, .ref mSz, .ref mTo, .int (nI en), .ref mRo, .ref mLi, .int (nI hn), .ref mKi, .ref mCo, .ref mEm, .ref mVa, .int (nI an), .ref mA1, .ref mA2, .ref mA3, .ref mA4, .int (nI ln), .ref mLk, .int (nI xn), .ref mEx, .int (nI qn), .ref mQp, .ref mQd, .int wh, .int wt, .int fd, .int pp, .int wn]))]) hD hS hA [0] rfl
    refine va_calli (va_runV (As := [.int (orN (inF (nI r) 0 (nI hn - 1)) (inF (nI f) 0 5)), .int 0, .int 0]) (rest := []) ⟨hx, hb, hml, hown, hts⟩ (c_MD_throwing l dC dI H.size g mPd mSg mSz mTo mRo mLi mKi mCo mEm mVa mA1 mA2 mA3 mA4 mLk mEx mQp mQd th pn bn en hn an ln xn qn wh wt fd pp wn (orN (inF (nI r) 0 (nI hn - 1)) (inF (nI f) 0 5)) 0 0) (cwV 3 hts (vz_gV wb_MD_masked b_777 b_779 bs_15 b_11 wc_MD_throwing) rfl rfl rfl (by decide +kernel) ⟨Nat.le_of_ble_eq_true rfl, Nat.le_of_ble_eq_true rfl⟩) (vz_preVw (A := A) hPc hKc hDc (ci := 10) (q0 := 0) rfl rfl) rfl rfl hl.1 rfl (lv_room (Nat.le_of_ble_eq_true rfl)) d_MD_masked_23 ⟨Nat.le_of_ble_eq_true rfl, Nat.le_of_ble_eq_true rfl⟩) hS (fun q _ h => hFc q h) hFc (fun r23 u9 t9 H1 locs ht hvm hr23 hB hzx9 hkx9 hS => ?_)
    try dsimp only at hr23
    obtain ⟨hP1, hK1, hD1⟩ := hB
    rw [ht] at hP1
    obtain ⟨hP, hD⟩ := va_join (wr := [(mVa, .inl (cL, 96, .inr (.inl va)))]) (w1 := [(g, .inr (10, [.int (thrF (orN (inF (nI r) 0 (nI hn - 1)) (inF (nI f) 0 5)) 0 0), .ref mPd, .int (nI pn), .int (nI bn), .ref mSg, .ref mSz, .ref mTo, .int (nI en), .ref mRo, .ref mLi, .int (nI hn), .ref mKi, .ref mCo, .ref mEm, .ref mVa, .int (nI an), .ref mA1, .ref mA2, .ref mA3, .ref mA4, .int (nI ln), .ref mLk, .int (nI xn), .ref mEx, .int (nI qn), .ref mQp, .ref mQd, .int wh, .int wt, .int fd, .int pp, .int wn]))]) hP hD [0] [1] rfl rfl (by decide) (by decide) hkx9 hFc hP1 hD1
    generalize H1 = H at hP hS ⊢
    have hP : va_P (dC, dI) vwCl [(mVa, .inl (cL, 96, .inr (.inl va))), (g, .inr (10, [.int (thrF (orN (inF (nI r) 0 (nI hn - 1)) (inF (nI f) 0 5)) 0 0), .ref mPd, .int (nI pn), .int (nI bn), .ref mSg, .ref mSz, .ref mTo, .int (nI en), .ref mRo, .ref mLi, .int (nI hn), .ref mKi, .ref mCo, .ref mEm, .ref mVa, .int (nI an), .ref mA1, .ref mA2, .ref mA3, .ref mA4, .int (nI ln), .ref mLk, .int (nI xn), .ref mEx, .int (nI qn), .ref mQp, .ref mQd, .int wh, .int wt, .int fd, .int pp, .int wn]))] H := hP
    have hD : va_D A [(mVa, .inl (cL, 96, .inr (.inl va))), (g, .inr (10, [.int (thrF (orN (inF (nI r) 0 (nI hn - 1)) (inF (nI f) 0 5)) 0 0), .ref mPd, .int (nI pn), .int (nI bn), .ref mSg, .ref mSz, .ref mTo, .int (nI en), .ref mRo, .ref mLi, .int (nI hn), .ref mKi, .ref mCo, .ref mEm, .ref mVa, .int (nI an), .ref mA1, .ref mA2, .ref mA3, .ref mA4, .int (nI ln), .ref mLk, .int (nI xn), .ref mEx, .int (nI qn), .ref mQp, .ref mQd, .int wh, .int wt, .int fd, .int pp, .int wn]))] := hD
    refine lv_if_eq (tgt := 31) hx hb d_MD_masked_26 (by decide) (fun c26 => ?_) (fun c26 => ?_)
    · refine lv_aload_n hx hb d_MD_masked_31 rfl (lv_at hl 0 rfl) ?_
      refine va_get (D := (dC, dI)) (ci := 10) (v := .ref mVa) (C := R_MD) (T := T_MD) (N := 32) hx hb hts iMD hown hK hP 1 rfl rfl 14 (by decide) (hts _ (wb_MD_masked _ b_682)) (fun _ h9 => h9) rfl d_MD_masked_32 ?_
      refine lv_bipush (v := 6) hx hb d_MD_masked_35 (by decide) ?_
      refine lv_iload_n hx hb d_MD_masked_37 rfl (lv_at hl 1 rfl) ?_
      refine lv_imul hx hb d_MD_masked_38 ?_
      refine lv_iload_n hx hb d_MD_masked_39 rfl (lv_at hl 2 rfl) ?_
      refine lv_iadd hx hb d_MD_masked_40 ?_
      refine vz_top (y := nI (6 * r + f)) (by rw [show 6 * nI r = nI (6 * r) from pk_mul 6 r, nI_add]) ?_
      refine vz_lald (k := (6 * r + f)) hx hb hK hP 0 0 rfl rfl (by omega) (by decide) d_MD_masked_41 ?_
      refine lv_aload_n hx hb d_MD_masked_42 rfl (lv_at hl 0 rfl) ?_
      refine va_get (D := (dC, dI)) (ci := 10) (v := .ref mVa) (C := R_MD) (T := T_MD) (N := 32) hx hb hts iMD hown hK hP 1 rfl rfl 14 (by decide) (hts _ (wb_MD_masked _ b_682)) (fun _ h9 => h9) rfl d_MD_masked_43 ?_
      refine lv_bipush (v := 6) hx hb d_MD_masked_46 (by decide) ?_
      refine lv_iload_n hx hb d_MD_masked_48 rfl (lv_at hl 1 rfl) ?_
      refine lv_imul hx hb d_MD_masked_49 ?_
      refine lv_iload_n hx hb d_MD_masked_50 rfl (lv_at hl 2 rfl) ?_
      refine lv_iadd hx hb d_MD_masked_51 ?_
      refine vz_top (y := nI (6 * r + f)) (by rw [show 6 * nI r = nI (6 * r) from pk_mul 6 r, nI_add]) ?_
      refine vz_lald (k := (6 * r + f)) hx hb hK hP 0 0 rfl rfl (by omega) (by decide) d_MD_masked_52 ?_
      refine lv_ldc2 (v := 1000) hx hb hown (hts _ (wb_MD_masked _ b_866)) d_MD_masked_53 ?_
      refine lv_lrem hx hb d_MD_masked_56 (by decide) ?_
      refine lv_lsub hx hb d_MD_masked_57 ?_
      have hP9 := hP.sub (ws' := [(g, .inr (10, [.int (thrF (orN (inF (nI r) 0 (nI hn - 1)) (inF (nI f) 0 5)) 0 0), .ref mPd, .int (nI pn), .int (nI bn), .ref mSg, .ref mSz, .ref mTo, .int (nI en), .ref mRo, .ref mLi, .int (nI hn), .ref mKi, .ref mCo, .ref mEm, .ref mVa, .int (nI an), .ref mA1, .ref mA2, .ref mA3, .ref mA4, .int (nI ln), .ref mLk, .int (nI xn), .ref mEx, .int (nI qn), .ref mQp, .ref mQd, .int wh, .int wt, .int fd, .int pp, .int wn])), (mVa, .inl (cL, 96, .inr (.inl va)))]) [1, 0] rfl
      have hD9 := hD.sub (ws' := [(g, .inr (10, [.int (thrF (orN (inF (nI r) 0 (nI hn - 1)) (inF (nI f) 0 5)) 0 0), .ref mPd, .int (nI pn), .int (nI bn), .ref mSg, .ref mSz, .ref mTo, .int (nI en), .ref mRo, .ref mLi, .int (nI hn), .ref mKi, .ref mCo, .ref mEm, .ref mVa, .int (nI an), .ref mA1, .ref mA2, .ref mA3, .ref mA4, .int (nI ln), .ref mLk, .int (nI xn), .ref mEx, .int (nI qn), .ref mQp, .ref mQd, .int wh, .int wt, .int fd, .int pp, .int wn])), (mVa, .inl (cL, 96, .inr (.inl va)))]) [1, 0] (by decide) rfl
      exact W.lret (v := (va (6 * r + f)) - ((va (6 * r + f)) - (va (6 * r + f)) / 1000 * 1000)) hx hb hr (fun t ht hW => ⟨⟨(va (6 * r + f)) - ((va (6 * r + f)) - (va (6 * r + f)) / 1000 * 1000), (), rfl, rfl, by rw [ht]; exact hP9, va_K.moved hW.alike hK, hD9⟩, hS.F ht⟩) hS.2.2 d_MD_masked_58
    · exact absurd (hr23.trans (thrB_z hok)) c26
  · refine lv_aload_n hx hb d_MD_masked_1 rfl (lv_at hl 0 rfl) ?_
    refine lv_iload_n hx hb d_MD_masked_2 rfl (lv_at hl 1 rfl) ?_
    have hPc := hP.sub (ws' := [(g, .inr (10, [.int th, .ref mPd, .int (nI pn), .int (nI bn), .ref mSg, .ref mSz, .ref mTo, .int (nI en), .ref mRo, .ref mLi, .int (nI hn), .ref mKi, .ref mCo, .ref mEm, .ref mVa, .int (nI an), .ref mA1, .ref mA2, .ref mA3, .ref mA4, .int (nI ln), .ref mLk, .int (nI xn), .ref mEx, .int (nI qn), .ref mQp, .ref mQd, .int wh, .int wt, .int fd, .int pp, .int wn]))]) [0] rfl
    have hKc := hK.sub (tys' := []) [] rfl
    refine va_calli (va_runV (As := [.int (nI r)]) (rest := [.ref g]) ⟨hx, hb, hml, hown, hts⟩ (c_MD_isRecord l dC dI g mPd mSg mSz mTo mRo mLi mKi mCo mEm mVa mA1 mA2 mA3 mA4 mLk mEx mQp mQd th pn bn en hn an ln xn qn wh wt fd pp wn (nI r)) (cwV 1 hts (vz_gV wb_MD_masked b_815 b_817 bs_18 b_11 wc_MD_isRecord) rfl rfl rfl (by decide +kernel) ⟨Nat.le_of_ble_eq_true rfl, Nat.le_of_ble_eq_true rfl⟩) (vz_preV hPc hKc (ci := 10) (q0 := 0) rfl rfl) rfl rfl hl.1 rfl (lv_room (Nat.le_of_ble_eq_true rfl)) d_MD_masked_3 ⟨Nat.le_of_ble_eq_true rfl, Nat.le_of_ble_eq_true rfl⟩) hS (fun q _ h => False.elim h) (fun q h => False.elim h) (fun r3 u9 t9 H1 locs ht hvm hr3 hB hzx9 hkx9 hS => ?_)
    try dsimp only at hr3
    have hP := vz_kept hP hkx9
    generalize H1 = H at hP hS ⊢
    refine lv_if_eq (tgt := 16) hx hb d_MD_masked_6 (by decide) (fun c6 => ?_) (fun c6 => ?_)
    · refine lv_iconst (v := 1) hx hb d_MD_masked_16 (by decide) ?_
      refine lv_goto (tgt := 21) hx hb d_MD_masked_17 (by decide) ?_
      exact k21 _ _ _ _ ⟨by simp [orN, ← hr3, c6], hP, hD, hS, lv_sub hl [0, 1, 2] rfl⟩
    · refine lv_iload_n hx hb d_MD_masked_9 rfl (lv_at hl 2 rfl) ?_
      have hPc := hP.sub (ws' := []) [] rfl
      have hKc := hK.sub (tys' := []) [] rfl
      refine va_calli (va_runS (As := [.int (nI f)]) (rest := [.ref g]) ⟨hx, hb, hml, hown, hts⟩ (c_MD_isField l dC dI (nI f)) (va_cwS 1 hts (vz_gS wb_MD_masked b_819 b_820 b_11 wc_MD_isField) rfl rfl rfl (by decide +kernel) ⟨Nat.le_of_ble_eq_true rfl, Nat.le_of_ble_eq_true rfl⟩) (vz_preS hPc hKc) rfl rfl hl.1 rfl (lv_room (Nat.le_of_ble_eq_true rfl)) d_MD_masked_10 ⟨Nat.le_of_ble_eq_true rfl, Nat.le_of_ble_eq_true rfl⟩) hS (fun q _ h => False.elim h) (fun q h => False.elim h) (fun r10 u9 t9 H1 locs ht hvm hr10 hB hzx9 hkx9 hS => ?_)
      try dsimp only at hr10
      have hP := vz_kept hP hkx9
      generalize H1 = H at hP hS ⊢
      refine lv_if_ne (tgt := 20) hx hb d_MD_masked_13 (by decide) (fun c13 => ?_) (fun c13 => ?_)
      · refine lv_iconst (v := 0) hx hb d_MD_masked_20 (by decide) ?_
        exact k21 _ _ _ _ ⟨by simp [orN, ← hr3, c6, ← hr10, c13], hP, hD, hS, lv_sub hl [0, 1, 2] rfl⟩
      · refine lv_iconst (v := 1) hx hb d_MD_masked_16 (by decide) ?_
        refine lv_goto (tgt := 21) hx hb d_MD_masked_17 (by decide) ?_
        exact k21 _ _ _ _ ⟨by simp [orN, ← hr3, c6, ← hr10, c13], hP, hD, hS, lv_sub hl [0, 1, 2] rfl⟩

set_option maxHeartbeats 4000000 in
set_option maxRecDepth 100000 in
theorem c_MD_embargoB (l : Launch) (dC : Nat → ClassId) (dI : Nat → Nat → Nat) (sz : Nat) (g mPd mSg mSz mTo mRo mLi mKi mCo mEm mVa mA1 mA2 mA3 mA4 mLk mEx mQp mQd : Nat) (th : Int32) (pn bn en hn an ln xn qn : Nat) (wh wt fd pp wn : Int32) (r d : Int32) (hok : ¬ thrF (notF (inF r 0 (nI hn - 1))) (if d = -1 then 0 else notF (inF d 0 100000)) 0 = 0) : Met l y_MD_embargo ws_MD_embargo ({ frames := 2, cells := 0, slots := 0, locals := 43 }) (va_Pc [.ref g, .int r, .int d] (fun U => U.heap.size = sz ∧ va_P (dC, dI) vwCl [(g, .inr (10, [.int th, .ref mPd, .int (nI pn), .int (nI bn), .ref mSg, .ref mSz, .ref mTo, .int (nI en), .ref mRo, .ref mLi, .int (nI hn), .ref mKi, .ref mCo, .ref mEm, .ref mVa, .int (nI an), .ref mA1, .ref mA2, .ref mA3, .ref mA4, .int (nI ln), .ref mLk, .int (nI xn), .ref mEx, .int (nI qn), .ref mQp, .ref mQd, .int wh, .int wt, .int fd, .int pp, .int wn]))] U.heap ∧ va_K (dC, dI) vwCl [] U ∧ va_D (fun _ => True) [(g, .inr (10, [.int th, .ref mPd, .int (nI pn), .int (nI bn), .ref mSg, .ref mSz, .ref mTo, .int (nI en), .ref mRo, .ref mLi, .int (nI hn), .ref mKi, .ref mCo, .ref mEm, .ref mVa, .int (nI an), .ref mA1, .ref mA2, .ref mA3, .ref mA4, .int (nI ln), .ref mLk, .int (nI xn), .ref mEx, .int (nI qn), .ref mQp, .ref mQd, .int wh, .int wt, .int fd, .int pp, .int wn]))])) (va_Qi (fun (res : Int32) (_ : Unit) => res = 0) (fun _ t => va_P (dC, dI) vwCl [(g, .inr (10, [.int (thrF (notF (inF r 0 (nI hn - 1))) (if d = -1 then 0 else notF (inF d 0 100000)) 0), .ref mPd, .int (nI pn), .int (nI bn), .ref mSg, .ref mSz, .ref mTo, .int (nI en), .ref mRo, .ref mLi, .int (nI hn), .ref mKi, .ref mCo, .ref mEm, .ref mVa, .int (nI an), .ref mA1, .ref mA2, .ref mA3, .ref mA4, .int (nI ln), .ref mLk, .int (nI xn), .ref mEx, .int (nI qn), .ref mQp, .ref mQd, .int wh, .int wt, .int fd, .int pp, .int wn]))] t.heap ∧ va_K (dC, dI) vwCl [] t ∧ va_D (va_A [(g, .inr (10, [.int th, .ref mPd, .int (nI pn), .int (nI bn), .ref mSg, .ref mSz, .ref mTo, .int (nI en), .ref mRo, .ref mLi, .int (nI hn), .ref mKi, .ref mCo, .ref mEm, .ref mVa, .int (nI an), .ref mA1, .ref mA2, .ref mA3, .ref mA4, .int (nI ln), .ref mLk, .int (nI xn), .ref mEx, .int (nI qn), .ref mQp, .ref mQd, .int wh, .int wt, .int fd, .int pp, .int wn]))] sz) [(g, .inr (10, [.int (thrF (notF (inF r 0 (nI hn - 1))) (if d = -1 then 0 else notF (inF d 0 100000)) 0), .ref mPd, .int (nI pn), .int (nI bn), .ref mSg, .ref mSz, .ref mTo, .int (nI en), .ref mRo, .ref mLi, .int (nI hn), .ref mKi, .ref mCo, .ref mEm, .ref mVa, .int (nI an), .ref mA1, .ref mA2, .ref mA3, .ref mA4, .int (nI ln), .ref mLk, .int (nI xn), .ref mEx, .int (nI qn), .ref mQp, .ref mQd, .int wh, .int wt, .int fd, .int pp, .int wn]))]) (va_A [(g, .inr (10, [.int th, .ref mPd, .int (nI pn), .int (nI bn), .ref mSg, .ref mSz, .ref mTo, .int (nI en), .ref mRo, .ref mLi, .int (nI hn), .ref mKi, .ref mCo, .ref mEm, .ref mVa, .int (nI an), .ref mA1, .ref mA2, .ref mA3, .ref mA4, .int (nI ln), .ref mLk, .int (nI xn), .ref mEx, .int (nI qn), .ref mQp, .ref mQd, .int wh, .int wt, .int fd, .int pp, .int wn]))] sz)) 0 0 (va_A [(g, .inr (10, [.int th, .ref mPd, .int (nI pn), .int (nI bn), .ref mSg, .ref mSz, .ref mTo, .int (nI en), .ref mRo, .ref mLi, .int (nI hn), .ref mKi, .ref mCo, .ref mEm, .ref mVa, .int (nI an), .ref mA1, .ref mA2, .ref mA3, .ref mA4, .int (nI ln), .ref mLk, .int (nI xn), .ref mEx, .int (nI qn), .ref mQp, .ref mQd, .int wh, .int wt, .int fd, .int pp, .int wn]))] sz) := by
  refine Met.ofW (cc := k_MD_embargo) (maxL := 4) (ret := (some .int)) (by decide) rfl ?_
  intro p e s m args below meth c s₁ B hml hv
  obtain ⟨rfl, hsz, hP, hK, hD0⟩ := hv
  have hx := B.exec
  have hb := B.bytes
  have hr := B.returns
  have hts := atoms_spec (ws := ws_MD_embargo) B.pre
  have hown : s.vm.findClass R_MD = some m.cls := findClass_of_methodNamed B.named
  have hlocks := B.notSynchronized
  subst hsz
  have hD := hD0.self (sz := s.heap.size)
  generalize hAe : va_A [(g, .inr (10, [.int th, .ref mPd, .int (nI pn), .int (nI bn), .ref mSg, .ref mSz, .ref mTo, .int (nI en), .ref mRo, .ref mLi, .int (nI hn), .ref mKi, .ref mCo, .ref mEm, .ref mVa, .int (nI an), .ref mA1, .ref mA2, .ref mA3, .ref mA4, .int (nI ln), .ref mLk, .int (nI xn), .ref mEx, .int (nI qn), .ref mQp, .ref mQd, .int wh, .int wt, .int fd, .int pp, .int wn]))] s.heap.size = A at hD ⊢
  have hA : ∀ q : Nat, s.heap.size ≤ q → A q := fun q h => by rw [← hAe]; exact Or.inr h
  have hS : va_S A s.heap s.heap [] := va_S.rf
  have hP : va_P (dC, dI) vwCl [(g, .inr (10, [.int th, .ref mPd, .int (nI pn), .int (nI bn), .ref mSg, .ref mSz, .ref mTo, .int (nI en), .ref mRo, .ref mLi, .int (nI hn), .ref mKi, .ref mCo, .ref mEm, .ref mVa, .int (nI an), .ref mA1, .ref mA2, .ref mA3, .ref mA4, .int (nI ln), .ref mLk, .int (nI xn), .ref mEx, .int (nI qn), .ref mQp, .ref mQd, .int wh, .int wt, .int fd, .int pp, .int wn]))] s.heap := hP
  have iMD : ∀ w ∈ u_ws R_MD T_MD 32, w ∈ ws_MD_embargo := fun w h => wb_MD_embargo w (in_MD w h)
  have hl := lv_entry ([.ref g, .int r, .int d]) (n := 4) (Nat.le_of_ble_eq_true rfl)
  rw [lg_entry_eq]
  generalize (lg_sl ([.ref g, .int r, .int d]) ++ List.replicate (4 - (lg_sl ([.ref g, .int r, .int d])).length) Slot.unset).toArray = ls at hl ⊢
  have hl : lv_has ls 4 [(0, .ref g), (1, .int r), (2, .int d)] := hl
  refine lv_aload_n hx hb d_MD_embargo_0 rfl (lv_at hl 0 rfl) ?_
  refine vz_join 14 [.ref g] (fun b9 H9 locs9 ls9 => (b9 = notF (inF r 0 (nI hn - 1))) ∧ va_P (dC, dI) vwCl [(g, .inr (10, [.int th, .ref mPd, .int (nI pn), .int (nI bn), .ref mSg, .ref mSz, .ref mTo, .int (nI en), .ref mRo, .ref mLi, .int (nI hn), .ref mKi, .ref mCo, .ref mEm, .ref mVa, .int (nI an), .ref mA1, .ref mA2, .ref mA3, .ref mA4, .int (nI ln), .ref mLk, .int (nI xn), .ref mEx, .int (nI qn), .ref mQp, .ref mQd, .int wh, .int wt, .int fd, .int pp, .int wn]))] H9 ∧ va_D A [(g, .inr (10, [.int th, .ref mPd, .int (nI pn), .int (nI bn), .ref mSg, .ref mSz, .ref mTo, .int (nI en), .ref mRo, .ref mLi, .int (nI hn), .ref mKi, .ref mCo, .ref mEm, .ref mVa, .int (nI an), .ref mA1, .ref mA2, .ref mA3, .ref mA4, .int (nI ln), .ref mLk, .int (nI xn), .ref mEx, .int (nI qn), .ref mQp, .ref mQd, .int wh, .int wt, .int fd, .int pp, .int wn]))] ∧ va_S A s.heap H9 locs9 ∧ lv_has ls9 4 [(0, .ref g), (1, .int r), (2, .int d)]) (fun b9 H locs ls h9 => ?_) (fun k14 => ?_)
  · obtain ⟨rfl, hP, hD, hS, hl⟩ := h9
    refine vz_join 31 [.int (notF (inF r 0 (nI hn - 1))), .ref g] (fun b9 H9 locs9 ls9 => (b9 = if d = -1 then 0 else notF (inF d 0 100000)) ∧ va_P (dC, dI) vwCl [(g, .inr (10, [.int th, .ref mPd, .int (nI pn), .int (nI bn), .ref mSg, .ref mSz, .ref mTo, .int (nI en), .ref mRo, .ref mLi, .int (nI hn), .ref mKi, .ref mCo, .ref mEm, .ref mVa, .int (nI an), .ref mA1, .ref mA2, .ref mA3, .ref mA4, .int (nI ln), .ref mLk, .int (nI xn), .ref mEx, .int (nI qn), .ref mQp, .ref mQd, .int wh, .int wt, .int fd, .int pp, .int wn]))] H9 ∧ va_D A [(g, .inr (10, [.int th, .ref mPd, .int (nI pn), .int (nI bn), .ref mSg, .ref mSz, .ref mTo, .int (nI en), .ref mRo, .ref mLi, .int (nI hn), .ref mKi, .ref mCo, .ref mEm, .ref mVa, .int (nI an), .ref mA1, .ref mA2, .ref mA3, .ref mA4, .int (nI ln), .ref mLk, .int (nI xn), .ref mEx, .int (nI qn), .ref mQp, .ref mQd, .int wh, .int wt, .int fd, .int pp, .int wn]))] ∧ va_S A s.heap H9 locs9 ∧ lv_has ls9 4 [(0, .ref g), (1, .int r), (2, .int d)]) (fun b9 H locs ls h9 => ?_) (fun k31 => ?_)
    · obtain ⟨rfl, hP, hD, hS, hl⟩ := h9
      refine lv_iconst (v := 0) hx hb d_MD_embargo_31 (by decide) ?_
      have hPc := hP.sub (ws' := [(g, .inr (10, [.int th, .ref mPd, .int (nI pn), .int (nI bn), .ref mSg, .ref mSz, .ref mTo, .int (nI en), .ref mRo, .ref mLi, .int (nI hn), .ref mKi, .ref mCo, .ref mEm, .ref mVa, .int (nI an), .ref mA1, .ref mA2, .ref mA3, .ref mA4, .int (nI ln), .ref mLk, .int (nI xn), .ref mEx, .int (nI qn), .ref mQp, .ref mQd, .int wh, .int wt, .int fd, .int pp, .int wn]))]) [0] rfl
      have hKc := hK.sub (tys' := []) [] rfl
      have hDc := hD.sub (ws' := [(g, .inr (10, [.int th, .ref mPd, .int (nI pn), .int (nI bn), .ref mSg, .ref mSz, .ref mTo, .int (nI en), .ref mRo, .ref mLi, .int (nI hn), .ref mKi, .ref mCo, .ref mEm, .ref mVa, .int (nI an), .ref mA1, .ref mA2, .ref mA3, .ref mA4, .int (nI ln), .ref mLk, .int (nI xn), .ref mEx, .int (nI qn), .ref mQp, .ref mQd, .int wh, .int wt, .int fd, .int pp, .int wn]))]) [0] (by decide) rfl
      have hFc := va_free (wc := [(g, .inr (10, [.int th, .ref mPd, .int (nI pn), .int (nI bn), .ref mSg, .ref mSz, .ref mTo, .int (nI en), .ref mRo, .ref mLi, .int (nI hn), .ref mKi, .ref mCo, .ref mEm, .ref mVa, .int (nI an), .ref mA1, .ref mA2, .ref mA3, .ref mA4, .int (nI ln), .ref mLk, .int (nI xn), .ref mEx, .int (nI qn), .ref mQp, .ref mQd, .int wh, .int wt, .int fd, .int pp, .int wn]))]) hD hS hA [0] rfl
      refine va_calli (va_runV (As := [.int (notF (inF r 0 (nI hn - 1))), .int (if d = -1 then 0 else notF (inF d 0 100000)), .int 0]) (rest := []) ⟨hx, hb, hml, hown, hts⟩ (c_MD_throwing l dC dI H.size g mPd mSg mSz mTo mRo mLi mKi mCo mEm mVa mA1 mA2 mA3 mA4 mLk mEx mQp mQd th pn bn en hn an ln xn qn wh wt fd pp wn (notF (inF r 0 (nI hn - 1))) (if d = -1 then 0 else notF (inF d 0 100000)) 0) (cwV 3 hts (vz_gV wb_MD_embargo b_777 b_779 bs_15 b_11 wc_MD_throwing) rfl rfl rfl (by decide +kernel) ⟨Nat.le_of_ble_eq_true rfl, Nat.le_of_ble_eq_true rfl⟩) (vz_preVw (A := A) hPc hKc hDc (ci := 10) (q0 := 0) rfl rfl) rfl rfl hl.1 rfl (lv_room (Nat.le_of_ble_eq_true rfl)) d_MD_embargo_32 ⟨Nat.le_of_ble_eq_true rfl, Nat.le_of_ble_eq_true rfl⟩) hS (fun q _ h => hFc q h) hFc (fun r32 u9 t9 H1 locs ht hvm hr32 hB hzx9 hkx9 hS => ?_)
      try dsimp only at hr32
      obtain ⟨hP1, hK1, hD1⟩ := hB
      rw [ht] at hP1
      obtain ⟨hP, hD⟩ := va_join (wr := []) (w1 := [(g, .inr (10, [.int (thrF (notF (inF r 0 (nI hn - 1))) (if d = -1 then 0 else notF (inF d 0 100000)) 0), .ref mPd, .int (nI pn), .int (nI bn), .ref mSg, .ref mSz, .ref mTo, .int (nI en), .ref mRo, .ref mLi, .int (nI hn), .ref mKi, .ref mCo, .ref mEm, .ref mVa, .int (nI an), .ref mA1, .ref mA2, .ref mA3, .ref mA4, .int (nI ln), .ref mLk, .int (nI xn), .ref mEx, .int (nI qn), .ref mQp, .ref mQd, .int wh, .int wt, .int fd, .int pp, .int wn]))]) hP hD [0] [] rfl rfl (by decide) (by decide) hkx9 hFc hP1 hD1
      generalize H1 = H at hP hS ⊢
      have hP : va_P (dC, dI) vwCl [(g, .inr (10, [.int (thrF (notF (inF r 0 (nI hn - 1))) (if d = -1 then 0 else notF (inF d 0 100000)) 0), .ref mPd, .int (nI pn), .int (nI bn), .ref mSg, .ref mSz, .ref mTo, .int (nI en), .ref mRo, .ref mLi, .int (nI hn), .ref mKi, .ref mCo, .ref mEm, .ref mVa, .int (nI an), .ref mA1, .ref mA2, .ref mA3, .ref mA4, .int (nI ln), .ref mLk, .int (nI xn), .ref mEx, .int (nI qn), .ref mQp, .ref mQd, .int wh, .int wt, .int fd, .int pp, .int wn]))] H := hP
      have hD : va_D A [(g, .inr (10, [.int (thrF (notF (inF r 0 (nI hn - 1))) (if d = -1 then 0 else notF (inF d 0 100000)) 0), .ref mPd, .int (nI pn), .int (nI bn), .ref mSg, .ref mSz, .ref mTo, .int (nI en), .ref mRo, .ref mLi, .int (nI hn), .ref mKi, .ref mCo, .ref mEm, .ref mVa, .int (nI an), .ref mA1, .ref mA2, .ref mA3, .ref mA4, .int (nI ln), .ref mLk, .int (nI xn), .ref mEx, .int (nI qn), .ref mQp, .ref mQd, .int wh, .int wt, .int fd, .int pp, .int wn]))] := hD
      refine lv_if_eq (tgt := 40) hx hb d_MD_embargo_35 (by decide) (fun c35 => ?_) (fun c35 => ?_)
      · exact absurd (thrF_z (hr32.symm.trans c35)) hok
      · refine lv_iconst (v := 0) hx hb d_MD_embargo_38 (by decide) ?_
        have hP9 := hP.sub (ws' := [(g, .inr (10, [.int (thrF (notF (inF r 0 (nI hn - 1))) (if d = -1 then 0 else notF (inF d 0 100000)) 0), .ref mPd, .int (nI pn), .int (nI bn), .ref mSg, .ref mSz, .ref mTo, .int (nI en), .ref mRo, .ref mLi, .int (nI hn), .ref mKi, .ref mCo, .ref mEm, .ref mVa, .int (nI an), .ref mA1, .ref mA2, .ref mA3, .ref mA4, .int (nI ln), .ref mLk, .int (nI xn), .ref mEx, .int (nI qn), .ref mQp, .ref mQd, .int wh, .int wt, .int fd, .int pp, .int wn]))]) [0] rfl
        have hD9 := hD.sub (ws' := [(g, .inr (10, [.int (thrF (notF (inF r 0 (nI hn - 1))) (if d = -1 then 0 else notF (inF d 0 100000)) 0), .ref mPd, .int (nI pn), .int (nI bn), .ref mSg, .ref mSz, .ref mTo, .int (nI en), .ref mRo, .ref mLi, .int (nI hn), .ref mKi, .ref mCo, .ref mEm, .ref mVa, .int (nI an), .ref mA1, .ref mA2, .ref mA3, .ref mA4, .int (nI ln), .ref mLk, .int (nI xn), .ref mEx, .int (nI qn), .ref mQp, .ref mQd, .int wh, .int wt, .int fd, .int pp, .int wn]))]) [0] (by decide) rfl
        exact W.iret (v := 0) hx hb hr (fun t ht hW => ⟨⟨0, (), rfl, rfl, by rw [ht]; exact hP9, va_K.moved hW.alike hK, hD9⟩, hS.F ht⟩) hS.2.2 d_MD_embargo_39
    · refine lv_iload_n hx hb d_MD_embargo_14 rfl (lv_at hl 2 rfl) ?_
      refine lv_iconst (v := (-1)) hx hb d_MD_embargo_15 (by decide) ?_
      refine lv_icmp_eq (tgt := 30) hx hb d_MD_embargo_16 (by decide) (fun c16 => ?_) (fun c16 => ?_)
      · refine lv_iconst (v := 0) hx hb d_MD_embargo_30 (by decide) ?_
        exact k31 _ _ _ _ ⟨by simp [c16], hP, hD, hS, lv_sub hl [0, 1, 2] rfl⟩
      · refine lv_iload_n hx hb d_MD_embargo_19 rfl (lv_at hl 2 rfl) ?_
        have hPc := hP.sub (ws' := []) [] rfl
        have hKc := hK.sub (tys' := []) [] rfl
        refine va_calli (va_runS (As := [.int d]) (rest := [.int (notF (inF r 0 (nI hn - 1))), .ref g]) ⟨hx, hb, hml, hown, hts⟩ (c_MD_isDay l dC dI d) (va_cwS 1 hts (vz_gS wb_MD_embargo b_826 b_827 b_11 wc_MD_isDay) rfl rfl rfl (by decide +kernel) ⟨Nat.le_of_ble_eq_true rfl, Nat.le_of_ble_eq_true rfl⟩) (vz_preS hPc hKc) rfl rfl hl.1 rfl (lv_room (Nat.le_of_ble_eq_true rfl)) d_MD_embargo_20 ⟨Nat.le_of_ble_eq_true rfl, Nat.le_of_ble_eq_true rfl⟩) hS (fun q _ h => False.elim h) (fun q h => False.elim h) (fun r20 u9 t9 H1 locs ht hvm hr20 hB hzx9 hkx9 hS => ?_)
        try dsimp only at hr20
        have hP := vz_kept hP hkx9
        generalize H1 = H at hP hS ⊢
        refine lv_if_ne (tgt := 30) hx hb d_MD_embargo_23 (by decide) (fun c23 => ?_) (fun c23 => ?_)
        · refine lv_iconst (v := 0) hx hb d_MD_embargo_30 (by decide) ?_
          exact k31 _ _ _ _ ⟨by simp [notF, c16, ← hr20, c23], hP, hD, hS, lv_sub hl [0, 1, 2] rfl⟩
        · refine lv_iconst (v := 1) hx hb d_MD_embargo_26 (by decide) ?_
          refine lv_goto (tgt := 31) hx hb d_MD_embargo_27 (by decide) ?_
          exact k31 _ _ _ _ ⟨by simp [notF, c16, ← hr20, c23], hP, hD, hS, lv_sub hl [0, 1, 2] rfl⟩
  · refine lv_aload_n hx hb d_MD_embargo_1 rfl (lv_at hl 0 rfl) ?_
    refine lv_iload_n hx hb d_MD_embargo_2 rfl (lv_at hl 1 rfl) ?_
    have hPc := hP.sub (ws' := [(g, .inr (10, [.int th, .ref mPd, .int (nI pn), .int (nI bn), .ref mSg, .ref mSz, .ref mTo, .int (nI en), .ref mRo, .ref mLi, .int (nI hn), .ref mKi, .ref mCo, .ref mEm, .ref mVa, .int (nI an), .ref mA1, .ref mA2, .ref mA3, .ref mA4, .int (nI ln), .ref mLk, .int (nI xn), .ref mEx, .int (nI qn), .ref mQp, .ref mQd, .int wh, .int wt, .int fd, .int pp, .int wn]))]) [0] rfl
    have hKc := hK.sub (tys' := []) [] rfl
    refine va_calli (va_runV (As := [.int r]) (rest := [.ref g]) ⟨hx, hb, hml, hown, hts⟩ (c_MD_isRecord l dC dI g mPd mSg mSz mTo mRo mLi mKi mCo mEm mVa mA1 mA2 mA3 mA4 mLk mEx mQp mQd th pn bn en hn an ln xn qn wh wt fd pp wn r) (cwV 1 hts (vz_gV wb_MD_embargo b_815 b_817 bs_18 b_11 wc_MD_isRecord) rfl rfl rfl (by decide +kernel) ⟨Nat.le_of_ble_eq_true rfl, Nat.le_of_ble_eq_true rfl⟩) (vz_preV hPc hKc (ci := 10) (q0 := 0) rfl rfl) rfl rfl hl.1 rfl (lv_room (Nat.le_of_ble_eq_true rfl)) d_MD_embargo_3 ⟨Nat.le_of_ble_eq_true rfl, Nat.le_of_ble_eq_true rfl⟩) hS (fun q _ h => False.elim h) (fun q h => False.elim h) (fun r3 u9 t9 H1 locs ht hvm hr3 hB hzx9 hkx9 hS => ?_)
    try dsimp only at hr3
    have hP := vz_kept hP hkx9
    generalize H1 = H at hP hS ⊢
    refine lv_if_ne (tgt := 13) hx hb d_MD_embargo_6 (by decide) (fun c6 => ?_) (fun c6 => ?_)
    · refine lv_iconst (v := 0) hx hb d_MD_embargo_13 (by decide) ?_
      exact k14 _ _ _ _ ⟨by simp [notF, ← hr3, c6], hP, hD, hS, lv_sub hl [0, 1, 2] rfl⟩
    · refine lv_iconst (v := 1) hx hb d_MD_embargo_9 (by decide) ?_
      refine lv_goto (tgt := 14) hx hb d_MD_embargo_10 (by decide) ?_
      exact k14 _ _ _ _ ⟨by simp [notF, ← hr3, c6], hP, hD, hS, lv_sub hl [0, 1, 2] rfl⟩

set_option maxHeartbeats 4000000 in
set_option maxRecDepth 100000 in
theorem c_MD_embargoG (l : Launch) (dC : Nat → ClassId) (dI : Nat → Nat → Nat) (sz : Nat) (cI : ClassId) (g mPd mSg mSz mTo mRo mLi mKi mCo mEm mVa mA1 mA2 mA3 mA4 mLk mEx mQp mQd : Nat) (th : Int32) (pn bn en hn an ln xn qn : Nat) (wh wt fd pp wn : Int32) (em : Nat → Int32) (hhn : hn ≤ 16) (r : Nat) (hr : r < hn) (d : Int32) (hok : thrF (notF (inF (nI r) 0 (nI hn - 1))) (if d = -1 then 0 else notF (inF d 0 100000)) 0 = 0) : Met l y_MD_embargo ws_MD_embargo ({ frames := 2, cells := 0, slots := 0, locals := 43 }) (va_Pc [.ref g, .int (nI r), .int d] (fun U => U.heap.size = sz ∧ va_P (dC, dI) vwCl [(g, .inr (10, [.int th, .ref mPd, .int (nI pn), .int (nI bn), .ref mSg, .ref mSz, .ref mTo, .int (nI en), .ref mRo, .ref mLi, .int (nI hn), .ref mKi, .ref mCo, .ref mEm, .ref mVa, .int (nI an), .ref mA1, .ref mA2, .ref mA3, .ref mA4, .int (nI ln), .ref mLk, .int (nI xn), .ref mEx, .int (nI qn), .ref mQp, .ref mQd, .int wh, .int wt, .int fd, .int pp, .int wn])), (mEm, .inl (cI, 16, .inl em))] U.heap ∧ va_K (dC, dI) vwCl [(cI, .int)] U ∧ va_D (fun _ => True) [(g, .inr (10, [.int th, .ref mPd, .int (nI pn), .int (nI bn), .ref mSg, .ref mSz, .ref mTo, .int (nI en), .ref mRo, .ref mLi, .int (nI hn), .ref mKi, .ref mCo, .ref mEm, .ref mVa, .int (nI an), .ref mA1, .ref mA2, .ref mA3, .ref mA4, .int (nI ln), .ref mLk, .int (nI xn), .ref mEx, .int (nI qn), .ref mQp, .ref mQd, .int wh, .int wt, .int fd, .int pp, .int wn])), (mEm, .inl (cI, 16, .inl em))])) (va_Qi (fun (res : Int32) (_ : Unit) => res = em r) (fun _ t => va_P (dC, dI) vwCl [(g, .inr (10, [.int (thrF (notF (inF (nI r) 0 (nI hn - 1))) (if d = -1 then 0 else notF (inF d 0 100000)) 0), .ref mPd, .int (nI pn), .int (nI bn), .ref mSg, .ref mSz, .ref mTo, .int (nI en), .ref mRo, .ref mLi, .int (nI hn), .ref mKi, .ref mCo, .ref mEm, .ref mVa, .int (nI an), .ref mA1, .ref mA2, .ref mA3, .ref mA4, .int (nI ln), .ref mLk, .int (nI xn), .ref mEx, .int (nI qn), .ref mQp, .ref mQd, .int wh, .int wt, .int fd, .int pp, .int wn])), (mEm, .inl (cI, 16, .inl (upd em r d)))] t.heap ∧ va_K (dC, dI) vwCl [(cI, .int)] t ∧ va_D (va_A [(g, .inr (10, [.int th, .ref mPd, .int (nI pn), .int (nI bn), .ref mSg, .ref mSz, .ref mTo, .int (nI en), .ref mRo, .ref mLi, .int (nI hn), .ref mKi, .ref mCo, .ref mEm, .ref mVa, .int (nI an), .ref mA1, .ref mA2, .ref mA3, .ref mA4, .int (nI ln), .ref mLk, .int (nI xn), .ref mEx, .int (nI qn), .ref mQp, .ref mQd, .int wh, .int wt, .int fd, .int pp, .int wn])), (mEm, .inl (cI, 16, .inl em))] sz) [(g, .inr (10, [.int (thrF (notF (inF (nI r) 0 (nI hn - 1))) (if d = -1 then 0 else notF (inF d 0 100000)) 0), .ref mPd, .int (nI pn), .int (nI bn), .ref mSg, .ref mSz, .ref mTo, .int (nI en), .ref mRo, .ref mLi, .int (nI hn), .ref mKi, .ref mCo, .ref mEm, .ref mVa, .int (nI an), .ref mA1, .ref mA2, .ref mA3, .ref mA4, .int (nI ln), .ref mLk, .int (nI xn), .ref mEx, .int (nI qn), .ref mQp, .ref mQd, .int wh, .int wt, .int fd, .int pp, .int wn])), (mEm, .inl (cI, 16, .inl (upd em r d)))]) (va_A [(g, .inr (10, [.int th, .ref mPd, .int (nI pn), .int (nI bn), .ref mSg, .ref mSz, .ref mTo, .int (nI en), .ref mRo, .ref mLi, .int (nI hn), .ref mKi, .ref mCo, .ref mEm, .ref mVa, .int (nI an), .ref mA1, .ref mA2, .ref mA3, .ref mA4, .int (nI ln), .ref mLk, .int (nI xn), .ref mEx, .int (nI qn), .ref mQp, .ref mQd, .int wh, .int wt, .int fd, .int pp, .int wn])), (mEm, .inl (cI, 16, .inl em))] sz)) 0 0 (va_A [(g, .inr (10, [.int th, .ref mPd, .int (nI pn), .int (nI bn), .ref mSg, .ref mSz, .ref mTo, .int (nI en), .ref mRo, .ref mLi, .int (nI hn), .ref mKi, .ref mCo, .ref mEm, .ref mVa, .int (nI an), .ref mA1, .ref mA2, .ref mA3, .ref mA4, .int (nI ln), .ref mLk, .int (nI xn), .ref mEx, .int (nI qn), .ref mQp, .ref mQd, .int wh, .int wt, .int fd, .int pp, .int wn])), (mEm, .inl (cI, 16, .inl em))] sz) := by
  refine Met.ofW (cc := k_MD_embargo) (maxL := 4) (ret := (some .int)) (by decide) rfl ?_
  intro p e s m args below meth c s₁ B hml hv
  obtain ⟨rfl, hsz, hP, hK, hD0⟩ := hv
  have hx := B.exec
  have hb := B.bytes
  have hr := B.returns
  have hts := atoms_spec (ws := ws_MD_embargo) B.pre
  have hown : s.vm.findClass R_MD = some m.cls := findClass_of_methodNamed B.named
  have hlocks := B.notSynchronized
  subst hsz
  have hD := hD0.self (sz := s.heap.size)
  generalize hAe : va_A [(g, .inr (10, [.int th, .ref mPd, .int (nI pn), .int (nI bn), .ref mSg, .ref mSz, .ref mTo, .int (nI en), .ref mRo, .ref mLi, .int (nI hn), .ref mKi, .ref mCo, .ref mEm, .ref mVa, .int (nI an), .ref mA1, .ref mA2, .ref mA3, .ref mA4, .int (nI ln), .ref mLk, .int (nI xn), .ref mEx, .int (nI qn), .ref mQp, .ref mQd, .int wh, .int wt, .int fd, .int pp, .int wn])), (mEm, .inl (cI, 16, .inl em))] s.heap.size = A at hD ⊢
  have hA : ∀ q : Nat, s.heap.size ≤ q → A q := fun q h => by rw [← hAe]; exact Or.inr h
  have hS : va_S A s.heap s.heap [] := va_S.rf
  have hP : va_P (dC, dI) vwCl [(g, .inr (10, [.int th, .ref mPd, .int (nI pn), .int (nI bn), .ref mSg, .ref mSz, .ref mTo, .int (nI en), .ref mRo, .ref mLi, .int (nI hn), .ref mKi, .ref mCo, .ref mEm, .ref mVa, .int (nI an), .ref mA1, .ref mA2, .ref mA3, .ref mA4, .int (nI ln), .ref mLk, .int (nI xn), .ref mEx, .int (nI qn), .ref mQp, .ref mQd, .int wh, .int wt, .int fd, .int pp, .int wn])), (mEm, .inl (cI, 16, .inl em))] s.heap := hP
  have iMD : ∀ w ∈ u_ws R_MD T_MD 32, w ∈ ws_MD_embargo := fun w h => wb_MD_embargo w (in_MD w h)
  have hl := lv_entry ([.ref g, .int (nI r), .int d]) (n := 4) (Nat.le_of_ble_eq_true rfl)
  rw [lg_entry_eq]
  generalize (lg_sl ([.ref g, .int (nI r), .int d]) ++ List.replicate (4 - (lg_sl ([.ref g, .int (nI r), .int d])).length) Slot.unset).toArray = ls at hl ⊢
  have hl : lv_has ls 4 [(0, .ref g), (1, .int (nI r)), (2, .int d)] := hl
  refine lv_aload_n hx hb d_MD_embargo_0 rfl (lv_at hl 0 rfl) ?_
  refine vz_join 14 [.ref g] (fun b9 H9 locs9 ls9 => (b9 = notF (inF (nI r) 0 (nI hn - 1))) ∧ va_P (dC, dI) vwCl [(g, .inr (10, [.int th, .ref mPd, .int (nI pn), .int (nI bn), .ref mSg, .ref mSz, .ref mTo, .int (nI en), .ref mRo, .ref mLi, .int (nI hn), .ref mKi, .ref mCo, .ref mEm, .ref mVa, .int (nI an), .ref mA1, .ref mA2, .ref mA3, .ref mA4, .int (nI ln), .ref mLk, .int (nI xn), .ref mEx, .int (nI qn), .ref mQp, .ref mQd, .int wh, .int wt, .int fd, .int pp, .int wn])), (mEm, .inl (cI, 16, .inl em))] H9 ∧ va_D A [(g, .inr (10, [.int th, .ref mPd, .int (nI pn), .int (nI bn), .ref mSg, .ref mSz, .ref mTo, .int (nI en), .ref mRo, .ref mLi, .int (nI hn), .ref mKi, .ref mCo, .ref mEm, .ref mVa, .int (nI an), .ref mA1, .ref mA2, .ref mA3, .ref mA4, .int (nI ln), .ref mLk, .int (nI xn), .ref mEx, .int (nI qn), .ref mQp, .ref mQd, .int wh, .int wt, .int fd, .int pp, .int wn])), (mEm, .inl (cI, 16, .inl em))] ∧ va_S A s.heap H9 locs9 ∧ lv_has ls9 4 [(0, .ref g), (1, .int (nI r)), (2, .int d)]) (fun b9 H locs ls h9 => ?_) (fun k14 => ?_)
  · obtain ⟨rfl, hP, hD, hS, hl⟩ := h9
    refine vz_join 31 [.int (notF (inF (nI r) 0 (nI hn - 1))), .ref g] (fun b9 H9 locs9 ls9 => (b9 = if d = -1 then 0 else notF (inF d 0 100000)) ∧ va_P (dC, dI) vwCl [(g, .inr (10, [.int th, .ref mPd, .int (nI pn), .int (nI bn), .ref mSg, .ref mSz, .ref mTo, .int (nI en), .ref mRo, .ref mLi, .int (nI hn), .ref mKi, .ref mCo, .ref mEm, .ref mVa, .int (nI an), .ref mA1, .ref mA2, .ref mA3, .ref mA4, .int (nI ln), .ref mLk, .int (nI xn), .ref mEx, .int (nI qn), .ref mQp, .ref mQd, .int wh, .int wt, .int fd, .int pp, .int wn])), (mEm, .inl (cI, 16, .inl em))] H9 ∧ va_D A [(g, .inr (10, [.int th, .ref mPd, .int (nI pn), .int (nI bn), .ref mSg, .ref mSz, .ref mTo, .int (nI en), .ref mRo, .ref mLi, .int (nI hn), .ref mKi, .ref mCo, .ref mEm, .ref mVa, .int (nI an), .ref mA1, .ref mA2, .ref mA3, .ref mA4, .int (nI ln), .ref mLk, .int (nI xn), .ref mEx, .int (nI qn), .ref mQp, .ref mQd, .int wh, .int wt, .int fd, .int pp, .int wn])), (mEm, .inl (cI, 16, .inl em))] ∧ va_S A s.heap H9 locs9 ∧ lv_has ls9 4 [(0, .ref g), (1, .int (nI r)), (2, .int d)]) (fun b9 H locs ls h9 => ?_) (fun k31 => ?_)
    · obtain ⟨rfl, hP, hD, hS, hl⟩ := h9
      refine lv_iconst (v := 0) hx hb d_MD_embargo_31 (by decide) ?_
      have hPc := hP.sub (ws' := [(g, .inr (10, [.int th, .ref mPd, .int (nI pn), .int (nI bn), .ref mSg, .ref mSz, .ref mTo, .int (nI en), .ref mRo, .ref mLi, .int (nI hn), .ref mKi, .ref mCo, .ref mEm, .ref mVa, .int (nI an), .ref mA1, .ref mA2, .ref mA3, .ref mA4, .int (nI ln), .ref mLk, .int (nI xn), .ref mEx, .int (nI qn), .ref mQp, .ref mQd, .int wh, .int wt, .int fd, .int pp, .int wn]))]) [0] rfl
      have hKc := hK.sub (tys' := []) [] rfl
      have hDc := hD.sub (ws' := [(g, .inr (10, [.int th, .ref mPd, .int (nI pn), .int (nI bn), .ref mSg, .ref mSz, .ref mTo, .int (nI en), .ref mRo, .ref mLi, .int (nI hn), .ref mKi, .ref mCo, .ref mEm, .ref mVa, .int (nI an), .ref mA1, .ref mA2, .ref mA3, .ref mA4, .int (nI ln), .ref mLk, .int (nI xn), .ref mEx, .int (nI qn), .ref mQp, .ref mQd, .int wh, .int wt, .int fd, .int pp, .int wn]))]) [0] (by decide) rfl
      have hFc := va_free (wc := [(g, .inr (10, [.int th, .ref mPd, .int (nI pn), .int (nI bn), .ref mSg, .ref mSz, .ref mTo, .int (nI en), .ref mRo, .ref mLi, .int (nI hn), .ref mKi, .ref mCo, .ref mEm, .ref mVa, .int (nI an), .ref mA1, .ref mA2, .ref mA3, .ref mA4, .int (nI ln), .ref mLk, .int (nI xn), .ref mEx, .int (nI qn), .ref mQp, .ref mQd, .int wh, .int wt, .int fd, .int pp, .int wn]))]) hD hS hA [0] rfl
      refine va_calli (va_runV (As := [.int (notF (inF (nI r) 0 (nI hn - 1))), .int (if d = -1 then 0 else notF (inF d 0 100000)), .int 0]) (rest := []) ⟨hx, hb, hml, hown, hts⟩ (c_MD_throwing l dC dI H.size g mPd mSg mSz mTo mRo mLi mKi mCo mEm mVa mA1 mA2 mA3 mA4 mLk mEx mQp mQd th pn bn en hn an ln xn qn wh wt fd pp wn (notF (inF (nI r) 0 (nI hn - 1))) (if d = -1 then 0 else notF (inF d 0 100000)) 0) (cwV 3 hts (vz_gV wb_MD_embargo b_777 b_779 bs_15 b_11 wc_MD_throwing) rfl rfl rfl (by decide +kernel) ⟨Nat.le_of_ble_eq_true rfl, Nat.le_of_ble_eq_true rfl⟩) (vz_preVw (A := A) hPc hKc hDc (ci := 10) (q0 := 0) rfl rfl) rfl rfl hl.1 rfl (lv_room (Nat.le_of_ble_eq_true rfl)) d_MD_embargo_32 ⟨Nat.le_of_ble_eq_true rfl, Nat.le_of_ble_eq_true rfl⟩) hS (fun q _ h => hFc q h) hFc (fun r32 u9 t9 H1 locs ht hvm hr32 hB hzx9 hkx9 hS => ?_)
      try dsimp only at hr32
      obtain ⟨hP1, hK1, hD1⟩ := hB
      rw [ht] at hP1
      obtain ⟨hP, hD⟩ := va_join (wr := [(mEm, .inl (cI, 16, .inl em))]) (w1 := [(g, .inr (10, [.int (thrF (notF (inF (nI r) 0 (nI hn - 1))) (if d = -1 then 0 else notF (inF d 0 100000)) 0), .ref mPd, .int (nI pn), .int (nI bn), .ref mSg, .ref mSz, .ref mTo, .int (nI en), .ref mRo, .ref mLi, .int (nI hn), .ref mKi, .ref mCo, .ref mEm, .ref mVa, .int (nI an), .ref mA1, .ref mA2, .ref mA3, .ref mA4, .int (nI ln), .ref mLk, .int (nI xn), .ref mEx, .int (nI qn), .ref mQp, .ref mQd, .int wh, .int wt, .int fd, .int pp, .int wn]))]) hP hD [0] [1] rfl rfl (by decide) (by decide) hkx9 hFc hP1 hD1
      generalize H1 = H at hP hS ⊢
      have hP : va_P (dC, dI) vwCl [(mEm, .inl (cI, 16, .inl em)), (g, .inr (10, [.int (thrF (notF (inF (nI r) 0 (nI hn - 1))) (if d = -1 then 0 else notF (inF d 0 100000)) 0), .ref mPd, .int (nI pn), .int (nI bn), .ref mSg, .ref mSz, .ref mTo, .int (nI en), .ref mRo, .ref mLi, .int (nI hn), .ref mKi, .ref mCo, .ref mEm, .ref mVa, .int (nI an), .ref mA1, .ref mA2, .ref mA3, .ref mA4, .int (nI ln), .ref mLk, .int (nI xn), .ref mEx, .int (nI qn), .ref mQp, .ref mQd, .int wh, .int wt, .int fd, .int pp, .int wn]))] H := hP
      have hD : va_D A [(mEm, .inl (cI, 16, .inl em)), (g, .inr (10, [.int (thrF (notF (inF (nI r) 0 (nI hn - 1))) (if d = -1 then 0 else notF (inF d 0 100000)) 0), .ref mPd, .int (nI pn), .int (nI bn), .ref mSg, .ref mSz, .ref mTo, .int (nI en), .ref mRo, .ref mLi, .int (nI hn), .ref mKi, .ref mCo, .ref mEm, .ref mVa, .int (nI an), .ref mA1, .ref mA2, .ref mA3, .ref mA4, .int (nI ln), .ref mLk, .int (nI xn), .ref mEx, .int (nI qn), .ref mQp, .ref mQd, .int wh, .int wt, .int fd, .int pp, .int wn]))] := hD
      refine lv_if_eq (tgt := 40) hx hb d_MD_embargo_35 (by decide) (fun c35 => ?_) (fun c35 => ?_)
      · refine lv_aload_n hx hb d_MD_embargo_40 rfl (lv_at hl 0 rfl) ?_
        refine va_get (D := (dC, dI)) (ci := 10) (v := .ref mEm) (C := R_MD) (T := T_MD) (N := 32) hx hb hts iMD hown hK hP 1 rfl rfl 13 (by decide) (hts _ (wb_MD_embargo _ b_681)) (fun _ h9 => h9) rfl d_MD_embargo_41 ?_
        refine lv_iload_n hx hb d_MD_embargo_44 rfl (lv_at hl 1 rfl) ?_
        refine vz_iald (k := r) hx hb hK hP 0 0 rfl rfl (by omega) (by decide) d_MD_embargo_45 ?_
        refine lv_istore_n (lv' := [(3, .int (em r)), (0, .ref g), (1, .int (nI r)), (2, .int d)]) hx hb d_MD_embargo_46 rfl hl (by decide) rfl (fun ls hl => ?_)
        refine lv_aload_n hx hb d_MD_embargo_47 rfl (lv_at hl 1 rfl) ?_
        refine va_get (D := (dC, dI)) (ci := 10) (v := .ref mEm) (C := R_MD) (T := T_MD) (N := 32) hx hb hts iMD hown hK hP 1 rfl rfl 13 (by decide) (hts _ (wb_MD_embargo _ b_681)) (fun _ h9 => h9) rfl d_MD_embargo_48 ?_
        refine lv_iload_n hx hb d_MD_embargo_51 rfl (lv_at hl 2 rfl) ?_
        refine lv_iload_n hx hb d_MD_embargo_52 rfl (lv_at hl 3 rfl) ?_
        refine vz_iast (k := r) hx hb hK hP hD hS 0 0 rfl rfl (by omega) (by decide) d_MD_embargo_53 (fun H locs hP hD hS => ?_)
        have hP : va_P (dC, dI) vwCl [(mEm, .inl (cI, 16, .inl (upd em r d))), (g, .inr (10, [.int (thrF (notF (inF (nI r) 0 (nI hn - 1))) (if d = -1 then 0 else notF (inF d 0 100000)) 0), .ref mPd, .int (nI pn), .int (nI bn), .ref mSg, .ref mSz, .ref mTo, .int (nI en), .ref mRo, .ref mLi, .int (nI hn), .ref mKi, .ref mCo, .ref mEm, .ref mVa, .int (nI an), .ref mA1, .ref mA2, .ref mA3, .ref mA4, .int (nI ln), .ref mLk, .int (nI xn), .ref mEx, .int (nI qn), .ref mQp, .ref mQd, .int wh, .int wt, .int fd, .int pp, .int wn]))] H := hP
        have hD : va_D A [(mEm, .inl (cI, 16, .inl (upd em r d))), (g, .inr (10, [.int (thrF (notF (inF (nI r) 0 (nI hn - 1))) (if d = -1 then 0 else notF (inF d 0 100000)) 0), .ref mPd, .int (nI pn), .int (nI bn), .ref mSg, .ref mSz, .ref mTo, .int (nI en), .ref mRo, .ref mLi, .int (nI hn), .ref mKi, .ref mCo, .ref mEm, .ref mVa, .int (nI an), .ref mA1, .ref mA2, .ref mA3, .ref mA4, .int (nI ln), .ref mLk, .int (nI xn), .ref mEx, .int (nI qn), .ref mQp, .ref mQd, .int wh, .int wt, .int fd, .int pp, .int wn]))] := hD
        refine lv_iload_n hx hb d_MD_embargo_54 rfl (lv_at hl 0 rfl) ?_
        have hP9 := hP.sub (ws' := [(g, .inr (10, [.int (thrF (notF (inF (nI r) 0 (nI hn - 1))) (if d = -1 then 0 else notF (inF d 0 100000)) 0), .ref mPd, .int (nI pn), .int (nI bn), .ref mSg, .ref mSz, .ref mTo, .int (nI en), .ref mRo, .ref mLi, .int (nI hn), .ref mKi, .ref mCo, .ref mEm, .ref mVa, .int (nI an), .ref mA1, .ref mA2, .ref mA3, .ref mA4, .int (nI ln), .ref mLk, .int (nI xn), .ref mEx, .int (nI qn), .ref mQp, .ref mQd, .int wh, .int wt, .int fd, .int pp, .int wn])), (mEm, .inl (cI, 16, .inl (upd em r d)))]) [1, 0] rfl
        have hD9 := hD.sub (ws' := [(g, .inr (10, [.int (thrF (notF (inF (nI r) 0 (nI hn - 1))) (if d = -1 then 0 else notF (inF d 0 100000)) 0), .ref mPd, .int (nI pn), .int (nI bn), .ref mSg, .ref mSz, .ref mTo, .int (nI en), .ref mRo, .ref mLi, .int (nI hn), .ref mKi, .ref mCo, .ref mEm, .ref mVa, .int (nI an), .ref mA1, .ref mA2, .ref mA3, .ref mA4, .int (nI ln), .ref mLk, .int (nI xn), .ref mEx, .int (nI qn), .ref mQp, .ref mQd, .int wh, .int wt, .int fd, .int pp, .int wn])), (mEm, .inl (cI, 16, .inl (upd em r d)))]) [1, 0] (by decide) rfl
        exact W.iret (v := em r) hx hb hr (fun t ht hW => ⟨⟨em r, (), rfl, rfl, by rw [ht]; exact hP9, va_K.moved hW.alike hK, hD9⟩, hS.F ht⟩) hS.2.2 d_MD_embargo_55
      · exact absurd (hr32.trans (thrB_z hok)) c35
    · refine lv_iload_n hx hb d_MD_embargo_14 rfl (lv_at hl 2 rfl) ?_
      refine lv_iconst (v := (-1)) hx hb d_MD_embargo_15 (by decide) ?_
      refine lv_icmp_eq (tgt := 30) hx hb d_MD_embargo_16 (by decide) (fun c16 => ?_) (fun c16 => ?_)
      · refine lv_iconst (v := 0) hx hb d_MD_embargo_30 (by decide) ?_
        exact k31 _ _ _ _ ⟨by simp [c16], hP, hD, hS, lv_sub hl [0, 1, 2] rfl⟩
      · refine lv_iload_n hx hb d_MD_embargo_19 rfl (lv_at hl 2 rfl) ?_
        have hPc := hP.sub (ws' := []) [] rfl
        have hKc := hK.sub (tys' := []) [] rfl
        refine va_calli (va_runS (As := [.int d]) (rest := [.int (notF (inF (nI r) 0 (nI hn - 1))), .ref g]) ⟨hx, hb, hml, hown, hts⟩ (c_MD_isDay l dC dI d) (va_cwS 1 hts (vz_gS wb_MD_embargo b_826 b_827 b_11 wc_MD_isDay) rfl rfl rfl (by decide +kernel) ⟨Nat.le_of_ble_eq_true rfl, Nat.le_of_ble_eq_true rfl⟩) (vz_preS hPc hKc) rfl rfl hl.1 rfl (lv_room (Nat.le_of_ble_eq_true rfl)) d_MD_embargo_20 ⟨Nat.le_of_ble_eq_true rfl, Nat.le_of_ble_eq_true rfl⟩) hS (fun q _ h => False.elim h) (fun q h => False.elim h) (fun r20 u9 t9 H1 locs ht hvm hr20 hB hzx9 hkx9 hS => ?_)
        try dsimp only at hr20
        have hP := vz_kept hP hkx9
        generalize H1 = H at hP hS ⊢
        refine lv_if_ne (tgt := 30) hx hb d_MD_embargo_23 (by decide) (fun c23 => ?_) (fun c23 => ?_)
        · refine lv_iconst (v := 0) hx hb d_MD_embargo_30 (by decide) ?_
          exact k31 _ _ _ _ ⟨by simp [notF, c16, ← hr20, c23], hP, hD, hS, lv_sub hl [0, 1, 2] rfl⟩
        · refine lv_iconst (v := 1) hx hb d_MD_embargo_26 (by decide) ?_
          refine lv_goto (tgt := 31) hx hb d_MD_embargo_27 (by decide) ?_
          exact k31 _ _ _ _ ⟨by simp [notF, c16, ← hr20, c23], hP, hD, hS, lv_sub hl [0, 1, 2] rfl⟩
  · refine lv_aload_n hx hb d_MD_embargo_1 rfl (lv_at hl 0 rfl) ?_
    refine lv_iload_n hx hb d_MD_embargo_2 rfl (lv_at hl 1 rfl) ?_
    have hPc := hP.sub (ws' := [(g, .inr (10, [.int th, .ref mPd, .int (nI pn), .int (nI bn), .ref mSg, .ref mSz, .ref mTo, .int (nI en), .ref mRo, .ref mLi, .int (nI hn), .ref mKi, .ref mCo, .ref mEm, .ref mVa, .int (nI an), .ref mA1, .ref mA2, .ref mA3, .ref mA4, .int (nI ln), .ref mLk, .int (nI xn), .ref mEx, .int (nI qn), .ref mQp, .ref mQd, .int wh, .int wt, .int fd, .int pp, .int wn]))]) [0] rfl
    have hKc := hK.sub (tys' := []) [] rfl
    refine va_calli (va_runV (As := [.int (nI r)]) (rest := [.ref g]) ⟨hx, hb, hml, hown, hts⟩ (c_MD_isRecord l dC dI g mPd mSg mSz mTo mRo mLi mKi mCo mEm mVa mA1 mA2 mA3 mA4 mLk mEx mQp mQd th pn bn en hn an ln xn qn wh wt fd pp wn (nI r)) (cwV 1 hts (vz_gV wb_MD_embargo b_815 b_817 bs_18 b_11 wc_MD_isRecord) rfl rfl rfl (by decide +kernel) ⟨Nat.le_of_ble_eq_true rfl, Nat.le_of_ble_eq_true rfl⟩) (vz_preV hPc hKc (ci := 10) (q0 := 0) rfl rfl) rfl rfl hl.1 rfl (lv_room (Nat.le_of_ble_eq_true rfl)) d_MD_embargo_3 ⟨Nat.le_of_ble_eq_true rfl, Nat.le_of_ble_eq_true rfl⟩) hS (fun q _ h => False.elim h) (fun q h => False.elim h) (fun r3 u9 t9 H1 locs ht hvm hr3 hB hzx9 hkx9 hS => ?_)
    try dsimp only at hr3
    have hP := vz_kept hP hkx9
    generalize H1 = H at hP hS ⊢
    refine lv_if_ne (tgt := 13) hx hb d_MD_embargo_6 (by decide) (fun c6 => ?_) (fun c6 => ?_)
    · refine lv_iconst (v := 0) hx hb d_MD_embargo_13 (by decide) ?_
      exact k14 _ _ _ _ ⟨by simp [notF, ← hr3, c6], hP, hD, hS, lv_sub hl [0, 1, 2] rfl⟩
    · refine lv_iconst (v := 1) hx hb d_MD_embargo_9 (by decide) ?_
      refine lv_goto (tgt := 14) hx hb d_MD_embargo_10 (by decide) ?_
      exact k14 _ _ _ _ ⟨by simp [notF, ← hr3, c6], hP, hD, hS, lv_sub hl [0, 1, 2] rfl⟩

set_option maxHeartbeats 4000000 in
set_option maxRecDepth 100000 in
theorem c_MD_agreementB (l : Launch) (dC : Nat → ClassId) (dI : Nat → Nat → Nat) (sz : Nat) (g mPd mSg mSz mTo mRo mLi mKi mCo mEm mVa mA1 mA2 mA3 mA4 mLk mEx mQp mQd : Nat) (th : Int32) (pn bn en hn an ln xn qn : Nat) (wh wt fd pp wn : Int32) (u r f t1 : Int32) (hok : ¬ thrF (orN (inF u 0 (nI en - 1)) (inF r 0 (nI hn - 1))) (if inF f 0 100000 = 0 then 1 else if inF t1 0 100000 = 0 then 1 else if f ≤ t1 then 0 else 1) (eqF (nI an) 40) = 0) : Met l y_MD_agreement ws_MD_agreement ({ frames := 2, cells := 0, slots := 0, locals := 43 }) (va_Pc [.ref g, .int u, .int r, .int f, .int t1] (fun U => U.heap.size = sz ∧ va_P (dC, dI) vwCl [(g, .inr (10, [.int th, .ref mPd, .int (nI pn), .int (nI bn), .ref mSg, .ref mSz, .ref mTo, .int (nI en), .ref mRo, .ref mLi, .int (nI hn), .ref mKi, .ref mCo, .ref mEm, .ref mVa, .int (nI an), .ref mA1, .ref mA2, .ref mA3, .ref mA4, .int (nI ln), .ref mLk, .int (nI xn), .ref mEx, .int (nI qn), .ref mQp, .ref mQd, .int wh, .int wt, .int fd, .int pp, .int wn]))] U.heap ∧ va_K (dC, dI) vwCl [] U ∧ va_D (fun _ => True) [(g, .inr (10, [.int th, .ref mPd, .int (nI pn), .int (nI bn), .ref mSg, .ref mSz, .ref mTo, .int (nI en), .ref mRo, .ref mLi, .int (nI hn), .ref mKi, .ref mCo, .ref mEm, .ref mVa, .int (nI an), .ref mA1, .ref mA2, .ref mA3, .ref mA4, .int (nI ln), .ref mLk, .int (nI xn), .ref mEx, .int (nI qn), .ref mQp, .ref mQd, .int wh, .int wt, .int fd, .int pp, .int wn]))])) (va_Qi (fun (res : Int32) (_ : Unit) => res = 0) (fun _ t => va_P (dC, dI) vwCl [(g, .inr (10, [.int (thrF (orN (inF u 0 (nI en - 1)) (inF r 0 (nI hn - 1))) (if inF f 0 100000 = 0 then 1 else if inF t1 0 100000 = 0 then 1 else if f ≤ t1 then 0 else 1) (eqF (nI an) 40)), .ref mPd, .int (nI pn), .int (nI bn), .ref mSg, .ref mSz, .ref mTo, .int (nI en), .ref mRo, .ref mLi, .int (nI hn), .ref mKi, .ref mCo, .ref mEm, .ref mVa, .int (nI an), .ref mA1, .ref mA2, .ref mA3, .ref mA4, .int (nI ln), .ref mLk, .int (nI xn), .ref mEx, .int (nI qn), .ref mQp, .ref mQd, .int wh, .int wt, .int fd, .int pp, .int wn]))] t.heap ∧ va_K (dC, dI) vwCl [] t ∧ va_D (va_A [(g, .inr (10, [.int th, .ref mPd, .int (nI pn), .int (nI bn), .ref mSg, .ref mSz, .ref mTo, .int (nI en), .ref mRo, .ref mLi, .int (nI hn), .ref mKi, .ref mCo, .ref mEm, .ref mVa, .int (nI an), .ref mA1, .ref mA2, .ref mA3, .ref mA4, .int (nI ln), .ref mLk, .int (nI xn), .ref mEx, .int (nI qn), .ref mQp, .ref mQd, .int wh, .int wt, .int fd, .int pp, .int wn]))] sz) [(g, .inr (10, [.int (thrF (orN (inF u 0 (nI en - 1)) (inF r 0 (nI hn - 1))) (if inF f 0 100000 = 0 then 1 else if inF t1 0 100000 = 0 then 1 else if f ≤ t1 then 0 else 1) (eqF (nI an) 40)), .ref mPd, .int (nI pn), .int (nI bn), .ref mSg, .ref mSz, .ref mTo, .int (nI en), .ref mRo, .ref mLi, .int (nI hn), .ref mKi, .ref mCo, .ref mEm, .ref mVa, .int (nI an), .ref mA1, .ref mA2, .ref mA3, .ref mA4, .int (nI ln), .ref mLk, .int (nI xn), .ref mEx, .int (nI qn), .ref mQp, .ref mQd, .int wh, .int wt, .int fd, .int pp, .int wn]))]) (va_A [(g, .inr (10, [.int th, .ref mPd, .int (nI pn), .int (nI bn), .ref mSg, .ref mSz, .ref mTo, .int (nI en), .ref mRo, .ref mLi, .int (nI hn), .ref mKi, .ref mCo, .ref mEm, .ref mVa, .int (nI an), .ref mA1, .ref mA2, .ref mA3, .ref mA4, .int (nI ln), .ref mLk, .int (nI xn), .ref mEx, .int (nI qn), .ref mQp, .ref mQd, .int wh, .int wt, .int fd, .int pp, .int wn]))] sz)) 0 0 (va_A [(g, .inr (10, [.int th, .ref mPd, .int (nI pn), .int (nI bn), .ref mSg, .ref mSz, .ref mTo, .int (nI en), .ref mRo, .ref mLi, .int (nI hn), .ref mKi, .ref mCo, .ref mEm, .ref mVa, .int (nI an), .ref mA1, .ref mA2, .ref mA3, .ref mA4, .int (nI ln), .ref mLk, .int (nI xn), .ref mEx, .int (nI qn), .ref mQp, .ref mQd, .int wh, .int wt, .int fd, .int pp, .int wn]))] sz) := by
  refine Met.ofW (cc := k_MD_agreement) (maxL := 6) (ret := (some .int)) (by decide) rfl ?_
  intro p e s m args below meth c s₁ B hml hv
  obtain ⟨rfl, hsz, hP, hK, hD0⟩ := hv
  have hx := B.exec
  have hb := B.bytes
  have hr := B.returns
  have hts := atoms_spec (ws := ws_MD_agreement) B.pre
  have hown : s.vm.findClass R_MD = some m.cls := findClass_of_methodNamed B.named
  have hlocks := B.notSynchronized
  subst hsz
  have hD := hD0.self (sz := s.heap.size)
  generalize hAe : va_A [(g, .inr (10, [.int th, .ref mPd, .int (nI pn), .int (nI bn), .ref mSg, .ref mSz, .ref mTo, .int (nI en), .ref mRo, .ref mLi, .int (nI hn), .ref mKi, .ref mCo, .ref mEm, .ref mVa, .int (nI an), .ref mA1, .ref mA2, .ref mA3, .ref mA4, .int (nI ln), .ref mLk, .int (nI xn), .ref mEx, .int (nI qn), .ref mQp, .ref mQd, .int wh, .int wt, .int fd, .int pp, .int wn]))] s.heap.size = A at hD ⊢
  have hA : ∀ q : Nat, s.heap.size ≤ q → A q := fun q h => by rw [← hAe]; exact Or.inr h
  have hS : va_S A s.heap s.heap [] := va_S.rf
  have hP : va_P (dC, dI) vwCl [(g, .inr (10, [.int th, .ref mPd, .int (nI pn), .int (nI bn), .ref mSg, .ref mSz, .ref mTo, .int (nI en), .ref mRo, .ref mLi, .int (nI hn), .ref mKi, .ref mCo, .ref mEm, .ref mVa, .int (nI an), .ref mA1, .ref mA2, .ref mA3, .ref mA4, .int (nI ln), .ref mLk, .int (nI xn), .ref mEx, .int (nI qn), .ref mQp, .ref mQd, .int wh, .int wt, .int fd, .int pp, .int wn]))] s.heap := hP
  have iMD : ∀ w ∈ u_ws R_MD T_MD 32, w ∈ ws_MD_agreement := fun w h => wb_MD_agreement w (in_MD w h)
  have hl := lv_entry ([.ref g, .int u, .int r, .int f, .int t1]) (n := 6) (Nat.le_of_ble_eq_true rfl)
  rw [lg_entry_eq]
  generalize (lg_sl ([.ref g, .int u, .int r, .int f, .int t1]) ++ List.replicate (6 - (lg_sl ([.ref g, .int u, .int r, .int f, .int t1])).length) Slot.unset).toArray = ls at hl ⊢
  have hl : lv_has ls 6 [(0, .ref g), (1, .int u), (2, .int r), (3, .int f), (4, .int t1)] := hl
  refine vz_join 26 [] (fun b9 H9 locs9 ls9 => (b9 = if inF f 0 100000 = 0 then 1 else if inF t1 0 100000 = 0 then 1 else if f ≤ t1 then 0 else 1) ∧ va_P (dC, dI) vwCl [(g, .inr (10, [.int th, .ref mPd, .int (nI pn), .int (nI bn), .ref mSg, .ref mSz, .ref mTo, .int (nI en), .ref mRo, .ref mLi, .int (nI hn), .ref mKi, .ref mCo, .ref mEm, .ref mVa, .int (nI an), .ref mA1, .ref mA2, .ref mA3, .ref mA4, .int (nI ln), .ref mLk, .int (nI xn), .ref mEx, .int (nI qn), .ref mQp, .ref mQd, .int wh, .int wt, .int fd, .int pp, .int wn]))] H9 ∧ va_D A [(g, .inr (10, [.int th, .ref mPd, .int (nI pn), .int (nI bn), .ref mSg, .ref mSz, .ref mTo, .int (nI en), .ref mRo, .ref mLi, .int (nI hn), .ref mKi, .ref mCo, .ref mEm, .ref mVa, .int (nI an), .ref mA1, .ref mA2, .ref mA3, .ref mA4, .int (nI ln), .ref mLk, .int (nI xn), .ref mEx, .int (nI qn), .ref mQp, .ref mQd, .int wh, .int wt, .int fd, .int pp, .int wn]))] ∧ va_S A s.heap H9 locs9 ∧ lv_has ls9 6 [(0, .ref g), (1, .int u), (2, .int r), (3, .int f), (4, .int t1)]) (fun b9 H locs ls h9 => ?_) (fun k26 => ?_)
  · obtain ⟨rfl, hP, hD, hS, hl⟩ := h9
    refine lv_istore (lv' := [(5, .int (if inF f 0 100000 = 0 then 1 else if inF t1 0 100000 = 0 then 1 else if f ≤ t1 then 0 else 1)), (0, .ref g), (1, .int u), (2, .int r), (3, .int f), (4, .int t1)]) hx hb d_MD_agreement_26 hl (by decide) rfl (fun ls hl => ?_)
    refine lv_aload_n hx hb d_MD_agreement_28 rfl (lv_at hl 1 rfl) ?_
    refine vz_join 50 [.ref g] (fun b9 H9 locs9 ls9 => (b9 = orN (inF u 0 (nI en - 1)) (inF r 0 (nI hn - 1))) ∧ va_P (dC, dI) vwCl [(g, .inr (10, [.int th, .ref mPd, .int (nI pn), .int (nI bn), .ref mSg, .ref mSz, .ref mTo, .int (nI en), .ref mRo, .ref mLi, .int (nI hn), .ref mKi, .ref mCo, .ref mEm, .ref mVa, .int (nI an), .ref mA1, .ref mA2, .ref mA3, .ref mA4, .int (nI ln), .ref mLk, .int (nI xn), .ref mEx, .int (nI qn), .ref mQp, .ref mQd, .int wh, .int wt, .int fd, .int pp, .int wn]))] H9 ∧ va_D A [(g, .inr (10, [.int th, .ref mPd, .int (nI pn), .int (nI bn), .ref mSg, .ref mSz, .ref mTo, .int (nI en), .ref mRo, .ref mLi, .int (nI hn), .ref mKi, .ref mCo, .ref mEm, .ref mVa, .int (nI an), .ref mA1, .ref mA2, .ref mA3, .ref mA4, .int (nI ln), .ref mLk, .int (nI xn), .ref mEx, .int (nI qn), .ref mQp, .ref mQd, .int wh, .int wt, .int fd, .int pp, .int wn]))] ∧ va_S A s.heap H9 locs9 ∧ lv_has ls9 6 [(5, .int (if inF f 0 100000 = 0 then 1 else if inF t1 0 100000 = 0 then 1 else if f ≤ t1 then 0 else 1)), (0, .ref g), (1, .int u), (2, .int r), (3, .int f), (4, .int t1)]) (fun b9 H locs ls h9 => ?_) (fun k50 => ?_)
    · obtain ⟨rfl, hP, hD, hS, hl⟩ := h9
      refine lv_iload hx hb d_MD_agreement_50 (lv_at hl 0 rfl) ?_
      refine vz_join 66 [.int (if inF f 0 100000 = 0 then 1 else if inF t1 0 100000 = 0 then 1 else if f ≤ t1 then 0 else 1), .int (orN (inF u 0 (nI en - 1)) (inF r 0 (nI hn - 1))), .ref g] (fun b9 H9 locs9 ls9 => (b9 = eqF (nI an) 40) ∧ va_P (dC, dI) vwCl [(g, .inr (10, [.int th, .ref mPd, .int (nI pn), .int (nI bn), .ref mSg, .ref mSz, .ref mTo, .int (nI en), .ref mRo, .ref mLi, .int (nI hn), .ref mKi, .ref mCo, .ref mEm, .ref mVa, .int (nI an), .ref mA1, .ref mA2, .ref mA3, .ref mA4, .int (nI ln), .ref mLk, .int (nI xn), .ref mEx, .int (nI qn), .ref mQp, .ref mQd, .int wh, .int wt, .int fd, .int pp, .int wn]))] H9 ∧ va_D A [(g, .inr (10, [.int th, .ref mPd, .int (nI pn), .int (nI bn), .ref mSg, .ref mSz, .ref mTo, .int (nI en), .ref mRo, .ref mLi, .int (nI hn), .ref mKi, .ref mCo, .ref mEm, .ref mVa, .int (nI an), .ref mA1, .ref mA2, .ref mA3, .ref mA4, .int (nI ln), .ref mLk, .int (nI xn), .ref mEx, .int (nI qn), .ref mQp, .ref mQd, .int wh, .int wt, .int fd, .int pp, .int wn]))] ∧ va_S A s.heap H9 locs9 ∧ lv_has ls9 6 [(5, .int (if inF f 0 100000 = 0 then 1 else if inF t1 0 100000 = 0 then 1 else if f ≤ t1 then 0 else 1)), (0, .ref g), (1, .int u), (2, .int r), (3, .int f), (4, .int t1)]) (fun b9 H locs ls h9 => ?_) (fun k66 => ?_)
      · obtain ⟨rfl, hP, hD, hS, hl⟩ := h9
        have hPc := hP.sub (ws' := [(g, .inr (10, [.int th, .ref mPd, .int (nI pn), .int (nI bn), .ref mSg, .ref mSz, .ref mTo, .int (nI en), .ref mRo, .ref mLi, .int (nI hn), .ref mKi, .ref mCo, .ref mEm, .ref mVa, .int (nI an), .ref mA1, .ref mA2, .ref mA3, .ref mA4, .int (nI ln), .ref mLk, .int (nI xn), .ref mEx, .int (nI qn), .ref mQp, .ref mQd, .int wh, .int wt, .int fd, .int pp, .int wn]))]) [0] rfl
        have hKc := hK.sub (tys' := []) [] rfl
        have hDc := hD.sub (ws' := [(g, .inr (10, [.int th, .ref mPd, .int (nI pn), .int (nI bn), .ref mSg, .ref mSz, .ref mTo, .int (nI en), .ref mRo, .ref mLi, .int (nI hn), .ref mKi, .ref mCo, .ref mEm, .ref mVa, .int (nI an), .ref mA1, .ref mA2, .ref mA3, .ref mA4, .int (nI ln), .ref mLk, .int (nI xn), .ref mEx, .int (nI qn), .ref mQp, .ref mQd, .int wh, .int wt, .int fd, .int pp, .int wn]))]) [0] (by decide) rfl
        have hFc := va_free (wc := [(g, .inr (10, [.int th, .ref mPd, .int (nI pn), .int (nI bn), .ref mSg, .ref mSz, .ref mTo, .int (nI en), .ref mRo, .ref mLi, .int (nI hn), .ref mKi, .ref mCo, .ref mEm, .ref mVa, .int (nI an), .ref mA1, .ref mA2, .ref mA3, .ref mA4, .int (nI ln), .ref mLk, .int (nI xn), .ref mEx, .int (nI qn), .ref mQp, .ref mQd, .int wh, .int wt, .int fd, .int pp, .int wn]))]) hD hS hA [0] rfl
        refine va_calli (va_runV (As := [.int (orN (inF u 0 (nI en - 1)) (inF r 0 (nI hn - 1))), .int (if inF f 0 100000 = 0 then 1 else if inF t1 0 100000 = 0 then 1 else if f ≤ t1 then 0 else 1), .int (eqF (nI an) 40)]) (rest := []) ⟨hx, hb, hml, hown, hts⟩ (c_MD_throwing l dC dI H.size g mPd mSg mSz mTo mRo mLi mKi mCo mEm mVa mA1 mA2 mA3 mA4 mLk mEx mQp mQd th pn bn en hn an ln xn qn wh wt fd pp wn (orN (inF u 0 (nI en - 1)) (inF r 0 (nI hn - 1))) (if inF f 0 100000 = 0 then 1 else if inF t1 0 100000 = 0 then 1 else if f ≤ t1 then 0 else 1) (eqF (nI an) 40)) (cwV 3 hts (vz_gV wb_MD_agreement b_777 b_779 bs_15 b_11 wc_MD_throwing) rfl rfl rfl (by decide +kernel) ⟨Nat.le_of_ble_eq_true rfl, Nat.le_of_ble_eq_true rfl⟩) (vz_preVw (A := A) hPc hKc hDc (ci := 10) (q0 := 0) rfl rfl) rfl rfl hl.1 rfl (lv_room (Nat.le_of_ble_eq_true rfl)) d_MD_agreement_66 ⟨Nat.le_of_ble_eq_true rfl, Nat.le_of_ble_eq_true rfl⟩) hS (fun q _ h => hFc q h) hFc (fun r66 u9 t9 H1 locs ht hvm hr66 hB hzx9 hkx9 hS => ?_)
        try dsimp only at hr66
        obtain ⟨hP1, hK1, hD1⟩ := hB
        rw [ht] at hP1
        obtain ⟨hP, hD⟩ := va_join (wr := []) (w1 := [(g, .inr (10, [.int (thrF (orN (inF u 0 (nI en - 1)) (inF r 0 (nI hn - 1))) (if inF f 0 100000 = 0 then 1 else if inF t1 0 100000 = 0 then 1 else if f ≤ t1 then 0 else 1) (eqF (nI an) 40)), .ref mPd, .int (nI pn), .int (nI bn), .ref mSg, .ref mSz, .ref mTo, .int (nI en), .ref mRo, .ref mLi, .int (nI hn), .ref mKi, .ref mCo, .ref mEm, .ref mVa, .int (nI an), .ref mA1, .ref mA2, .ref mA3, .ref mA4, .int (nI ln), .ref mLk, .int (nI xn), .ref mEx, .int (nI qn), .ref mQp, .ref mQd, .int wh, .int wt, .int fd, .int pp, .int wn]))]) hP hD [0] [] rfl rfl (by decide) (by decide) hkx9 hFc hP1 hD1
        generalize H1 = H at hP hS ⊢
        have hP : va_P (dC, dI) vwCl [(g, .inr (10, [.int (thrF (orN (inF u 0 (nI en - 1)) (inF r 0 (nI hn - 1))) (if inF f 0 100000 = 0 then 1 else if inF t1 0 100000 = 0 then 1 else if f ≤ t1 then 0 else 1) (eqF (nI an) 40)), .ref mPd, .int (nI pn), .int (nI bn), .ref mSg, .ref mSz, .ref mTo, .int (nI en), .ref mRo, .ref mLi, .int (nI hn), .ref mKi, .ref mCo, .ref mEm, .ref mVa, .int (nI an), .ref mA1, .ref mA2, .ref mA3, .ref mA4, .int (nI ln), .ref mLk, .int (nI xn), .ref mEx, .int (nI qn), .ref mQp, .ref mQd, .int wh, .int wt, .int fd, .int pp, .int wn]))] H := hP
        have hD : va_D A [(g, .inr (10, [.int (thrF (orN (inF u 0 (nI en - 1)) (inF r 0 (nI hn - 1))) (if inF f 0 100000 = 0 then 1 else if inF t1 0 100000 = 0 then 1 else if f ≤ t1 then 0 else 1) (eqF (nI an) 40)), .ref mPd, .int (nI pn), .int (nI bn), .ref mSg, .ref mSz, .ref mTo, .int (nI en), .ref mRo, .ref mLi, .int (nI hn), .ref mKi, .ref mCo, .ref mEm, .ref mVa, .int (nI an), .ref mA1, .ref mA2, .ref mA3, .ref mA4, .int (nI ln), .ref mLk, .int (nI xn), .ref mEx, .int (nI qn), .ref mQp, .ref mQd, .int wh, .int wt, .int fd, .int pp, .int wn]))] := hD
        refine lv_if_eq (tgt := 74) hx hb d_MD_agreement_69 (by decide) (fun c69 => ?_) (fun c69 => ?_)
        · exact absurd (thrF_z (hr66.symm.trans c69)) hok
        · refine lv_iconst (v := 0) hx hb d_MD_agreement_72 (by decide) ?_
          have hP9 := hP.sub (ws' := [(g, .inr (10, [.int (thrF (orN (inF u 0 (nI en - 1)) (inF r 0 (nI hn - 1))) (if inF f 0 100000 = 0 then 1 else if inF t1 0 100000 = 0 then 1 else if f ≤ t1 then 0 else 1) (eqF (nI an) 40)), .ref mPd, .int (nI pn), .int (nI bn), .ref mSg, .ref mSz, .ref mTo, .int (nI en), .ref mRo, .ref mLi, .int (nI hn), .ref mKi, .ref mCo, .ref mEm, .ref mVa, .int (nI an), .ref mA1, .ref mA2, .ref mA3, .ref mA4, .int (nI ln), .ref mLk, .int (nI xn), .ref mEx, .int (nI qn), .ref mQp, .ref mQd, .int wh, .int wt, .int fd, .int pp, .int wn]))]) [0] rfl
          have hD9 := hD.sub (ws' := [(g, .inr (10, [.int (thrF (orN (inF u 0 (nI en - 1)) (inF r 0 (nI hn - 1))) (if inF f 0 100000 = 0 then 1 else if inF t1 0 100000 = 0 then 1 else if f ≤ t1 then 0 else 1) (eqF (nI an) 40)), .ref mPd, .int (nI pn), .int (nI bn), .ref mSg, .ref mSz, .ref mTo, .int (nI en), .ref mRo, .ref mLi, .int (nI hn), .ref mKi, .ref mCo, .ref mEm, .ref mVa, .int (nI an), .ref mA1, .ref mA2, .ref mA3, .ref mA4, .int (nI ln), .ref mLk, .int (nI xn), .ref mEx, .int (nI qn), .ref mQp, .ref mQd, .int wh, .int wt, .int fd, .int pp, .int wn]))]) [0] (by decide) rfl
          exact W.iret (v := 0) hx hb hr (fun t ht hW => ⟨⟨0, (), rfl, rfl, by rw [ht]; exact hP9, va_K.moved hW.alike hK, hD9⟩, hS.F ht⟩) hS.2.2 d_MD_agreement_73
      · refine lv_aload_n hx hb d_MD_agreement_52 rfl (lv_at hl 1 rfl) ?_
        refine va_get (D := (dC, dI)) (ci := 10) (v := .int (nI an)) (C := R_MD) (T := T_MD) (N := 32) hx hb hts iMD hown hK hP 0 rfl rfl 15 (by decide) (hts _ (wb_MD_agreement _ b_683)) (fun _ h9 => h9) rfl d_MD_agreement_53 ?_
        refine lv_bipush (v := 40) hx hb d_MD_agreement_56 (by decide) ?_
        refine lv_icmp_ne (tgt := 65) hx hb d_MD_agreement_58 (by decide) (fun c58 => ?_) (fun c58 => ?_)
        · refine lv_iconst (v := 0) hx hb d_MD_agreement_65 (by decide) ?_
          exact k66 _ _ _ _ ⟨by simp [eqF, c58], hP, hD, hS, lv_sub hl [0, 1, 2, 3, 4, 5] rfl⟩
        · refine lv_iconst (v := 1) hx hb d_MD_agreement_61 (by decide) ?_
          refine lv_goto (tgt := 66) hx hb d_MD_agreement_62 (by decide) ?_
          exact k66 _ _ _ _ ⟨by simp [eqF, c58], hP, hD, hS, lv_sub hl [0, 1, 2, 3, 4, 5] rfl⟩
    · refine lv_aload_n hx hb d_MD_agreement_29 rfl (lv_at hl 1 rfl) ?_
      refine lv_iload_n hx hb d_MD_agreement_30 rfl (lv_at hl 2 rfl) ?_
      have hPc := hP.sub (ws' := [(g, .inr (10, [.int th, .ref mPd, .int (nI pn), .int (nI bn), .ref mSg, .ref mSz, .ref mTo, .int (nI en), .ref mRo, .ref mLi, .int (nI hn), .ref mKi, .ref mCo, .ref mEm, .ref mVa, .int (nI an), .ref mA1, .ref mA2, .ref mA3, .ref mA4, .int (nI ln), .ref mLk, .int (nI xn), .ref mEx, .int (nI qn), .ref mQp, .ref mQd, .int wh, .int wt, .int fd, .int pp, .int wn]))]) [0] rfl
      have hKc := hK.sub (tys' := []) [] rfl
      refine va_calli (va_runV (As := [.int u]) (rest := [.ref g]) ⟨hx, hb, hml, hown, hts⟩ (c_MD_isPerson l dC dI g mPd mSg mSz mTo mRo mLi mKi mCo mEm mVa mA1 mA2 mA3 mA4 mLk mEx mQp mQd th pn bn en hn an ln xn qn wh wt fd pp wn u) (cwV 1 hts (vz_gV wb_MD_agreement b_834 b_836 bs_19 b_11 wc_MD_isPerson) rfl rfl rfl (by decide +kernel) ⟨Nat.le_of_ble_eq_true rfl, Nat.le_of_ble_eq_true rfl⟩) (vz_preV hPc hKc (ci := 10) (q0 := 0) rfl rfl) rfl rfl hl.1 rfl (lv_room (Nat.le_of_ble_eq_true rfl)) d_MD_agreement_31 ⟨Nat.le_of_ble_eq_true rfl, Nat.le_of_ble_eq_true rfl⟩) hS (fun q _ h => False.elim h) (fun q h => False.elim h) (fun r31 u9 t9 H1 locs ht hvm hr31 hB hzx9 hkx9 hS => ?_)
      try dsimp only at hr31
      have hP := vz_kept hP hkx9
      generalize H1 = H at hP hS ⊢
      refine lv_if_eq (tgt := 45) hx hb d_MD_agreement_34 (by decide) (fun c34 => ?_) (fun c34 => ?_)
      · refine lv_iconst (v := 1) hx hb d_MD_agreement_45 (by decide) ?_
        refine lv_goto (tgt := 50) hx hb d_MD_agreement_46 (by decide) ?_
        exact k50 _ _ _ _ ⟨by simp [orN, ← hr31, c34], hP, hD, hS, lv_sub hl [0, 1, 2, 3, 4, 5] rfl⟩
      · refine lv_aload_n hx hb d_MD_agreement_37 rfl (lv_at hl 1 rfl) ?_
        refine lv_iload_n hx hb d_MD_agreement_38 rfl (lv_at hl 3 rfl) ?_
        have hPc := hP.sub (ws' := [(g, .inr (10, [.int th, .ref mPd, .int (nI pn), .int (nI bn), .ref mSg, .ref mSz, .ref mTo, .int (nI en), .ref mRo, .ref mLi, .int (nI hn), .ref mKi, .ref mCo, .ref mEm, .ref mVa, .int (nI an), .ref mA1, .ref mA2, .ref mA3, .ref mA4, .int (nI ln), .ref mLk, .int (nI xn), .ref mEx, .int (nI qn), .ref mQp, .ref mQd, .int wh, .int wt, .int fd, .int pp, .int wn]))]) [0] rfl
        have hKc := hK.sub (tys' := []) [] rfl
        refine va_calli (va_runV (As := [.int r]) (rest := [.ref g]) ⟨hx, hb, hml, hown, hts⟩ (c_MD_isRecord l dC dI g mPd mSg mSz mTo mRo mLi mKi mCo mEm mVa mA1 mA2 mA3 mA4 mLk mEx mQp mQd th pn bn en hn an ln xn qn wh wt fd pp wn r) (cwV 1 hts (vz_gV wb_MD_agreement b_815 b_817 bs_18 b_11 wc_MD_isRecord) rfl rfl rfl (by decide +kernel) ⟨Nat.le_of_ble_eq_true rfl, Nat.le_of_ble_eq_true rfl⟩) (vz_preV hPc hKc (ci := 10) (q0 := 0) rfl rfl) rfl rfl hl.1 rfl (lv_room (Nat.le_of_ble_eq_true rfl)) d_MD_agreement_39 ⟨Nat.le_of_ble_eq_true rfl, Nat.le_of_ble_eq_true rfl⟩) hS (fun q _ h => False.elim h) (fun q h => False.elim h) (fun r39 u9 t9 H1 locs ht hvm hr39 hB hzx9 hkx9 hS => ?_)
        try dsimp only at hr39
        have hP := vz_kept hP hkx9
        generalize H1 = H at hP hS ⊢
        refine lv_if_ne (tgt := 49) hx hb d_MD_agreement_42 (by decide) (fun c42 => ?_) (fun c42 => ?_)
        · refine lv_iconst (v := 0) hx hb d_MD_agreement_49 (by decide) ?_
          exact k50 _ _ _ _ ⟨by simp [orN, ← hr31, c34, ← hr39, c42], hP, hD, hS, lv_sub hl [0, 1, 2, 3, 4, 5] rfl⟩
        · refine lv_iconst (v := 1) hx hb d_MD_agreement_45 (by decide) ?_
          refine lv_goto (tgt := 50) hx hb d_MD_agreement_46 (by decide) ?_
          exact k50 _ _ _ _ ⟨by simp [orN, ← hr31, c34, ← hr39, c42], hP, hD, hS, lv_sub hl [0, 1, 2, 3, 4, 5] rfl⟩
  · refine lv_iload_n hx hb d_MD_agreement_0 rfl (lv_at hl 3 rfl) ?_
    have hPc := hP.sub (ws' := []) [] rfl
    have hKc := hK.sub (tys' := []) [] rfl
    refine va_calli (va_runS (As := [.int f]) (rest := []) ⟨hx, hb, hml, hown, hts⟩ (c_MD_isDay l dC dI f) (va_cwS 1 hts (vz_gS wb_MD_agreement b_826 b_827 b_11 wc_MD_isDay) rfl rfl rfl (by decide +kernel) ⟨Nat.le_of_ble_eq_true rfl, Nat.le_of_ble_eq_true rfl⟩) (vz_preS hPc hKc) rfl rfl hl.1 rfl (lv_room (Nat.le_of_ble_eq_true rfl)) d_MD_agreement_1 ⟨Nat.le_of_ble_eq_true rfl, Nat.le_of_ble_eq_true rfl⟩) hS (fun q _ h => False.elim h) (fun q h => False.elim h) (fun r1 u9 t9 H1 locs ht hvm hr1 hB hzx9 hkx9 hS => ?_)
    try dsimp only at hr1
    have hP := vz_kept hP hkx9
    generalize H1 = H at hP hS ⊢
    refine lv_if_eq (tgt := 21) hx hb d_MD_agreement_4 (by decide) (fun c4 => ?_) (fun c4 => ?_)
    · refine lv_iconst (v := 1) hx hb d_MD_agreement_21 (by decide) ?_
      refine lv_goto (tgt := 26) hx hb d_MD_agreement_22 (by decide) ?_
      exact k26 _ _ _ _ ⟨by simp [← hr1, c4], hP, hD, hS, lv_sub hl [0, 1, 2, 3, 4] rfl⟩
    · refine lv_iload hx hb d_MD_agreement_7 (lv_at hl 4 rfl) ?_
      have hPc := hP.sub (ws' := []) [] rfl
      have hKc := hK.sub (tys' := []) [] rfl
      refine va_calli (va_runS (As := [.int t1]) (rest := []) ⟨hx, hb, hml, hown, hts⟩ (c_MD_isDay l dC dI t1) (va_cwS 1 hts (vz_gS wb_MD_agreement b_826 b_827 b_11 wc_MD_isDay) rfl rfl rfl (by decide +kernel) ⟨Nat.le_of_ble_eq_true rfl, Nat.le_of_ble_eq_true rfl⟩) (vz_preS hPc hKc) rfl rfl hl.1 rfl (lv_room (Nat.le_of_ble_eq_true rfl)) d_MD_agreement_9 ⟨Nat.le_of_ble_eq_true rfl, Nat.le_of_ble_eq_true rfl⟩) hS (fun q _ h => False.elim h) (fun q h => False.elim h) (fun r9 u9 t9 H1 locs ht hvm hr9 hB hzx9 hkx9 hS => ?_)
      try dsimp only at hr9
      have hP := vz_kept hP hkx9
      generalize H1 = H at hP hS ⊢
      refine lv_if_eq (tgt := 21) hx hb d_MD_agreement_12 (by decide) (fun c12 => ?_) (fun c12 => ?_)
      · refine lv_iconst (v := 1) hx hb d_MD_agreement_21 (by decide) ?_
        refine lv_goto (tgt := 26) hx hb d_MD_agreement_22 (by decide) ?_
        exact k26 _ _ _ _ ⟨by simp [← hr1, c4, ← hr9, c12], hP, hD, hS, lv_sub hl [0, 1, 2, 3, 4] rfl⟩
      · refine lv_iload_n hx hb d_MD_agreement_15 rfl (lv_at hl 3 rfl) ?_
        refine lv_iload hx hb d_MD_agreement_16 (lv_at hl 4 rfl) ?_
        refine lv_icmp_le (tgt := 25) hx hb d_MD_agreement_18 (by decide) (fun c18 => ?_) (fun c18 => ?_)
        · refine lv_iconst (v := 0) hx hb d_MD_agreement_25 (by decide) ?_
          exact k26 _ _ _ _ ⟨by simp [← hr1, c4, ← hr9, c12, c18], hP, hD, hS, lv_sub hl [0, 1, 2, 3, 4] rfl⟩
        · refine lv_iconst (v := 1) hx hb d_MD_agreement_21 (by decide) ?_
          refine lv_goto (tgt := 26) hx hb d_MD_agreement_22 (by decide) ?_
          exact k26 _ _ _ _ ⟨by simp [← hr1, c4, ← hr9, c12, c18], hP, hD, hS, lv_sub hl [0, 1, 2, 3, 4] rfl⟩

set_option maxHeartbeats 4000000 in
set_option maxRecDepth 100000 in
theorem c_MD_agreementG (l : Launch) (dC : Nat → ClassId) (dI : Nat → Nat → Nat) (sz : Nat) (cI : ClassId) (g mPd mSg mSz mTo mRo mLi mKi mCo mEm mVa mA1 mA2 mA3 mA4 mLk mEx mQp mQd : Nat) (th : Int32) (pn bn en hn an ln xn qn : Nat) (wh wt fd pp wn : Int32) (ap : Nat → Int32) (ar : Nat → Int32) (af : Nat → Int32) (at_ : Nat → Int32) (han : an < 40) (u r f t1 : Int32) (hok : thrF (orN (inF u 0 (nI en - 1)) (inF r 0 (nI hn - 1))) (if inF f 0 100000 = 0 then 1 else if inF t1 0 100000 = 0 then 1 else if f ≤ t1 then 0 else 1) (eqF (nI an) 40) = 0) : Met l y_MD_agreement ws_MD_agreement ({ frames := 2, cells := 0, slots := 0, locals := 43 }) (va_Pc [.ref g, .int u, .int r, .int f, .int t1] (fun U => U.heap.size = sz ∧ va_P (dC, dI) vwCl [(g, .inr (10, [.int th, .ref mPd, .int (nI pn), .int (nI bn), .ref mSg, .ref mSz, .ref mTo, .int (nI en), .ref mRo, .ref mLi, .int (nI hn), .ref mKi, .ref mCo, .ref mEm, .ref mVa, .int (nI an), .ref mA1, .ref mA2, .ref mA3, .ref mA4, .int (nI ln), .ref mLk, .int (nI xn), .ref mEx, .int (nI qn), .ref mQp, .ref mQd, .int wh, .int wt, .int fd, .int pp, .int wn])), (mA1, .inl (cI, 40, .inl ap)), (mA2, .inl (cI, 40, .inl ar)), (mA3, .inl (cI, 40, .inl af)), (mA4, .inl (cI, 40, .inl at_))] U.heap ∧ va_K (dC, dI) vwCl [(cI, .int)] U ∧ va_D (fun _ => True) [(g, .inr (10, [.int th, .ref mPd, .int (nI pn), .int (nI bn), .ref mSg, .ref mSz, .ref mTo, .int (nI en), .ref mRo, .ref mLi, .int (nI hn), .ref mKi, .ref mCo, .ref mEm, .ref mVa, .int (nI an), .ref mA1, .ref mA2, .ref mA3, .ref mA4, .int (nI ln), .ref mLk, .int (nI xn), .ref mEx, .int (nI qn), .ref mQp, .ref mQd, .int wh, .int wt, .int fd, .int pp, .int wn])), (mA1, .inl (cI, 40, .inl ap)), (mA2, .inl (cI, 40, .inl ar)), (mA3, .inl (cI, 40, .inl af)), (mA4, .inl (cI, 40, .inl at_))])) (va_Qi (fun (res : Int32) (_ : Unit) => res = nI (an + 1)) (fun _ t => va_P (dC, dI) vwCl [(g, .inr (10, [.int (thrF (orN (inF u 0 (nI en - 1)) (inF r 0 (nI hn - 1))) (if inF f 0 100000 = 0 then 1 else if inF t1 0 100000 = 0 then 1 else if f ≤ t1 then 0 else 1) (eqF (nI an) 40)), .ref mPd, .int (nI pn), .int (nI bn), .ref mSg, .ref mSz, .ref mTo, .int (nI en), .ref mRo, .ref mLi, .int (nI hn), .ref mKi, .ref mCo, .ref mEm, .ref mVa, .int (nI (an + 1)), .ref mA1, .ref mA2, .ref mA3, .ref mA4, .int (nI ln), .ref mLk, .int (nI xn), .ref mEx, .int (nI qn), .ref mQp, .ref mQd, .int wh, .int wt, .int fd, .int pp, .int wn])), (mA1, .inl (cI, 40, .inl (upd ap an u))), (mA2, .inl (cI, 40, .inl (upd ar an r))), (mA3, .inl (cI, 40, .inl (upd af an f))), (mA4, .inl (cI, 40, .inl (upd at_ an t1)))] t.heap ∧ va_K (dC, dI) vwCl [(cI, .int)] t ∧ va_D (va_A [(g, .inr (10, [.int th, .ref mPd, .int (nI pn), .int (nI bn), .ref mSg, .ref mSz, .ref mTo, .int (nI en), .ref mRo, .ref mLi, .int (nI hn), .ref mKi, .ref mCo, .ref mEm, .ref mVa, .int (nI an), .ref mA1, .ref mA2, .ref mA3, .ref mA4, .int (nI ln), .ref mLk, .int (nI xn), .ref mEx, .int (nI qn), .ref mQp, .ref mQd, .int wh, .int wt, .int fd, .int pp, .int wn])), (mA1, .inl (cI, 40, .inl ap)), (mA2, .inl (cI, 40, .inl ar)), (mA3, .inl (cI, 40, .inl af)), (mA4, .inl (cI, 40, .inl at_))] sz) [(g, .inr (10, [.int (thrF (orN (inF u 0 (nI en - 1)) (inF r 0 (nI hn - 1))) (if inF f 0 100000 = 0 then 1 else if inF t1 0 100000 = 0 then 1 else if f ≤ t1 then 0 else 1) (eqF (nI an) 40)), .ref mPd, .int (nI pn), .int (nI bn), .ref mSg, .ref mSz, .ref mTo, .int (nI en), .ref mRo, .ref mLi, .int (nI hn), .ref mKi, .ref mCo, .ref mEm, .ref mVa, .int (nI (an + 1)), .ref mA1, .ref mA2, .ref mA3, .ref mA4, .int (nI ln), .ref mLk, .int (nI xn), .ref mEx, .int (nI qn), .ref mQp, .ref mQd, .int wh, .int wt, .int fd, .int pp, .int wn])), (mA1, .inl (cI, 40, .inl (upd ap an u))), (mA2, .inl (cI, 40, .inl (upd ar an r))), (mA3, .inl (cI, 40, .inl (upd af an f))), (mA4, .inl (cI, 40, .inl (upd at_ an t1)))]) (va_A [(g, .inr (10, [.int th, .ref mPd, .int (nI pn), .int (nI bn), .ref mSg, .ref mSz, .ref mTo, .int (nI en), .ref mRo, .ref mLi, .int (nI hn), .ref mKi, .ref mCo, .ref mEm, .ref mVa, .int (nI an), .ref mA1, .ref mA2, .ref mA3, .ref mA4, .int (nI ln), .ref mLk, .int (nI xn), .ref mEx, .int (nI qn), .ref mQp, .ref mQd, .int wh, .int wt, .int fd, .int pp, .int wn])), (mA1, .inl (cI, 40, .inl ap)), (mA2, .inl (cI, 40, .inl ar)), (mA3, .inl (cI, 40, .inl af)), (mA4, .inl (cI, 40, .inl at_))] sz)) 0 0 (va_A [(g, .inr (10, [.int th, .ref mPd, .int (nI pn), .int (nI bn), .ref mSg, .ref mSz, .ref mTo, .int (nI en), .ref mRo, .ref mLi, .int (nI hn), .ref mKi, .ref mCo, .ref mEm, .ref mVa, .int (nI an), .ref mA1, .ref mA2, .ref mA3, .ref mA4, .int (nI ln), .ref mLk, .int (nI xn), .ref mEx, .int (nI qn), .ref mQp, .ref mQd, .int wh, .int wt, .int fd, .int pp, .int wn])), (mA1, .inl (cI, 40, .inl ap)), (mA2, .inl (cI, 40, .inl ar)), (mA3, .inl (cI, 40, .inl af)), (mA4, .inl (cI, 40, .inl at_))] sz) := by
  refine Met.ofW (cc := k_MD_agreement) (maxL := 6) (ret := (some .int)) (by decide) rfl ?_
  intro p e s m args below meth c s₁ B hml hv
  obtain ⟨rfl, hsz, hP, hK, hD0⟩ := hv
  have hx := B.exec
  have hb := B.bytes
  have hr := B.returns
  have hts := atoms_spec (ws := ws_MD_agreement) B.pre
  have hown : s.vm.findClass R_MD = some m.cls := findClass_of_methodNamed B.named
  have hlocks := B.notSynchronized
  subst hsz
  have hD := hD0.self (sz := s.heap.size)
  generalize hAe : va_A [(g, .inr (10, [.int th, .ref mPd, .int (nI pn), .int (nI bn), .ref mSg, .ref mSz, .ref mTo, .int (nI en), .ref mRo, .ref mLi, .int (nI hn), .ref mKi, .ref mCo, .ref mEm, .ref mVa, .int (nI an), .ref mA1, .ref mA2, .ref mA3, .ref mA4, .int (nI ln), .ref mLk, .int (nI xn), .ref mEx, .int (nI qn), .ref mQp, .ref mQd, .int wh, .int wt, .int fd, .int pp, .int wn])), (mA1, .inl (cI, 40, .inl ap)), (mA2, .inl (cI, 40, .inl ar)), (mA3, .inl (cI, 40, .inl af)), (mA4, .inl (cI, 40, .inl at_))] s.heap.size = A at hD ⊢
  have hA : ∀ q : Nat, s.heap.size ≤ q → A q := fun q h => by rw [← hAe]; exact Or.inr h
  have hS : va_S A s.heap s.heap [] := va_S.rf
  have hP : va_P (dC, dI) vwCl [(g, .inr (10, [.int th, .ref mPd, .int (nI pn), .int (nI bn), .ref mSg, .ref mSz, .ref mTo, .int (nI en), .ref mRo, .ref mLi, .int (nI hn), .ref mKi, .ref mCo, .ref mEm, .ref mVa, .int (nI an), .ref mA1, .ref mA2, .ref mA3, .ref mA4, .int (nI ln), .ref mLk, .int (nI xn), .ref mEx, .int (nI qn), .ref mQp, .ref mQd, .int wh, .int wt, .int fd, .int pp, .int wn])), (mA1, .inl (cI, 40, .inl ap)), (mA2, .inl (cI, 40, .inl ar)), (mA3, .inl (cI, 40, .inl af)), (mA4, .inl (cI, 40, .inl at_))] s.heap := hP
  have iMD : ∀ w ∈ u_ws R_MD T_MD 32, w ∈ ws_MD_agreement := fun w h => wb_MD_agreement w (in_MD w h)
  have hl := lv_entry ([.ref g, .int u, .int r, .int f, .int t1]) (n := 6) (Nat.le_of_ble_eq_true rfl)
  rw [lg_entry_eq]
  generalize (lg_sl ([.ref g, .int u, .int r, .int f, .int t1]) ++ List.replicate (6 - (lg_sl ([.ref g, .int u, .int r, .int f, .int t1])).length) Slot.unset).toArray = ls at hl ⊢
  have hl : lv_has ls 6 [(0, .ref g), (1, .int u), (2, .int r), (3, .int f), (4, .int t1)] := hl
  refine vz_join 26 [] (fun b9 H9 locs9 ls9 => (b9 = if inF f 0 100000 = 0 then 1 else if inF t1 0 100000 = 0 then 1 else if f ≤ t1 then 0 else 1) ∧ va_P (dC, dI) vwCl [(g, .inr (10, [.int th, .ref mPd, .int (nI pn), .int (nI bn), .ref mSg, .ref mSz, .ref mTo, .int (nI en), .ref mRo, .ref mLi, .int (nI hn), .ref mKi, .ref mCo, .ref mEm, .ref mVa, .int (nI an), .ref mA1, .ref mA2, .ref mA3, .ref mA4, .int (nI ln), .ref mLk, .int (nI xn), .ref mEx, .int (nI qn), .ref mQp, .ref mQd, .int wh, .int wt, .int fd, .int pp, .int wn])), (mA1, .inl (cI, 40, .inl ap)), (mA2, .inl (cI, 40, .inl ar)), (mA3, .inl (cI, 40, .inl af)), (mA4, .inl (cI, 40, .inl at_))] H9 ∧ va_D A [(g, .inr (10, [.int th, .ref mPd, .int (nI pn), .int (nI bn), .ref mSg, .ref mSz, .ref mTo, .int (nI en), .ref mRo, .ref mLi, .int (nI hn), .ref mKi, .ref mCo, .ref mEm, .ref mVa, .int (nI an), .ref mA1, .ref mA2, .ref mA3, .ref mA4, .int (nI ln), .ref mLk, .int (nI xn), .ref mEx, .int (nI qn), .ref mQp, .ref mQd, .int wh, .int wt, .int fd, .int pp, .int wn])), (mA1, .inl (cI, 40, .inl ap)), (mA2, .inl (cI, 40, .inl ar)), (mA3, .inl (cI, 40, .inl af)), (mA4, .inl (cI, 40, .inl at_))] ∧ va_S A s.heap H9 locs9 ∧ lv_has ls9 6 [(0, .ref g), (1, .int u), (2, .int r), (3, .int f), (4, .int t1)]) (fun b9 H locs ls h9 => ?_) (fun k26 => ?_)
  · obtain ⟨rfl, hP, hD, hS, hl⟩ := h9
    refine lv_istore (lv' := [(5, .int (if inF f 0 100000 = 0 then 1 else if inF t1 0 100000 = 0 then 1 else if f ≤ t1 then 0 else 1)), (0, .ref g), (1, .int u), (2, .int r), (3, .int f), (4, .int t1)]) hx hb d_MD_agreement_26 hl (by decide) rfl (fun ls hl => ?_)
    refine lv_aload_n hx hb d_MD_agreement_28 rfl (lv_at hl 1 rfl) ?_
    refine vz_join 50 [.ref g] (fun b9 H9 locs9 ls9 => (b9 = orN (inF u 0 (nI en - 1)) (inF r 0 (nI hn - 1))) ∧ va_P (dC, dI) vwCl [(g, .inr (10, [.int th, .ref mPd, .int (nI pn), .int (nI bn), .ref mSg, .ref mSz, .ref mTo, .int (nI en), .ref mRo, .ref mLi, .int (nI hn), .ref mKi, .ref mCo, .ref mEm, .ref mVa, .int (nI an), .ref mA1, .ref mA2, .ref mA3, .ref mA4, .int (nI ln), .ref mLk, .int (nI xn), .ref mEx, .int (nI qn), .ref mQp, .ref mQd, .int wh, .int wt, .int fd, .int pp, .int wn])), (mA1, .inl (cI, 40, .inl ap)), (mA2, .inl (cI, 40, .inl ar)), (mA3, .inl (cI, 40, .inl af)), (mA4, .inl (cI, 40, .inl at_))] H9 ∧ va_D A [(g, .inr (10, [.int th, .ref mPd, .int (nI pn), .int (nI bn), .ref mSg, .ref mSz, .ref mTo, .int (nI en), .ref mRo, .ref mLi, .int (nI hn), .ref mKi, .ref mCo, .ref mEm, .ref mVa, .int (nI an), .ref mA1, .ref mA2, .ref mA3, .ref mA4, .int (nI ln), .ref mLk, .int (nI xn), .ref mEx, .int (nI qn), .ref mQp, .ref mQd, .int wh, .int wt, .int fd, .int pp, .int wn])), (mA1, .inl (cI, 40, .inl ap)), (mA2, .inl (cI, 40, .inl ar)), (mA3, .inl (cI, 40, .inl af)), (mA4, .inl (cI, 40, .inl at_))] ∧ va_S A s.heap H9 locs9 ∧ lv_has ls9 6 [(5, .int (if inF f 0 100000 = 0 then 1 else if inF t1 0 100000 = 0 then 1 else if f ≤ t1 then 0 else 1)), (0, .ref g), (1, .int u), (2, .int r), (3, .int f), (4, .int t1)]) (fun b9 H locs ls h9 => ?_) (fun k50 => ?_)
    · obtain ⟨rfl, hP, hD, hS, hl⟩ := h9
      refine lv_iload hx hb d_MD_agreement_50 (lv_at hl 0 rfl) ?_
      refine vz_join 66 [.int (if inF f 0 100000 = 0 then 1 else if inF t1 0 100000 = 0 then 1 else if f ≤ t1 then 0 else 1), .int (orN (inF u 0 (nI en - 1)) (inF r 0 (nI hn - 1))), .ref g] (fun b9 H9 locs9 ls9 => (b9 = eqF (nI an) 40) ∧ va_P (dC, dI) vwCl [(g, .inr (10, [.int th, .ref mPd, .int (nI pn), .int (nI bn), .ref mSg, .ref mSz, .ref mTo, .int (nI en), .ref mRo, .ref mLi, .int (nI hn), .ref mKi, .ref mCo, .ref mEm, .ref mVa, .int (nI an), .ref mA1, .ref mA2, .ref mA3, .ref mA4, .int (nI ln), .ref mLk, .int (nI xn), .ref mEx, .int (nI qn), .ref mQp, .ref mQd, .int wh, .int wt, .int fd, .int pp, .int wn])), (mA1, .inl (cI, 40, .inl ap)), (mA2, .inl (cI, 40, .inl ar)), (mA3, .inl (cI, 40, .inl af)), (mA4, .inl (cI, 40, .inl at_))] H9 ∧ va_D A [(g, .inr (10, [.int th, .ref mPd, .int (nI pn), .int (nI bn), .ref mSg, .ref mSz, .ref mTo, .int (nI en), .ref mRo, .ref mLi, .int (nI hn), .ref mKi, .ref mCo, .ref mEm, .ref mVa, .int (nI an), .ref mA1, .ref mA2, .ref mA3, .ref mA4, .int (nI ln), .ref mLk, .int (nI xn), .ref mEx, .int (nI qn), .ref mQp, .ref mQd, .int wh, .int wt, .int fd, .int pp, .int wn])), (mA1, .inl (cI, 40, .inl ap)), (mA2, .inl (cI, 40, .inl ar)), (mA3, .inl (cI, 40, .inl af)), (mA4, .inl (cI, 40, .inl at_))] ∧ va_S A s.heap H9 locs9 ∧ lv_has ls9 6 [(5, .int (if inF f 0 100000 = 0 then 1 else if inF t1 0 100000 = 0 then 1 else if f ≤ t1 then 0 else 1)), (0, .ref g), (1, .int u), (2, .int r), (3, .int f), (4, .int t1)]) (fun b9 H locs ls h9 => ?_) (fun k66 => ?_)
      · obtain ⟨rfl, hP, hD, hS, hl⟩ := h9
        have hPc := hP.sub (ws' := [(g, .inr (10, [.int th, .ref mPd, .int (nI pn), .int (nI bn), .ref mSg, .ref mSz, .ref mTo, .int (nI en), .ref mRo, .ref mLi, .int (nI hn), .ref mKi, .ref mCo, .ref mEm, .ref mVa, .int (nI an), .ref mA1, .ref mA2, .ref mA3, .ref mA4, .int (nI ln), .ref mLk, .int (nI xn), .ref mEx, .int (nI qn), .ref mQp, .ref mQd, .int wh, .int wt, .int fd, .int pp, .int wn]))]) [0] rfl
        have hKc := hK.sub (tys' := []) [] rfl
        have hDc := hD.sub (ws' := [(g, .inr (10, [.int th, .ref mPd, .int (nI pn), .int (nI bn), .ref mSg, .ref mSz, .ref mTo, .int (nI en), .ref mRo, .ref mLi, .int (nI hn), .ref mKi, .ref mCo, .ref mEm, .ref mVa, .int (nI an), .ref mA1, .ref mA2, .ref mA3, .ref mA4, .int (nI ln), .ref mLk, .int (nI xn), .ref mEx, .int (nI qn), .ref mQp, .ref mQd, .int wh, .int wt, .int fd, .int pp, .int wn]))]) [0] (by decide) rfl
        have hFc := va_free (wc := [(g, .inr (10, [.int th, .ref mPd, .int (nI pn), .int (nI bn), .ref mSg, .ref mSz, .ref mTo, .int (nI en), .ref mRo, .ref mLi, .int (nI hn), .ref mKi, .ref mCo, .ref mEm, .ref mVa, .int (nI an), .ref mA1, .ref mA2, .ref mA3, .ref mA4, .int (nI ln), .ref mLk, .int (nI xn), .ref mEx, .int (nI qn), .ref mQp, .ref mQd, .int wh, .int wt, .int fd, .int pp, .int wn]))]) hD hS hA [0] rfl
        refine va_calli (va_runV (As := [.int (orN (inF u 0 (nI en - 1)) (inF r 0 (nI hn - 1))), .int (if inF f 0 100000 = 0 then 1 else if inF t1 0 100000 = 0 then 1 else if f ≤ t1 then 0 else 1), .int (eqF (nI an) 40)]) (rest := []) ⟨hx, hb, hml, hown, hts⟩ (c_MD_throwing l dC dI H.size g mPd mSg mSz mTo mRo mLi mKi mCo mEm mVa mA1 mA2 mA3 mA4 mLk mEx mQp mQd th pn bn en hn an ln xn qn wh wt fd pp wn (orN (inF u 0 (nI en - 1)) (inF r 0 (nI hn - 1))) (if inF f 0 100000 = 0 then 1 else if inF t1 0 100000 = 0 then 1 else if f ≤ t1 then 0 else 1) (eqF (nI an) 40)) (cwV 3 hts (vz_gV wb_MD_agreement b_777 b_779 bs_15 b_11 wc_MD_throwing) rfl rfl rfl (by decide +kernel) ⟨Nat.le_of_ble_eq_true rfl, Nat.le_of_ble_eq_true rfl⟩) (vz_preVw (A := A) hPc hKc hDc (ci := 10) (q0 := 0) rfl rfl) rfl rfl hl.1 rfl (lv_room (Nat.le_of_ble_eq_true rfl)) d_MD_agreement_66 ⟨Nat.le_of_ble_eq_true rfl, Nat.le_of_ble_eq_true rfl⟩) hS (fun q _ h => hFc q h) hFc (fun r66 u9 t9 H1 locs ht hvm hr66 hB hzx9 hkx9 hS => ?_)
        try dsimp only at hr66
        obtain ⟨hP1, hK1, hD1⟩ := hB
        rw [ht] at hP1
        obtain ⟨hP, hD⟩ := va_join (wr := [(mA1, .inl (cI, 40, .inl ap)), (mA2, .inl (cI, 40, .inl ar)), (mA3, .inl (cI, 40, .inl af)), (mA4, .inl (cI, 40, .inl at_))]) (w1 := [(g, .inr (10, [.int (thrF (orN (inF u 0 (nI en - 1)) (inF r 0 (nI hn - 1))) (if inF f 0 100000 = 0 then 1 else if inF t1 0 100000 = 0 then 1 else if f ≤ t1 then 0 else 1) (eqF (nI an) 40)), .ref mPd, .int (nI pn), .int (nI bn), .ref mSg, .ref mSz, .ref mTo, .int (nI en), .ref mRo, .ref mLi, .int (nI hn), .ref mKi, .ref mCo, .ref mEm, .ref mVa, .int (nI an), .ref mA1, .ref mA2, .ref mA3, .ref mA4, .int (nI ln), .ref mLk, .int (nI xn), .ref mEx, .int (nI qn), .ref mQp, .ref mQd, .int wh, .int wt, .int fd, .int pp, .int wn]))]) hP hD [0] [1, 2, 3, 4] rfl rfl (by decide) (by decide) hkx9 hFc hP1 hD1
        generalize H1 = H at hP hS ⊢
        have hP : va_P (dC, dI) vwCl [(mA1, .inl (cI, 40, .inl ap)), (mA2, .inl (cI, 40, .inl ar)), (mA3, .inl (cI, 40, .inl af)), (mA4, .inl (cI, 40, .inl at_)), (g, .inr (10, [.int (thrF (orN (inF u 0 (nI en - 1)) (inF r 0 (nI hn - 1))) (if inF f 0 100000 = 0 then 1 else if inF t1 0 100000 = 0 then 1 else if f ≤ t1 then 0 else 1) (eqF (nI an) 40)), .ref mPd, .int (nI pn), .int (nI bn), .ref mSg, .ref mSz, .ref mTo, .int (nI en), .ref mRo, .ref mLi, .int (nI hn), .ref mKi, .ref mCo, .ref mEm, .ref mVa, .int (nI an), .ref mA1, .ref mA2, .ref mA3, .ref mA4, .int (nI ln), .ref mLk, .int (nI xn), .ref mEx, .int (nI qn), .ref mQp, .ref mQd, .int wh, .int wt, .int fd, .int pp, .int wn]))] H := hP
        have hD : va_D A [(mA1, .inl (cI, 40, .inl ap)), (mA2, .inl (cI, 40, .inl ar)), (mA3, .inl (cI, 40, .inl af)), (mA4, .inl (cI, 40, .inl at_)), (g, .inr (10, [.int (thrF (orN (inF u 0 (nI en - 1)) (inF r 0 (nI hn - 1))) (if inF f 0 100000 = 0 then 1 else if inF t1 0 100000 = 0 then 1 else if f ≤ t1 then 0 else 1) (eqF (nI an) 40)), .ref mPd, .int (nI pn), .int (nI bn), .ref mSg, .ref mSz, .ref mTo, .int (nI en), .ref mRo, .ref mLi, .int (nI hn), .ref mKi, .ref mCo, .ref mEm, .ref mVa, .int (nI an), .ref mA1, .ref mA2, .ref mA3, .ref mA4, .int (nI ln), .ref mLk, .int (nI xn), .ref mEx, .int (nI qn), .ref mQp, .ref mQd, .int wh, .int wt, .int fd, .int pp, .int wn]))] := hD
        refine lv_if_eq (tgt := 74) hx hb d_MD_agreement_69 (by decide) (fun c69 => ?_) (fun c69 => ?_)
        · refine lv_aload_n hx hb d_MD_agreement_74 rfl (lv_at hl 1 rfl) ?_
          refine va_get (D := (dC, dI)) (ci := 10) (v := .ref mA1) (C := R_MD) (T := T_MD) (N := 32) hx hb hts iMD hown hK hP 4 rfl rfl 16 (by decide) (hts _ (wb_MD_agreement _ b_684)) (fun _ h9 => h9) rfl d_MD_agreement_75 ?_
          refine lv_aload_n hx hb d_MD_agreement_78 rfl (lv_at hl 1 rfl) ?_
          refine va_get (D := (dC, dI)) (ci := 10) (v := .int (nI an)) (C := R_MD) (T := T_MD) (N := 32) hx hb hts iMD hown hK hP 4 rfl rfl 15 (by decide) (hts _ (wb_MD_agreement _ b_683)) (fun _ h9 => h9) rfl d_MD_agreement_79 ?_
          refine lv_iload_n hx hb d_MD_agreement_82 rfl (lv_at hl 2 rfl) ?_
          refine vz_iast (k := an) hx hb hK hP hD hS 0 0 rfl rfl (by omega) (by decide) d_MD_agreement_83 (fun H locs hP hD hS => ?_)
          have hP : va_P (dC, dI) vwCl [(mA1, .inl (cI, 40, .inl (upd ap an u))), (mA2, .inl (cI, 40, .inl ar)), (mA3, .inl (cI, 40, .inl af)), (mA4, .inl (cI, 40, .inl at_)), (g, .inr (10, [.int (thrF (orN (inF u 0 (nI en - 1)) (inF r 0 (nI hn - 1))) (if inF f 0 100000 = 0 then 1 else if inF t1 0 100000 = 0 then 1 else if f ≤ t1 then 0 else 1) (eqF (nI an) 40)), .ref mPd, .int (nI pn), .int (nI bn), .ref mSg, .ref mSz, .ref mTo, .int (nI en), .ref mRo, .ref mLi, .int (nI hn), .ref mKi, .ref mCo, .ref mEm, .ref mVa, .int (nI an), .ref mA1, .ref mA2, .ref mA3, .ref mA4, .int (nI ln), .ref mLk, .int (nI xn), .ref mEx, .int (nI qn), .ref mQp, .ref mQd, .int wh, .int wt, .int fd, .int pp, .int wn]))] H := hP
          have hD : va_D A [(mA1, .inl (cI, 40, .inl (upd ap an u))), (mA2, .inl (cI, 40, .inl ar)), (mA3, .inl (cI, 40, .inl af)), (mA4, .inl (cI, 40, .inl at_)), (g, .inr (10, [.int (thrF (orN (inF u 0 (nI en - 1)) (inF r 0 (nI hn - 1))) (if inF f 0 100000 = 0 then 1 else if inF t1 0 100000 = 0 then 1 else if f ≤ t1 then 0 else 1) (eqF (nI an) 40)), .ref mPd, .int (nI pn), .int (nI bn), .ref mSg, .ref mSz, .ref mTo, .int (nI en), .ref mRo, .ref mLi, .int (nI hn), .ref mKi, .ref mCo, .ref mEm, .ref mVa, .int (nI an), .ref mA1, .ref mA2, .ref mA3, .ref mA4, .int (nI ln), .ref mLk, .int (nI xn), .ref mEx, .int (nI qn), .ref mQp, .ref mQd, .int wh, .int wt, .int fd, .int pp, .int wn]))] := hD
          refine lv_aload_n hx hb d_MD_agreement_84 rfl (lv_at hl 1 rfl) ?_
          refine va_get (D := (dC, dI)) (ci := 10) (v := .ref mA2) (C := R_MD) (T := T_MD) (N := 32) hx hb hts iMD hown hK hP 4 rfl rfl 17 (by decide) (hts _ (wb_MD_agreement _ b_685)) (fun _ h9 => h9) rfl d_MD_agreement_85 ?_
          refine lv_aload_n hx hb d_MD_agreement_88 rfl (lv_at hl 1 rfl) ?_
          refine va_get (D := (dC, dI)) (ci := 10) (v := .int (nI an)) (C := R_MD) (T := T_MD) (N := 32) hx hb hts iMD hown hK hP 4 rfl rfl 15 (by decide) (hts _ (wb_MD_agreement _ b_683)) (fun _ h9 => h9) rfl d_MD_agreement_89 ?_
          refine lv_iload_n hx hb d_MD_agreement_92 rfl (lv_at hl 3 rfl) ?_
          refine vz_iast (k := an) hx hb hK hP hD hS 1 0 rfl rfl (by omega) (by decide) d_MD_agreement_93 (fun H locs hP hD hS => ?_)
          have hP : va_P (dC, dI) vwCl [(mA1, .inl (cI, 40, .inl (upd ap an u))), (mA2, .inl (cI, 40, .inl (upd ar an r))), (mA3, .inl (cI, 40, .inl af)), (mA4, .inl (cI, 40, .inl at_)), (g, .inr (10, [.int (thrF (orN (inF u 0 (nI en - 1)) (inF r 0 (nI hn - 1))) (if inF f 0 100000 = 0 then 1 else if inF t1 0 100000 = 0 then 1 else if f ≤ t1 then 0 else 1) (eqF (nI an) 40)), .ref mPd, .int (nI pn), .int (nI bn), .ref mSg, .ref mSz, .ref mTo, .int (nI en), .ref mRo, .ref mLi, .int (nI hn), .ref mKi, .ref mCo, .ref mEm, .ref mVa, .int (nI an), .ref mA1, .ref mA2, .ref mA3, .ref mA4, .int (nI ln), .ref mLk, .int (nI xn), .ref mEx, .int (nI qn), .ref mQp, .ref mQd, .int wh, .int wt, .int fd, .int pp, .int wn]))] H := hP
          have hD : va_D A [(mA1, .inl (cI, 40, .inl (upd ap an u))), (mA2, .inl (cI, 40, .inl (upd ar an r))), (mA3, .inl (cI, 40, .inl af)), (mA4, .inl (cI, 40, .inl at_)), (g, .inr (10, [.int (thrF (orN (inF u 0 (nI en - 1)) (inF r 0 (nI hn - 1))) (if inF f 0 100000 = 0 then 1 else if inF t1 0 100000 = 0 then 1 else if f ≤ t1 then 0 else 1) (eqF (nI an) 40)), .ref mPd, .int (nI pn), .int (nI bn), .ref mSg, .ref mSz, .ref mTo, .int (nI en), .ref mRo, .ref mLi, .int (nI hn), .ref mKi, .ref mCo, .ref mEm, .ref mVa, .int (nI an), .ref mA1, .ref mA2, .ref mA3, .ref mA4, .int (nI ln), .ref mLk, .int (nI xn), .ref mEx, .int (nI qn), .ref mQp, .ref mQd, .int wh, .int wt, .int fd, .int pp, .int wn]))] := hD
          refine lv_aload_n hx hb d_MD_agreement_94 rfl (lv_at hl 1 rfl) ?_
          refine va_get (D := (dC, dI)) (ci := 10) (v := .ref mA3) (C := R_MD) (T := T_MD) (N := 32) hx hb hts iMD hown hK hP 4 rfl rfl 18 (by decide) (hts _ (wb_MD_agreement _ b_686)) (fun _ h9 => h9) rfl d_MD_agreement_95 ?_
          refine lv_aload_n hx hb d_MD_agreement_98 rfl (lv_at hl 1 rfl) ?_
          refine va_get (D := (dC, dI)) (ci := 10) (v := .int (nI an)) (C := R_MD) (T := T_MD) (N := 32) hx hb hts iMD hown hK hP 4 rfl rfl 15 (by decide) (hts _ (wb_MD_agreement _ b_683)) (fun _ h9 => h9) rfl d_MD_agreement_99 ?_
          refine lv_iload_n hx hb d_MD_agreement_102 rfl (lv_at hl 4 rfl) ?_
          refine vz_iast (k := an) hx hb hK hP hD hS 2 0 rfl rfl (by omega) (by decide) d_MD_agreement_103 (fun H locs hP hD hS => ?_)
          have hP : va_P (dC, dI) vwCl [(mA1, .inl (cI, 40, .inl (upd ap an u))), (mA2, .inl (cI, 40, .inl (upd ar an r))), (mA3, .inl (cI, 40, .inl (upd af an f))), (mA4, .inl (cI, 40, .inl at_)), (g, .inr (10, [.int (thrF (orN (inF u 0 (nI en - 1)) (inF r 0 (nI hn - 1))) (if inF f 0 100000 = 0 then 1 else if inF t1 0 100000 = 0 then 1 else if f ≤ t1 then 0 else 1) (eqF (nI an) 40)), .ref mPd, .int (nI pn), .int (nI bn), .ref mSg, .ref mSz, .ref mTo, .int (nI en), .ref mRo, .ref mLi, .int (nI hn), .ref mKi, .ref mCo, .ref mEm, .ref mVa, .int (nI an), .ref mA1, .ref mA2, .ref mA3, .ref mA4, .int (nI ln), .ref mLk, .int (nI xn), .ref mEx, .int (nI qn), .ref mQp, .ref mQd, .int wh, .int wt, .int fd, .int pp, .int wn]))] H := hP
          have hD : va_D A [(mA1, .inl (cI, 40, .inl (upd ap an u))), (mA2, .inl (cI, 40, .inl (upd ar an r))), (mA3, .inl (cI, 40, .inl (upd af an f))), (mA4, .inl (cI, 40, .inl at_)), (g, .inr (10, [.int (thrF (orN (inF u 0 (nI en - 1)) (inF r 0 (nI hn - 1))) (if inF f 0 100000 = 0 then 1 else if inF t1 0 100000 = 0 then 1 else if f ≤ t1 then 0 else 1) (eqF (nI an) 40)), .ref mPd, .int (nI pn), .int (nI bn), .ref mSg, .ref mSz, .ref mTo, .int (nI en), .ref mRo, .ref mLi, .int (nI hn), .ref mKi, .ref mCo, .ref mEm, .ref mVa, .int (nI an), .ref mA1, .ref mA2, .ref mA3, .ref mA4, .int (nI ln), .ref mLk, .int (nI xn), .ref mEx, .int (nI qn), .ref mQp, .ref mQd, .int wh, .int wt, .int fd, .int pp, .int wn]))] := hD
          refine lv_aload_n hx hb d_MD_agreement_104 rfl (lv_at hl 1 rfl) ?_
          refine va_get (D := (dC, dI)) (ci := 10) (v := .ref mA4) (C := R_MD) (T := T_MD) (N := 32) hx hb hts iMD hown hK hP 4 rfl rfl 19 (by decide) (hts _ (wb_MD_agreement _ b_687)) (fun _ h9 => h9) rfl d_MD_agreement_105 ?_
          refine lv_aload_n hx hb d_MD_agreement_108 rfl (lv_at hl 1 rfl) ?_
          refine va_get (D := (dC, dI)) (ci := 10) (v := .int (nI an)) (C := R_MD) (T := T_MD) (N := 32) hx hb hts iMD hown hK hP 4 rfl rfl 15 (by decide) (hts _ (wb_MD_agreement _ b_683)) (fun _ h9 => h9) rfl d_MD_agreement_109 ?_
          refine lv_iload hx hb d_MD_agreement_112 (lv_at hl 5 rfl) ?_
          refine vz_iast (k := an) hx hb hK hP hD hS 3 0 rfl rfl (by omega) (by decide) d_MD_agreement_114 (fun H locs hP hD hS => ?_)
          have hP : va_P (dC, dI) vwCl [(mA1, .inl (cI, 40, .inl (upd ap an u))), (mA2, .inl (cI, 40, .inl (upd ar an r))), (mA3, .inl (cI, 40, .inl (upd af an f))), (mA4, .inl (cI, 40, .inl (upd at_ an t1))), (g, .inr (10, [.int (thrF (orN (inF u 0 (nI en - 1)) (inF r 0 (nI hn - 1))) (if inF f 0 100000 = 0 then 1 else if inF t1 0 100000 = 0 then 1 else if f ≤ t1 then 0 else 1) (eqF (nI an) 40)), .ref mPd, .int (nI pn), .int (nI bn), .ref mSg, .ref mSz, .ref mTo, .int (nI en), .ref mRo, .ref mLi, .int (nI hn), .ref mKi, .ref mCo, .ref mEm, .ref mVa, .int (nI an), .ref mA1, .ref mA2, .ref mA3, .ref mA4, .int (nI ln), .ref mLk, .int (nI xn), .ref mEx, .int (nI qn), .ref mQp, .ref mQd, .int wh, .int wt, .int fd, .int pp, .int wn]))] H := hP
          have hD : va_D A [(mA1, .inl (cI, 40, .inl (upd ap an u))), (mA2, .inl (cI, 40, .inl (upd ar an r))), (mA3, .inl (cI, 40, .inl (upd af an f))), (mA4, .inl (cI, 40, .inl (upd at_ an t1))), (g, .inr (10, [.int (thrF (orN (inF u 0 (nI en - 1)) (inF r 0 (nI hn - 1))) (if inF f 0 100000 = 0 then 1 else if inF t1 0 100000 = 0 then 1 else if f ≤ t1 then 0 else 1) (eqF (nI an) 40)), .ref mPd, .int (nI pn), .int (nI bn), .ref mSg, .ref mSz, .ref mTo, .int (nI en), .ref mRo, .ref mLi, .int (nI hn), .ref mKi, .ref mCo, .ref mEm, .ref mVa, .int (nI an), .ref mA1, .ref mA2, .ref mA3, .ref mA4, .int (nI ln), .ref mLk, .int (nI xn), .ref mEx, .int (nI qn), .ref mQp, .ref mQd, .int wh, .int wt, .int fd, .int pp, .int wn]))] := hD
          refine lv_aload_n hx hb d_MD_agreement_115 rfl (lv_at hl 1 rfl) ?_
          refine lv_dup hx hb d_MD_agreement_116 rfl ?_
          refine va_get (D := (dC, dI)) (ci := 10) (v := .int (nI an)) (C := R_MD) (T := T_MD) (N := 32) hx hb hts iMD hown hK hP 4 rfl rfl 15 (by decide) (hts _ (wb_MD_agreement _ b_683)) (fun _ h9 => h9) rfl d_MD_agreement_117 ?_
          refine lv_iconst (v := 1) hx hb d_MD_agreement_120 (by decide) ?_
          refine lv_iadd hx hb d_MD_agreement_121 ?_
          refine vz_top (y := nI (an + 1)) (nI_1 an) ?_
          refine va_put (D := (dC, dI)) (ci := 10) (v := .int (nI (an + 1))) (ty := .int) (C := R_MD) (T := T_MD) (N := 32) hx hb hts iMD ty_MD tyok_MD nm_MD hown hK hP hD hS 4 rfl rfl 15 (by decide) (hts _ (wb_MD_agreement _ b_683)) (fun _ h9 => h9) rfl rfl rfl rfl (Nat.le_of_ble_eq_true rfl) d_MD_agreement_122 (fun H locs hP hD hS => ?_)
          have hP : va_P (dC, dI) vwCl [(mA1, .inl (cI, 40, .inl (upd ap an u))), (mA2, .inl (cI, 40, .inl (upd ar an r))), (mA3, .inl (cI, 40, .inl (upd af an f))), (mA4, .inl (cI, 40, .inl (upd at_ an t1))), (g, .inr (10, [.int (thrF (orN (inF u 0 (nI en - 1)) (inF r 0 (nI hn - 1))) (if inF f 0 100000 = 0 then 1 else if inF t1 0 100000 = 0 then 1 else if f ≤ t1 then 0 else 1) (eqF (nI an) 40)), .ref mPd, .int (nI pn), .int (nI bn), .ref mSg, .ref mSz, .ref mTo, .int (nI en), .ref mRo, .ref mLi, .int (nI hn), .ref mKi, .ref mCo, .ref mEm, .ref mVa, .int (nI (an + 1)), .ref mA1, .ref mA2, .ref mA3, .ref mA4, .int (nI ln), .ref mLk, .int (nI xn), .ref mEx, .int (nI qn), .ref mQp, .ref mQd, .int wh, .int wt, .int fd, .int pp, .int wn]))] H := hP
          have hD : va_D A [(mA1, .inl (cI, 40, .inl (upd ap an u))), (mA2, .inl (cI, 40, .inl (upd ar an r))), (mA3, .inl (cI, 40, .inl (upd af an f))), (mA4, .inl (cI, 40, .inl (upd at_ an t1))), (g, .inr (10, [.int (thrF (orN (inF u 0 (nI en - 1)) (inF r 0 (nI hn - 1))) (if inF f 0 100000 = 0 then 1 else if inF t1 0 100000 = 0 then 1 else if f ≤ t1 then 0 else 1) (eqF (nI an) 40)), .ref mPd, .int (nI pn), .int (nI bn), .ref mSg, .ref mSz, .ref mTo, .int (nI en), .ref mRo, .ref mLi, .int (nI hn), .ref mKi, .ref mCo, .ref mEm, .ref mVa, .int (nI (an + 1)), .ref mA1, .ref mA2, .ref mA3, .ref mA4, .int (nI ln), .ref mLk, .int (nI xn), .ref mEx, .int (nI qn), .ref mQp, .ref mQd, .int wh, .int wt, .int fd, .int pp, .int wn]))] := hD
          refine lv_aload_n hx hb d_MD_agreement_125 rfl (lv_at hl 1 rfl) ?_
          refine va_get (D := (dC, dI)) (ci := 10) (v := .int (nI (an + 1))) (C := R_MD) (T := T_MD) (N := 32) hx hb hts iMD hown hK hP 4 rfl rfl 15 (by decide) (hts _ (wb_MD_agreement _ b_683)) (fun _ h9 => h9) rfl d_MD_agreement_126 ?_
          have hP9 := hP.sub (ws' := [(g, .inr (10, [.int (thrF (orN (inF u 0 (nI en - 1)) (inF r 0 (nI hn - 1))) (if inF f 0 100000 = 0 then 1 else if inF t1 0 100000 = 0 then 1 else if f ≤ t1 then 0 else 1) (eqF (nI an) 40)), .ref mPd, .int (nI pn), .int (nI bn), .ref mSg, .ref mSz, .ref mTo, .int (nI en), .ref mRo, .ref mLi, .int (nI hn), .ref mKi, .ref mCo, .ref mEm, .ref mVa, .int (nI (an + 1)), .ref mA1, .ref mA2, .ref mA3, .ref mA4, .int (nI ln), .ref mLk, .int (nI xn), .ref mEx, .int (nI qn), .ref mQp, .ref mQd, .int wh, .int wt, .int fd, .int pp, .int wn])), (mA1, .inl (cI, 40, .inl (upd ap an u))), (mA2, .inl (cI, 40, .inl (upd ar an r))), (mA3, .inl (cI, 40, .inl (upd af an f))), (mA4, .inl (cI, 40, .inl (upd at_ an t1)))]) [4, 0, 1, 2, 3] rfl
          have hD9 := hD.sub (ws' := [(g, .inr (10, [.int (thrF (orN (inF u 0 (nI en - 1)) (inF r 0 (nI hn - 1))) (if inF f 0 100000 = 0 then 1 else if inF t1 0 100000 = 0 then 1 else if f ≤ t1 then 0 else 1) (eqF (nI an) 40)), .ref mPd, .int (nI pn), .int (nI bn), .ref mSg, .ref mSz, .ref mTo, .int (nI en), .ref mRo, .ref mLi, .int (nI hn), .ref mKi, .ref mCo, .ref mEm, .ref mVa, .int (nI (an + 1)), .ref mA1, .ref mA2, .ref mA3, .ref mA4, .int (nI ln), .ref mLk, .int (nI xn), .ref mEx, .int (nI qn), .ref mQp, .ref mQd, .int wh, .int wt, .int fd, .int pp, .int wn])), (mA1, .inl (cI, 40, .inl (upd ap an u))), (mA2, .inl (cI, 40, .inl (upd ar an r))), (mA3, .inl (cI, 40, .inl (upd af an f))), (mA4, .inl (cI, 40, .inl (upd at_ an t1)))]) [4, 0, 1, 2, 3] (by decide) rfl
          exact W.iret (v := nI (an + 1)) hx hb hr (fun t ht hW => ⟨⟨nI (an + 1), (), rfl, rfl, by rw [ht]; exact hP9, va_K.moved hW.alike hK, hD9⟩, hS.F ht⟩) hS.2.2 d_MD_agreement_129
        · exact absurd (hr66.trans (thrB_z hok)) c69
      · refine lv_aload_n hx hb d_MD_agreement_52 rfl (lv_at hl 1 rfl) ?_
        refine va_get (D := (dC, dI)) (ci := 10) (v := .int (nI an)) (C := R_MD) (T := T_MD) (N := 32) hx hb hts iMD hown hK hP 0 rfl rfl 15 (by decide) (hts _ (wb_MD_agreement _ b_683)) (fun _ h9 => h9) rfl d_MD_agreement_53 ?_
        refine lv_bipush (v := 40) hx hb d_MD_agreement_56 (by decide) ?_
        refine lv_icmp_ne (tgt := 65) hx hb d_MD_agreement_58 (by decide) (fun c58 => ?_) (fun c58 => ?_)
        · refine lv_iconst (v := 0) hx hb d_MD_agreement_65 (by decide) ?_
          exact k66 _ _ _ _ ⟨by simp [eqF, c58], hP, hD, hS, lv_sub hl [0, 1, 2, 3, 4, 5] rfl⟩
        · refine lv_iconst (v := 1) hx hb d_MD_agreement_61 (by decide) ?_
          refine lv_goto (tgt := 66) hx hb d_MD_agreement_62 (by decide) ?_
          exact k66 _ _ _ _ ⟨by simp [eqF, c58], hP, hD, hS, lv_sub hl [0, 1, 2, 3, 4, 5] rfl⟩
    · refine lv_aload_n hx hb d_MD_agreement_29 rfl (lv_at hl 1 rfl) ?_
      refine lv_iload_n hx hb d_MD_agreement_30 rfl (lv_at hl 2 rfl) ?_
      have hPc := hP.sub (ws' := [(g, .inr (10, [.int th, .ref mPd, .int (nI pn), .int (nI bn), .ref mSg, .ref mSz, .ref mTo, .int (nI en), .ref mRo, .ref mLi, .int (nI hn), .ref mKi, .ref mCo, .ref mEm, .ref mVa, .int (nI an), .ref mA1, .ref mA2, .ref mA3, .ref mA4, .int (nI ln), .ref mLk, .int (nI xn), .ref mEx, .int (nI qn), .ref mQp, .ref mQd, .int wh, .int wt, .int fd, .int pp, .int wn]))]) [0] rfl
      have hKc := hK.sub (tys' := []) [] rfl
      refine va_calli (va_runV (As := [.int u]) (rest := [.ref g]) ⟨hx, hb, hml, hown, hts⟩ (c_MD_isPerson l dC dI g mPd mSg mSz mTo mRo mLi mKi mCo mEm mVa mA1 mA2 mA3 mA4 mLk mEx mQp mQd th pn bn en hn an ln xn qn wh wt fd pp wn u) (cwV 1 hts (vz_gV wb_MD_agreement b_834 b_836 bs_19 b_11 wc_MD_isPerson) rfl rfl rfl (by decide +kernel) ⟨Nat.le_of_ble_eq_true rfl, Nat.le_of_ble_eq_true rfl⟩) (vz_preV hPc hKc (ci := 10) (q0 := 0) rfl rfl) rfl rfl hl.1 rfl (lv_room (Nat.le_of_ble_eq_true rfl)) d_MD_agreement_31 ⟨Nat.le_of_ble_eq_true rfl, Nat.le_of_ble_eq_true rfl⟩) hS (fun q _ h => False.elim h) (fun q h => False.elim h) (fun r31 u9 t9 H1 locs ht hvm hr31 hB hzx9 hkx9 hS => ?_)
      try dsimp only at hr31
      have hP := vz_kept hP hkx9
      generalize H1 = H at hP hS ⊢
      refine lv_if_eq (tgt := 45) hx hb d_MD_agreement_34 (by decide) (fun c34 => ?_) (fun c34 => ?_)
      · refine lv_iconst (v := 1) hx hb d_MD_agreement_45 (by decide) ?_
        refine lv_goto (tgt := 50) hx hb d_MD_agreement_46 (by decide) ?_
        exact k50 _ _ _ _ ⟨by simp [orN, ← hr31, c34], hP, hD, hS, lv_sub hl [0, 1, 2, 3, 4, 5] rfl⟩
      · refine lv_aload_n hx hb d_MD_agreement_37 rfl (lv_at hl 1 rfl) ?_
        refine lv_iload_n hx hb d_MD_agreement_38 rfl (lv_at hl 3 rfl) ?_
        have hPc := hP.sub (ws' := [(g, .inr (10, [.int th, .ref mPd, .int (nI pn), .int (nI bn), .ref mSg, .ref mSz, .ref mTo, .int (nI en), .ref mRo, .ref mLi, .int (nI hn), .ref mKi, .ref mCo, .ref mEm, .ref mVa, .int (nI an), .ref mA1, .ref mA2, .ref mA3, .ref mA4, .int (nI ln), .ref mLk, .int (nI xn), .ref mEx, .int (nI qn), .ref mQp, .ref mQd, .int wh, .int wt, .int fd, .int pp, .int wn]))]) [0] rfl
        have hKc := hK.sub (tys' := []) [] rfl
        refine va_calli (va_runV (As := [.int r]) (rest := [.ref g]) ⟨hx, hb, hml, hown, hts⟩ (c_MD_isRecord l dC dI g mPd mSg mSz mTo mRo mLi mKi mCo mEm mVa mA1 mA2 mA3 mA4 mLk mEx mQp mQd th pn bn en hn an ln xn qn wh wt fd pp wn r) (cwV 1 hts (vz_gV wb_MD_agreement b_815 b_817 bs_18 b_11 wc_MD_isRecord) rfl rfl rfl (by decide +kernel) ⟨Nat.le_of_ble_eq_true rfl, Nat.le_of_ble_eq_true rfl⟩) (vz_preV hPc hKc (ci := 10) (q0 := 0) rfl rfl) rfl rfl hl.1 rfl (lv_room (Nat.le_of_ble_eq_true rfl)) d_MD_agreement_39 ⟨Nat.le_of_ble_eq_true rfl, Nat.le_of_ble_eq_true rfl⟩) hS (fun q _ h => False.elim h) (fun q h => False.elim h) (fun r39 u9 t9 H1 locs ht hvm hr39 hB hzx9 hkx9 hS => ?_)
        try dsimp only at hr39
        have hP := vz_kept hP hkx9
        generalize H1 = H at hP hS ⊢
        refine lv_if_ne (tgt := 49) hx hb d_MD_agreement_42 (by decide) (fun c42 => ?_) (fun c42 => ?_)
        · refine lv_iconst (v := 0) hx hb d_MD_agreement_49 (by decide) ?_
          exact k50 _ _ _ _ ⟨by simp [orN, ← hr31, c34, ← hr39, c42], hP, hD, hS, lv_sub hl [0, 1, 2, 3, 4, 5] rfl⟩
        · refine lv_iconst (v := 1) hx hb d_MD_agreement_45 (by decide) ?_
          refine lv_goto (tgt := 50) hx hb d_MD_agreement_46 (by decide) ?_
          exact k50 _ _ _ _ ⟨by simp [orN, ← hr31, c34, ← hr39, c42], hP, hD, hS, lv_sub hl [0, 1, 2, 3, 4, 5] rfl⟩
  · refine lv_iload_n hx hb d_MD_agreement_0 rfl (lv_at hl 3 rfl) ?_
    have hPc := hP.sub (ws' := []) [] rfl
    have hKc := hK.sub (tys' := []) [] rfl
    refine va_calli (va_runS (As := [.int f]) (rest := []) ⟨hx, hb, hml, hown, hts⟩ (c_MD_isDay l dC dI f) (va_cwS 1 hts (vz_gS wb_MD_agreement b_826 b_827 b_11 wc_MD_isDay) rfl rfl rfl (by decide +kernel) ⟨Nat.le_of_ble_eq_true rfl, Nat.le_of_ble_eq_true rfl⟩) (vz_preS hPc hKc) rfl rfl hl.1 rfl (lv_room (Nat.le_of_ble_eq_true rfl)) d_MD_agreement_1 ⟨Nat.le_of_ble_eq_true rfl, Nat.le_of_ble_eq_true rfl⟩) hS (fun q _ h => False.elim h) (fun q h => False.elim h) (fun r1 u9 t9 H1 locs ht hvm hr1 hB hzx9 hkx9 hS => ?_)
    try dsimp only at hr1
    have hP := vz_kept hP hkx9
    generalize H1 = H at hP hS ⊢
    refine lv_if_eq (tgt := 21) hx hb d_MD_agreement_4 (by decide) (fun c4 => ?_) (fun c4 => ?_)
    · refine lv_iconst (v := 1) hx hb d_MD_agreement_21 (by decide) ?_
      refine lv_goto (tgt := 26) hx hb d_MD_agreement_22 (by decide) ?_
      exact k26 _ _ _ _ ⟨by simp [← hr1, c4], hP, hD, hS, lv_sub hl [0, 1, 2, 3, 4] rfl⟩
    · refine lv_iload hx hb d_MD_agreement_7 (lv_at hl 4 rfl) ?_
      have hPc := hP.sub (ws' := []) [] rfl
      have hKc := hK.sub (tys' := []) [] rfl
      refine va_calli (va_runS (As := [.int t1]) (rest := []) ⟨hx, hb, hml, hown, hts⟩ (c_MD_isDay l dC dI t1) (va_cwS 1 hts (vz_gS wb_MD_agreement b_826 b_827 b_11 wc_MD_isDay) rfl rfl rfl (by decide +kernel) ⟨Nat.le_of_ble_eq_true rfl, Nat.le_of_ble_eq_true rfl⟩) (vz_preS hPc hKc) rfl rfl hl.1 rfl (lv_room (Nat.le_of_ble_eq_true rfl)) d_MD_agreement_9 ⟨Nat.le_of_ble_eq_true rfl, Nat.le_of_ble_eq_true rfl⟩) hS (fun q _ h => False.elim h) (fun q h => False.elim h) (fun r9 u9 t9 H1 locs ht hvm hr9 hB hzx9 hkx9 hS => ?_)
      try dsimp only at hr9
      have hP := vz_kept hP hkx9
      generalize H1 = H at hP hS ⊢
      refine lv_if_eq (tgt := 21) hx hb d_MD_agreement_12 (by decide) (fun c12 => ?_) (fun c12 => ?_)
      · refine lv_iconst (v := 1) hx hb d_MD_agreement_21 (by decide) ?_
        refine lv_goto (tgt := 26) hx hb d_MD_agreement_22 (by decide) ?_
        exact k26 _ _ _ _ ⟨by simp [← hr1, c4, ← hr9, c12], hP, hD, hS, lv_sub hl [0, 1, 2, 3, 4] rfl⟩
      · refine lv_iload_n hx hb d_MD_agreement_15 rfl (lv_at hl 3 rfl) ?_
        refine lv_iload hx hb d_MD_agreement_16 (lv_at hl 4 rfl) ?_
        refine lv_icmp_le (tgt := 25) hx hb d_MD_agreement_18 (by decide) (fun c18 => ?_) (fun c18 => ?_)
        · refine lv_iconst (v := 0) hx hb d_MD_agreement_25 (by decide) ?_
          exact k26 _ _ _ _ ⟨by simp [← hr1, c4, ← hr9, c12, c18], hP, hD, hS, lv_sub hl [0, 1, 2, 3, 4] rfl⟩
        · refine lv_iconst (v := 1) hx hb d_MD_agreement_21 (by decide) ?_
          refine lv_goto (tgt := 26) hx hb d_MD_agreement_22 (by decide) ?_
          exact k26 _ _ _ _ ⟨by simp [← hr1, c4, ← hr9, c12, c18], hP, hD, hS, lv_sub hl [0, 1, 2, 3, 4] rfl⟩

set_option maxHeartbeats 4000000 in
set_option maxRecDepth 100000 in
theorem c_MD_lookB (l : Launch) (dC : Nat → ClassId) (dI : Nat → Nat → Nat) (sz : Nat) (g mPd mSg mSz mTo mRo mLi mKi mCo mEm mVa mA1 mA2 mA3 mA4 mLk mEx mQp mQd : Nat) (th : Int32) (pn bn en hn an ln xn qn : Nat) (wh wt fd pp wn : Int32) (k j : Int32) (hok : ¬ thrF (orN (inF k 0 (nI ln - 1)) (inF j 0 5)) 0 0 = 0) : Met l y_MD_look ws_MD_look ({ frames := 1, cells := 0, slots := 0, locals := 23 }) (va_Pc [.ref g, .int k, .int j] (fun U => U.heap.size = sz ∧ va_P (dC, dI) vwCl [(g, .inr (10, [.int th, .ref mPd, .int (nI pn), .int (nI bn), .ref mSg, .ref mSz, .ref mTo, .int (nI en), .ref mRo, .ref mLi, .int (nI hn), .ref mKi, .ref mCo, .ref mEm, .ref mVa, .int (nI an), .ref mA1, .ref mA2, .ref mA3, .ref mA4, .int (nI ln), .ref mLk, .int (nI xn), .ref mEx, .int (nI qn), .ref mQp, .ref mQd, .int wh, .int wt, .int fd, .int pp, .int wn]))] U.heap ∧ va_K (dC, dI) vwCl [] U ∧ va_D (fun _ => True) [(g, .inr (10, [.int th, .ref mPd, .int (nI pn), .int (nI bn), .ref mSg, .ref mSz, .ref mTo, .int (nI en), .ref mRo, .ref mLi, .int (nI hn), .ref mKi, .ref mCo, .ref mEm, .ref mVa, .int (nI an), .ref mA1, .ref mA2, .ref mA3, .ref mA4, .int (nI ln), .ref mLk, .int (nI xn), .ref mEx, .int (nI qn), .ref mQp, .ref mQd, .int wh, .int wt, .int fd, .int pp, .int wn]))])) (va_Qi (fun (res : Int32) (_ : Unit) => res = 0) (fun _ t => va_P (dC, dI) vwCl [(g, .inr (10, [.int (thrF (orN (inF k 0 (nI ln - 1)) (inF j 0 5)) 0 0), .ref mPd, .int (nI pn), .int (nI bn), .ref mSg, .ref mSz, .ref mTo, .int (nI en), .ref mRo, .ref mLi, .int (nI hn), .ref mKi, .ref mCo, .ref mEm, .ref mVa, .int (nI an), .ref mA1, .ref mA2, .ref mA3, .ref mA4, .int (nI ln), .ref mLk, .int (nI xn), .ref mEx, .int (nI qn), .ref mQp, .ref mQd, .int wh, .int wt, .int fd, .int pp, .int wn]))] t.heap ∧ va_K (dC, dI) vwCl [] t ∧ va_D (va_A [(g, .inr (10, [.int th, .ref mPd, .int (nI pn), .int (nI bn), .ref mSg, .ref mSz, .ref mTo, .int (nI en), .ref mRo, .ref mLi, .int (nI hn), .ref mKi, .ref mCo, .ref mEm, .ref mVa, .int (nI an), .ref mA1, .ref mA2, .ref mA3, .ref mA4, .int (nI ln), .ref mLk, .int (nI xn), .ref mEx, .int (nI qn), .ref mQp, .ref mQd, .int wh, .int wt, .int fd, .int pp, .int wn]))] sz) [(g, .inr (10, [.int (thrF (orN (inF k 0 (nI ln - 1)) (inF j 0 5)) 0 0), .ref mPd, .int (nI pn), .int (nI bn), .ref mSg, .ref mSz, .ref mTo, .int (nI en), .ref mRo, .ref mLi, .int (nI hn), .ref mKi, .ref mCo, .ref mEm, .ref mVa, .int (nI an), .ref mA1, .ref mA2, .ref mA3, .ref mA4, .int (nI ln), .ref mLk, .int (nI xn), .ref mEx, .int (nI qn), .ref mQp, .ref mQd, .int wh, .int wt, .int fd, .int pp, .int wn]))]) (va_A [(g, .inr (10, [.int th, .ref mPd, .int (nI pn), .int (nI bn), .ref mSg, .ref mSz, .ref mTo, .int (nI en), .ref mRo, .ref mLi, .int (nI hn), .ref mKi, .ref mCo, .ref mEm, .ref mVa, .int (nI an), .ref mA1, .ref mA2, .ref mA3, .ref mA4, .int (nI ln), .ref mLk, .int (nI xn), .ref mEx, .int (nI qn), .ref mQp, .ref mQd, .int wh, .int wt, .int fd, .int pp, .int wn]))] sz)) 0 0 (va_A [(g, .inr (10, [.int th, .ref mPd, .int (nI pn), .int (nI bn), .ref mSg, .ref mSz, .ref mTo, .int (nI en), .ref mRo, .ref mLi, .int (nI hn), .ref mKi, .ref mCo, .ref mEm, .ref mVa, .int (nI an), .ref mA1, .ref mA2, .ref mA3, .ref mA4, .int (nI ln), .ref mLk, .int (nI xn), .ref mEx, .int (nI qn), .ref mQp, .ref mQd, .int wh, .int wt, .int fd, .int pp, .int wn]))] sz) := by
  refine Met.ofW (cc := k_MD_look) (maxL := 3) (ret := (some .int)) (by decide) rfl ?_
  intro p e s m args below meth c s₁ B hml hv
  obtain ⟨rfl, hsz, hP, hK, hD0⟩ := hv
  have hx := B.exec
  have hb := B.bytes
  have hr := B.returns
  have hts := atoms_spec (ws := ws_MD_look) B.pre
  have hown : s.vm.findClass R_MD = some m.cls := findClass_of_methodNamed B.named
  have hlocks := B.notSynchronized
  subst hsz
  have hD := hD0.self (sz := s.heap.size)
  generalize hAe : va_A [(g, .inr (10, [.int th, .ref mPd, .int (nI pn), .int (nI bn), .ref mSg, .ref mSz, .ref mTo, .int (nI en), .ref mRo, .ref mLi, .int (nI hn), .ref mKi, .ref mCo, .ref mEm, .ref mVa, .int (nI an), .ref mA1, .ref mA2, .ref mA3, .ref mA4, .int (nI ln), .ref mLk, .int (nI xn), .ref mEx, .int (nI qn), .ref mQp, .ref mQd, .int wh, .int wt, .int fd, .int pp, .int wn]))] s.heap.size = A at hD ⊢
  have hA : ∀ q : Nat, s.heap.size ≤ q → A q := fun q h => by rw [← hAe]; exact Or.inr h
  have hS : va_S A s.heap s.heap [] := va_S.rf
  have hP : va_P (dC, dI) vwCl [(g, .inr (10, [.int th, .ref mPd, .int (nI pn), .int (nI bn), .ref mSg, .ref mSz, .ref mTo, .int (nI en), .ref mRo, .ref mLi, .int (nI hn), .ref mKi, .ref mCo, .ref mEm, .ref mVa, .int (nI an), .ref mA1, .ref mA2, .ref mA3, .ref mA4, .int (nI ln), .ref mLk, .int (nI xn), .ref mEx, .int (nI qn), .ref mQp, .ref mQd, .int wh, .int wt, .int fd, .int pp, .int wn]))] s.heap := hP
  have iMD : ∀ w ∈ u_ws R_MD T_MD 32, w ∈ ws_MD_look := fun w h => wb_MD_look w (in_MD w h)
  have hl := lv_entry ([.ref g, .int k, .int j]) (n := 3) (Nat.le_of_ble_eq_true rfl)
  rw [lg_entry_eq]
  generalize (lg_sl ([.ref g, .int k, .int j]) ++ List.replicate (3 - (lg_sl ([.ref g, .int k, .int j])).length) Slot.unset).toArray = ls at hl ⊢
  have hl : lv_has ls 3 [(0, .ref g), (1, .int k), (2, .int j)] := hl
  refine lv_aload_n hx hb d_MD_look_0 rfl (lv_at hl 0 rfl) ?_
  refine vz_join 29 [.ref g] (fun b9 H9 locs9 ls9 => (b9 = orN (inF k 0 (nI ln - 1)) (inF j 0 5)) ∧ va_P (dC, dI) vwCl [(g, .inr (10, [.int th, .ref mPd, .int (nI pn), .int (nI bn), .ref mSg, .ref mSz, .ref mTo, .int (nI en), .ref mRo, .ref mLi, .int (nI hn), .ref mKi, .ref mCo, .ref mEm, .ref mVa, .int (nI an), .ref mA1, .ref mA2, .ref mA3, .ref mA4, .int (nI ln), .ref mLk, .int (nI xn), .ref mEx, .int (nI qn), .ref mQp, .ref mQd, .int wh, .int wt, .int fd, .int pp, .int wn]))] H9 ∧ va_D A [(g, .inr (10, [.int th, .ref mPd, .int (nI pn), .int (nI bn), .ref mSg, .ref mSz, .ref mTo, .int (nI en), .ref mRo, .ref mLi, .int (nI hn), .ref mKi, .ref mCo, .ref mEm, .ref mVa, .int (nI an), .ref mA1, .ref mA2, .ref mA3, .ref mA4, .int (nI ln), .ref mLk, .int (nI xn), .ref mEx, .int (nI qn), .ref mQp, .ref mQd, .int wh, .int wt, .int fd, .int pp, .int wn]))] ∧ va_S A s.heap H9 locs9 ∧ lv_has ls9 3 [(0, .ref g), (1, .int k), (2, .int j)]) (fun b9 H locs ls h9 => ?_) (fun k29 => ?_)
  · obtain ⟨rfl, hP, hD, hS, hl⟩ := h9
    refine lv_iconst (v := 0) hx hb d_MD_look_29 (by decide) ?_
    refine lv_iconst (v := 0) hx hb d_MD_look_30 (by decide) ?_
    have hPc := hP.sub (ws' := [(g, .inr (10, [.int th, .ref mPd, .int (nI pn), .int (nI bn), .ref mSg, .ref mSz, .ref mTo, .int (nI en), .ref mRo, .ref mLi, .int (nI hn), .ref mKi, .ref mCo, .ref mEm, .ref mVa, .int (nI an), .ref mA1, .ref mA2, .ref mA3, .ref mA4, .int (nI ln), .ref mLk, .int (nI xn), .ref mEx, .int (nI qn), .ref mQp, .ref mQd, .int wh, .int wt, .int fd, .int pp, .int wn]))]) [0] rfl
    have hKc := hK.sub (tys' := []) [] rfl
    have hDc := hD.sub (ws' := [(g, .inr (10, [.int th, .ref mPd, .int (nI pn), .int (nI bn), .ref mSg, .ref mSz, .ref mTo, .int (nI en), .ref mRo, .ref mLi, .int (nI hn), .ref mKi, .ref mCo, .ref mEm, .ref mVa, .int (nI an), .ref mA1, .ref mA2, .ref mA3, .ref mA4, .int (nI ln), .ref mLk, .int (nI xn), .ref mEx, .int (nI qn), .ref mQp, .ref mQd, .int wh, .int wt, .int fd, .int pp, .int wn]))]) [0] (by decide) rfl
    have hFc := va_free (wc := [(g, .inr (10, [.int th, .ref mPd, .int (nI pn), .int (nI bn), .ref mSg, .ref mSz, .ref mTo, .int (nI en), .ref mRo, .ref mLi, .int (nI hn), .ref mKi, .ref mCo, .ref mEm, .ref mVa, .int (nI an), .ref mA1, .ref mA2, .ref mA3, .ref mA4, .int (nI ln), .ref mLk, .int (nI xn), .ref mEx, .int (nI qn), .ref mQp, .ref mQd, .int wh, .int wt, .int fd, .int pp, .int wn]))]) hD hS hA [0] rfl
    refine va_calli (va_runV (As := [.int (orN (inF k 0 (nI ln - 1)) (inF j 0 5)), .int 0, .int 0]) (rest := []) ⟨hx, hb, hml, hown, hts⟩ (c_MD_throwing l dC dI H.size g mPd mSg mSz mTo mRo mLi mKi mCo mEm mVa mA1 mA2 mA3 mA4 mLk mEx mQp mQd th pn bn en hn an ln xn qn wh wt fd pp wn (orN (inF k 0 (nI ln - 1)) (inF j 0 5)) 0 0) (cwV 3 hts (vz_gV wb_MD_look b_777 b_779 bs_15 b_11 wc_MD_throwing) rfl rfl rfl (by decide +kernel) ⟨Nat.le_of_ble_eq_true rfl, Nat.le_of_ble_eq_true rfl⟩) (vz_preVw (A := A) hPc hKc hDc (ci := 10) (q0 := 0) rfl rfl) rfl rfl hl.1 rfl (lv_room (Nat.le_of_ble_eq_true rfl)) d_MD_look_31 ⟨Nat.le_of_ble_eq_true rfl, Nat.le_of_ble_eq_true rfl⟩) hS (fun q _ h => hFc q h) hFc (fun r31 u9 t9 H1 locs ht hvm hr31 hB hzx9 hkx9 hS => ?_)
    try dsimp only at hr31
    obtain ⟨hP1, hK1, hD1⟩ := hB
    rw [ht] at hP1
    obtain ⟨hP, hD⟩ := va_join (wr := []) (w1 := [(g, .inr (10, [.int (thrF (orN (inF k 0 (nI ln - 1)) (inF j 0 5)) 0 0), .ref mPd, .int (nI pn), .int (nI bn), .ref mSg, .ref mSz, .ref mTo, .int (nI en), .ref mRo, .ref mLi, .int (nI hn), .ref mKi, .ref mCo, .ref mEm, .ref mVa, .int (nI an), .ref mA1, .ref mA2, .ref mA3, .ref mA4, .int (nI ln), .ref mLk, .int (nI xn), .ref mEx, .int (nI qn), .ref mQp, .ref mQd, .int wh, .int wt, .int fd, .int pp, .int wn]))]) hP hD [0] [] rfl rfl (by decide) (by decide) hkx9 hFc hP1 hD1
    generalize H1 = H at hP hS ⊢
    have hP : va_P (dC, dI) vwCl [(g, .inr (10, [.int (thrF (orN (inF k 0 (nI ln - 1)) (inF j 0 5)) 0 0), .ref mPd, .int (nI pn), .int (nI bn), .ref mSg, .ref mSz, .ref mTo, .int (nI en), .ref mRo, .ref mLi, .int (nI hn), .ref mKi, .ref mCo, .ref mEm, .ref mVa, .int (nI an), .ref mA1, .ref mA2, .ref mA3, .ref mA4, .int (nI ln), .ref mLk, .int (nI xn), .ref mEx, .int (nI qn), .ref mQp, .ref mQd, .int wh, .int wt, .int fd, .int pp, .int wn]))] H := hP
    have hD : va_D A [(g, .inr (10, [.int (thrF (orN (inF k 0 (nI ln - 1)) (inF j 0 5)) 0 0), .ref mPd, .int (nI pn), .int (nI bn), .ref mSg, .ref mSz, .ref mTo, .int (nI en), .ref mRo, .ref mLi, .int (nI hn), .ref mKi, .ref mCo, .ref mEm, .ref mVa, .int (nI an), .ref mA1, .ref mA2, .ref mA3, .ref mA4, .int (nI ln), .ref mLk, .int (nI xn), .ref mEx, .int (nI qn), .ref mQp, .ref mQd, .int wh, .int wt, .int fd, .int pp, .int wn]))] := hD
    refine lv_if_eq (tgt := 39) hx hb d_MD_look_34 (by decide) (fun c34 => ?_) (fun c34 => ?_)
    · exact absurd (thrF_z (hr31.symm.trans c34)) hok
    · refine lv_iconst (v := 0) hx hb d_MD_look_37 (by decide) ?_
      have hP9 := hP.sub (ws' := [(g, .inr (10, [.int (thrF (orN (inF k 0 (nI ln - 1)) (inF j 0 5)) 0 0), .ref mPd, .int (nI pn), .int (nI bn), .ref mSg, .ref mSz, .ref mTo, .int (nI en), .ref mRo, .ref mLi, .int (nI hn), .ref mKi, .ref mCo, .ref mEm, .ref mVa, .int (nI an), .ref mA1, .ref mA2, .ref mA3, .ref mA4, .int (nI ln), .ref mLk, .int (nI xn), .ref mEx, .int (nI qn), .ref mQp, .ref mQd, .int wh, .int wt, .int fd, .int pp, .int wn]))]) [0] rfl
      have hD9 := hD.sub (ws' := [(g, .inr (10, [.int (thrF (orN (inF k 0 (nI ln - 1)) (inF j 0 5)) 0 0), .ref mPd, .int (nI pn), .int (nI bn), .ref mSg, .ref mSz, .ref mTo, .int (nI en), .ref mRo, .ref mLi, .int (nI hn), .ref mKi, .ref mCo, .ref mEm, .ref mVa, .int (nI an), .ref mA1, .ref mA2, .ref mA3, .ref mA4, .int (nI ln), .ref mLk, .int (nI xn), .ref mEx, .int (nI qn), .ref mQp, .ref mQd, .int wh, .int wt, .int fd, .int pp, .int wn]))]) [0] (by decide) rfl
      exact W.iret (v := 0) hx hb hr (fun t ht hW => ⟨⟨0, (), rfl, rfl, by rw [ht]; exact hP9, va_K.moved hW.alike hK, hD9⟩, hS.F ht⟩) hS.2.2 d_MD_look_38
  · refine lv_iload_n hx hb d_MD_look_1 rfl (lv_at hl 1 rfl) ?_
    refine lv_iconst (v := 0) hx hb d_MD_look_2 (by decide) ?_
    refine lv_aload_n hx hb d_MD_look_3 rfl (lv_at hl 0 rfl) ?_
    refine va_get (D := (dC, dI)) (ci := 10) (v := .int (nI ln)) (C := R_MD) (T := T_MD) (N := 32) hx hb hts iMD hown hK hP 0 rfl rfl 20 (by decide) (hts _ (wb_MD_look _ b_688)) (fun _ h9 => h9) rfl d_MD_look_4 ?_
    refine lv_iconst (v := 1) hx hb d_MD_look_7 (by decide) ?_
    refine lv_isub hx hb d_MD_look_8 ?_
    have hPc := hP.sub (ws' := []) [] rfl
    have hKc := hK.sub (tys' := []) [] rfl
    refine va_calli (va_runS (As := [.int k, .int 0, .int ((nI ln) - 1)]) (rest := [.ref g]) ⟨hx, hb, hml, hown, hts⟩ (c_MD_in l dC dI k 0 ((nI ln) - 1)) (va_cwS 3 hts (vz_gS wb_MD_look b_796 b_797 b_11 wc_MD_in) rfl rfl rfl (by decide +kernel) ⟨Nat.le_of_ble_eq_true rfl, Nat.le_of_ble_eq_true rfl⟩) (vz_preS hPc hKc) rfl rfl hl.1 rfl (lv_room (Nat.le_of_ble_eq_true rfl)) d_MD_look_9 ⟨Nat.le_of_ble_eq_true rfl, Nat.le_of_ble_eq_true rfl⟩) hS (fun q _ h => False.elim h) (fun q h => False.elim h) (fun r9 u9 t9 H1 locs ht hvm hr9 hB hzx9 hkx9 hS => ?_)
    try dsimp only at hr9
    have hP := vz_kept hP hkx9
    generalize H1 = H at hP hS ⊢
    refine lv_if_eq (tgt := 24) hx hb d_MD_look_12 (by decide) (fun c12 => ?_) (fun c12 => ?_)
    · refine lv_iconst (v := 1) hx hb d_MD_look_24 (by decide) ?_
      refine lv_goto (tgt := 29) hx hb d_MD_look_25 (by decide) ?_
      exact k29 _ _ _ _ ⟨by simp [orN, ← hr9, c12], hP, hD, hS, lv_sub hl [0, 1, 2] rfl⟩
    · refine lv_iload_n hx hb d_MD_look_15 rfl (lv_at hl 2 rfl) ?_
      refine lv_iconst (v := 0) hx hb d_MD_look_16 (by decide) ?_
      refine lv_iconst (v := 5) hx hb d_MD_look_17 (by decide) ?_
      have hPc := hP.sub (ws' := []) [] rfl
      have hKc := hK.sub (tys' := []) [] rfl
      refine va_calli (va_runS (As := [.int j, .int 0, .int 5]) (rest := [.ref g]) ⟨hx, hb, hml, hown, hts⟩ (c_MD_in l dC dI j 0 5) (va_cwS 3 hts (vz_gS wb_MD_look b_796 b_797 b_11 wc_MD_in) rfl rfl rfl (by decide +kernel) ⟨Nat.le_of_ble_eq_true rfl, Nat.le_of_ble_eq_true rfl⟩) (vz_preS hPc hKc) rfl rfl hl.1 rfl (lv_room (Nat.le_of_ble_eq_true rfl)) d_MD_look_18 ⟨Nat.le_of_ble_eq_true rfl, Nat.le_of_ble_eq_true rfl⟩) hS (fun q _ h => False.elim h) (fun q h => False.elim h) (fun r18 u9 t9 H1 locs ht hvm hr18 hB hzx9 hkx9 hS => ?_)
      try dsimp only at hr18
      have hP := vz_kept hP hkx9
      generalize H1 = H at hP hS ⊢
      refine lv_if_ne (tgt := 28) hx hb d_MD_look_21 (by decide) (fun c21 => ?_) (fun c21 => ?_)
      · refine lv_iconst (v := 0) hx hb d_MD_look_28 (by decide) ?_
        exact k29 _ _ _ _ ⟨by simp [orN, ← hr9, c12, ← hr18, c21], hP, hD, hS, lv_sub hl [0, 1, 2] rfl⟩
      · refine lv_iconst (v := 1) hx hb d_MD_look_24 (by decide) ?_
        refine lv_goto (tgt := 29) hx hb d_MD_look_25 (by decide) ?_
        exact k29 _ _ _ _ ⟨by simp [orN, ← hr9, c12, ← hr18, c21], hP, hD, hS, lv_sub hl [0, 1, 2] rfl⟩

set_option maxHeartbeats 4000000 in
set_option maxRecDepth 100000 in
theorem c_MD_lookG (l : Launch) (dC : Nat → ClassId) (dI : Nat → Nat → Nat) (sz : Nat) (cI : ClassId) (g mPd mSg mSz mTo mRo mLi mKi mCo mEm mVa mA1 mA2 mA3 mA4 mLk mEx mQp mQd : Nat) (th : Int32) (pn bn en hn an ln xn qn : Nat) (wh wt fd pp wn : Int32) (lk : Nat → Int32) (hln : ln ≤ 100) (k j : Nat) (hk : k < ln) (hj : j < 6) (hok : thrF (orN (inF (nI k) 0 (nI ln - 1)) (inF (nI j) 0 5)) 0 0 = 0) : Met l y_MD_look ws_MD_look ({ frames := 1, cells := 0, slots := 0, locals := 23 }) (va_Pc [.ref g, .int (nI k), .int (nI j)] (fun U => U.heap.size = sz ∧ va_P (dC, dI) vwCl [(g, .inr (10, [.int th, .ref mPd, .int (nI pn), .int (nI bn), .ref mSg, .ref mSz, .ref mTo, .int (nI en), .ref mRo, .ref mLi, .int (nI hn), .ref mKi, .ref mCo, .ref mEm, .ref mVa, .int (nI an), .ref mA1, .ref mA2, .ref mA3, .ref mA4, .int (nI ln), .ref mLk, .int (nI xn), .ref mEx, .int (nI qn), .ref mQp, .ref mQd, .int wh, .int wt, .int fd, .int pp, .int wn])), (mLk, .inl (cI, 600, .inl lk))] U.heap ∧ va_K (dC, dI) vwCl [(cI, .int)] U ∧ va_D (fun _ => True) [(g, .inr (10, [.int th, .ref mPd, .int (nI pn), .int (nI bn), .ref mSg, .ref mSz, .ref mTo, .int (nI en), .ref mRo, .ref mLi, .int (nI hn), .ref mKi, .ref mCo, .ref mEm, .ref mVa, .int (nI an), .ref mA1, .ref mA2, .ref mA3, .ref mA4, .int (nI ln), .ref mLk, .int (nI xn), .ref mEx, .int (nI qn), .ref mQp, .ref mQd, .int wh, .int wt, .int fd, .int pp, .int wn])), (mLk, .inl (cI, 600, .inl lk))])) (va_Qi (fun (res : Int32) (_ : Unit) => res = lk (6 * k + j)) (fun _ t => va_P (dC, dI) vwCl [(g, .inr (10, [.int (thrF (orN (inF (nI k) 0 (nI ln - 1)) (inF (nI j) 0 5)) 0 0), .ref mPd, .int (nI pn), .int (nI bn), .ref mSg, .ref mSz, .ref mTo, .int (nI en), .ref mRo, .ref mLi, .int (nI hn), .ref mKi, .ref mCo, .ref mEm, .ref mVa, .int (nI an), .ref mA1, .ref mA2, .ref mA3, .ref mA4, .int (nI ln), .ref mLk, .int (nI xn), .ref mEx, .int (nI qn), .ref mQp, .ref mQd, .int wh, .int wt, .int fd, .int pp, .int wn])), (mLk, .inl (cI, 600, .inl lk))] t.heap ∧ va_K (dC, dI) vwCl [(cI, .int)] t ∧ va_D (va_A [(g, .inr (10, [.int th, .ref mPd, .int (nI pn), .int (nI bn), .ref mSg, .ref mSz, .ref mTo, .int (nI en), .ref mRo, .ref mLi, .int (nI hn), .ref mKi, .ref mCo, .ref mEm, .ref mVa, .int (nI an), .ref mA1, .ref mA2, .ref mA3, .ref mA4, .int (nI ln), .ref mLk, .int (nI xn), .ref mEx, .int (nI qn), .ref mQp, .ref mQd, .int wh, .int wt, .int fd, .int pp, .int wn])), (mLk, .inl (cI, 600, .inl lk))] sz) [(g, .inr (10, [.int (thrF (orN (inF (nI k) 0 (nI ln - 1)) (inF (nI j) 0 5)) 0 0), .ref mPd, .int (nI pn), .int (nI bn), .ref mSg, .ref mSz, .ref mTo, .int (nI en), .ref mRo, .ref mLi, .int (nI hn), .ref mKi, .ref mCo, .ref mEm, .ref mVa, .int (nI an), .ref mA1, .ref mA2, .ref mA3, .ref mA4, .int (nI ln), .ref mLk, .int (nI xn), .ref mEx, .int (nI qn), .ref mQp, .ref mQd, .int wh, .int wt, .int fd, .int pp, .int wn])), (mLk, .inl (cI, 600, .inl lk))]) (va_A [(g, .inr (10, [.int th, .ref mPd, .int (nI pn), .int (nI bn), .ref mSg, .ref mSz, .ref mTo, .int (nI en), .ref mRo, .ref mLi, .int (nI hn), .ref mKi, .ref mCo, .ref mEm, .ref mVa, .int (nI an), .ref mA1, .ref mA2, .ref mA3, .ref mA4, .int (nI ln), .ref mLk, .int (nI xn), .ref mEx, .int (nI qn), .ref mQp, .ref mQd, .int wh, .int wt, .int fd, .int pp, .int wn])), (mLk, .inl (cI, 600, .inl lk))] sz)) 0 0 (va_A [(g, .inr (10, [.int th, .ref mPd, .int (nI pn), .int (nI bn), .ref mSg, .ref mSz, .ref mTo, .int (nI en), .ref mRo, .ref mLi, .int (nI hn), .ref mKi, .ref mCo, .ref mEm, .ref mVa, .int (nI an), .ref mA1, .ref mA2, .ref mA3, .ref mA4, .int (nI ln), .ref mLk, .int (nI xn), .ref mEx, .int (nI qn), .ref mQp, .ref mQd, .int wh, .int wt, .int fd, .int pp, .int wn])), (mLk, .inl (cI, 600, .inl lk))] sz) := by
  refine Met.ofW (cc := k_MD_look) (maxL := 3) (ret := (some .int)) (by decide) rfl ?_
  intro p e s m args below meth c s₁ B hml hv
  obtain ⟨rfl, hsz, hP, hK, hD0⟩ := hv
  have hx := B.exec
  have hb := B.bytes
  have hr := B.returns
  have hts := atoms_spec (ws := ws_MD_look) B.pre
  have hown : s.vm.findClass R_MD = some m.cls := findClass_of_methodNamed B.named
  have hlocks := B.notSynchronized
  subst hsz
  have hD := hD0.self (sz := s.heap.size)
  generalize hAe : va_A [(g, .inr (10, [.int th, .ref mPd, .int (nI pn), .int (nI bn), .ref mSg, .ref mSz, .ref mTo, .int (nI en), .ref mRo, .ref mLi, .int (nI hn), .ref mKi, .ref mCo, .ref mEm, .ref mVa, .int (nI an), .ref mA1, .ref mA2, .ref mA3, .ref mA4, .int (nI ln), .ref mLk, .int (nI xn), .ref mEx, .int (nI qn), .ref mQp, .ref mQd, .int wh, .int wt, .int fd, .int pp, .int wn])), (mLk, .inl (cI, 600, .inl lk))] s.heap.size = A at hD ⊢
  have hA : ∀ q : Nat, s.heap.size ≤ q → A q := fun q h => by rw [← hAe]; exact Or.inr h
  have hS : va_S A s.heap s.heap [] := va_S.rf
  have hP : va_P (dC, dI) vwCl [(g, .inr (10, [.int th, .ref mPd, .int (nI pn), .int (nI bn), .ref mSg, .ref mSz, .ref mTo, .int (nI en), .ref mRo, .ref mLi, .int (nI hn), .ref mKi, .ref mCo, .ref mEm, .ref mVa, .int (nI an), .ref mA1, .ref mA2, .ref mA3, .ref mA4, .int (nI ln), .ref mLk, .int (nI xn), .ref mEx, .int (nI qn), .ref mQp, .ref mQd, .int wh, .int wt, .int fd, .int pp, .int wn])), (mLk, .inl (cI, 600, .inl lk))] s.heap := hP
  have iMD : ∀ w ∈ u_ws R_MD T_MD 32, w ∈ ws_MD_look := fun w h => wb_MD_look w (in_MD w h)
  have hl := lv_entry ([.ref g, .int (nI k), .int (nI j)]) (n := 3) (Nat.le_of_ble_eq_true rfl)
  rw [lg_entry_eq]
  generalize (lg_sl ([.ref g, .int (nI k), .int (nI j)]) ++ List.replicate (3 - (lg_sl ([.ref g, .int (nI k), .int (nI j)])).length) Slot.unset).toArray = ls at hl ⊢
  have hl : lv_has ls 3 [(0, .ref g), (1, .int (nI k)), (2, .int (nI j))] := hl
  refine lv_aload_n hx hb d_MD_look_0 rfl (lv_at hl 0 rfl) ?_
  refine vz_join 29 [.ref g] (fun b9 H9 locs9 ls9 => (b9 = orN (inF (nI k) 0 (nI ln - 1)) (inF (nI j) 0 5)) ∧ va_P (dC, dI) vwCl [(g, .inr (10, [.int th, .ref mPd, .int (nI pn), .int (nI bn), .ref mSg, .ref mSz, .ref mTo, .int (nI en), .ref mRo, .ref mLi, .int (nI hn), .ref mKi, .ref mCo, .ref mEm, .ref mVa, .int (nI an), .ref mA1, .ref mA2, .ref mA3, .ref mA4, .int (nI ln), .ref mLk, .int (nI xn), .ref mEx, .int (nI qn), .ref mQp, .ref mQd, .int wh, .int wt, .int fd, .int pp, .int wn])), (mLk, .inl (cI, 600, .inl lk))] H9 ∧ va_D A [(g, .inr (10, [.int th, .ref mPd, .int (nI pn), .int (nI bn), .ref mSg, .ref mSz, .ref mTo, .int (nI en), .ref mRo, .ref mLi, .int (nI hn), .ref mKi, .ref mCo, .ref mEm, .ref mVa, .int (nI an), .ref mA1, .ref mA2, .ref mA3, .ref mA4, .int (nI ln), .ref mLk, .int (nI xn), .ref mEx, .int (nI qn), .ref mQp, .ref mQd, .int wh, .int wt, .int fd, .int pp, .int wn])), (mLk, .inl (cI, 600, .inl lk))] ∧ va_S A s.heap H9 locs9 ∧ lv_has ls9 3 [(0, .ref g), (1, .int (nI k)), (2, .int (nI j))]) (fun b9 H locs ls h9 => ?_) (fun k29 => ?_)
  · obtain ⟨rfl, hP, hD, hS, hl⟩ := h9
    refine lv_iconst (v := 0) hx hb d_MD_look_29 (by decide) ?_
    refine lv_iconst (v := 0) hx hb d_MD_look_30 (by decide) ?_
    have hPc := hP.sub (ws' := [(g, .inr (10, [.int th, .ref mPd, .int (nI pn), .int (nI bn), .ref mSg, .ref mSz, .ref mTo, .int (nI en), .ref mRo, .ref mLi, .int (nI hn), .ref mKi, .ref mCo, .ref mEm, .ref mVa, .int (nI an), .ref mA1, .ref mA2, .ref mA3, .ref mA4, .int (nI ln), .ref mLk, .int (nI xn), .ref mEx, .int (nI qn), .ref mQp, .ref mQd, .int wh, .int wt, .int fd, .int pp, .int wn]))]) [0] rfl
    have hKc := hK.sub (tys' := []) [] rfl
    have hDc := hD.sub (ws' := [(g, .inr (10, [.int th, .ref mPd, .int (nI pn), .int (nI bn), .ref mSg, .ref mSz, .ref mTo, .int (nI en), .ref mRo, .ref mLi, .int (nI hn), .ref mKi, .ref mCo, .ref mEm, .ref mVa, .int (nI an), .ref mA1, .ref mA2, .ref mA3, .ref mA4, .int (nI ln), .ref mLk, .int (nI xn), .ref mEx, .int (nI qn), .ref mQp, .ref mQd, .int wh, .int wt, .int fd, .int pp, .int wn]))]) [0] (by decide) rfl
    have hFc := va_free (wc := [(g, .inr (10, [.int th, .ref mPd, .int (nI pn), .int (nI bn), .ref mSg, .ref mSz, .ref mTo, .int (nI en), .ref mRo, .ref mLi, .int (nI hn), .ref mKi, .ref mCo, .ref mEm, .ref mVa, .int (nI an), .ref mA1, .ref mA2, .ref mA3, .ref mA4, .int (nI ln), .ref mLk, .int (nI xn), .ref mEx, .int (nI qn), .ref mQp, .ref mQd, .int wh, .int wt, .int fd, .int pp, .int wn]))]) hD hS hA [0] rfl
    refine va_calli (va_runV (As := [.int (orN (inF (nI k) 0 (nI ln - 1)) (inF (nI j) 0 5)), .int 0, .int 0]) (rest := []) ⟨hx, hb, hml, hown, hts⟩ (c_MD_throwing l dC dI H.size g mPd mSg mSz mTo mRo mLi mKi mCo mEm mVa mA1 mA2 mA3 mA4 mLk mEx mQp mQd th pn bn en hn an ln xn qn wh wt fd pp wn (orN (inF (nI k) 0 (nI ln - 1)) (inF (nI j) 0 5)) 0 0) (cwV 3 hts (vz_gV wb_MD_look b_777 b_779 bs_15 b_11 wc_MD_throwing) rfl rfl rfl (by decide +kernel) ⟨Nat.le_of_ble_eq_true rfl, Nat.le_of_ble_eq_true rfl⟩) (vz_preVw (A := A) hPc hKc hDc (ci := 10) (q0 := 0) rfl rfl) rfl rfl hl.1 rfl (lv_room (Nat.le_of_ble_eq_true rfl)) d_MD_look_31 ⟨Nat.le_of_ble_eq_true rfl, Nat.le_of_ble_eq_true rfl⟩) hS (fun q _ h => hFc q h) hFc (fun r31 u9 t9 H1 locs ht hvm hr31 hB hzx9 hkx9 hS => ?_)
    try dsimp only at hr31
    obtain ⟨hP1, hK1, hD1⟩ := hB
    rw [ht] at hP1
    obtain ⟨hP, hD⟩ := va_join (wr := [(mLk, .inl (cI, 600, .inl lk))]) (w1 := [(g, .inr (10, [.int (thrF (orN (inF (nI k) 0 (nI ln - 1)) (inF (nI j) 0 5)) 0 0), .ref mPd, .int (nI pn), .int (nI bn), .ref mSg, .ref mSz, .ref mTo, .int (nI en), .ref mRo, .ref mLi, .int (nI hn), .ref mKi, .ref mCo, .ref mEm, .ref mVa, .int (nI an), .ref mA1, .ref mA2, .ref mA3, .ref mA4, .int (nI ln), .ref mLk, .int (nI xn), .ref mEx, .int (nI qn), .ref mQp, .ref mQd, .int wh, .int wt, .int fd, .int pp, .int wn]))]) hP hD [0] [1] rfl rfl (by decide) (by decide) hkx9 hFc hP1 hD1
    generalize H1 = H at hP hS ⊢
    have hP : va_P (dC, dI) vwCl [(mLk, .inl (cI, 600, .inl lk)), (g, .inr (10, [.int (thrF (orN (inF (nI k) 0 (nI ln - 1)) (inF (nI j) 0 5)) 0 0), .ref mPd, .int (nI pn), .int (nI bn), .ref mSg, .ref mSz, .ref mTo, .int (nI en), .ref mRo, .ref mLi, .int (nI hn), .ref mKi, .ref mCo, .ref mEm, .ref mVa, .int (nI an), .ref mA1, .ref mA2, .ref mA3, .ref mA4, .int (nI ln), .ref mLk, .int (nI xn), .ref mEx, .int (nI qn), .ref mQp, .ref mQd, .int wh, .int wt, .int fd, .int pp, .int wn]))] H := hP
    have hD : va_D A [(mLk, .inl (cI, 600, .inl lk)), (g, .inr (10, [.int (thrF (orN (inF (nI k) 0 (nI ln - 1)) (inF (nI j) 0 5)) 0 0), .ref mPd, .int (nI pn), .int (nI bn), .ref mSg, .ref mSz, .ref mTo, .int (nI en), .ref mRo, .ref mLi, .int (nI hn), .ref mKi, .ref mCo, .ref mEm, .ref mVa, .int (nI an), .ref mA1, .ref mA2, .ref mA3, .ref mA4, .int (nI ln), .ref mLk, .int (nI xn), .ref mEx, .int (nI qn), .ref mQp, .ref mQd, .int wh, .int wt, .int fd, .int pp, .int wn]))] := hD
    refine lv_if_eq (tgt := 39) hx hb d_MD_look_34 (by decide) (fun c34 => ?_) (fun c34 => ?_)
    · refine lv_aload_n hx hb d_MD_look_39 rfl (lv_at hl 0 rfl) ?_
      refine va_get (D := (dC, dI)) (ci := 10) (v := .ref mLk) (C := R_MD) (T := T_MD) (N := 32) hx hb hts iMD hown hK hP 1 rfl rfl 21 (by decide) (hts _ (wb_MD_look _ b_689)) (fun _ h9 => h9) rfl d_MD_look_40 ?_
      refine lv_bipush (v := 6) hx hb d_MD_look_43 (by decide) ?_
      refine lv_iload_n hx hb d_MD_look_45 rfl (lv_at hl 1 rfl) ?_
      refine lv_imul hx hb d_MD_look_46 ?_
      refine lv_iload_n hx hb d_MD_look_47 rfl (lv_at hl 2 rfl) ?_
      refine lv_iadd hx hb d_MD_look_48 ?_
      refine vz_top (y := nI (6 * k + j)) (by rw [show 6 * nI k = nI (6 * k) from pk_mul 6 k, nI_add]) ?_
      refine vz_iald (k := (6 * k + j)) hx hb hK hP 0 0 rfl rfl (by omega) (by decide) d_MD_look_49 ?_
      have hP9 := hP.sub (ws' := [(g, .inr (10, [.int (thrF (orN (inF (nI k) 0 (nI ln - 1)) (inF (nI j) 0 5)) 0 0), .ref mPd, .int (nI pn), .int (nI bn), .ref mSg, .ref mSz, .ref mTo, .int (nI en), .ref mRo, .ref mLi, .int (nI hn), .ref mKi, .ref mCo, .ref mEm, .ref mVa, .int (nI an), .ref mA1, .ref mA2, .ref mA3, .ref mA4, .int (nI ln), .ref mLk, .int (nI xn), .ref mEx, .int (nI qn), .ref mQp, .ref mQd, .int wh, .int wt, .int fd, .int pp, .int wn])), (mLk, .inl (cI, 600, .inl lk))]) [1, 0] rfl
      have hD9 := hD.sub (ws' := [(g, .inr (10, [.int (thrF (orN (inF (nI k) 0 (nI ln - 1)) (inF (nI j) 0 5)) 0 0), .ref mPd, .int (nI pn), .int (nI bn), .ref mSg, .ref mSz, .ref mTo, .int (nI en), .ref mRo, .ref mLi, .int (nI hn), .ref mKi, .ref mCo, .ref mEm, .ref mVa, .int (nI an), .ref mA1, .ref mA2, .ref mA3, .ref mA4, .int (nI ln), .ref mLk, .int (nI xn), .ref mEx, .int (nI qn), .ref mQp, .ref mQd, .int wh, .int wt, .int fd, .int pp, .int wn])), (mLk, .inl (cI, 600, .inl lk))]) [1, 0] (by decide) rfl
      exact W.iret (v := lk (6 * k + j)) hx hb hr (fun t ht hW => ⟨⟨lk (6 * k + j), (), rfl, rfl, by rw [ht]; exact hP9, va_K.moved hW.alike hK, hD9⟩, hS.F ht⟩) hS.2.2 d_MD_look_50
    · exact absurd (hr31.trans (thrB_z hok)) c34
  · refine lv_iload_n hx hb d_MD_look_1 rfl (lv_at hl 1 rfl) ?_
    refine lv_iconst (v := 0) hx hb d_MD_look_2 (by decide) ?_
    refine lv_aload_n hx hb d_MD_look_3 rfl (lv_at hl 0 rfl) ?_
    refine va_get (D := (dC, dI)) (ci := 10) (v := .int (nI ln)) (C := R_MD) (T := T_MD) (N := 32) hx hb hts iMD hown hK hP 0 rfl rfl 20 (by decide) (hts _ (wb_MD_look _ b_688)) (fun _ h9 => h9) rfl d_MD_look_4 ?_
    refine lv_iconst (v := 1) hx hb d_MD_look_7 (by decide) ?_
    refine lv_isub hx hb d_MD_look_8 ?_
    have hPc := hP.sub (ws' := []) [] rfl
    have hKc := hK.sub (tys' := []) [] rfl
    refine va_calli (va_runS (As := [.int (nI k), .int 0, .int ((nI ln) - 1)]) (rest := [.ref g]) ⟨hx, hb, hml, hown, hts⟩ (c_MD_in l dC dI (nI k) 0 ((nI ln) - 1)) (va_cwS 3 hts (vz_gS wb_MD_look b_796 b_797 b_11 wc_MD_in) rfl rfl rfl (by decide +kernel) ⟨Nat.le_of_ble_eq_true rfl, Nat.le_of_ble_eq_true rfl⟩) (vz_preS hPc hKc) rfl rfl hl.1 rfl (lv_room (Nat.le_of_ble_eq_true rfl)) d_MD_look_9 ⟨Nat.le_of_ble_eq_true rfl, Nat.le_of_ble_eq_true rfl⟩) hS (fun q _ h => False.elim h) (fun q h => False.elim h) (fun r9 u9 t9 H1 locs ht hvm hr9 hB hzx9 hkx9 hS => ?_)
    try dsimp only at hr9
    have hP := vz_kept hP hkx9
    generalize H1 = H at hP hS ⊢
    refine lv_if_eq (tgt := 24) hx hb d_MD_look_12 (by decide) (fun c12 => ?_) (fun c12 => ?_)
    · refine lv_iconst (v := 1) hx hb d_MD_look_24 (by decide) ?_
      refine lv_goto (tgt := 29) hx hb d_MD_look_25 (by decide) ?_
      exact k29 _ _ _ _ ⟨by simp [orN, ← hr9, c12], hP, hD, hS, lv_sub hl [0, 1, 2] rfl⟩
    · refine lv_iload_n hx hb d_MD_look_15 rfl (lv_at hl 2 rfl) ?_
      refine lv_iconst (v := 0) hx hb d_MD_look_16 (by decide) ?_
      refine lv_iconst (v := 5) hx hb d_MD_look_17 (by decide) ?_
      have hPc := hP.sub (ws' := []) [] rfl
      have hKc := hK.sub (tys' := []) [] rfl
      refine va_calli (va_runS (As := [.int (nI j), .int 0, .int 5]) (rest := [.ref g]) ⟨hx, hb, hml, hown, hts⟩ (c_MD_in l dC dI (nI j) 0 5) (va_cwS 3 hts (vz_gS wb_MD_look b_796 b_797 b_11 wc_MD_in) rfl rfl rfl (by decide +kernel) ⟨Nat.le_of_ble_eq_true rfl, Nat.le_of_ble_eq_true rfl⟩) (vz_preS hPc hKc) rfl rfl hl.1 rfl (lv_room (Nat.le_of_ble_eq_true rfl)) d_MD_look_18 ⟨Nat.le_of_ble_eq_true rfl, Nat.le_of_ble_eq_true rfl⟩) hS (fun q _ h => False.elim h) (fun q h => False.elim h) (fun r18 u9 t9 H1 locs ht hvm hr18 hB hzx9 hkx9 hS => ?_)
      try dsimp only at hr18
      have hP := vz_kept hP hkx9
      generalize H1 = H at hP hS ⊢
      refine lv_if_ne (tgt := 28) hx hb d_MD_look_21 (by decide) (fun c21 => ?_) (fun c21 => ?_)
      · refine lv_iconst (v := 0) hx hb d_MD_look_28 (by decide) ?_
        exact k29 _ _ _ _ ⟨by simp [orN, ← hr9, c12, ← hr18, c21], hP, hD, hS, lv_sub hl [0, 1, 2] rfl⟩
      · refine lv_iconst (v := 1) hx hb d_MD_look_24 (by decide) ?_
        refine lv_goto (tgt := 29) hx hb d_MD_look_25 (by decide) ?_
        exact k29 _ _ _ _ ⟨by simp [orN, ← hr9, c12, ← hr18, c21], hP, hD, hS, lv_sub hl [0, 1, 2] rfl⟩

set_option maxHeartbeats 4000000 in
set_option maxRecDepth 100000 in
theorem c_MD_exportedB (l : Launch) (dC : Nat → ClassId) (dI : Nat → Nat → Nat) (sz : Nat) (g mPd mSg mSz mTo mRo mLi mKi mCo mEm mVa mA1 mA2 mA3 mA4 mLk mEx mQp mQd : Nat) (th : Int32) (pn bn en hn an ln xn qn : Nat) (wh wt fd pp wn : Int32) (k : Int32) (hok : ¬ thrF (notF (inF k 0 (nI xn - 1))) 0 0 = 0) : Met l y_MD_exported ws_MD_exported ({ frames := 1, cells := 0, slots := 0, locals := 23 }) (va_Pc [.ref g, .int k] (fun U => U.heap.size = sz ∧ va_P (dC, dI) vwCl [(g, .inr (10, [.int th, .ref mPd, .int (nI pn), .int (nI bn), .ref mSg, .ref mSz, .ref mTo, .int (nI en), .ref mRo, .ref mLi, .int (nI hn), .ref mKi, .ref mCo, .ref mEm, .ref mVa, .int (nI an), .ref mA1, .ref mA2, .ref mA3, .ref mA4, .int (nI ln), .ref mLk, .int (nI xn), .ref mEx, .int (nI qn), .ref mQp, .ref mQd, .int wh, .int wt, .int fd, .int pp, .int wn]))] U.heap ∧ va_K (dC, dI) vwCl [] U ∧ va_D (fun _ => True) [(g, .inr (10, [.int th, .ref mPd, .int (nI pn), .int (nI bn), .ref mSg, .ref mSz, .ref mTo, .int (nI en), .ref mRo, .ref mLi, .int (nI hn), .ref mKi, .ref mCo, .ref mEm, .ref mVa, .int (nI an), .ref mA1, .ref mA2, .ref mA3, .ref mA4, .int (nI ln), .ref mLk, .int (nI xn), .ref mEx, .int (nI qn), .ref mQp, .ref mQd, .int wh, .int wt, .int fd, .int pp, .int wn]))])) (va_Qi (fun (res : Int32) (_ : Unit) => res = 0) (fun _ t => va_P (dC, dI) vwCl [(g, .inr (10, [.int (thrF (notF (inF k 0 (nI xn - 1))) 0 0), .ref mPd, .int (nI pn), .int (nI bn), .ref mSg, .ref mSz, .ref mTo, .int (nI en), .ref mRo, .ref mLi, .int (nI hn), .ref mKi, .ref mCo, .ref mEm, .ref mVa, .int (nI an), .ref mA1, .ref mA2, .ref mA3, .ref mA4, .int (nI ln), .ref mLk, .int (nI xn), .ref mEx, .int (nI qn), .ref mQp, .ref mQd, .int wh, .int wt, .int fd, .int pp, .int wn]))] t.heap ∧ va_K (dC, dI) vwCl [] t ∧ va_D (va_A [(g, .inr (10, [.int th, .ref mPd, .int (nI pn), .int (nI bn), .ref mSg, .ref mSz, .ref mTo, .int (nI en), .ref mRo, .ref mLi, .int (nI hn), .ref mKi, .ref mCo, .ref mEm, .ref mVa, .int (nI an), .ref mA1, .ref mA2, .ref mA3, .ref mA4, .int (nI ln), .ref mLk, .int (nI xn), .ref mEx, .int (nI qn), .ref mQp, .ref mQd, .int wh, .int wt, .int fd, .int pp, .int wn]))] sz) [(g, .inr (10, [.int (thrF (notF (inF k 0 (nI xn - 1))) 0 0), .ref mPd, .int (nI pn), .int (nI bn), .ref mSg, .ref mSz, .ref mTo, .int (nI en), .ref mRo, .ref mLi, .int (nI hn), .ref mKi, .ref mCo, .ref mEm, .ref mVa, .int (nI an), .ref mA1, .ref mA2, .ref mA3, .ref mA4, .int (nI ln), .ref mLk, .int (nI xn), .ref mEx, .int (nI qn), .ref mQp, .ref mQd, .int wh, .int wt, .int fd, .int pp, .int wn]))]) (va_A [(g, .inr (10, [.int th, .ref mPd, .int (nI pn), .int (nI bn), .ref mSg, .ref mSz, .ref mTo, .int (nI en), .ref mRo, .ref mLi, .int (nI hn), .ref mKi, .ref mCo, .ref mEm, .ref mVa, .int (nI an), .ref mA1, .ref mA2, .ref mA3, .ref mA4, .int (nI ln), .ref mLk, .int (nI xn), .ref mEx, .int (nI qn), .ref mQp, .ref mQd, .int wh, .int wt, .int fd, .int pp, .int wn]))] sz)) 0 0 (va_A [(g, .inr (10, [.int th, .ref mPd, .int (nI pn), .int (nI bn), .ref mSg, .ref mSz, .ref mTo, .int (nI en), .ref mRo, .ref mLi, .int (nI hn), .ref mKi, .ref mCo, .ref mEm, .ref mVa, .int (nI an), .ref mA1, .ref mA2, .ref mA3, .ref mA4, .int (nI ln), .ref mLk, .int (nI xn), .ref mEx, .int (nI qn), .ref mQp, .ref mQd, .int wh, .int wt, .int fd, .int pp, .int wn]))] sz) := by
  refine Met.ofW (cc := k_MD_exported) (maxL := 2) (ret := (some .int)) (by decide) rfl ?_
  intro p e s m args below meth c s₁ B hml hv
  obtain ⟨rfl, hsz, hP, hK, hD0⟩ := hv
  have hx := B.exec
  have hb := B.bytes
  have hr := B.returns
  have hts := atoms_spec (ws := ws_MD_exported) B.pre
  have hown : s.vm.findClass R_MD = some m.cls := findClass_of_methodNamed B.named
  have hlocks := B.notSynchronized
  subst hsz
  have hD := hD0.self (sz := s.heap.size)
  generalize hAe : va_A [(g, .inr (10, [.int th, .ref mPd, .int (nI pn), .int (nI bn), .ref mSg, .ref mSz, .ref mTo, .int (nI en), .ref mRo, .ref mLi, .int (nI hn), .ref mKi, .ref mCo, .ref mEm, .ref mVa, .int (nI an), .ref mA1, .ref mA2, .ref mA3, .ref mA4, .int (nI ln), .ref mLk, .int (nI xn), .ref mEx, .int (nI qn), .ref mQp, .ref mQd, .int wh, .int wt, .int fd, .int pp, .int wn]))] s.heap.size = A at hD ⊢
  have hA : ∀ q : Nat, s.heap.size ≤ q → A q := fun q h => by rw [← hAe]; exact Or.inr h
  have hS : va_S A s.heap s.heap [] := va_S.rf
  have hP : va_P (dC, dI) vwCl [(g, .inr (10, [.int th, .ref mPd, .int (nI pn), .int (nI bn), .ref mSg, .ref mSz, .ref mTo, .int (nI en), .ref mRo, .ref mLi, .int (nI hn), .ref mKi, .ref mCo, .ref mEm, .ref mVa, .int (nI an), .ref mA1, .ref mA2, .ref mA3, .ref mA4, .int (nI ln), .ref mLk, .int (nI xn), .ref mEx, .int (nI qn), .ref mQp, .ref mQd, .int wh, .int wt, .int fd, .int pp, .int wn]))] s.heap := hP
  have iMD : ∀ w ∈ u_ws R_MD T_MD 32, w ∈ ws_MD_exported := fun w h => wb_MD_exported w (in_MD w h)
  have hl := lv_entry ([.ref g, .int k]) (n := 2) (Nat.le_of_ble_eq_true rfl)
  rw [lg_entry_eq]
  generalize (lg_sl ([.ref g, .int k]) ++ List.replicate (2 - (lg_sl ([.ref g, .int k])).length) Slot.unset).toArray = ls at hl ⊢
  have hl : lv_has ls 2 [(0, .ref g), (1, .int k)] := hl
  refine lv_aload_n hx hb d_MD_exported_0 rfl (lv_at hl 0 rfl) ?_
  refine vz_join 20 [.ref g] (fun b9 H9 locs9 ls9 => (b9 = notF (inF k 0 (nI xn - 1))) ∧ va_P (dC, dI) vwCl [(g, .inr (10, [.int th, .ref mPd, .int (nI pn), .int (nI bn), .ref mSg, .ref mSz, .ref mTo, .int (nI en), .ref mRo, .ref mLi, .int (nI hn), .ref mKi, .ref mCo, .ref mEm, .ref mVa, .int (nI an), .ref mA1, .ref mA2, .ref mA3, .ref mA4, .int (nI ln), .ref mLk, .int (nI xn), .ref mEx, .int (nI qn), .ref mQp, .ref mQd, .int wh, .int wt, .int fd, .int pp, .int wn]))] H9 ∧ va_D A [(g, .inr (10, [.int th, .ref mPd, .int (nI pn), .int (nI bn), .ref mSg, .ref mSz, .ref mTo, .int (nI en), .ref mRo, .ref mLi, .int (nI hn), .ref mKi, .ref mCo, .ref mEm, .ref mVa, .int (nI an), .ref mA1, .ref mA2, .ref mA3, .ref mA4, .int (nI ln), .ref mLk, .int (nI xn), .ref mEx, .int (nI qn), .ref mQp, .ref mQd, .int wh, .int wt, .int fd, .int pp, .int wn]))] ∧ va_S A s.heap H9 locs9 ∧ lv_has ls9 2 [(0, .ref g), (1, .int k)]) (fun b9 H locs ls h9 => ?_) (fun k20 => ?_)
  · obtain ⟨rfl, hP, hD, hS, hl⟩ := h9
    refine lv_iconst (v := 0) hx hb d_MD_exported_20 (by decide) ?_
    refine lv_iconst (v := 0) hx hb d_MD_exported_21 (by decide) ?_
    have hPc := hP.sub (ws' := [(g, .inr (10, [.int th, .ref mPd, .int (nI pn), .int (nI bn), .ref mSg, .ref mSz, .ref mTo, .int (nI en), .ref mRo, .ref mLi, .int (nI hn), .ref mKi, .ref mCo, .ref mEm, .ref mVa, .int (nI an), .ref mA1, .ref mA2, .ref mA3, .ref mA4, .int (nI ln), .ref mLk, .int (nI xn), .ref mEx, .int (nI qn), .ref mQp, .ref mQd, .int wh, .int wt, .int fd, .int pp, .int wn]))]) [0] rfl
    have hKc := hK.sub (tys' := []) [] rfl
    have hDc := hD.sub (ws' := [(g, .inr (10, [.int th, .ref mPd, .int (nI pn), .int (nI bn), .ref mSg, .ref mSz, .ref mTo, .int (nI en), .ref mRo, .ref mLi, .int (nI hn), .ref mKi, .ref mCo, .ref mEm, .ref mVa, .int (nI an), .ref mA1, .ref mA2, .ref mA3, .ref mA4, .int (nI ln), .ref mLk, .int (nI xn), .ref mEx, .int (nI qn), .ref mQp, .ref mQd, .int wh, .int wt, .int fd, .int pp, .int wn]))]) [0] (by decide) rfl
    have hFc := va_free (wc := [(g, .inr (10, [.int th, .ref mPd, .int (nI pn), .int (nI bn), .ref mSg, .ref mSz, .ref mTo, .int (nI en), .ref mRo, .ref mLi, .int (nI hn), .ref mKi, .ref mCo, .ref mEm, .ref mVa, .int (nI an), .ref mA1, .ref mA2, .ref mA3, .ref mA4, .int (nI ln), .ref mLk, .int (nI xn), .ref mEx, .int (nI qn), .ref mQp, .ref mQd, .int wh, .int wt, .int fd, .int pp, .int wn]))]) hD hS hA [0] rfl
    refine va_calli (va_runV (As := [.int (notF (inF k 0 (nI xn - 1))), .int 0, .int 0]) (rest := []) ⟨hx, hb, hml, hown, hts⟩ (c_MD_throwing l dC dI H.size g mPd mSg mSz mTo mRo mLi mKi mCo mEm mVa mA1 mA2 mA3 mA4 mLk mEx mQp mQd th pn bn en hn an ln xn qn wh wt fd pp wn (notF (inF k 0 (nI xn - 1))) 0 0) (cwV 3 hts (vz_gV wb_MD_exported b_777 b_779 bs_15 b_11 wc_MD_throwing) rfl rfl rfl (by decide +kernel) ⟨Nat.le_of_ble_eq_true rfl, Nat.le_of_ble_eq_true rfl⟩) (vz_preVw (A := A) hPc hKc hDc (ci := 10) (q0 := 0) rfl rfl) rfl rfl hl.1 rfl (lv_room (Nat.le_of_ble_eq_true rfl)) d_MD_exported_22 ⟨Nat.le_of_ble_eq_true rfl, Nat.le_of_ble_eq_true rfl⟩) hS (fun q _ h => hFc q h) hFc (fun r22 u9 t9 H1 locs ht hvm hr22 hB hzx9 hkx9 hS => ?_)
    try dsimp only at hr22
    obtain ⟨hP1, hK1, hD1⟩ := hB
    rw [ht] at hP1
    obtain ⟨hP, hD⟩ := va_join (wr := []) (w1 := [(g, .inr (10, [.int (thrF (notF (inF k 0 (nI xn - 1))) 0 0), .ref mPd, .int (nI pn), .int (nI bn), .ref mSg, .ref mSz, .ref mTo, .int (nI en), .ref mRo, .ref mLi, .int (nI hn), .ref mKi, .ref mCo, .ref mEm, .ref mVa, .int (nI an), .ref mA1, .ref mA2, .ref mA3, .ref mA4, .int (nI ln), .ref mLk, .int (nI xn), .ref mEx, .int (nI qn), .ref mQp, .ref mQd, .int wh, .int wt, .int fd, .int pp, .int wn]))]) hP hD [0] [] rfl rfl (by decide) (by decide) hkx9 hFc hP1 hD1
    generalize H1 = H at hP hS ⊢
    have hP : va_P (dC, dI) vwCl [(g, .inr (10, [.int (thrF (notF (inF k 0 (nI xn - 1))) 0 0), .ref mPd, .int (nI pn), .int (nI bn), .ref mSg, .ref mSz, .ref mTo, .int (nI en), .ref mRo, .ref mLi, .int (nI hn), .ref mKi, .ref mCo, .ref mEm, .ref mVa, .int (nI an), .ref mA1, .ref mA2, .ref mA3, .ref mA4, .int (nI ln), .ref mLk, .int (nI xn), .ref mEx, .int (nI qn), .ref mQp, .ref mQd, .int wh, .int wt, .int fd, .int pp, .int wn]))] H := hP
    have hD : va_D A [(g, .inr (10, [.int (thrF (notF (inF k 0 (nI xn - 1))) 0 0), .ref mPd, .int (nI pn), .int (nI bn), .ref mSg, .ref mSz, .ref mTo, .int (nI en), .ref mRo, .ref mLi, .int (nI hn), .ref mKi, .ref mCo, .ref mEm, .ref mVa, .int (nI an), .ref mA1, .ref mA2, .ref mA3, .ref mA4, .int (nI ln), .ref mLk, .int (nI xn), .ref mEx, .int (nI qn), .ref mQp, .ref mQd, .int wh, .int wt, .int fd, .int pp, .int wn]))] := hD
    refine lv_if_eq (tgt := 30) hx hb d_MD_exported_25 (by decide) (fun c25 => ?_) (fun c25 => ?_)
    · exact absurd (thrF_z (hr22.symm.trans c25)) hok
    · refine lv_iconst (v := 0) hx hb d_MD_exported_28 (by decide) ?_
      have hP9 := hP.sub (ws' := [(g, .inr (10, [.int (thrF (notF (inF k 0 (nI xn - 1))) 0 0), .ref mPd, .int (nI pn), .int (nI bn), .ref mSg, .ref mSz, .ref mTo, .int (nI en), .ref mRo, .ref mLi, .int (nI hn), .ref mKi, .ref mCo, .ref mEm, .ref mVa, .int (nI an), .ref mA1, .ref mA2, .ref mA3, .ref mA4, .int (nI ln), .ref mLk, .int (nI xn), .ref mEx, .int (nI qn), .ref mQp, .ref mQd, .int wh, .int wt, .int fd, .int pp, .int wn]))]) [0] rfl
      have hD9 := hD.sub (ws' := [(g, .inr (10, [.int (thrF (notF (inF k 0 (nI xn - 1))) 0 0), .ref mPd, .int (nI pn), .int (nI bn), .ref mSg, .ref mSz, .ref mTo, .int (nI en), .ref mRo, .ref mLi, .int (nI hn), .ref mKi, .ref mCo, .ref mEm, .ref mVa, .int (nI an), .ref mA1, .ref mA2, .ref mA3, .ref mA4, .int (nI ln), .ref mLk, .int (nI xn), .ref mEx, .int (nI qn), .ref mQp, .ref mQd, .int wh, .int wt, .int fd, .int pp, .int wn]))]) [0] (by decide) rfl
      exact W.iret (v := 0) hx hb hr (fun t ht hW => ⟨⟨0, (), rfl, rfl, by rw [ht]; exact hP9, va_K.moved hW.alike hK, hD9⟩, hS.F ht⟩) hS.2.2 d_MD_exported_29
  · refine lv_iload_n hx hb d_MD_exported_1 rfl (lv_at hl 1 rfl) ?_
    refine lv_iconst (v := 0) hx hb d_MD_exported_2 (by decide) ?_
    refine lv_aload_n hx hb d_MD_exported_3 rfl (lv_at hl 0 rfl) ?_
    refine va_get (D := (dC, dI)) (ci := 10) (v := .int (nI xn)) (C := R_MD) (T := T_MD) (N := 32) hx hb hts iMD hown hK hP 0 rfl rfl 22 (by decide) (hts _ (wb_MD_exported _ b_690)) (fun _ h9 => h9) rfl d_MD_exported_4 ?_
    refine lv_iconst (v := 1) hx hb d_MD_exported_7 (by decide) ?_
    refine lv_isub hx hb d_MD_exported_8 ?_
    have hPc := hP.sub (ws' := []) [] rfl
    have hKc := hK.sub (tys' := []) [] rfl
    refine va_calli (va_runS (As := [.int k, .int 0, .int ((nI xn) - 1)]) (rest := [.ref g]) ⟨hx, hb, hml, hown, hts⟩ (c_MD_in l dC dI k 0 ((nI xn) - 1)) (va_cwS 3 hts (vz_gS wb_MD_exported b_796 b_797 b_11 wc_MD_in) rfl rfl rfl (by decide +kernel) ⟨Nat.le_of_ble_eq_true rfl, Nat.le_of_ble_eq_true rfl⟩) (vz_preS hPc hKc) rfl rfl hl.1 rfl (lv_room (Nat.le_of_ble_eq_true rfl)) d_MD_exported_9 ⟨Nat.le_of_ble_eq_true rfl, Nat.le_of_ble_eq_true rfl⟩) hS (fun q _ h => False.elim h) (fun q h => False.elim h) (fun r9 u9 t9 H1 locs ht hvm hr9 hB hzx9 hkx9 hS => ?_)
    try dsimp only at hr9
    have hP := vz_kept hP hkx9
    generalize H1 = H at hP hS ⊢
    refine lv_if_ne (tgt := 19) hx hb d_MD_exported_12 (by decide) (fun c12 => ?_) (fun c12 => ?_)
    · refine lv_iconst (v := 0) hx hb d_MD_exported_19 (by decide) ?_
      exact k20 _ _ _ _ ⟨by simp [notF, ← hr9, c12], hP, hD, hS, lv_sub hl [0, 1] rfl⟩
    · refine lv_iconst (v := 1) hx hb d_MD_exported_15 (by decide) ?_
      refine lv_goto (tgt := 20) hx hb d_MD_exported_16 (by decide) ?_
      exact k20 _ _ _ _ ⟨by simp [notF, ← hr9, c12], hP, hD, hS, lv_sub hl [0, 1] rfl⟩

set_option maxHeartbeats 4000000 in
set_option maxRecDepth 100000 in
theorem c_MD_exportedG (l : Launch) (dC : Nat → ClassId) (dI : Nat → Nat → Nat) (sz : Nat) (cI : ClassId) (g mPd mSg mSz mTo mRo mLi mKi mCo mEm mVa mA1 mA2 mA3 mA4 mLk mEx mQp mQd : Nat) (th : Int32) (pn bn en hn an ln xn qn : Nat) (wh wt fd pp wn : Int32) (er : Nat → Int32) (hxn : xn ≤ 16) (k : Nat) (hk : k < xn) (hok : thrF (notF (inF (nI k) 0 (nI xn - 1))) 0 0 = 0) : Met l y_MD_exported ws_MD_exported ({ frames := 1, cells := 0, slots := 0, locals := 23 }) (va_Pc [.ref g, .int (nI k)] (fun U => U.heap.size = sz ∧ va_P (dC, dI) vwCl [(g, .inr (10, [.int th, .ref mPd, .int (nI pn), .int (nI bn), .ref mSg, .ref mSz, .ref mTo, .int (nI en), .ref mRo, .ref mLi, .int (nI hn), .ref mKi, .ref mCo, .ref mEm, .ref mVa, .int (nI an), .ref mA1, .ref mA2, .ref mA3, .ref mA4, .int (nI ln), .ref mLk, .int (nI xn), .ref mEx, .int (nI qn), .ref mQp, .ref mQd, .int wh, .int wt, .int fd, .int pp, .int wn])), (mEx, .inl (cI, 16, .inl er))] U.heap ∧ va_K (dC, dI) vwCl [(cI, .int)] U ∧ va_D (fun _ => True) [(g, .inr (10, [.int th, .ref mPd, .int (nI pn), .int (nI bn), .ref mSg, .ref mSz, .ref mTo, .int (nI en), .ref mRo, .ref mLi, .int (nI hn), .ref mKi, .ref mCo, .ref mEm, .ref mVa, .int (nI an), .ref mA1, .ref mA2, .ref mA3, .ref mA4, .int (nI ln), .ref mLk, .int (nI xn), .ref mEx, .int (nI qn), .ref mQp, .ref mQd, .int wh, .int wt, .int fd, .int pp, .int wn])), (mEx, .inl (cI, 16, .inl er))])) (va_Qi (fun (res : Int32) (_ : Unit) => res = er k) (fun _ t => va_P (dC, dI) vwCl [(g, .inr (10, [.int (thrF (notF (inF (nI k) 0 (nI xn - 1))) 0 0), .ref mPd, .int (nI pn), .int (nI bn), .ref mSg, .ref mSz, .ref mTo, .int (nI en), .ref mRo, .ref mLi, .int (nI hn), .ref mKi, .ref mCo, .ref mEm, .ref mVa, .int (nI an), .ref mA1, .ref mA2, .ref mA3, .ref mA4, .int (nI ln), .ref mLk, .int (nI xn), .ref mEx, .int (nI qn), .ref mQp, .ref mQd, .int wh, .int wt, .int fd, .int pp, .int wn])), (mEx, .inl (cI, 16, .inl er))] t.heap ∧ va_K (dC, dI) vwCl [(cI, .int)] t ∧ va_D (va_A [(g, .inr (10, [.int th, .ref mPd, .int (nI pn), .int (nI bn), .ref mSg, .ref mSz, .ref mTo, .int (nI en), .ref mRo, .ref mLi, .int (nI hn), .ref mKi, .ref mCo, .ref mEm, .ref mVa, .int (nI an), .ref mA1, .ref mA2, .ref mA3, .ref mA4, .int (nI ln), .ref mLk, .int (nI xn), .ref mEx, .int (nI qn), .ref mQp, .ref mQd, .int wh, .int wt, .int fd, .int pp, .int wn])), (mEx, .inl (cI, 16, .inl er))] sz) [(g, .inr (10, [.int (thrF (notF (inF (nI k) 0 (nI xn - 1))) 0 0), .ref mPd, .int (nI pn), .int (nI bn), .ref mSg, .ref mSz, .ref mTo, .int (nI en), .ref mRo, .ref mLi, .int (nI hn), .ref mKi, .ref mCo, .ref mEm, .ref mVa, .int (nI an), .ref mA1, .ref mA2, .ref mA3, .ref mA4, .int (nI ln), .ref mLk, .int (nI xn), .ref mEx, .int (nI qn), .ref mQp, .ref mQd, .int wh, .int wt, .int fd, .int pp, .int wn])), (mEx, .inl (cI, 16, .inl er))]) (va_A [(g, .inr (10, [.int th, .ref mPd, .int (nI pn), .int (nI bn), .ref mSg, .ref mSz, .ref mTo, .int (nI en), .ref mRo, .ref mLi, .int (nI hn), .ref mKi, .ref mCo, .ref mEm, .ref mVa, .int (nI an), .ref mA1, .ref mA2, .ref mA3, .ref mA4, .int (nI ln), .ref mLk, .int (nI xn), .ref mEx, .int (nI qn), .ref mQp, .ref mQd, .int wh, .int wt, .int fd, .int pp, .int wn])), (mEx, .inl (cI, 16, .inl er))] sz)) 0 0 (va_A [(g, .inr (10, [.int th, .ref mPd, .int (nI pn), .int (nI bn), .ref mSg, .ref mSz, .ref mTo, .int (nI en), .ref mRo, .ref mLi, .int (nI hn), .ref mKi, .ref mCo, .ref mEm, .ref mVa, .int (nI an), .ref mA1, .ref mA2, .ref mA3, .ref mA4, .int (nI ln), .ref mLk, .int (nI xn), .ref mEx, .int (nI qn), .ref mQp, .ref mQd, .int wh, .int wt, .int fd, .int pp, .int wn])), (mEx, .inl (cI, 16, .inl er))] sz) := by
  refine Met.ofW (cc := k_MD_exported) (maxL := 2) (ret := (some .int)) (by decide) rfl ?_
  intro p e s m args below meth c s₁ B hml hv
  obtain ⟨rfl, hsz, hP, hK, hD0⟩ := hv
  have hx := B.exec
  have hb := B.bytes
  have hr := B.returns
  have hts := atoms_spec (ws := ws_MD_exported) B.pre
  have hown : s.vm.findClass R_MD = some m.cls := findClass_of_methodNamed B.named
  have hlocks := B.notSynchronized
  subst hsz
  have hD := hD0.self (sz := s.heap.size)
  generalize hAe : va_A [(g, .inr (10, [.int th, .ref mPd, .int (nI pn), .int (nI bn), .ref mSg, .ref mSz, .ref mTo, .int (nI en), .ref mRo, .ref mLi, .int (nI hn), .ref mKi, .ref mCo, .ref mEm, .ref mVa, .int (nI an), .ref mA1, .ref mA2, .ref mA3, .ref mA4, .int (nI ln), .ref mLk, .int (nI xn), .ref mEx, .int (nI qn), .ref mQp, .ref mQd, .int wh, .int wt, .int fd, .int pp, .int wn])), (mEx, .inl (cI, 16, .inl er))] s.heap.size = A at hD ⊢
  have hA : ∀ q : Nat, s.heap.size ≤ q → A q := fun q h => by rw [← hAe]; exact Or.inr h
  have hS : va_S A s.heap s.heap [] := va_S.rf
  have hP : va_P (dC, dI) vwCl [(g, .inr (10, [.int th, .ref mPd, .int (nI pn), .int (nI bn), .ref mSg, .ref mSz, .ref mTo, .int (nI en), .ref mRo, .ref mLi, .int (nI hn), .ref mKi, .ref mCo, .ref mEm, .ref mVa, .int (nI an), .ref mA1, .ref mA2, .ref mA3, .ref mA4, .int (nI ln), .ref mLk, .int (nI xn), .ref mEx, .int (nI qn), .ref mQp, .ref mQd, .int wh, .int wt, .int fd, .int pp, .int wn])), (mEx, .inl (cI, 16, .inl er))] s.heap := hP
  have iMD : ∀ w ∈ u_ws R_MD T_MD 32, w ∈ ws_MD_exported := fun w h => wb_MD_exported w (in_MD w h)
  have hl := lv_entry ([.ref g, .int (nI k)]) (n := 2) (Nat.le_of_ble_eq_true rfl)
  rw [lg_entry_eq]
  generalize (lg_sl ([.ref g, .int (nI k)]) ++ List.replicate (2 - (lg_sl ([.ref g, .int (nI k)])).length) Slot.unset).toArray = ls at hl ⊢
  have hl : lv_has ls 2 [(0, .ref g), (1, .int (nI k))] := hl
  refine lv_aload_n hx hb d_MD_exported_0 rfl (lv_at hl 0 rfl) ?_
  refine vz_join 20 [.ref g] (fun b9 H9 locs9 ls9 => (b9 = notF (inF (nI k) 0 (nI xn - 1))) ∧ va_P (dC, dI) vwCl [(g, .inr (10, [.int th, .ref mPd, .int (nI pn), .int (nI bn), .ref mSg, .ref mSz, .ref mTo, .int (nI en), .ref mRo, .ref mLi, .int (nI hn), .ref mKi, .ref mCo, .ref mEm, .ref mVa, .int (nI an), .ref mA1, .ref mA2, .ref mA3, .ref mA4, .int (nI ln), .ref mLk, .int (nI xn), .ref mEx, .int (nI qn), .ref mQp, .ref mQd, .int wh, .int wt, .int fd, .int pp, .int wn])), (mEx, .inl (cI, 16, .inl er))] H9 ∧ va_D A [(g, .inr (10, [.int th, .ref mPd, .int (nI pn), .int (nI bn), .ref mSg, .ref mSz, .ref mTo, .int (nI en), .ref mRo, .ref mLi, .int (nI hn), .ref mKi, .ref mCo, .ref mEm, .ref mVa, .int (nI an), .ref mA1, .ref mA2, .ref mA3, .ref mA4, .int (nI ln), .ref mLk, .int (nI xn), .ref mEx, .int (nI qn), .ref mQp, .ref mQd, .int wh, .int wt, .int fd, .int pp, .int wn])), (mEx, .inl (cI, 16, .inl er))] ∧ va_S A s.heap H9 locs9 ∧ lv_has ls9 2 [(0, .ref g), (1, .int (nI k))]) (fun b9 H locs ls h9 => ?_) (fun k20 => ?_)
  · obtain ⟨rfl, hP, hD, hS, hl⟩ := h9
    refine lv_iconst (v := 0) hx hb d_MD_exported_20 (by decide) ?_
    refine lv_iconst (v := 0) hx hb d_MD_exported_21 (by decide) ?_
    have hPc := hP.sub (ws' := [(g, .inr (10, [.int th, .ref mPd, .int (nI pn), .int (nI bn), .ref mSg, .ref mSz, .ref mTo, .int (nI en), .ref mRo, .ref mLi, .int (nI hn), .ref mKi, .ref mCo, .ref mEm, .ref mVa, .int (nI an), .ref mA1, .ref mA2, .ref mA3, .ref mA4, .int (nI ln), .ref mLk, .int (nI xn), .ref mEx, .int (nI qn), .ref mQp, .ref mQd, .int wh, .int wt, .int fd, .int pp, .int wn]))]) [0] rfl
    have hKc := hK.sub (tys' := []) [] rfl
    have hDc := hD.sub (ws' := [(g, .inr (10, [.int th, .ref mPd, .int (nI pn), .int (nI bn), .ref mSg, .ref mSz, .ref mTo, .int (nI en), .ref mRo, .ref mLi, .int (nI hn), .ref mKi, .ref mCo, .ref mEm, .ref mVa, .int (nI an), .ref mA1, .ref mA2, .ref mA3, .ref mA4, .int (nI ln), .ref mLk, .int (nI xn), .ref mEx, .int (nI qn), .ref mQp, .ref mQd, .int wh, .int wt, .int fd, .int pp, .int wn]))]) [0] (by decide) rfl
    have hFc := va_free (wc := [(g, .inr (10, [.int th, .ref mPd, .int (nI pn), .int (nI bn), .ref mSg, .ref mSz, .ref mTo, .int (nI en), .ref mRo, .ref mLi, .int (nI hn), .ref mKi, .ref mCo, .ref mEm, .ref mVa, .int (nI an), .ref mA1, .ref mA2, .ref mA3, .ref mA4, .int (nI ln), .ref mLk, .int (nI xn), .ref mEx, .int (nI qn), .ref mQp, .ref mQd, .int wh, .int wt, .int fd, .int pp, .int wn]))]) hD hS hA [0] rfl
    refine va_calli (va_runV (As := [.int (notF (inF (nI k) 0 (nI xn - 1))), .int 0, .int 0]) (rest := []) ⟨hx, hb, hml, hown, hts⟩ (c_MD_throwing l dC dI H.size g mPd mSg mSz mTo mRo mLi mKi mCo mEm mVa mA1 mA2 mA3 mA4 mLk mEx mQp mQd th pn bn en hn an ln xn qn wh wt fd pp wn (notF (inF (nI k) 0 (nI xn - 1))) 0 0) (cwV 3 hts (vz_gV wb_MD_exported b_777 b_779 bs_15 b_11 wc_MD_throwing) rfl rfl rfl (by decide +kernel) ⟨Nat.le_of_ble_eq_true rfl, Nat.le_of_ble_eq_true rfl⟩) (vz_preVw (A := A) hPc hKc hDc (ci := 10) (q0 := 0) rfl rfl) rfl rfl hl.1 rfl (lv_room (Nat.le_of_ble_eq_true rfl)) d_MD_exported_22 ⟨Nat.le_of_ble_eq_true rfl, Nat.le_of_ble_eq_true rfl⟩) hS (fun q _ h => hFc q h) hFc (fun r22 u9 t9 H1 locs ht hvm hr22 hB hzx9 hkx9 hS => ?_)
    try dsimp only at hr22
    obtain ⟨hP1, hK1, hD1⟩ := hB
    rw [ht] at hP1
    obtain ⟨hP, hD⟩ := va_join (wr := [(mEx, .inl (cI, 16, .inl er))]) (w1 := [(g, .inr (10, [.int (thrF (notF (inF (nI k) 0 (nI xn - 1))) 0 0), .ref mPd, .int (nI pn), .int (nI bn), .ref mSg, .ref mSz, .ref mTo, .int (nI en), .ref mRo, .ref mLi, .int (nI hn), .ref mKi, .ref mCo, .ref mEm, .ref mVa, .int (nI an), .ref mA1, .ref mA2, .ref mA3, .ref mA4, .int (nI ln), .ref mLk, .int (nI xn), .ref mEx, .int (nI qn), .ref mQp, .ref mQd, .int wh, .int wt, .int fd, .int pp, .int wn]))]) hP hD [0] [1] rfl rfl (by decide) (by decide) hkx9 hFc hP1 hD1
    generalize H1 = H at hP hS ⊢
    have hP : va_P (dC, dI) vwCl [(mEx, .inl (cI, 16, .inl er)), (g, .inr (10, [.int (thrF (notF (inF (nI k) 0 (nI xn - 1))) 0 0), .ref mPd, .int (nI pn), .int (nI bn), .ref mSg, .ref mSz, .ref mTo, .int (nI en), .ref mRo, .ref mLi, .int (nI hn), .ref mKi, .ref mCo, .ref mEm, .ref mVa, .int (nI an), .ref mA1, .ref mA2, .ref mA3, .ref mA4, .int (nI ln), .ref mLk, .int (nI xn), .ref mEx, .int (nI qn), .ref mQp, .ref mQd, .int wh, .int wt, .int fd, .int pp, .int wn]))] H := hP
    have hD : va_D A [(mEx, .inl (cI, 16, .inl er)), (g, .inr (10, [.int (thrF (notF (inF (nI k) 0 (nI xn - 1))) 0 0), .ref mPd, .int (nI pn), .int (nI bn), .ref mSg, .ref mSz, .ref mTo, .int (nI en), .ref mRo, .ref mLi, .int (nI hn), .ref mKi, .ref mCo, .ref mEm, .ref mVa, .int (nI an), .ref mA1, .ref mA2, .ref mA3, .ref mA4, .int (nI ln), .ref mLk, .int (nI xn), .ref mEx, .int (nI qn), .ref mQp, .ref mQd, .int wh, .int wt, .int fd, .int pp, .int wn]))] := hD
    refine lv_if_eq (tgt := 30) hx hb d_MD_exported_25 (by decide) (fun c25 => ?_) (fun c25 => ?_)
    · refine lv_aload_n hx hb d_MD_exported_30 rfl (lv_at hl 0 rfl) ?_
      refine va_get (D := (dC, dI)) (ci := 10) (v := .ref mEx) (C := R_MD) (T := T_MD) (N := 32) hx hb hts iMD hown hK hP 1 rfl rfl 23 (by decide) (hts _ (wb_MD_exported _ b_691)) (fun _ h9 => h9) rfl d_MD_exported_31 ?_
      refine lv_iload_n hx hb d_MD_exported_34 rfl (lv_at hl 1 rfl) ?_
      refine vz_iald (k := k) hx hb hK hP 0 0 rfl rfl (by omega) (by decide) d_MD_exported_35 ?_
      have hP9 := hP.sub (ws' := [(g, .inr (10, [.int (thrF (notF (inF (nI k) 0 (nI xn - 1))) 0 0), .ref mPd, .int (nI pn), .int (nI bn), .ref mSg, .ref mSz, .ref mTo, .int (nI en), .ref mRo, .ref mLi, .int (nI hn), .ref mKi, .ref mCo, .ref mEm, .ref mVa, .int (nI an), .ref mA1, .ref mA2, .ref mA3, .ref mA4, .int (nI ln), .ref mLk, .int (nI xn), .ref mEx, .int (nI qn), .ref mQp, .ref mQd, .int wh, .int wt, .int fd, .int pp, .int wn])), (mEx, .inl (cI, 16, .inl er))]) [1, 0] rfl
      have hD9 := hD.sub (ws' := [(g, .inr (10, [.int (thrF (notF (inF (nI k) 0 (nI xn - 1))) 0 0), .ref mPd, .int (nI pn), .int (nI bn), .ref mSg, .ref mSz, .ref mTo, .int (nI en), .ref mRo, .ref mLi, .int (nI hn), .ref mKi, .ref mCo, .ref mEm, .ref mVa, .int (nI an), .ref mA1, .ref mA2, .ref mA3, .ref mA4, .int (nI ln), .ref mLk, .int (nI xn), .ref mEx, .int (nI qn), .ref mQp, .ref mQd, .int wh, .int wt, .int fd, .int pp, .int wn])), (mEx, .inl (cI, 16, .inl er))]) [1, 0] (by decide) rfl
      exact W.iret (v := er k) hx hb hr (fun t ht hW => ⟨⟨er k, (), rfl, rfl, by rw [ht]; exact hP9, va_K.moved hW.alike hK, hD9⟩, hS.F ht⟩) hS.2.2 d_MD_exported_36
    · exact absurd (hr22.trans (thrB_z hok)) c25
  · refine lv_iload_n hx hb d_MD_exported_1 rfl (lv_at hl 1 rfl) ?_
    refine lv_iconst (v := 0) hx hb d_MD_exported_2 (by decide) ?_
    refine lv_aload_n hx hb d_MD_exported_3 rfl (lv_at hl 0 rfl) ?_
    refine va_get (D := (dC, dI)) (ci := 10) (v := .int (nI xn)) (C := R_MD) (T := T_MD) (N := 32) hx hb hts iMD hown hK hP 0 rfl rfl 22 (by decide) (hts _ (wb_MD_exported _ b_690)) (fun _ h9 => h9) rfl d_MD_exported_4 ?_
    refine lv_iconst (v := 1) hx hb d_MD_exported_7 (by decide) ?_
    refine lv_isub hx hb d_MD_exported_8 ?_
    have hPc := hP.sub (ws' := []) [] rfl
    have hKc := hK.sub (tys' := []) [] rfl
    refine va_calli (va_runS (As := [.int (nI k), .int 0, .int ((nI xn) - 1)]) (rest := [.ref g]) ⟨hx, hb, hml, hown, hts⟩ (c_MD_in l dC dI (nI k) 0 ((nI xn) - 1)) (va_cwS 3 hts (vz_gS wb_MD_exported b_796 b_797 b_11 wc_MD_in) rfl rfl rfl (by decide +kernel) ⟨Nat.le_of_ble_eq_true rfl, Nat.le_of_ble_eq_true rfl⟩) (vz_preS hPc hKc) rfl rfl hl.1 rfl (lv_room (Nat.le_of_ble_eq_true rfl)) d_MD_exported_9 ⟨Nat.le_of_ble_eq_true rfl, Nat.le_of_ble_eq_true rfl⟩) hS (fun q _ h => False.elim h) (fun q h => False.elim h) (fun r9 u9 t9 H1 locs ht hvm hr9 hB hzx9 hkx9 hS => ?_)
    try dsimp only at hr9
    have hP := vz_kept hP hkx9
    generalize H1 = H at hP hS ⊢
    refine lv_if_ne (tgt := 19) hx hb d_MD_exported_12 (by decide) (fun c12 => ?_) (fun c12 => ?_)
    · refine lv_iconst (v := 0) hx hb d_MD_exported_19 (by decide) ?_
      exact k20 _ _ _ _ ⟨by simp [notF, ← hr9, c12], hP, hD, hS, lv_sub hl [0, 1] rfl⟩
    · refine lv_iconst (v := 1) hx hb d_MD_exported_15 (by decide) ?_
      refine lv_goto (tgt := 20) hx hb d_MD_exported_16 (by decide) ?_
      exact k20 _ _ _ _ ⟨by simp [notF, ← hr9, c12], hP, hD, hS, lv_sub hl [0, 1] rfl⟩

set_option maxHeartbeats 4000000 in
set_option maxRecDepth 100000 in
theorem c_MD_limitB (l : Launch) (dC : Nat → ClassId) (dI : Nat → Nat → Nat) (sz : Nat) (g mPd mSg mSz mTo mRo mLi mKi mCo mEm mVa mA1 mA2 mA3 mA4 mLk mEx mQp mQd : Nat) (th : Int32) (pn bn en hn an ln xn qn : Nat) (wh wt fd pp wn : Int32) (u z : Int32) (hok : ¬ thrF (notF (inF u 0 (nI en - 1))) (notF (inF z 0 60)) 0 = 0) : Met l y_MD_limit ws_MD_limit ({ frames := 2, cells := 0, slots := 0, locals := 43 }) (va_Pc [.ref g, .int u, .int z] (fun U => U.heap.size = sz ∧ va_P (dC, dI) vwCl [(g, .inr (10, [.int th, .ref mPd, .int (nI pn), .int (nI bn), .ref mSg, .ref mSz, .ref mTo, .int (nI en), .ref mRo, .ref mLi, .int (nI hn), .ref mKi, .ref mCo, .ref mEm, .ref mVa, .int (nI an), .ref mA1, .ref mA2, .ref mA3, .ref mA4, .int (nI ln), .ref mLk, .int (nI xn), .ref mEx, .int (nI qn), .ref mQp, .ref mQd, .int wh, .int wt, .int fd, .int pp, .int wn]))] U.heap ∧ va_K (dC, dI) vwCl [] U ∧ va_D (fun _ => True) [(g, .inr (10, [.int th, .ref mPd, .int (nI pn), .int (nI bn), .ref mSg, .ref mSz, .ref mTo, .int (nI en), .ref mRo, .ref mLi, .int (nI hn), .ref mKi, .ref mCo, .ref mEm, .ref mVa, .int (nI an), .ref mA1, .ref mA2, .ref mA3, .ref mA4, .int (nI ln), .ref mLk, .int (nI xn), .ref mEx, .int (nI qn), .ref mQp, .ref mQd, .int wh, .int wt, .int fd, .int pp, .int wn]))])) (va_Qi (fun (res : Int32) (_ : Unit) => res = 0) (fun _ t => va_P (dC, dI) vwCl [(g, .inr (10, [.int (thrF (notF (inF u 0 (nI en - 1))) (notF (inF z 0 60)) 0), .ref mPd, .int (nI pn), .int (nI bn), .ref mSg, .ref mSz, .ref mTo, .int (nI en), .ref mRo, .ref mLi, .int (nI hn), .ref mKi, .ref mCo, .ref mEm, .ref mVa, .int (nI an), .ref mA1, .ref mA2, .ref mA3, .ref mA4, .int (nI ln), .ref mLk, .int (nI xn), .ref mEx, .int (nI qn), .ref mQp, .ref mQd, .int wh, .int wt, .int fd, .int pp, .int wn]))] t.heap ∧ va_K (dC, dI) vwCl [] t ∧ va_D (va_A [(g, .inr (10, [.int th, .ref mPd, .int (nI pn), .int (nI bn), .ref mSg, .ref mSz, .ref mTo, .int (nI en), .ref mRo, .ref mLi, .int (nI hn), .ref mKi, .ref mCo, .ref mEm, .ref mVa, .int (nI an), .ref mA1, .ref mA2, .ref mA3, .ref mA4, .int (nI ln), .ref mLk, .int (nI xn), .ref mEx, .int (nI qn), .ref mQp, .ref mQd, .int wh, .int wt, .int fd, .int pp, .int wn]))] sz) [(g, .inr (10, [.int (thrF (notF (inF u 0 (nI en - 1))) (notF (inF z 0 60)) 0), .ref mPd, .int (nI pn), .int (nI bn), .ref mSg, .ref mSz, .ref mTo, .int (nI en), .ref mRo, .ref mLi, .int (nI hn), .ref mKi, .ref mCo, .ref mEm, .ref mVa, .int (nI an), .ref mA1, .ref mA2, .ref mA3, .ref mA4, .int (nI ln), .ref mLk, .int (nI xn), .ref mEx, .int (nI qn), .ref mQp, .ref mQd, .int wh, .int wt, .int fd, .int pp, .int wn]))]) (va_A [(g, .inr (10, [.int th, .ref mPd, .int (nI pn), .int (nI bn), .ref mSg, .ref mSz, .ref mTo, .int (nI en), .ref mRo, .ref mLi, .int (nI hn), .ref mKi, .ref mCo, .ref mEm, .ref mVa, .int (nI an), .ref mA1, .ref mA2, .ref mA3, .ref mA4, .int (nI ln), .ref mLk, .int (nI xn), .ref mEx, .int (nI qn), .ref mQp, .ref mQd, .int wh, .int wt, .int fd, .int pp, .int wn]))] sz)) 0 0 (va_A [(g, .inr (10, [.int th, .ref mPd, .int (nI pn), .int (nI bn), .ref mSg, .ref mSz, .ref mTo, .int (nI en), .ref mRo, .ref mLi, .int (nI hn), .ref mKi, .ref mCo, .ref mEm, .ref mVa, .int (nI an), .ref mA1, .ref mA2, .ref mA3, .ref mA4, .int (nI ln), .ref mLk, .int (nI xn), .ref mEx, .int (nI qn), .ref mQp, .ref mQd, .int wh, .int wt, .int fd, .int pp, .int wn]))] sz) := by
  refine Met.ofW (cc := k_MD_limit) (maxL := 4) (ret := (some .int)) (by decide) rfl ?_
  intro p e s m args below meth c s₁ B hml hv
  obtain ⟨rfl, hsz, hP, hK, hD0⟩ := hv
  have hx := B.exec
  have hb := B.bytes
  have hr := B.returns
  have hts := atoms_spec (ws := ws_MD_limit) B.pre
  have hown : s.vm.findClass R_MD = some m.cls := findClass_of_methodNamed B.named
  have hlocks := B.notSynchronized
  subst hsz
  have hD := hD0.self (sz := s.heap.size)
  generalize hAe : va_A [(g, .inr (10, [.int th, .ref mPd, .int (nI pn), .int (nI bn), .ref mSg, .ref mSz, .ref mTo, .int (nI en), .ref mRo, .ref mLi, .int (nI hn), .ref mKi, .ref mCo, .ref mEm, .ref mVa, .int (nI an), .ref mA1, .ref mA2, .ref mA3, .ref mA4, .int (nI ln), .ref mLk, .int (nI xn), .ref mEx, .int (nI qn), .ref mQp, .ref mQd, .int wh, .int wt, .int fd, .int pp, .int wn]))] s.heap.size = A at hD ⊢
  have hA : ∀ q : Nat, s.heap.size ≤ q → A q := fun q h => by rw [← hAe]; exact Or.inr h
  have hS : va_S A s.heap s.heap [] := va_S.rf
  have hP : va_P (dC, dI) vwCl [(g, .inr (10, [.int th, .ref mPd, .int (nI pn), .int (nI bn), .ref mSg, .ref mSz, .ref mTo, .int (nI en), .ref mRo, .ref mLi, .int (nI hn), .ref mKi, .ref mCo, .ref mEm, .ref mVa, .int (nI an), .ref mA1, .ref mA2, .ref mA3, .ref mA4, .int (nI ln), .ref mLk, .int (nI xn), .ref mEx, .int (nI qn), .ref mQp, .ref mQd, .int wh, .int wt, .int fd, .int pp, .int wn]))] s.heap := hP
  have iMD : ∀ w ∈ u_ws R_MD T_MD 32, w ∈ ws_MD_limit := fun w h => wb_MD_limit w (in_MD w h)
  have hl := lv_entry ([.ref g, .int u, .int z]) (n := 4) (Nat.le_of_ble_eq_true rfl)
  rw [lg_entry_eq]
  generalize (lg_sl ([.ref g, .int u, .int z]) ++ List.replicate (4 - (lg_sl ([.ref g, .int u, .int z])).length) Slot.unset).toArray = ls at hl ⊢
  have hl : lv_has ls 4 [(0, .ref g), (1, .int u), (2, .int z)] := hl
  refine lv_aload_n hx hb d_MD_limit_0 rfl (lv_at hl 0 rfl) ?_
  refine vz_join 14 [.ref g] (fun b9 H9 locs9 ls9 => (b9 = notF (inF u 0 (nI en - 1))) ∧ va_P (dC, dI) vwCl [(g, .inr (10, [.int th, .ref mPd, .int (nI pn), .int (nI bn), .ref mSg, .ref mSz, .ref mTo, .int (nI en), .ref mRo, .ref mLi, .int (nI hn), .ref mKi, .ref mCo, .ref mEm, .ref mVa, .int (nI an), .ref mA1, .ref mA2, .ref mA3, .ref mA4, .int (nI ln), .ref mLk, .int (nI xn), .ref mEx, .int (nI qn), .ref mQp, .ref mQd, .int wh, .int wt, .int fd, .int pp, .int wn]))] H9 ∧ va_D A [(g, .inr (10, [.int th, .ref mPd, .int (nI pn), .int (nI bn), .ref mSg, .ref mSz, .ref mTo, .int (nI en), .ref mRo, .ref mLi, .int (nI hn), .ref mKi, .ref mCo, .ref mEm, .ref mVa, .int (nI an), .ref mA1, .ref mA2, .ref mA3, .ref mA4, .int (nI ln), .ref mLk, .int (nI xn), .ref mEx, .int (nI qn), .ref mQp, .ref mQd, .int wh, .int wt, .int fd, .int pp, .int wn]))] ∧ va_S A s.heap H9 locs9 ∧ lv_has ls9 4 [(0, .ref g), (1, .int u), (2, .int z)]) (fun b9 H locs ls h9 => ?_) (fun k14 => ?_)
  · obtain ⟨rfl, hP, hD, hS, hl⟩ := h9
    refine vz_join 29 [.int (notF (inF u 0 (nI en - 1))), .ref g] (fun b9 H9 locs9 ls9 => (b9 = notF (inF z 0 60)) ∧ va_P (dC, dI) vwCl [(g, .inr (10, [.int th, .ref mPd, .int (nI pn), .int (nI bn), .ref mSg, .ref mSz, .ref mTo, .int (nI en), .ref mRo, .ref mLi, .int (nI hn), .ref mKi, .ref mCo, .ref mEm, .ref mVa, .int (nI an), .ref mA1, .ref mA2, .ref mA3, .ref mA4, .int (nI ln), .ref mLk, .int (nI xn), .ref mEx, .int (nI qn), .ref mQp, .ref mQd, .int wh, .int wt, .int fd, .int pp, .int wn]))] H9 ∧ va_D A [(g, .inr (10, [.int th, .ref mPd, .int (nI pn), .int (nI bn), .ref mSg, .ref mSz, .ref mTo, .int (nI en), .ref mRo, .ref mLi, .int (nI hn), .ref mKi, .ref mCo, .ref mEm, .ref mVa, .int (nI an), .ref mA1, .ref mA2, .ref mA3, .ref mA4, .int (nI ln), .ref mLk, .int (nI xn), .ref mEx, .int (nI qn), .ref mQp, .ref mQd, .int wh, .int wt, .int fd, .int pp, .int wn]))] ∧ va_S A s.heap H9 locs9 ∧ lv_has ls9 4 [(0, .ref g), (1, .int u), (2, .int z)]) (fun b9 H locs ls h9 => ?_) (fun k29 => ?_)
    · obtain ⟨rfl, hP, hD, hS, hl⟩ := h9
      refine lv_iconst (v := 0) hx hb d_MD_limit_29 (by decide) ?_
      have hPc := hP.sub (ws' := [(g, .inr (10, [.int th, .ref mPd, .int (nI pn), .int (nI bn), .ref mSg, .ref mSz, .ref mTo, .int (nI en), .ref mRo, .ref mLi, .int (nI hn), .ref mKi, .ref mCo, .ref mEm, .ref mVa, .int (nI an), .ref mA1, .ref mA2, .ref mA3, .ref mA4, .int (nI ln), .ref mLk, .int (nI xn), .ref mEx, .int (nI qn), .ref mQp, .ref mQd, .int wh, .int wt, .int fd, .int pp, .int wn]))]) [0] rfl
      have hKc := hK.sub (tys' := []) [] rfl
      have hDc := hD.sub (ws' := [(g, .inr (10, [.int th, .ref mPd, .int (nI pn), .int (nI bn), .ref mSg, .ref mSz, .ref mTo, .int (nI en), .ref mRo, .ref mLi, .int (nI hn), .ref mKi, .ref mCo, .ref mEm, .ref mVa, .int (nI an), .ref mA1, .ref mA2, .ref mA3, .ref mA4, .int (nI ln), .ref mLk, .int (nI xn), .ref mEx, .int (nI qn), .ref mQp, .ref mQd, .int wh, .int wt, .int fd, .int pp, .int wn]))]) [0] (by decide) rfl
      have hFc := va_free (wc := [(g, .inr (10, [.int th, .ref mPd, .int (nI pn), .int (nI bn), .ref mSg, .ref mSz, .ref mTo, .int (nI en), .ref mRo, .ref mLi, .int (nI hn), .ref mKi, .ref mCo, .ref mEm, .ref mVa, .int (nI an), .ref mA1, .ref mA2, .ref mA3, .ref mA4, .int (nI ln), .ref mLk, .int (nI xn), .ref mEx, .int (nI qn), .ref mQp, .ref mQd, .int wh, .int wt, .int fd, .int pp, .int wn]))]) hD hS hA [0] rfl
      refine va_calli (va_runV (As := [.int (notF (inF u 0 (nI en - 1))), .int (notF (inF z 0 60)), .int 0]) (rest := []) ⟨hx, hb, hml, hown, hts⟩ (c_MD_throwing l dC dI H.size g mPd mSg mSz mTo mRo mLi mKi mCo mEm mVa mA1 mA2 mA3 mA4 mLk mEx mQp mQd th pn bn en hn an ln xn qn wh wt fd pp wn (notF (inF u 0 (nI en - 1))) (notF (inF z 0 60)) 0) (cwV 3 hts (vz_gV wb_MD_limit b_777 b_779 bs_15 b_11 wc_MD_throwing) rfl rfl rfl (by decide +kernel) ⟨Nat.le_of_ble_eq_true rfl, Nat.le_of_ble_eq_true rfl⟩) (vz_preVw (A := A) hPc hKc hDc (ci := 10) (q0 := 0) rfl rfl) rfl rfl hl.1 rfl (lv_room (Nat.le_of_ble_eq_true rfl)) d_MD_limit_30 ⟨Nat.le_of_ble_eq_true rfl, Nat.le_of_ble_eq_true rfl⟩) hS (fun q _ h => hFc q h) hFc (fun r30 u9 t9 H1 locs ht hvm hr30 hB hzx9 hkx9 hS => ?_)
      try dsimp only at hr30
      obtain ⟨hP1, hK1, hD1⟩ := hB
      rw [ht] at hP1
      obtain ⟨hP, hD⟩ := va_join (wr := []) (w1 := [(g, .inr (10, [.int (thrF (notF (inF u 0 (nI en - 1))) (notF (inF z 0 60)) 0), .ref mPd, .int (nI pn), .int (nI bn), .ref mSg, .ref mSz, .ref mTo, .int (nI en), .ref mRo, .ref mLi, .int (nI hn), .ref mKi, .ref mCo, .ref mEm, .ref mVa, .int (nI an), .ref mA1, .ref mA2, .ref mA3, .ref mA4, .int (nI ln), .ref mLk, .int (nI xn), .ref mEx, .int (nI qn), .ref mQp, .ref mQd, .int wh, .int wt, .int fd, .int pp, .int wn]))]) hP hD [0] [] rfl rfl (by decide) (by decide) hkx9 hFc hP1 hD1
      generalize H1 = H at hP hS ⊢
      have hP : va_P (dC, dI) vwCl [(g, .inr (10, [.int (thrF (notF (inF u 0 (nI en - 1))) (notF (inF z 0 60)) 0), .ref mPd, .int (nI pn), .int (nI bn), .ref mSg, .ref mSz, .ref mTo, .int (nI en), .ref mRo, .ref mLi, .int (nI hn), .ref mKi, .ref mCo, .ref mEm, .ref mVa, .int (nI an), .ref mA1, .ref mA2, .ref mA3, .ref mA4, .int (nI ln), .ref mLk, .int (nI xn), .ref mEx, .int (nI qn), .ref mQp, .ref mQd, .int wh, .int wt, .int fd, .int pp, .int wn]))] H := hP
      have hD : va_D A [(g, .inr (10, [.int (thrF (notF (inF u 0 (nI en - 1))) (notF (inF z 0 60)) 0), .ref mPd, .int (nI pn), .int (nI bn), .ref mSg, .ref mSz, .ref mTo, .int (nI en), .ref mRo, .ref mLi, .int (nI hn), .ref mKi, .ref mCo, .ref mEm, .ref mVa, .int (nI an), .ref mA1, .ref mA2, .ref mA3, .ref mA4, .int (nI ln), .ref mLk, .int (nI xn), .ref mEx, .int (nI qn), .ref mQp, .ref mQd, .int wh, .int wt, .int fd, .int pp, .int wn]))] := hD
      refine lv_if_eq (tgt := 38) hx hb d_MD_limit_33 (by decide) (fun c33 => ?_) (fun c33 => ?_)
      · exact absurd (thrF_z (hr30.symm.trans c33)) hok
      · refine lv_iconst (v := 0) hx hb d_MD_limit_36 (by decide) ?_
        have hP9 := hP.sub (ws' := [(g, .inr (10, [.int (thrF (notF (inF u 0 (nI en - 1))) (notF (inF z 0 60)) 0), .ref mPd, .int (nI pn), .int (nI bn), .ref mSg, .ref mSz, .ref mTo, .int (nI en), .ref mRo, .ref mLi, .int (nI hn), .ref mKi, .ref mCo, .ref mEm, .ref mVa, .int (nI an), .ref mA1, .ref mA2, .ref mA3, .ref mA4, .int (nI ln), .ref mLk, .int (nI xn), .ref mEx, .int (nI qn), .ref mQp, .ref mQd, .int wh, .int wt, .int fd, .int pp, .int wn]))]) [0] rfl
        have hD9 := hD.sub (ws' := [(g, .inr (10, [.int (thrF (notF (inF u 0 (nI en - 1))) (notF (inF z 0 60)) 0), .ref mPd, .int (nI pn), .int (nI bn), .ref mSg, .ref mSz, .ref mTo, .int (nI en), .ref mRo, .ref mLi, .int (nI hn), .ref mKi, .ref mCo, .ref mEm, .ref mVa, .int (nI an), .ref mA1, .ref mA2, .ref mA3, .ref mA4, .int (nI ln), .ref mLk, .int (nI xn), .ref mEx, .int (nI qn), .ref mQp, .ref mQd, .int wh, .int wt, .int fd, .int pp, .int wn]))]) [0] (by decide) rfl
        exact W.iret (v := 0) hx hb hr (fun t ht hW => ⟨⟨0, (), rfl, rfl, by rw [ht]; exact hP9, va_K.moved hW.alike hK, hD9⟩, hS.F ht⟩) hS.2.2 d_MD_limit_37
    · refine lv_iload_n hx hb d_MD_limit_14 rfl (lv_at hl 2 rfl) ?_
      refine lv_iconst (v := 0) hx hb d_MD_limit_15 (by decide) ?_
      refine lv_bipush (v := 60) hx hb d_MD_limit_16 (by decide) ?_
      have hPc := hP.sub (ws' := []) [] rfl
      have hKc := hK.sub (tys' := []) [] rfl
      refine va_calli (va_runS (As := [.int z, .int 0, .int 60]) (rest := [.int (notF (inF u 0 (nI en - 1))), .ref g]) ⟨hx, hb, hml, hown, hts⟩ (c_MD_in l dC dI z 0 60) (va_cwS 3 hts (vz_gS wb_MD_limit b_796 b_797 b_11 wc_MD_in) rfl rfl rfl (by decide +kernel) ⟨Nat.le_of_ble_eq_true rfl, Nat.le_of_ble_eq_true rfl⟩) (vz_preS hPc hKc) rfl rfl hl.1 rfl (lv_room (Nat.le_of_ble_eq_true rfl)) d_MD_limit_18 ⟨Nat.le_of_ble_eq_true rfl, Nat.le_of_ble_eq_true rfl⟩) hS (fun q _ h => False.elim h) (fun q h => False.elim h) (fun r18 u9 t9 H1 locs ht hvm hr18 hB hzx9 hkx9 hS => ?_)
      try dsimp only at hr18
      have hP := vz_kept hP hkx9
      generalize H1 = H at hP hS ⊢
      refine lv_if_ne (tgt := 28) hx hb d_MD_limit_21 (by decide) (fun c21 => ?_) (fun c21 => ?_)
      · refine lv_iconst (v := 0) hx hb d_MD_limit_28 (by decide) ?_
        exact k29 _ _ _ _ ⟨by simp [notF, ← hr18, c21], hP, hD, hS, lv_sub hl [0, 1, 2] rfl⟩
      · refine lv_iconst (v := 1) hx hb d_MD_limit_24 (by decide) ?_
        refine lv_goto (tgt := 29) hx hb d_MD_limit_25 (by decide) ?_
        exact k29 _ _ _ _ ⟨by simp [notF, ← hr18, c21], hP, hD, hS, lv_sub hl [0, 1, 2] rfl⟩
  · refine lv_aload_n hx hb d_MD_limit_1 rfl (lv_at hl 0 rfl) ?_
    refine lv_iload_n hx hb d_MD_limit_2 rfl (lv_at hl 1 rfl) ?_
    have hPc := hP.sub (ws' := [(g, .inr (10, [.int th, .ref mPd, .int (nI pn), .int (nI bn), .ref mSg, .ref mSz, .ref mTo, .int (nI en), .ref mRo, .ref mLi, .int (nI hn), .ref mKi, .ref mCo, .ref mEm, .ref mVa, .int (nI an), .ref mA1, .ref mA2, .ref mA3, .ref mA4, .int (nI ln), .ref mLk, .int (nI xn), .ref mEx, .int (nI qn), .ref mQp, .ref mQd, .int wh, .int wt, .int fd, .int pp, .int wn]))]) [0] rfl
    have hKc := hK.sub (tys' := []) [] rfl
    refine va_calli (va_runV (As := [.int u]) (rest := [.ref g]) ⟨hx, hb, hml, hown, hts⟩ (c_MD_isPerson l dC dI g mPd mSg mSz mTo mRo mLi mKi mCo mEm mVa mA1 mA2 mA3 mA4 mLk mEx mQp mQd th pn bn en hn an ln xn qn wh wt fd pp wn u) (cwV 1 hts (vz_gV wb_MD_limit b_834 b_836 bs_19 b_11 wc_MD_isPerson) rfl rfl rfl (by decide +kernel) ⟨Nat.le_of_ble_eq_true rfl, Nat.le_of_ble_eq_true rfl⟩) (vz_preV hPc hKc (ci := 10) (q0 := 0) rfl rfl) rfl rfl hl.1 rfl (lv_room (Nat.le_of_ble_eq_true rfl)) d_MD_limit_3 ⟨Nat.le_of_ble_eq_true rfl, Nat.le_of_ble_eq_true rfl⟩) hS (fun q _ h => False.elim h) (fun q h => False.elim h) (fun r3 u9 t9 H1 locs ht hvm hr3 hB hzx9 hkx9 hS => ?_)
    try dsimp only at hr3
    have hP := vz_kept hP hkx9
    generalize H1 = H at hP hS ⊢
    refine lv_if_ne (tgt := 13) hx hb d_MD_limit_6 (by decide) (fun c6 => ?_) (fun c6 => ?_)
    · refine lv_iconst (v := 0) hx hb d_MD_limit_13 (by decide) ?_
      exact k14 _ _ _ _ ⟨by simp [notF, ← hr3, c6], hP, hD, hS, lv_sub hl [0, 1, 2] rfl⟩
    · refine lv_iconst (v := 1) hx hb d_MD_limit_9 (by decide) ?_
      refine lv_goto (tgt := 14) hx hb d_MD_limit_10 (by decide) ?_
      exact k14 _ _ _ _ ⟨by simp [notF, ← hr3, c6], hP, hD, hS, lv_sub hl [0, 1, 2] rfl⟩

set_option maxHeartbeats 4000000 in
set_option maxRecDepth 100000 in
theorem c_MD_limitG (l : Launch) (dC : Nat → ClassId) (dI : Nat → Nat → Nat) (sz : Nat) (cI : ClassId) (g mPd mSg mSz mTo mRo mLi mKi mCo mEm mVa mA1 mA2 mA3 mA4 mLk mEx mQp mQd : Nat) (th : Int32) (pn bn en hn an ln xn qn : Nat) (wh wt fd pp wn : Int32) (li : Nat → Int32) (hen : en ≤ 12) (u : Nat) (hu : u < en) (z : Int32) (hok : thrF (notF (inF (nI u) 0 (nI en - 1))) (notF (inF z 0 60)) 0 = 0) : Met l y_MD_limit ws_MD_limit ({ frames := 2, cells := 0, slots := 0, locals := 43 }) (va_Pc [.ref g, .int (nI u), .int z] (fun U => U.heap.size = sz ∧ va_P (dC, dI) vwCl [(g, .inr (10, [.int th, .ref mPd, .int (nI pn), .int (nI bn), .ref mSg, .ref mSz, .ref mTo, .int (nI en), .ref mRo, .ref mLi, .int (nI hn), .ref mKi, .ref mCo, .ref mEm, .ref mVa, .int (nI an), .ref mA1, .ref mA2, .ref mA3, .ref mA4, .int (nI ln), .ref mLk, .int (nI xn), .ref mEx, .int (nI qn), .ref mQp, .ref mQd, .int wh, .int wt, .int fd, .int pp, .int wn])), (mLi, .inl (cI, 12, .inl li))] U.heap ∧ va_K (dC, dI) vwCl [(cI, .int)] U ∧ va_D (fun _ => True) [(g, .inr (10, [.int th, .ref mPd, .int (nI pn), .int (nI bn), .ref mSg, .ref mSz, .ref mTo, .int (nI en), .ref mRo, .ref mLi, .int (nI hn), .ref mKi, .ref mCo, .ref mEm, .ref mVa, .int (nI an), .ref mA1, .ref mA2, .ref mA3, .ref mA4, .int (nI ln), .ref mLk, .int (nI xn), .ref mEx, .int (nI qn), .ref mQp, .ref mQd, .int wh, .int wt, .int fd, .int pp, .int wn])), (mLi, .inl (cI, 12, .inl li))])) (va_Qi (fun (res : Int32) (_ : Unit) => res = li u) (fun _ t => va_P (dC, dI) vwCl [(g, .inr (10, [.int (thrF (notF (inF (nI u) 0 (nI en - 1))) (notF (inF z 0 60)) 0), .ref mPd, .int (nI pn), .int (nI bn), .ref mSg, .ref mSz, .ref mTo, .int (nI en), .ref mRo, .ref mLi, .int (nI hn), .ref mKi, .ref mCo, .ref mEm, .ref mVa, .int (nI an), .ref mA1, .ref mA2, .ref mA3, .ref mA4, .int (nI ln), .ref mLk, .int (nI xn), .ref mEx, .int (nI qn), .ref mQp, .ref mQd, .int wh, .int wt, .int fd, .int pp, .int wn])), (mLi, .inl (cI, 12, .inl (upd li u z)))] t.heap ∧ va_K (dC, dI) vwCl [(cI, .int)] t ∧ va_D (va_A [(g, .inr (10, [.int th, .ref mPd, .int (nI pn), .int (nI bn), .ref mSg, .ref mSz, .ref mTo, .int (nI en), .ref mRo, .ref mLi, .int (nI hn), .ref mKi, .ref mCo, .ref mEm, .ref mVa, .int (nI an), .ref mA1, .ref mA2, .ref mA3, .ref mA4, .int (nI ln), .ref mLk, .int (nI xn), .ref mEx, .int (nI qn), .ref mQp, .ref mQd, .int wh, .int wt, .int fd, .int pp, .int wn])), (mLi, .inl (cI, 12, .inl li))] sz) [(g, .inr (10, [.int (thrF (notF (inF (nI u) 0 (nI en - 1))) (notF (inF z 0 60)) 0), .ref mPd, .int (nI pn), .int (nI bn), .ref mSg, .ref mSz, .ref mTo, .int (nI en), .ref mRo, .ref mLi, .int (nI hn), .ref mKi, .ref mCo, .ref mEm, .ref mVa, .int (nI an), .ref mA1, .ref mA2, .ref mA3, .ref mA4, .int (nI ln), .ref mLk, .int (nI xn), .ref mEx, .int (nI qn), .ref mQp, .ref mQd, .int wh, .int wt, .int fd, .int pp, .int wn])), (mLi, .inl (cI, 12, .inl (upd li u z)))]) (va_A [(g, .inr (10, [.int th, .ref mPd, .int (nI pn), .int (nI bn), .ref mSg, .ref mSz, .ref mTo, .int (nI en), .ref mRo, .ref mLi, .int (nI hn), .ref mKi, .ref mCo, .ref mEm, .ref mVa, .int (nI an), .ref mA1, .ref mA2, .ref mA3, .ref mA4, .int (nI ln), .ref mLk, .int (nI xn), .ref mEx, .int (nI qn), .ref mQp, .ref mQd, .int wh, .int wt, .int fd, .int pp, .int wn])), (mLi, .inl (cI, 12, .inl li))] sz)) 0 0 (va_A [(g, .inr (10, [.int th, .ref mPd, .int (nI pn), .int (nI bn), .ref mSg, .ref mSz, .ref mTo, .int (nI en), .ref mRo, .ref mLi, .int (nI hn), .ref mKi, .ref mCo, .ref mEm, .ref mVa, .int (nI an), .ref mA1, .ref mA2, .ref mA3, .ref mA4, .int (nI ln), .ref mLk, .int (nI xn), .ref mEx, .int (nI qn), .ref mQp, .ref mQd, .int wh, .int wt, .int fd, .int pp, .int wn])), (mLi, .inl (cI, 12, .inl li))] sz) := by
  refine Met.ofW (cc := k_MD_limit) (maxL := 4) (ret := (some .int)) (by decide) rfl ?_
  intro p e s m args below meth c s₁ B hml hv
  obtain ⟨rfl, hsz, hP, hK, hD0⟩ := hv
  have hx := B.exec
  have hb := B.bytes
  have hr := B.returns
  have hts := atoms_spec (ws := ws_MD_limit) B.pre
  have hown : s.vm.findClass R_MD = some m.cls := findClass_of_methodNamed B.named
  have hlocks := B.notSynchronized
  subst hsz
  have hD := hD0.self (sz := s.heap.size)
  generalize hAe : va_A [(g, .inr (10, [.int th, .ref mPd, .int (nI pn), .int (nI bn), .ref mSg, .ref mSz, .ref mTo, .int (nI en), .ref mRo, .ref mLi, .int (nI hn), .ref mKi, .ref mCo, .ref mEm, .ref mVa, .int (nI an), .ref mA1, .ref mA2, .ref mA3, .ref mA4, .int (nI ln), .ref mLk, .int (nI xn), .ref mEx, .int (nI qn), .ref mQp, .ref mQd, .int wh, .int wt, .int fd, .int pp, .int wn])), (mLi, .inl (cI, 12, .inl li))] s.heap.size = A at hD ⊢
  have hA : ∀ q : Nat, s.heap.size ≤ q → A q := fun q h => by rw [← hAe]; exact Or.inr h
  have hS : va_S A s.heap s.heap [] := va_S.rf
  have hP : va_P (dC, dI) vwCl [(g, .inr (10, [.int th, .ref mPd, .int (nI pn), .int (nI bn), .ref mSg, .ref mSz, .ref mTo, .int (nI en), .ref mRo, .ref mLi, .int (nI hn), .ref mKi, .ref mCo, .ref mEm, .ref mVa, .int (nI an), .ref mA1, .ref mA2, .ref mA3, .ref mA4, .int (nI ln), .ref mLk, .int (nI xn), .ref mEx, .int (nI qn), .ref mQp, .ref mQd, .int wh, .int wt, .int fd, .int pp, .int wn])), (mLi, .inl (cI, 12, .inl li))] s.heap := hP
  have iMD : ∀ w ∈ u_ws R_MD T_MD 32, w ∈ ws_MD_limit := fun w h => wb_MD_limit w (in_MD w h)
  have hl := lv_entry ([.ref g, .int (nI u), .int z]) (n := 4) (Nat.le_of_ble_eq_true rfl)
  rw [lg_entry_eq]
  generalize (lg_sl ([.ref g, .int (nI u), .int z]) ++ List.replicate (4 - (lg_sl ([.ref g, .int (nI u), .int z])).length) Slot.unset).toArray = ls at hl ⊢
  have hl : lv_has ls 4 [(0, .ref g), (1, .int (nI u)), (2, .int z)] := hl
  refine lv_aload_n hx hb d_MD_limit_0 rfl (lv_at hl 0 rfl) ?_
  refine vz_join 14 [.ref g] (fun b9 H9 locs9 ls9 => (b9 = notF (inF (nI u) 0 (nI en - 1))) ∧ va_P (dC, dI) vwCl [(g, .inr (10, [.int th, .ref mPd, .int (nI pn), .int (nI bn), .ref mSg, .ref mSz, .ref mTo, .int (nI en), .ref mRo, .ref mLi, .int (nI hn), .ref mKi, .ref mCo, .ref mEm, .ref mVa, .int (nI an), .ref mA1, .ref mA2, .ref mA3, .ref mA4, .int (nI ln), .ref mLk, .int (nI xn), .ref mEx, .int (nI qn), .ref mQp, .ref mQd, .int wh, .int wt, .int fd, .int pp, .int wn])), (mLi, .inl (cI, 12, .inl li))] H9 ∧ va_D A [(g, .inr (10, [.int th, .ref mPd, .int (nI pn), .int (nI bn), .ref mSg, .ref mSz, .ref mTo, .int (nI en), .ref mRo, .ref mLi, .int (nI hn), .ref mKi, .ref mCo, .ref mEm, .ref mVa, .int (nI an), .ref mA1, .ref mA2, .ref mA3, .ref mA4, .int (nI ln), .ref mLk, .int (nI xn), .ref mEx, .int (nI qn), .ref mQp, .ref mQd, .int wh, .int wt, .int fd, .int pp, .int wn])), (mLi, .inl (cI, 12, .inl li))] ∧ va_S A s.heap H9 locs9 ∧ lv_has ls9 4 [(0, .ref g), (1, .int (nI u)), (2, .int z)]) (fun b9 H locs ls h9 => ?_) (fun k14 => ?_)
  · obtain ⟨rfl, hP, hD, hS, hl⟩ := h9
    refine vz_join 29 [.int (notF (inF (nI u) 0 (nI en - 1))), .ref g] (fun b9 H9 locs9 ls9 => (b9 = notF (inF z 0 60)) ∧ va_P (dC, dI) vwCl [(g, .inr (10, [.int th, .ref mPd, .int (nI pn), .int (nI bn), .ref mSg, .ref mSz, .ref mTo, .int (nI en), .ref mRo, .ref mLi, .int (nI hn), .ref mKi, .ref mCo, .ref mEm, .ref mVa, .int (nI an), .ref mA1, .ref mA2, .ref mA3, .ref mA4, .int (nI ln), .ref mLk, .int (nI xn), .ref mEx, .int (nI qn), .ref mQp, .ref mQd, .int wh, .int wt, .int fd, .int pp, .int wn])), (mLi, .inl (cI, 12, .inl li))] H9 ∧ va_D A [(g, .inr (10, [.int th, .ref mPd, .int (nI pn), .int (nI bn), .ref mSg, .ref mSz, .ref mTo, .int (nI en), .ref mRo, .ref mLi, .int (nI hn), .ref mKi, .ref mCo, .ref mEm, .ref mVa, .int (nI an), .ref mA1, .ref mA2, .ref mA3, .ref mA4, .int (nI ln), .ref mLk, .int (nI xn), .ref mEx, .int (nI qn), .ref mQp, .ref mQd, .int wh, .int wt, .int fd, .int pp, .int wn])), (mLi, .inl (cI, 12, .inl li))] ∧ va_S A s.heap H9 locs9 ∧ lv_has ls9 4 [(0, .ref g), (1, .int (nI u)), (2, .int z)]) (fun b9 H locs ls h9 => ?_) (fun k29 => ?_)
    · obtain ⟨rfl, hP, hD, hS, hl⟩ := h9
      refine lv_iconst (v := 0) hx hb d_MD_limit_29 (by decide) ?_
      have hPc := hP.sub (ws' := [(g, .inr (10, [.int th, .ref mPd, .int (nI pn), .int (nI bn), .ref mSg, .ref mSz, .ref mTo, .int (nI en), .ref mRo, .ref mLi, .int (nI hn), .ref mKi, .ref mCo, .ref mEm, .ref mVa, .int (nI an), .ref mA1, .ref mA2, .ref mA3, .ref mA4, .int (nI ln), .ref mLk, .int (nI xn), .ref mEx, .int (nI qn), .ref mQp, .ref mQd, .int wh, .int wt, .int fd, .int pp, .int wn]))]) [0] rfl
      have hKc := hK.sub (tys' := []) [] rfl
      have hDc := hD.sub (ws' := [(g, .inr (10, [.int th, .ref mPd, .int (nI pn), .int (nI bn), .ref mSg, .ref mSz, .ref mTo, .int (nI en), .ref mRo, .ref mLi, .int (nI hn), .ref mKi, .ref mCo, .ref mEm, .ref mVa, .int (nI an), .ref mA1, .ref mA2, .ref mA3, .ref mA4, .int (nI ln), .ref mLk, .int (nI xn), .ref mEx, .int (nI qn), .ref mQp, .ref mQd, .int wh, .int wt, .int fd, .int pp, .int wn]))]) [0] (by decide) rfl
      have hFc := va_free (wc := [(g, .inr (10, [.int th, .ref mPd, .int (nI pn), .int (nI bn), .ref mSg, .ref mSz, .ref mTo, .int (nI en), .ref mRo, .ref mLi, .int (nI hn), .ref mKi, .ref mCo, .ref mEm, .ref mVa, .int (nI an), .ref mA1, .ref mA2, .ref mA3, .ref mA4, .int (nI ln), .ref mLk, .int (nI xn), .ref mEx, .int (nI qn), .ref mQp, .ref mQd, .int wh, .int wt, .int fd, .int pp, .int wn]))]) hD hS hA [0] rfl
      refine va_calli (va_runV (As := [.int (notF (inF (nI u) 0 (nI en - 1))), .int (notF (inF z 0 60)), .int 0]) (rest := []) ⟨hx, hb, hml, hown, hts⟩ (c_MD_throwing l dC dI H.size g mPd mSg mSz mTo mRo mLi mKi mCo mEm mVa mA1 mA2 mA3 mA4 mLk mEx mQp mQd th pn bn en hn an ln xn qn wh wt fd pp wn (notF (inF (nI u) 0 (nI en - 1))) (notF (inF z 0 60)) 0) (cwV 3 hts (vz_gV wb_MD_limit b_777 b_779 bs_15 b_11 wc_MD_throwing) rfl rfl rfl (by decide +kernel) ⟨Nat.le_of_ble_eq_true rfl, Nat.le_of_ble_eq_true rfl⟩) (vz_preVw (A := A) hPc hKc hDc (ci := 10) (q0 := 0) rfl rfl) rfl rfl hl.1 rfl (lv_room (Nat.le_of_ble_eq_true rfl)) d_MD_limit_30 ⟨Nat.le_of_ble_eq_true rfl, Nat.le_of_ble_eq_true rfl⟩) hS (fun q _ h => hFc q h) hFc (fun r30 u9 t9 H1 locs ht hvm hr30 hB hzx9 hkx9 hS => ?_)
      try dsimp only at hr30
      obtain ⟨hP1, hK1, hD1⟩ := hB
      rw [ht] at hP1
      obtain ⟨hP, hD⟩ := va_join (wr := [(mLi, .inl (cI, 12, .inl li))]) (w1 := [(g, .inr (10, [.int (thrF (notF (inF (nI u) 0 (nI en - 1))) (notF (inF z 0 60)) 0), .ref mPd, .int (nI pn), .int (nI bn), .ref mSg, .ref mSz, .ref mTo, .int (nI en), .ref mRo, .ref mLi, .int (nI hn), .ref mKi, .ref mCo, .ref mEm, .ref mVa, .int (nI an), .ref mA1, .ref mA2, .ref mA3, .ref mA4, .int (nI ln), .ref mLk, .int (nI xn), .ref mEx, .int (nI qn), .ref mQp, .ref mQd, .int wh, .int wt, .int fd, .int pp, .int wn]))]) hP hD [0] [1] rfl rfl (by decide) (by decide) hkx9 hFc hP1 hD1
      generalize H1 = H at hP hS ⊢
      have hP : va_P (dC, dI) vwCl [(mLi, .inl (cI, 12, .inl li)), (g, .inr (10, [.int (thrF (notF (inF (nI u) 0 (nI en - 1))) (notF (inF z 0 60)) 0), .ref mPd, .int (nI pn), .int (nI bn), .ref mSg, .ref mSz, .ref mTo, .int (nI en), .ref mRo, .ref mLi, .int (nI hn), .ref mKi, .ref mCo, .ref mEm, .ref mVa, .int (nI an), .ref mA1, .ref mA2, .ref mA3, .ref mA4, .int (nI ln), .ref mLk, .int (nI xn), .ref mEx, .int (nI qn), .ref mQp, .ref mQd, .int wh, .int wt, .int fd, .int pp, .int wn]))] H := hP
      have hD : va_D A [(mLi, .inl (cI, 12, .inl li)), (g, .inr (10, [.int (thrF (notF (inF (nI u) 0 (nI en - 1))) (notF (inF z 0 60)) 0), .ref mPd, .int (nI pn), .int (nI bn), .ref mSg, .ref mSz, .ref mTo, .int (nI en), .ref mRo, .ref mLi, .int (nI hn), .ref mKi, .ref mCo, .ref mEm, .ref mVa, .int (nI an), .ref mA1, .ref mA2, .ref mA3, .ref mA4, .int (nI ln), .ref mLk, .int (nI xn), .ref mEx, .int (nI qn), .ref mQp, .ref mQd, .int wh, .int wt, .int fd, .int pp, .int wn]))] := hD
      refine lv_if_eq (tgt := 38) hx hb d_MD_limit_33 (by decide) (fun c33 => ?_) (fun c33 => ?_)
      · refine lv_aload_n hx hb d_MD_limit_38 rfl (lv_at hl 0 rfl) ?_
        refine va_get (D := (dC, dI)) (ci := 10) (v := .ref mLi) (C := R_MD) (T := T_MD) (N := 32) hx hb hts iMD hown hK hP 1 rfl rfl 9 (by decide) (hts _ (wb_MD_limit _ b_677)) (fun _ h9 => h9) rfl d_MD_limit_39 ?_
        refine lv_iload_n hx hb d_MD_limit_42 rfl (lv_at hl 1 rfl) ?_
        refine vz_iald (k := u) hx hb hK hP 0 0 rfl rfl (by omega) (by decide) d_MD_limit_43 ?_
        refine lv_istore_n (lv' := [(3, .int (li u)), (0, .ref g), (1, .int (nI u)), (2, .int z)]) hx hb d_MD_limit_44 rfl hl (by decide) rfl (fun ls hl => ?_)
        refine lv_aload_n hx hb d_MD_limit_45 rfl (lv_at hl 1 rfl) ?_
        refine va_get (D := (dC, dI)) (ci := 10) (v := .ref mLi) (C := R_MD) (T := T_MD) (N := 32) hx hb hts iMD hown hK hP 1 rfl rfl 9 (by decide) (hts _ (wb_MD_limit _ b_677)) (fun _ h9 => h9) rfl d_MD_limit_46 ?_
        refine lv_iload_n hx hb d_MD_limit_49 rfl (lv_at hl 2 rfl) ?_
        refine lv_iload_n hx hb d_MD_limit_50 rfl (lv_at hl 3 rfl) ?_
        refine vz_iast (k := u) hx hb hK hP hD hS 0 0 rfl rfl (by omega) (by decide) d_MD_limit_51 (fun H locs hP hD hS => ?_)
        have hP : va_P (dC, dI) vwCl [(mLi, .inl (cI, 12, .inl (upd li u z))), (g, .inr (10, [.int (thrF (notF (inF (nI u) 0 (nI en - 1))) (notF (inF z 0 60)) 0), .ref mPd, .int (nI pn), .int (nI bn), .ref mSg, .ref mSz, .ref mTo, .int (nI en), .ref mRo, .ref mLi, .int (nI hn), .ref mKi, .ref mCo, .ref mEm, .ref mVa, .int (nI an), .ref mA1, .ref mA2, .ref mA3, .ref mA4, .int (nI ln), .ref mLk, .int (nI xn), .ref mEx, .int (nI qn), .ref mQp, .ref mQd, .int wh, .int wt, .int fd, .int pp, .int wn]))] H := hP
        have hD : va_D A [(mLi, .inl (cI, 12, .inl (upd li u z))), (g, .inr (10, [.int (thrF (notF (inF (nI u) 0 (nI en - 1))) (notF (inF z 0 60)) 0), .ref mPd, .int (nI pn), .int (nI bn), .ref mSg, .ref mSz, .ref mTo, .int (nI en), .ref mRo, .ref mLi, .int (nI hn), .ref mKi, .ref mCo, .ref mEm, .ref mVa, .int (nI an), .ref mA1, .ref mA2, .ref mA3, .ref mA4, .int (nI ln), .ref mLk, .int (nI xn), .ref mEx, .int (nI qn), .ref mQp, .ref mQd, .int wh, .int wt, .int fd, .int pp, .int wn]))] := hD
        refine lv_iload_n hx hb d_MD_limit_52 rfl (lv_at hl 0 rfl) ?_
        have hP9 := hP.sub (ws' := [(g, .inr (10, [.int (thrF (notF (inF (nI u) 0 (nI en - 1))) (notF (inF z 0 60)) 0), .ref mPd, .int (nI pn), .int (nI bn), .ref mSg, .ref mSz, .ref mTo, .int (nI en), .ref mRo, .ref mLi, .int (nI hn), .ref mKi, .ref mCo, .ref mEm, .ref mVa, .int (nI an), .ref mA1, .ref mA2, .ref mA3, .ref mA4, .int (nI ln), .ref mLk, .int (nI xn), .ref mEx, .int (nI qn), .ref mQp, .ref mQd, .int wh, .int wt, .int fd, .int pp, .int wn])), (mLi, .inl (cI, 12, .inl (upd li u z)))]) [1, 0] rfl
        have hD9 := hD.sub (ws' := [(g, .inr (10, [.int (thrF (notF (inF (nI u) 0 (nI en - 1))) (notF (inF z 0 60)) 0), .ref mPd, .int (nI pn), .int (nI bn), .ref mSg, .ref mSz, .ref mTo, .int (nI en), .ref mRo, .ref mLi, .int (nI hn), .ref mKi, .ref mCo, .ref mEm, .ref mVa, .int (nI an), .ref mA1, .ref mA2, .ref mA3, .ref mA4, .int (nI ln), .ref mLk, .int (nI xn), .ref mEx, .int (nI qn), .ref mQp, .ref mQd, .int wh, .int wt, .int fd, .int pp, .int wn])), (mLi, .inl (cI, 12, .inl (upd li u z)))]) [1, 0] (by decide) rfl
        exact W.iret (v := li u) hx hb hr (fun t ht hW => ⟨⟨li u, (), rfl, rfl, by rw [ht]; exact hP9, va_K.moved hW.alike hK, hD9⟩, hS.F ht⟩) hS.2.2 d_MD_limit_53
      · exact absurd (hr30.trans (thrB_z hok)) c33
    · refine lv_iload_n hx hb d_MD_limit_14 rfl (lv_at hl 2 rfl) ?_
      refine lv_iconst (v := 0) hx hb d_MD_limit_15 (by decide) ?_
      refine lv_bipush (v := 60) hx hb d_MD_limit_16 (by decide) ?_
      have hPc := hP.sub (ws' := []) [] rfl
      have hKc := hK.sub (tys' := []) [] rfl
      refine va_calli (va_runS (As := [.int z, .int 0, .int 60]) (rest := [.int (notF (inF (nI u) 0 (nI en - 1))), .ref g]) ⟨hx, hb, hml, hown, hts⟩ (c_MD_in l dC dI z 0 60) (va_cwS 3 hts (vz_gS wb_MD_limit b_796 b_797 b_11 wc_MD_in) rfl rfl rfl (by decide +kernel) ⟨Nat.le_of_ble_eq_true rfl, Nat.le_of_ble_eq_true rfl⟩) (vz_preS hPc hKc) rfl rfl hl.1 rfl (lv_room (Nat.le_of_ble_eq_true rfl)) d_MD_limit_18 ⟨Nat.le_of_ble_eq_true rfl, Nat.le_of_ble_eq_true rfl⟩) hS (fun q _ h => False.elim h) (fun q h => False.elim h) (fun r18 u9 t9 H1 locs ht hvm hr18 hB hzx9 hkx9 hS => ?_)
      try dsimp only at hr18
      have hP := vz_kept hP hkx9
      generalize H1 = H at hP hS ⊢
      refine lv_if_ne (tgt := 28) hx hb d_MD_limit_21 (by decide) (fun c21 => ?_) (fun c21 => ?_)
      · refine lv_iconst (v := 0) hx hb d_MD_limit_28 (by decide) ?_
        exact k29 _ _ _ _ ⟨by simp [notF, ← hr18, c21], hP, hD, hS, lv_sub hl [0, 1, 2] rfl⟩
      · refine lv_iconst (v := 1) hx hb d_MD_limit_24 (by decide) ?_
        refine lv_goto (tgt := 29) hx hb d_MD_limit_25 (by decide) ?_
        exact k29 _ _ _ _ ⟨by simp [notF, ← hr18, c21], hP, hD, hS, lv_sub hl [0, 1, 2] rfl⟩
  · refine lv_aload_n hx hb d_MD_limit_1 rfl (lv_at hl 0 rfl) ?_
    refine lv_iload_n hx hb d_MD_limit_2 rfl (lv_at hl 1 rfl) ?_
    have hPc := hP.sub (ws' := [(g, .inr (10, [.int th, .ref mPd, .int (nI pn), .int (nI bn), .ref mSg, .ref mSz, .ref mTo, .int (nI en), .ref mRo, .ref mLi, .int (nI hn), .ref mKi, .ref mCo, .ref mEm, .ref mVa, .int (nI an), .ref mA1, .ref mA2, .ref mA3, .ref mA4, .int (nI ln), .ref mLk, .int (nI xn), .ref mEx, .int (nI qn), .ref mQp, .ref mQd, .int wh, .int wt, .int fd, .int pp, .int wn]))]) [0] rfl
    have hKc := hK.sub (tys' := []) [] rfl
    refine va_calli (va_runV (As := [.int (nI u)]) (rest := [.ref g]) ⟨hx, hb, hml, hown, hts⟩ (c_MD_isPerson l dC dI g mPd mSg mSz mTo mRo mLi mKi mCo mEm mVa mA1 mA2 mA3 mA4 mLk mEx mQp mQd th pn bn en hn an ln xn qn wh wt fd pp wn (nI u)) (cwV 1 hts (vz_gV wb_MD_limit b_834 b_836 bs_19 b_11 wc_MD_isPerson) rfl rfl rfl (by decide +kernel) ⟨Nat.le_of_ble_eq_true rfl, Nat.le_of_ble_eq_true rfl⟩) (vz_preV hPc hKc (ci := 10) (q0 := 0) rfl rfl) rfl rfl hl.1 rfl (lv_room (Nat.le_of_ble_eq_true rfl)) d_MD_limit_3 ⟨Nat.le_of_ble_eq_true rfl, Nat.le_of_ble_eq_true rfl⟩) hS (fun q _ h => False.elim h) (fun q h => False.elim h) (fun r3 u9 t9 H1 locs ht hvm hr3 hB hzx9 hkx9 hS => ?_)
    try dsimp only at hr3
    have hP := vz_kept hP hkx9
    generalize H1 = H at hP hS ⊢
    refine lv_if_ne (tgt := 13) hx hb d_MD_limit_6 (by decide) (fun c6 => ?_) (fun c6 => ?_)
    · refine lv_iconst (v := 0) hx hb d_MD_limit_13 (by decide) ?_
      exact k14 _ _ _ _ ⟨by simp [notF, ← hr3, c6], hP, hD, hS, lv_sub hl [0, 1, 2] rfl⟩
    · refine lv_iconst (v := 1) hx hb d_MD_limit_9 (by decide) ?_
      refine lv_goto (tgt := 14) hx hb d_MD_limit_10 (by decide) ?_
      exact k14 _ _ _ _ ⟨by simp [notF, ← hr3, c6], hP, hD, hS, lv_sub hl [0, 1, 2] rfl⟩
