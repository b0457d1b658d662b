/-- the reference's search for an agreement among the first k -/
def hasM (ap ar af at_ : Nat → Int32) (w r d : Int32) : Nat → Int32
  | 0 => 0
  | k + 1 => if ¬ hasM ap ar af at_ w r d k = 0 then 1 else if ap k = w ∧ ar k = r ∧ af k ≤ d ∧ d ≤ at_ k then 1 else 0
theorem hasM_z (ap ar af at_ : Nat → Int32) (w r d : Int32) (k : Nat) : hasM ap ar af at_ w r d k = 0 ∨ hasM ap ar af at_ w r d k = 1 := by
  cases k with
  | zero => exact Or.inl rfl
  | succ k => unfold hasM; (repeat' split) <;> first | exact Or.inl rfl | exact Or.inr rfl

theorem hasM_no {ap ar af at_ : Nat → Int32} {w r d : Int32} {k : Nat} (h : hasM ap ar af at_ w r d k = 0) (hn : ¬ (ap k = w ∧ ar k = r ∧ af k ≤ d ∧ d ≤ at_ k)) : hasM ap ar af at_ w r d (k + 1) = 0 := by
  show (if ¬ hasM ap ar af at_ w r d k = 0 then _ else _) = _
  rw [if_neg (fun h9 => h9 h), if_neg hn]
theorem hasM_yes {ap ar af at_ : Nat → Int32} {w r d : Int32} {k : Nat} (h : hasM ap ar af at_ w r d k = 0) (hn : ap k = w ∧ ar k = r ∧ af k ≤ d ∧ d ≤ at_ k) : hasM ap ar af at_ w r d (k + 1) = 1 := by
  show (if ¬ hasM ap ar af at_ w r d k = 0 then _ else _) = _
  rw [if_neg (fun h9 => h9 h), if_pos hn]
theorem hasM_on {ap ar af at_ : Nat → Int32} {w r d : Int32} {k : Nat} (h : ¬ hasM ap ar af at_ w r d k = 0) : hasM ap ar af at_ w r d (k + 1) = 1 := if_pos h

set_option maxHeartbeats 4000000 in
set_option maxRecDepth 100000 in
theorem lp_MD_hasAgreement_6 {p : Program} {l : Launch} {e : Env} {R : Room} {s : State} {m : MethodId} {args : Array Value} {below : List Frame} {meth : Method} {c : Code} {cells slots : Nat} {Q : State → Prop} {A : Nat → Prop} {H0 : Heap} (dC : Nat → ClassId) (dI : Nat → Nat → Nat) (cI : ClassId) (g mPd mSg mSz mTo mRo mLi mKi mCo mEm mVa mA1 mA2 mA3 mA4 mLk mEx mQp mQd : Nat) (th : Int32) (pn bn en hn an ln xn qn : Nat) (wh wt fd pp wn : Int32) (ap : Nat → Int32) (ar : Nat → Int32) (af : Nat → Int32) (at_ : Nat → Int32) (han : an ≤ 40) (w r d : Int32)  (hx : p.tables.exec = Jvm.exec) (hb : c.code = k_MD_hasAgreement) (hml : c.maxLocals = 6) (hts : ∀ w ∈ ws_MD_hasAgreement, w.before args s = true) (hown : s.vm.findClass R_MD = some m.cls) (hK : va_K (dC, dI) vwCl [(cI, .int)] s) (kx77 : ∀ (v : Int32), (v = hasM ap ar af at_ w r d an) → ∀ (H : Heap) (locs : List Loc), va_P (dC, dI) vwCl [(g, .inr (10, [.int th, .ref mPd, .int (nI pn), .int (nI bn), .ref mSg, .ref mSz, .ref mTo, .int (nI en), .ref mRo, .ref mLi, .int (nI hn), .ref mKi, .ref mCo, .ref mEm, .ref mVa, .int (nI an), .ref mA1, .ref mA2, .ref mA3, .ref mA4, .int (nI ln), .ref mLk, .int (nI xn), .ref mEx, .int (nI qn), .ref mQp, .ref mQd, .int wh, .int wt, .int fd, .int pp, .int wn])), (mA1, .inl (cI, 40, .inl ap)), (mA2, .inl (cI, 40, .inl ar)), (mA3, .inl (cI, 40, .inl af)), (mA4, .inl (cI, 40, .inl at_))] H → va_S A H0 H locs → ∀ ls : Array Slot, lv_has ls 6 [(4, .int v)] → W p l e R s m args below meth c H locs cells slots Q (F0 m 77 ls [])) : ∀ (N : Nat), ∀ (k : Nat), ∀ (v : Int32), an + 1 ≤ k + N → (k ≤ an) → (v = hasM ap ar af at_ w r d k) → ∀ (H : Heap) (locs : List Loc), va_P (dC, dI) vwCl [(g, .inr (10, [.int th, .ref mPd, .int (nI pn), .int (nI bn), .ref mSg, .ref mSz, .ref mTo, .int (nI en), .ref mRo, .ref mLi, .int (nI hn), .ref mKi, .ref mCo, .ref mEm, .ref mVa, .int (nI an), .ref mA1, .ref mA2, .ref mA3, .ref mA4, .int (nI ln), .ref mLk, .int (nI xn), .ref mEx, .int (nI qn), .ref mQp, .ref mQd, .int wh, .int wt, .int fd, .int pp, .int wn])), (mA1, .inl (cI, 40, .inl ap)), (mA2, .inl (cI, 40, .inl ar)), (mA3, .inl (cI, 40, .inl af)), (mA4, .inl (cI, 40, .inl at_))] H → va_S A H0 H locs → ∀ ls : Array Slot, lv_has ls 6 [(5, .int (nI k)), (4, .int v), (0, .ref g), (1, .int w), (2, .int r), (3, .int d)] → W p l e R s m args below meth c H locs cells slots Q (F0 m 6 ls []) := by
  have iMD : ∀ w ∈ u_ws R_MD T_MD 32, w ∈ ws_MD_hasAgreement := fun w h => wb_MD_hasAgreement w (in_MD w h)
  intro N
  induction N with
  | zero =>
    intro k v hme hk hv
    exact absurd hme (by omega)
  | succ N ih =>
    intro k v hme hk hv H locs hP hS ls hl
    refine lv_iload hx hb d_MD_hasAgreement_6 (lv_at hl 0 rfl) ?_
    refine lv_aload_n hx hb d_MD_hasAgreement_8 rfl (lv_at hl 2 rfl) ?_
    refine va_get (D := (dC, dI)) (ci := 10) (v := .int (nI an)) (C := R_MD) (T := T_MD) (N := 32) hx hb hts iMD hown hK hP 0 rfl rfl 15 (by decide) (hts _ (wb_MD_hasAgreement _ b_683)) (fun _ h9 => h9) rfl d_MD_hasAgreement_9 ?_
    refine lv_icmp_ge (tgt := 77) hx hb d_MD_hasAgreement_12 (by decide) (fun c12 => ?_) (fun c12 => ?_)
    · have hge : an ≤ k := (nI_leI (show an < 2147483648 by omega) (show k < 2147483648 by omega)).mp c12
      exact kx77 v (by rw [hv, show k = an by omega]) _ _ hP hS ls (lv_sub hl [1] rfl)
    · have hlt : k < an := Nat.lt_of_not_le (mt (nI_leI (show an < 2147483648 by omega) (show k < 2147483648 by omega)).mpr c12)
      refine vz_join 69 [] (fun b9 H9 locs9 ls9 => (b9 = hasM ap ar af at_ w r d (k + 1)) ∧ va_P (dC, dI) vwCl [(g, .inr (10, [.int th, .ref mPd, .int (nI pn), .int (nI bn), .ref mSg, .ref mSz, .ref mTo, .int (nI en), .ref mRo, .ref mLi, .int (nI hn), .ref mKi, .ref mCo, .ref mEm, .ref mVa, .int (nI an), .ref mA1, .ref mA2, .ref mA3, .ref mA4, .int (nI ln), .ref mLk, .int (nI xn), .ref mEx, .int (nI qn), .ref mQp, .ref mQd, .int wh, .int wt, .int fd, .int pp, .int wn])), (mA1, .inl (cI, 40, .inl ap)), (mA2, .inl (cI, 40, .inl ar)), (mA3, .inl (cI, 40, .inl af)), (mA4, .inl (cI, 40, .inl at_))] H9 ∧ va_S A H0 H9 locs9 ∧ lv_has ls9 6 [(5, .int (nI k)), (4, .int v), (0, .ref g), (1, .int w), (2, .int r), (3, .int d)]) (fun b9 H locs ls h9 => ?_) (fun k69 => ?_)
      · obtain ⟨rfl, hP, hS, hl⟩ := h9
        refine lv_istore (lv' := [(4, .int (hasM ap ar af at_ w r d (k + 1))), (5, .int (nI k)), (0, .ref g), (1, .int w), (2, .int r), (3, .int d)]) hx hb d_MD_hasAgreement_69 hl (by decide) rfl (fun ls hl => ?_)
        refine lv_iinc (v := nI (k + 1)) (lv' := [(5, .int (nI (k + 1))), (4, .int (hasM ap ar af at_ w r d (k + 1))), (0, .ref g), (1, .int w), (2, .int r), (3, .int d)]) hx hb d_MD_hasAgreement_71 hl (k := 1) rfl (nI_1 k) (by decide) rfl (fun ls hl => ?_)
        refine lv_goto (tgt := 6) hx hb d_MD_hasAgreement_74 (by decide) ?_
        exact ih (k + 1) (hasM ap ar af at_ w r d (k + 1)) (by omega) (by omega) (rfl) _ _ hP hS ls (lv_sub hl [0, 1, 2, 3, 4, 5] rfl)
      · refine lv_iload hx hb d_MD_hasAgreement_15 (lv_at hl 1 rfl) ?_
        refine lv_if_ne (tgt := 64) hx hb d_MD_hasAgreement_17 (by decide) (fun c17 => ?_) (fun c17 => ?_)
        · refine lv_iconst (v := 1) hx hb d_MD_hasAgreement_64 (by decide) ?_
          refine lv_goto (tgt := 69) hx hb d_MD_hasAgreement_65 (by decide) ?_
          exact k69 _ _ _ _ ⟨(hasM_on (by rw [← hv]; exact c17)).symm, hP, hS, lv_sub hl [0, 1, 2, 3, 4, 5] rfl⟩
        · refine lv_aload_n hx hb d_MD_hasAgreement_20 rfl (lv_at hl 2 rfl) ?_
          refine va_get (D := (dC, dI)) (ci := 10) (v := .ref mA1) (C := R_MD) (T := T_MD) (N := 32) hx hb hts iMD hown hK hP 0 rfl rfl 16 (by decide) (hts _ (wb_MD_hasAgreement _ b_684)) (fun _ h9 => h9) rfl d_MD_hasAgreement_21 ?_
          refine lv_iload hx hb d_MD_hasAgreement_24 (lv_at hl 0 rfl) ?_
          refine vz_iald (k := k) hx hb hK hP 1 0 rfl rfl (by omega) (by decide) d_MD_hasAgreement_26 ?_
          refine lv_iload_n hx hb d_MD_hasAgreement_27 rfl (lv_at hl 3 rfl) ?_
          refine lv_icmp_ne (tgt := 68) hx hb d_MD_hasAgreement_28 (by decide) (fun c28 => ?_) (fun c28 => ?_)
          · refine lv_iconst (v := 0) hx hb d_MD_hasAgreement_68 (by decide) ?_
            exact k69 _ _ _ _ ⟨(hasM_no (hv.symm.trans c17) (fun h9 => absurd h9.1 c28)).symm, hP, hS, lv_sub hl [0, 1, 2, 3, 4, 5] rfl⟩
          · refine lv_aload_n hx hb d_MD_hasAgreement_31 rfl (lv_at hl 2 rfl) ?_
            refine va_get (D := (dC, dI)) (ci := 10) (v := .ref mA2) (C := R_MD) (T := T_MD) (N := 32) hx hb hts iMD hown hK hP 0 rfl rfl 17 (by decide) (hts _ (wb_MD_hasAgreement _ b_685)) (fun _ h9 => h9) rfl d_MD_hasAgreement_32 ?_
            refine lv_iload hx hb d_MD_hasAgreement_35 (lv_at hl 0 rfl) ?_
            refine vz_iald (k := k) hx hb hK hP 2 0 rfl rfl (by omega) (by decide) d_MD_hasAgreement_37 ?_
            refine lv_iload_n hx hb d_MD_hasAgreement_38 rfl (lv_at hl 4 rfl) ?_
            refine lv_icmp_ne (tgt := 68) hx hb d_MD_hasAgreement_39 (by decide) (fun c39 => ?_) (fun c39 => ?_)
            · refine lv_iconst (v := 0) hx hb d_MD_hasAgreement_68 (by decide) ?_
              exact k69 _ _ _ _ ⟨(hasM_no (hv.symm.trans c17) (fun h9 => absurd h9.2.1 c39)).symm, hP, hS, lv_sub hl [0, 1, 2, 3, 4, 5] rfl⟩
            · refine lv_aload_n hx hb d_MD_hasAgreement_42 rfl (lv_at hl 2 rfl) ?_
              refine va_get (D := (dC, dI)) (ci := 10) (v := .ref mA3) (C := R_MD) (T := T_MD) (N := 32) hx hb hts iMD hown hK hP 0 rfl rfl 18 (by decide) (hts _ (wb_MD_hasAgreement _ b_686)) (fun _ h9 => h9) rfl d_MD_hasAgreement_43 ?_
              refine lv_iload hx hb d_MD_hasAgreement_46 (lv_at hl 0 rfl) ?_
              refine vz_iald (k := k) hx hb hK hP 3 0 rfl rfl (by omega) (by decide) d_MD_hasAgreement_48 ?_
              refine lv_iload_n hx hb d_MD_hasAgreement_49 rfl (lv_at hl 5 rfl) ?_
              refine lv_icmp_gt (tgt := 68) hx hb d_MD_hasAgreement_50 (by decide) (fun c50 => ?_) (fun c50 => ?_)
              · refine lv_iconst (v := 0) hx hb d_MD_hasAgreement_68 (by decide) ?_
                exact k69 _ _ _ _ ⟨(hasM_no (hv.symm.trans c17) (fun h9 => absurd h9.2.2.1 (Int32.not_le.mpr c50))).symm, hP, hS, lv_sub hl [0, 1, 2, 3, 4, 5] rfl⟩
              · refine lv_iload_n hx hb d_MD_hasAgreement_53 rfl (lv_at hl 5 rfl) ?_
                refine lv_aload_n hx hb d_MD_hasAgreement_54 rfl (lv_at hl 2 rfl) ?_
                refine va_get (D := (dC, dI)) (ci := 10) (v := .ref mA4) (C := R_MD) (T := T_MD) (N := 32) hx hb hts iMD hown hK hP 0 rfl rfl 19 (by decide) (hts _ (wb_MD_hasAgreement _ b_687)) (fun _ h9 => h9) rfl d_MD_hasAgreement_55 ?_
                refine lv_iload hx hb d_MD_hasAgreement_58 (lv_at hl 0 rfl) ?_
                refine vz_iald (k := k) hx hb hK hP 4 0 rfl rfl (by omega) (by decide) d_MD_hasAgreement_60 ?_
                refine lv_icmp_gt (tgt := 68) hx hb d_MD_hasAgreement_61 (by decide) (fun c61 => ?_) (fun c61 => ?_)
                · refine lv_iconst (v := 0) hx hb d_MD_hasAgreement_68 (by decide) ?_
                  exact k69 _ _ _ _ ⟨(hasM_no (hv.symm.trans c17) (fun h9 => absurd h9.2.2.2 (Int32.not_le.mpr c61))).symm, hP, hS, lv_sub hl [0, 1, 2, 3, 4, 5] rfl⟩
                · refine lv_iconst (v := 1) hx hb d_MD_hasAgreement_64 (by decide) ?_
                  refine lv_goto (tgt := 69) hx hb d_MD_hasAgreement_65 (by decide) ?_
                  exact k69 _ _ _ _ ⟨(hasM_yes (hv.symm.trans c17) ⟨c28, c39, Int32.not_lt.mp c50, Int32.not_lt.mp c61⟩).symm, hP, hS, lv_sub hl [0, 1, 2, 3, 4, 5] rfl⟩
set_option maxHeartbeats 4000000 in
set_option maxRecDepth 100000 in
theorem c_MD_hasAgreement (l : Launch) (dC : Nat → ClassId) (dI : Nat → Nat → Nat) (cI : ClassId) (g mPd mSg mSz mTo mRo mLi mKi mCo mEm mVa mA1 mA2 mA3 mA4 mLk mEx mQp mQd : Nat) (th : Int32) (pn bn en hn an ln xn qn : Nat) (wh wt fd pp wn : Int32) (ap : Nat → Int32) (ar : Nat → Int32) (af : Nat → Int32) (at_ : Nat → Int32) (han : an ≤ 40) (w r d : Int32) : Met l y_MD_hasAgreement ws_MD_hasAgreement ({ frames := 0, cells := 0, slots := 0, locals := 0 }) (va_Pc [.ref g, .int w, .int r, .int d] (fun U => va_P (dC, dI) vwCl [(g, .inr (10, [.int th, .ref mPd, .int (nI pn), .int (nI bn), .ref mSg, .ref mSz, .ref mTo, .int (nI en), .ref mRo, .ref mLi, .int (nI hn), .ref mKi, .ref mCo, .ref mEm, .ref mVa, .int (nI an), .ref mA1, .ref mA2, .ref mA3, .ref mA4, .int (nI ln), .ref mLk, .int (nI xn), .ref mEx, .int (nI qn), .ref mQp, .ref mQd, .int wh, .int wt, .int fd, .int pp, .int wn])), (mA1, .inl (cI, 40, .inl ap)), (mA2, .inl (cI, 40, .inl ar)), (mA3, .inl (cI, 40, .inl af)), (mA4, .inl (cI, 40, .inl at_))] U.heap ∧ va_K (dC, dI) vwCl [(cI, .int)] U)) (va_Qi (fun (res : Int32) (_ : Unit) => res = hasM ap ar af at_ w r d an) (fun _ _ => True) (fun _ => False)) 0 0 (fun _ => False) := by
  refine Met.ofW (cc := k_MD_hasAgreement) (maxL := 6) (ret := (some .boolean)) (by decide) rfl ?_
  intro p e s m args below meth c s₁ B hml hv
  obtain ⟨rfl, hP, hK⟩ := hv
  have hx := B.exec
  have hb := B.bytes
  have hr := B.returns
  have hts := atoms_spec (ws := ws_MD_hasAgreement) B.pre
  have hown : s.vm.findClass R_MD = some m.cls := findClass_of_methodNamed B.named
  have hlocks := B.notSynchronized
  have hS : va_S (fun _ => False) s.heap s.heap [] := va_S.rf
  have hP : va_P (dC, dI) vwCl [(g, .inr (10, [.int th, .ref mPd, .int (nI pn), .int (nI bn), .ref mSg, .ref mSz, .ref mTo, .int (nI en), .ref mRo, .ref mLi, .int (nI hn), .ref mKi, .ref mCo, .ref mEm, .ref mVa, .int (nI an), .ref mA1, .ref mA2, .ref mA3, .ref mA4, .int (nI ln), .ref mLk, .int (nI xn), .ref mEx, .int (nI qn), .ref mQp, .ref mQd, .int wh, .int wt, .int fd, .int pp, .int wn])), (mA1, .inl (cI, 40, .inl ap)), (mA2, .inl (cI, 40, .inl ar)), (mA3, .inl (cI, 40, .inl af)), (mA4, .inl (cI, 40, .inl at_))] s.heap := hP
  have iMD : ∀ w ∈ u_ws R_MD T_MD 32, w ∈ ws_MD_hasAgreement := fun w h => wb_MD_hasAgreement w (in_MD w h)
  have hl := lv_entry ([.ref g, .int w, .int r, .int d]) (n := 6) (Nat.le_of_ble_eq_true rfl)
  rw [lg_entry_eq]
  generalize (lg_sl ([.ref g, .int w, .int r, .int d]) ++ List.replicate (6 - (lg_sl ([.ref g, .int w, .int r, .int d])).length) Slot.unset).toArray = ls at hl ⊢
  have hl : lv_has ls 6 [(0, .ref g), (1, .int w), (2, .int r), (3, .int d)] := hl
  refine lv_iconst (v := 0) hx hb d_MD_hasAgreement_0 (by decide) ?_
  refine lv_istore (lv' := [(4, .int 0), (0, .ref g), (1, .int w), (2, .int r), (3, .int d)]) hx hb d_MD_hasAgreement_1 hl (by decide) rfl (fun ls hl => ?_)
  refine lv_iconst (v := 0) hx hb d_MD_hasAgreement_3 (by decide) ?_
  refine lv_istore (lv' := [(5, .int 0), (4, .int 0), (0, .ref g), (1, .int w), (2, .int r), (3, .int d)]) hx hb d_MD_hasAgreement_4 hl (by decide) rfl (fun ls hl => ?_)
  refine lp_MD_hasAgreement_6 dC dI cI g mPd mSg mSz mTo mRo mLi mKi mCo mEm mVa mA1 mA2 mA3 mA4 mLk mEx mQp mQd th pn bn en hn an ln xn qn wh wt fd pp wn ap ar af at_ han w r d hx hb hml hts hown hK (fun v hv H locs hP hS ls hl => ?_) (an + 1) 0 0 (by omega) (Nat.zero_le _) (rfl) _ _ hP hS ls (lv_sub hl [0, 1, 2, 3, 4, 5] rfl)
  · refine lv_iload hx hb d_MD_hasAgreement_77 (lv_at hl 0 rfl) ?_
    exact W.zret (v := v) hx hb hr (by rw [hv]; rcases hasM_z ap ar af at_ w r d an with h9 | h9 <;> rw [h9] <;> rfl) (fun t ht hW => ⟨⟨v, (), rfl, hv, trivial⟩, hS.F ht⟩) hS.2.2 d_MD_hasAgreement_79

/-- a condition of the reference: a letter and a digit -/
def holdM (ro ki co : Nat → Int32) (u t : Nat) (fd pp : Int32) (ag z dg : Int32) : Int32 := if z = 99 then eqF (co t) dg else if z = 102 then eqF fd dg else if z = 107 then eqF (ki t) dg else if z = 112 then eqF pp dg else if z = 114 then eqF ((ro u >>> (dg &&& 31)) &&& 1) 1 else ag
theorem eqF_z (a b : Int32) : eqF a b = 0 ∨ eqF a b = 1 := by unfold eqF; split; exact Or.inr rfl; exact Or.inl rfl
theorem holdM_z {ro ki co : Nat → Int32} {u t : Nat} {fd pp ag z dg : Int32} (h : ag = 0 ∨ ag = 1) : holdM ro ki co u t fd pp ag z dg = 0 ∨ holdM ro ki co u t fd pp ag z dg = 1 := by
  unfold holdM
  (repeat' split) <;> first | exact h | exact eqF_z _ _

set_option maxHeartbeats 4000000 in
set_option maxRecDepth 100000 in
theorem c_MD_holds (l : Launch) (dC : Nat → ClassId) (dI : Nat → Nat → Nat) (cI : ClassId) (g mPd mSg mSz mTo mRo mLi mKi mCo mEm mVa mA1 mA2 mA3 mA4 mLk mEx mQp mQd : Nat) (th : Int32) (pn bn en hn an ln xn qn : Nat) (u t0 : Nat) (fd pp wn : Int32) (ro : Nat → Int32) (ki : Nat → Int32) (co : Nat → Int32) (ap : Nat → Int32) (ar : Nat → Int32) (af : Nat → Int32) (at_ : Nat → Int32) (han : an ≤ 40) (hu : u < 12) (ht : t0 < 16) (z dg : Int32) : Met l y_MD_holds ws_MD_holds ({ frames := 1, cells := 0, slots := 0, locals := 25 }) (va_Pc [.ref g, .int z, .int dg] (fun U => va_P (dC, dI) vwCl [(g, .inr (10, [.int th, .ref mPd, .int (nI pn), .int (nI bn), .ref mSg, .ref mSz, .ref mTo, .int (nI en), .ref mRo, .ref mLi, .int (nI hn), .ref mKi, .ref mCo, .ref mEm, .ref mVa, .int (nI an), .ref mA1, .ref mA2, .ref mA3, .ref mA4, .int (nI ln), .ref mLk, .int (nI xn), .ref mEx, .int (nI qn), .ref mQp, .ref mQd, .int (nI u), .int (nI t0), .int fd, .int pp, .int wn])), (mRo, .inl (cI, 12, .inl ro)), (mKi, .inl (cI, 16, .inl ki)), (mCo, .inl (cI, 16, .inl co)), (mA1, .inl (cI, 40, .inl ap)), (mA2, .inl (cI, 40, .inl ar)), (mA3, .inl (cI, 40, .inl af)), (mA4, .inl (cI, 40, .inl at_))] U.heap ∧ va_K (dC, dI) vwCl [(cI, .int)] U)) (va_Qi (fun (res : Int32) (_ : Unit) => res = holdM ro ki co u t0 fd pp (hasM ap ar af at_ (nI u) (nI t0) wn an) z dg) (fun _ _ => True) (fun _ => False)) 0 0 (fun _ => False) := by
  refine Met.ofW (cc := k_MD_holds) (maxL := 3) (ret := (some .boolean)) (by decide) rfl ?_
  intro p e s m args below meth c s₁ B hml hv
  obtain ⟨rfl, hP, hK⟩ := hv
  have hx := B.exec
  have hb := B.bytes
  have hr := B.returns
  have hts := atoms_spec (ws := ws_MD_holds) B.pre
  have hown : s.vm.findClass R_MD = some m.cls := findClass_of_methodNamed B.named
  have hlocks := B.notSynchronized
  have hS : va_S (fun _ => False) s.heap s.heap [] := va_S.rf
  have hP : va_P (dC, dI) vwCl [(g, .inr (10, [.int th, .ref mPd, .int (nI pn), .int (nI bn), .ref mSg, .ref mSz, .ref mTo, .int (nI en), .ref mRo, .ref mLi, .int (nI hn), .ref mKi, .ref mCo, .ref mEm, .ref mVa, .int (nI an), .ref mA1, .ref mA2, .ref mA3, .ref mA4, .int (nI ln), .ref mLk, .int (nI xn), .ref mEx, .int (nI qn), .ref mQp, .ref mQd, .int (nI u), .int (nI t0), .int fd, .int pp, .int wn])), (mRo, .inl (cI, 12, .inl ro)), (mKi, .inl (cI, 16, .inl ki)), (mCo, .inl (cI, 16, .inl co)), (mA1, .inl (cI, 40, .inl ap)), (mA2, .inl (cI, 40, .inl ar)), (mA3, .inl (cI, 40, .inl af)), (mA4, .inl (cI, 40, .inl at_))] s.heap := hP
  have iMD : ∀ w ∈ u_ws R_MD T_MD 32, w ∈ ws_MD_holds := fun w h => wb_MD_holds w (in_MD w h)
  have hl := lv_entry ([.ref g, .int z, .int dg]) (n := 3) (Nat.le_of_ble_eq_true rfl)
  rw [lg_entry_eq]
  generalize (lg_sl ([.ref g, .int z, .int dg]) ++ List.replicate (3 - (lg_sl ([.ref g, .int z, .int dg])).length) Slot.unset).toArray = ls at hl ⊢
  have hl : lv_has ls 3 [(0, .ref g), (1, .int z), (2, .int dg)] := hl
  refine lv_iload_n hx hb d_MD_holds_0 rfl (lv_at hl 1 rfl) ?_
  by_cases e1_99 : z = 99
  · refine vz_top (y := 99) e1_99 ?_
    refine lv_lookup (off := 121) (tgt := 122) hx hb d_MD_holds_1 (by decide) (by decide) (by decide) ?_
    refine lv_aload_n hx hb d_MD_holds_122 rfl (lv_at hl 0 rfl) ?_
    refine va_get (D := (dC, dI)) (ci := 10) (v := .ref mCo) (C := R_MD) (T := T_MD) (N := 32) hx hb hts iMD hown hK hP 0 rfl rfl 12 (by decide) (hts _ (wb_MD_holds _ b_680)) (fun _ h9 => h9) rfl d_MD_holds_123 ?_
    refine lv_aload_n hx hb d_MD_holds_126 rfl (lv_at hl 0 rfl) ?_
    refine va_get (D := (dC, dI)) (ci := 10) (v := .int (nI t0)) (C := R_MD) (T := T_MD) (N := 32) hx hb hts iMD hown hK hP 0 rfl rfl 28 (by decide) (hts _ (wb_MD_holds _ b_696)) (fun _ h9 => h9) rfl d_MD_holds_127 ?_
    refine vz_iald (k := t0) hx hb hK hP 3 0 rfl rfl (by omega) (by decide) d_MD_holds_130 ?_
    refine lv_iload_n hx hb d_MD_holds_131 rfl (lv_at hl 2 rfl) ?_
    refine lv_icmp_ne (tgt := 139) hx hb d_MD_holds_132 (by decide) (fun c132 => ?_) (fun c132 => ?_)
    · refine lv_iconst (v := 0) hx hb d_MD_holds_139 (by decide) ?_
      exact W.zret (v := 0) hx hb hr (rfl) (fun t ht hW => ⟨⟨0, (), rfl, by simp [holdM, eqF, e1_99, c132], trivial⟩, hS.F ht⟩) hS.2.2 d_MD_holds_140
    · refine lv_iconst (v := 1) hx hb d_MD_holds_135 (by decide) ?_
      refine lv_goto (tgt := 140) hx hb d_MD_holds_136 (by decide) ?_
      exact W.zret (v := 1) hx hb hr (rfl) (fun t ht hW => ⟨⟨1, (), rfl, by simp [holdM, eqF, e1_99, c132], trivial⟩, hS.F ht⟩) hS.2.2 d_MD_holds_140
  by_cases e1_102 : z = 102
  · refine vz_top (y := 102) e1_102 ?_
    refine lv_lookup (off := 93) (tgt := 94) hx hb d_MD_holds_1 (by decide) (by decide) (by decide) ?_
    refine lv_aload_n hx hb d_MD_holds_94 rfl (lv_at hl 0 rfl) ?_
    refine va_get (D := (dC, dI)) (ci := 10) (v := .int fd) (C := R_MD) (T := T_MD) (N := 32) hx hb hts iMD hown hK hP 0 rfl rfl 29 (by decide) (hts _ (wb_MD_holds _ b_697)) (fun _ h9 => h9) rfl d_MD_holds_95 ?_
    refine lv_iload_n hx hb d_MD_holds_98 rfl (lv_at hl 2 rfl) ?_
    refine lv_icmp_ne (tgt := 106) hx hb d_MD_holds_99 (by decide) (fun c99 => ?_) (fun c99 => ?_)
    · refine lv_iconst (v := 0) hx hb d_MD_holds_106 (by decide) ?_
      exact W.zret (v := 0) hx hb hr (rfl) (fun t ht hW => ⟨⟨0, (), rfl, by simp [holdM, eqF, e1_102, c99], trivial⟩, hS.F ht⟩) hS.2.2 d_MD_holds_107
    · refine lv_iconst (v := 1) hx hb d_MD_holds_102 (by decide) ?_
      refine lv_goto (tgt := 107) hx hb d_MD_holds_103 (by decide) ?_
      exact W.zret (v := 1) hx hb hr (rfl) (fun t ht hW => ⟨⟨1, (), rfl, by simp [holdM, eqF, e1_102, c99], trivial⟩, hS.F ht⟩) hS.2.2 d_MD_holds_107
  by_cases e1_107 : z = 107
  · refine vz_top (y := 107) e1_107 ?_
    refine lv_lookup (off := 74) (tgt := 75) hx hb d_MD_holds_1 (by decide) (by decide) (by decide) ?_
    refine lv_aload_n hx hb d_MD_holds_75 rfl (lv_at hl 0 rfl) ?_
    refine va_get (D := (dC, dI)) (ci := 10) (v := .ref mKi) (C := R_MD) (T := T_MD) (N := 32) hx hb hts iMD hown hK hP 0 rfl rfl 11 (by decide) (hts _ (wb_MD_holds _ b_679)) (fun _ h9 => h9) rfl d_MD_holds_76 ?_
    refine lv_aload_n hx hb d_MD_holds_79 rfl (lv_at hl 0 rfl) ?_
    refine va_get (D := (dC, dI)) (ci := 10) (v := .int (nI t0)) (C := R_MD) (T := T_MD) (N := 32) hx hb hts iMD hown hK hP 0 rfl rfl 28 (by decide) (hts _ (wb_MD_holds _ b_696)) (fun _ h9 => h9) rfl d_MD_holds_80 ?_
    refine vz_iald (k := t0) hx hb hK hP 2 0 rfl rfl (by omega) (by decide) d_MD_holds_83 ?_
    refine lv_iload_n hx hb d_MD_holds_84 rfl (lv_at hl 2 rfl) ?_
    refine lv_icmp_ne (tgt := 92) hx hb d_MD_holds_85 (by decide) (fun c85 => ?_) (fun c85 => ?_)
    · refine lv_iconst (v := 0) hx hb d_MD_holds_92 (by decide) ?_
      exact W.zret (v := 0) hx hb hr (rfl) (fun t ht hW => ⟨⟨0, (), rfl, by simp [holdM, eqF, e1_107, c85], trivial⟩, hS.F ht⟩) hS.2.2 d_MD_holds_93
    · refine lv_iconst (v := 1) hx hb d_MD_holds_88 (by decide) ?_
      refine lv_goto (tgt := 93) hx hb d_MD_holds_89 (by decide) ?_
      exact W.zret (v := 1) hx hb hr (rfl) (fun t ht hW => ⟨⟨1, (), rfl, by simp [holdM, eqF, e1_107, c85], trivial⟩, hS.F ht⟩) hS.2.2 d_MD_holds_93
  by_cases e1_112 : z = 112
  · refine vz_top (y := 112) e1_112 ?_
    refine lv_lookup (off := 107) (tgt := 108) hx hb d_MD_holds_1 (by decide) (by decide) (by decide) ?_
    refine lv_aload_n hx hb d_MD_holds_108 rfl (lv_at hl 0 rfl) ?_
    refine va_get (D := (dC, dI)) (ci := 10) (v := .int pp) (C := R_MD) (T := T_MD) (N := 32) hx hb hts iMD hown hK hP 0 rfl rfl 30 (by decide) (hts _ (wb_MD_holds _ b_698)) (fun _ h9 => h9) rfl d_MD_holds_109 ?_
    refine lv_iload_n hx hb d_MD_holds_112 rfl (lv_at hl 2 rfl) ?_
    refine lv_icmp_ne (tgt := 120) hx hb d_MD_holds_113 (by decide) (fun c113 => ?_) (fun c113 => ?_)
    · refine lv_iconst (v := 0) hx hb d_MD_holds_120 (by decide) ?_
      exact W.zret (v := 0) hx hb hr (rfl) (fun t ht hW => ⟨⟨0, (), rfl, by simp [holdM, eqF, e1_112, c113], trivial⟩, hS.F ht⟩) hS.2.2 d_MD_holds_121
    · refine lv_iconst (v := 1) hx hb d_MD_holds_116 (by decide) ?_
      refine lv_goto (tgt := 121) hx hb d_MD_holds_117 (by decide) ?_
      exact W.zret (v := 1) hx hb hr (rfl) (fun t ht hW => ⟨⟨1, (), rfl, by simp [holdM, eqF, e1_112, c113], trivial⟩, hS.F ht⟩) hS.2.2 d_MD_holds_121
  by_cases e1_114 : z = 114
  · refine vz_top (y := 114) e1_114 ?_
    refine lv_lookup (off := 51) (tgt := 52) hx hb d_MD_holds_1 (by decide) (by decide) (by decide) ?_
    refine lv_aload_n hx hb d_MD_holds_52 rfl (lv_at hl 0 rfl) ?_
    refine va_get (D := (dC, dI)) (ci := 10) (v := .ref mRo) (C := R_MD) (T := T_MD) (N := 32) hx hb hts iMD hown hK hP 0 rfl rfl 8 (by decide) (hts _ (wb_MD_holds _ b_676)) (fun _ h9 => h9) rfl d_MD_holds_53 ?_
    refine lv_aload_n hx hb d_MD_holds_56 rfl (lv_at hl 0 rfl) ?_
    refine va_get (D := (dC, dI)) (ci := 10) (v := .int (nI u)) (C := R_MD) (T := T_MD) (N := 32) hx hb hts iMD hown hK hP 0 rfl rfl 27 (by decide) (hts _ (wb_MD_holds _ b_695)) (fun _ h9 => h9) rfl d_MD_holds_57 ?_
    refine vz_iald (k := u) hx hb hK hP 1 0 rfl rfl (by omega) (by decide) d_MD_holds_60 ?_
    refine lv_iload_n hx hb d_MD_holds_61 rfl (lv_at hl 2 rfl) ?_
    refine lv_ishr hx hb d_MD_holds_62 ?_
    refine lv_iconst (v := 1) hx hb d_MD_holds_63 (by decide) ?_
    refine lv_iand hx hb d_MD_holds_64 ?_
    refine lv_iconst (v := 1) hx hb d_MD_holds_65 (by decide) ?_
    refine lv_icmp_ne (tgt := 73) hx hb d_MD_holds_66 (by decide) (fun c66 => ?_) (fun c66 => ?_)
    · refine lv_iconst (v := 0) hx hb d_MD_holds_73 (by decide) ?_
      exact W.zret (v := 0) hx hb hr (rfl) (fun t ht hW => ⟨⟨0, (), rfl, by simp [holdM, eqF, e1_114, c66], trivial⟩, hS.F ht⟩) hS.2.2 d_MD_holds_74
    · refine lv_iconst (v := 1) hx hb d_MD_holds_69 (by decide) ?_
      refine lv_goto (tgt := 74) hx hb d_MD_holds_70 (by decide) ?_
      exact W.zret (v := 1) hx hb hr (rfl) (fun t ht hW => ⟨⟨1, (), rfl, by simp [holdM, eqF, e1_114, c66], trivial⟩, hS.F ht⟩) hS.2.2 d_MD_holds_74
  refine lv_lookup (off := 140) (tgt := 141) hx hb d_MD_holds_1 (by decide) ((lv_osw (k := 99) e1_99 rfl).trans ((lv_osw (k := 102) e1_102 rfl).trans ((lv_osw (k := 107) e1_107 rfl).trans ((lv_osw (k := 112) e1_112 rfl).trans ((lv_osw (k := 114) e1_114 rfl).trans (rfl)))))) (by decide) ?_
  refine lv_aload_n hx hb d_MD_holds_141 rfl (lv_at hl 0 rfl) ?_
  refine lv_aload_n hx hb d_MD_holds_142 rfl (lv_at hl 0 rfl) ?_
  refine va_get (D := (dC, dI)) (ci := 10) (v := .int (nI u)) (C := R_MD) (T := T_MD) (N := 32) hx hb hts iMD hown hK hP 0 rfl rfl 27 (by decide) (hts _ (wb_MD_holds _ b_695)) (fun _ h9 => h9) rfl d_MD_holds_143 ?_
  refine lv_aload_n hx hb d_MD_holds_146 rfl (lv_at hl 0 rfl) ?_
  refine va_get (D := (dC, dI)) (ci := 10) (v := .int (nI t0)) (C := R_MD) (T := T_MD) (N := 32) hx hb hts iMD hown hK hP 0 rfl rfl 28 (by decide) (hts _ (wb_MD_holds _ b_696)) (fun _ h9 => h9) rfl d_MD_holds_147 ?_
  refine lv_aload_n hx hb d_MD_holds_150 rfl (lv_at hl 0 rfl) ?_
  refine va_get (D := (dC, dI)) (ci := 10) (v := .int wn) (C := R_MD) (T := T_MD) (N := 32) hx hb hts iMD hown hK hP 0 rfl rfl 31 (by decide) (hts _ (wb_MD_holds _ b_699)) (fun _ h9 => h9) rfl d_MD_holds_151 ?_
  have hPc := hP.sub (ws' := [(g, .inr (10, [.int th, .ref mPd, .int (nI pn), .int (nI bn), .ref mSg, .ref mSz, .ref mTo, .int (nI en), .ref mRo, .ref mLi, .int (nI hn), .ref mKi, .ref mCo, .ref mEm, .ref mVa, .int (nI an), .ref mA1, .ref mA2, .ref mA3, .ref mA4, .int (nI ln), .ref mLk, .int (nI xn), .ref mEx, .int (nI qn), .ref mQp, .ref mQd, .int (nI u), .int (nI t0), .int fd, .int pp, .int wn])), (mA1, .inl (cI, 40, .inl ap)), (mA2, .inl (cI, 40, .inl ar)), (mA3, .inl (cI, 40, .inl af)), (mA4, .inl (cI, 40, .inl at_))]) [0, 4, 5, 6, 7] rfl
  have hKc := hK.sub (tys' := [(cI, .int)]) [0] rfl
  refine va_calli (va_runV (As := [.int (nI u), .int (nI t0), .int wn]) (rest := []) ⟨hx, hb, hml, hown, hts⟩ (c_MD_hasAgreement l dC dI cI g mPd mSg mSz mTo mRo mLi mKi mCo mEm mVa mA1 mA2 mA3 mA4 mLk mEx mQp mQd th pn bn en hn an ln xn qn (nI u) (nI t0) fd pp wn ap ar af at_ (by first | assumption | omega) (nI u) (nI t0) wn) (cwV 3 hts (vz_gV wb_MD_holds b_858 b_860 bs_24 b_11 wc_MD_hasAgreement) rfl rfl rfl (by decide +kernel) ⟨Nat.le_of_ble_eq_true rfl, Nat.le_of_ble_eq_true rfl⟩) (vz_preV hPc hKc (ci := 10) (q0 := 0) rfl rfl) rfl rfl hl.1 rfl (lv_room (Nat.le_of_ble_eq_true rfl)) d_MD_holds_154 ⟨Nat.le_of_ble_eq_true rfl, Nat.le_of_ble_eq_true rfl⟩) hS (fun q _ h => False.elim h) (fun q h => False.elim h) (fun r154 u9 t9 H1 locs ht hvm hr154 hB hzx9 hkx9 hS => ?_)
  try dsimp only at hr154
  have hP := vz_kept hP hkx9
  generalize H1 = H at hP hS ⊢
  exact W.zret (v := r154) hx hb hr (by rw [hr154]; rcases hasM_z ap ar af at_ (nI u) (nI t0) wn an with h9 | h9 <;> rw [h9] <;> rfl) (fun t ht hW => ⟨⟨r154, (), rfl, by rw [hr154]; simp [holdM, e1_99, e1_102, e1_107, e1_112, e1_114], trivial⟩, hS.F ht⟩) hS.2.2 d_MD_holds_157

/-- a rule's text in the reference: behind a sign 32 at k comes 33 or not, a letter, and a digit unless the letter is 103 -/
def nx2 (sg : Nat → Int32) (k : Nat) : Nat := if sg (k + 1) = 33 then k + 1 + 1 else k + 1
def nx3 (sg : Nat → Int32) (k : Nat) : Nat := nx2 sg k + (if sg (nx2 sg k) = 103 then 1 else 2)
/-- the conditions from k on end at e -/
def wfM (sg : Nat → Int32) (e : Nat) : Nat → Nat → Prop
  | 0, k => k = e
  | n + 1, k => k = e ∨ (nx3 sg k ≤ e ∧ wfM sg e n (nx3 sg k))
def cndM (h : Int32 → Int32 → Int32) (sg : Nat → Int32) (k : Nat) (v : Int32) : Int32 := if v = 0 then 0 else if h (sg (nx2 sg k)) (if sg (nx2 sg k) = 103 then 0 else sg (nx2 sg k + 1) - 48) = eqF (sg (k + 1)) 33 then 0 else 1
def suM (h : Int32 → Int32 → Int32) (sg : Nat → Int32) (e : Nat) : Nat → Nat → Int32 → Int32
  | 0, _, v => v
  | n + 1, k, v => if k < e then suM h sg e n (nx3 sg k) (cndM h sg k v) else v
theorem nx_lt (sg : Nat → Int32) (k : Nat) : k + 1 ≤ nx2 sg k ∧ nx2 sg k < nx3 sg k ∧ (¬ sg (nx2 sg k) = 103 → nx2 sg k + 1 < nx3 sg k) := by
  have h1 : k + 1 ≤ nx2 sg k := by unfold nx2; split <;> omega
  refine ⟨h1, ?_, fun h => ?_⟩
  · unfold nx3; split <;> omega
  · unfold nx3; rw [if_neg h]; omega
theorem wfM_le {sg : Nat → Int32} {e n k : Nat} (h : wfM sg e n k) : k ≤ e := by
  cases n with
  | zero => exact Nat.le_of_eq h
  | succ n =>
    rcases h with h | h
    · omega
    · have h1 := nx_lt sg k
      omega
theorem wfM_step {sg : Nat → Int32} {e n k : Nat} (h : wfM sg e n k) (hk : k < e) : ∃ n1, n = n1 + 1 ∧ nx3 sg k ≤ e ∧ wfM sg e n1 (nx3 sg k) := by
  cases n with
  | zero => exact absurd h (by intro h9; change k = e at h9; omega)
  | succ n =>
    rcases h with h | h
    · omega
    · exact ⟨n, rfl, h.1, h.2⟩
theorem suM_end {h : Int32 → Int32 → Int32} {sg : Nat → Int32} {e n k : Nat} {v : Int32} (hk : ¬ k < e) : suM h sg e n k v = v := by
  cases n with
  | zero => rfl
  | succ n => exact if_neg hk
theorem cndM_z (h : Int32 → Int32 → Int32) (sg : Nat → Int32) (k : Nat) (v : Int32) : cndM h sg k v = 0 ∨ cndM h sg k v = 1 := by unfold cndM; (repeat' split) <;> first | exact Or.inl rfl | exact Or.inr rfl
theorem suM_z {h : Int32 → Int32 → Int32} {sg : Nat → Int32} {e : Nat} : ∀ (n k : Nat) (v : Int32), (v = 0 ∨ v = 1) → suM h sg e n k v = 0 ∨ suM h sg e n k v = 1 := by
  intro n
  induction n with
  | zero => intro k v hv; exact hv
  | succ n ih =>
    intro k v hv
    show (if k < e then _ else _) = _ ∨ (if k < e then _ else _) = _
    split
    · exact ih _ _ (cndM_z _ _ _ _)
    · exact hv

theorem eqF_1 {a b : Int32} (h : ¬ eqF a b = 0) : a = b := by
  unfold eqF at h
  by_cases h1 : a = b
  · exact h1
  · rw [if_neg h1] at h; exact absurd rfl h
theorem eqF_0 {a b : Int32} (h : eqF a b = 0) : ¬ a = b := by
  intro h1
  unfold eqF at h
  rw [if_pos h1] at h
  exact absurd h (by decide)

set_option maxHeartbeats 4000000 in
set_option maxRecDepth 100000 in
theorem lp_MD_suits_22 {p : Program} {l : Launch} {e : Env} {s : State} {m : MethodId} {args : Array Value} {below : List Frame} {meth : Method} {c : Code} {Q : State → Prop} {A : Nat → Prop} {H0 : Heap} (dC : Nat → ClassId) (dI : Nat → Nat → Nat) (cI : ClassId) (g mPd mSg mSz mTo mRo mLi mKi mCo mEm mVa mA1 mA2 mA3 mA4 mLk mEx mQp mQd : Nat) (th : Int32) (pn bn en hn an ln xn qn : Nat) (u t0 : Nat) (fd pp wn : Int32) (sg_ : Nat → Int32) (sz_ : Nat → Int32) (ro : Nat → Int32) (ki : Nat → Int32) (co : Nat → Int32) (ap : Nat → Int32) (ar : Nat → Int32) (af : Nat → Int32) (at_ : Nat → Int32) (han : an ≤ 40) (hu : u < 12) (ht : t0 < 16) (j mz : Nat) (hj : j < 20) (hm : mz ≤ 40) (hsz : sz_ j = nI mz) (hwf : wfM sg_ (40 * j + mz) 40 (40 * j + 1))  (hx : p.tables.exec = Jvm.exec) (hb : c.code = k_MD_suits) (hml : c.maxLocals = 8) (hts : ∀ w ∈ ws_MD_suits, w.before args s = true) (hown : s.vm.findClass R_MD = some m.cls) (hK : va_K (dC, dI) vwCl [(cI, .int)] s) (kx131 : ∀ (v : Int32), (suM (holdM ro ki co u t0 fd pp (hasM ap ar af at_ (nI u) (nI t0) wn an)) sg_ (40 * j + mz) 40 (40 * j + 1) 1 = v) → ∀ (H : Heap) (locs : List Loc), va_P (dC, dI) vwCl [(g, .inr (10, [.int th, .ref mPd, .int (nI pn), .int (nI bn), .ref mSg, .ref mSz, .ref mTo, .int (nI en), .ref mRo, .ref mLi, .int (nI hn), .ref mKi, .ref mCo, .ref mEm, .ref mVa, .int (nI an), .ref mA1, .ref mA2, .ref mA3, .ref mA4, .int (nI ln), .ref mLk, .int (nI xn), .ref mEx, .int (nI qn), .ref mQp, .ref mQd, .int (nI u), .int (nI t0), .int fd, .int pp, .int wn])), (mSg, .inl (cI, 800, .inl sg_)), (mSz, .inl (cI, 20, .inl sz_)), (mRo, .inl (cI, 12, .inl ro)), (mKi, .inl (cI, 16, .inl ki)), (mCo, .inl (cI, 16, .inl co)), (mA1, .inl (cI, 40, .inl ap)), (mA2, .inl (cI, 40, .inl ar)), (mA3, .inl (cI, 40, .inl af)), (mA4, .inl (cI, 40, .inl at_))] H → va_S A H0 H locs → ∀ ls : Array Slot, lv_has ls 8 [(4, .int v)] → W p l e ({ frames := 2, cells := 0, slots := 0, locals := 47 }) s m args below meth c H locs 0 0 Q (F0 m 131 ls [])) : ∀ (N : Nat), ∀ (n : Nat), ∀ (k : Nat), ∀ (v : Int32), n + 1 ≤ N → (wfM sg_ (40 * j + mz) n k) → (suM (holdM ro ki co u t0 fd pp (hasM ap ar af at_ (nI u) (nI t0) wn an)) sg_ (40 * j + mz) 40 (40 * j + 1) 1 = suM (holdM ro ki co u t0 fd pp (hasM ap ar af at_ (nI u) (nI t0) wn an)) sg_ (40 * j + mz) n k v) → ∀ (H : Heap) (locs : List Loc), va_P (dC, dI) vwCl [(g, .inr (10, [.int th, .ref mPd, .int (nI pn), .int (nI bn), .ref mSg, .ref mSz, .ref mTo, .int (nI en), .ref mRo, .ref mLi, .int (nI hn), .ref mKi, .ref mCo, .ref mEm, .ref mVa, .int (nI an), .ref mA1, .ref mA2, .ref mA3, .ref mA4, .int (nI ln), .ref mLk, .int (nI xn), .ref mEx, .int (nI qn), .ref mQp, .ref mQd, .int (nI u), .int (nI t0), .int fd, .int pp, .int wn])), (mSg, .inl (cI, 800, .inl sg_)), (mSz, .inl (cI, 20, .inl sz_)), (mRo, .inl (cI, 12, .inl ro)), (mKi, .inl (cI, 16, .inl ki)), (mCo, .inl (cI, 16, .inl co)), (mA1, .inl (cI, 40, .inl ap)), (mA2, .inl (cI, 40, .inl ar)), (mA3, .inl (cI, 40, .inl af)), (mA4, .inl (cI, 40, .inl at_))] H → va_S A H0 H locs → ∀ ls : Array Slot, lv_has ls 8 [(2, .int (nI k)), (3, .int (nI (40 * j + mz))), (4, .int v), (0, .ref g)] → W p l e ({ frames := 2, cells := 0, slots := 0, locals := 47 }) s m args below meth c H locs 0 0 Q (F0 m 22 ls []) := by
  have iMD : ∀ w ∈ u_ws R_MD T_MD 32, w ∈ ws_MD_suits := fun w h => wb_MD_suits w (in_MD w h)
  intro N
  induction N with
  | zero =>
    intro n k v hme hw hv
    exact absurd hme (by omega)
  | succ N ih =>
    intro n k v hme hw hv H locs hP hS ls hl
    refine lv_iload_n hx hb d_MD_suits_22 rfl (lv_at hl 0 rfl) ?_
    refine lv_iload_n hx hb d_MD_suits_23 rfl (lv_at hl 1 rfl) ?_
    refine lv_icmp_ge (tgt := 131) hx hb d_MD_suits_24 (by decide) (fun c24 => ?_) (fun c24 => ?_)
    · have hge : (40 * j + mz) ≤ k := (nI_leI (show (40 * j + mz) < 2147483648 by omega) (show k < 2147483648 by have := wfM_le hw; omega)).mp c24
      exact kx131 v (hv.trans (suM_end (by omega))) _ _ hP hS ls (lv_sub hl [2] rfl)
    · have hlt : k < (40 * j + mz) := Nat.lt_of_not_le (mt (nI_leI (show (40 * j + mz) < 2147483648 by omega) (show k < 2147483648 by have := wfM_le hw; omega)).mpr c24)
      obtain ⟨n1, rfl, h3, hw1⟩ := wfM_step hw hlt
      obtain ⟨q1, q2, q3⟩ := nx_lt sg_ k
      refine lv_iinc (v := nI (k + 1)) (lv' := [(2, .int (nI (k + 1))), (3, .int (nI (40 * j + mz))), (4, .int v), (0, .ref g)]) hx hb d_MD_suits_27 hl (k := 0) rfl (nI_1 k) (by decide) rfl (fun ls hl => ?_)
      refine vz_join 46 [] (fun b9 H9 locs9 ls9 => (b9 = eqF (sg_ (k + 1)) 33) ∧ va_P (dC, dI) vwCl [(g, .inr (10, [.int th, .ref mPd, .int (nI pn), .int (nI bn), .ref mSg, .ref mSz, .ref mTo, .int (nI en), .ref mRo, .ref mLi, .int (nI hn), .ref mKi, .ref mCo, .ref mEm, .ref mVa, .int (nI an), .ref mA1, .ref mA2, .ref mA3, .ref mA4, .int (nI ln), .ref mLk, .int (nI xn), .ref mEx, .int (nI qn), .ref mQp, .ref mQd, .int (nI u), .int (nI t0), .int fd, .int pp, .int wn])), (mSg, .inl (cI, 800, .inl sg_)), (mSz, .inl (cI, 20, .inl sz_)), (mRo, .inl (cI, 12, .inl ro)), (mKi, .inl (cI, 16, .inl ki)), (mCo, .inl (cI, 16, .inl co)), (mA1, .inl (cI, 40, .inl ap)), (mA2, .inl (cI, 40, .inl ar)), (mA3, .inl (cI, 40, .inl af)), (mA4, .inl (cI, 40, .inl at_))] H9 ∧ va_S A H0 H9 locs9 ∧ lv_has ls9 8 [(2, .int (nI (k + 1))), (3, .int (nI (40 * j + mz))), (4, .int v), (0, .ref g)]) (fun b9 H locs ls h9 => ?_) (fun k46 => ?_)
      · obtain ⟨rfl, hP, hS, hl⟩ := h9
        refine lv_istore (lv' := [(5, .int (eqF (sg_ (k + 1)) 33)), (2, .int (nI (k + 1))), (3, .int (nI (40 * j + mz))), (4, .int v), (0, .ref g)]) hx hb d_MD_suits_46 hl (by decide) rfl (fun ls hl => ?_)
        refine lv_iload hx hb d_MD_suits_48 (lv_at hl 0 rfl) ?_
        refine lv_if_eq (tgt := 56) hx hb d_MD_suits_50 (by decide) (fun c50 => ?_) (fun c50 => ?_)
        · have en2 : nx2 sg_ k = k + 1 := if_neg (eqF_0 c50)
          have hl : lv_has ls 8 [(5, .int (eqF (sg_ (k + 1)) 33)), (2, .int (nI (nx2 sg_ k))), (3, .int (nI (40 * j + mz))), (4, .int v), (0, .ref g)] := by rw [show nI (nx2 sg_ k) = nI (k + 1) from congrArg nI en2]; exact hl
          refine lv_aload_n hx hb d_MD_suits_56 rfl (lv_at hl 4 rfl) ?_
          refine va_get (D := (dC, dI)) (ci := 10) (v := .ref mSg) (C := R_MD) (T := T_MD) (N := 32) hx hb hts iMD hown hK hP 0 rfl rfl 4 (by decide) (hts _ (wb_MD_suits _ b_672)) (fun _ h9 => h9) rfl d_MD_suits_57 ?_
          refine lv_iload_n hx hb d_MD_suits_60 rfl (lv_at hl 1 rfl) ?_
          refine vz_iald (k := (nx2 sg_ k)) hx hb hK hP 1 0 rfl rfl (by omega) (by decide) d_MD_suits_61 ?_
          refine lv_istore (lv' := [(6, .int (sg_ (nx2 sg_ k))), (5, .int (eqF (sg_ (k + 1)) 33)), (2, .int (nI (nx2 sg_ k))), (3, .int (nI (40 * j + mz))), (4, .int v), (0, .ref g)]) hx hb d_MD_suits_62 hl (by decide) rfl (fun ls hl => ?_)
          refine vz_join 86 [] (fun b9 H9 locs9 ls9 => (b9 = if sg_ (nx2 sg_ k) = 103 then 0 else sg_ (nx2 sg_ k + 1) - 48) ∧ va_P (dC, dI) vwCl [(g, .inr (10, [.int th, .ref mPd, .int (nI pn), .int (nI bn), .ref mSg, .ref mSz, .ref mTo, .int (nI en), .ref mRo, .ref mLi, .int (nI hn), .ref mKi, .ref mCo, .ref mEm, .ref mVa, .int (nI an), .ref mA1, .ref mA2, .ref mA3, .ref mA4, .int (nI ln), .ref mLk, .int (nI xn), .ref mEx, .int (nI qn), .ref mQp, .ref mQd, .int (nI u), .int (nI t0), .int fd, .int pp, .int wn])), (mSg, .inl (cI, 800, .inl sg_)), (mSz, .inl (cI, 20, .inl sz_)), (mRo, .inl (cI, 12, .inl ro)), (mKi, .inl (cI, 16, .inl ki)), (mCo, .inl (cI, 16, .inl co)), (mA1, .inl (cI, 40, .inl ap)), (mA2, .inl (cI, 40, .inl ar)), (mA3, .inl (cI, 40, .inl af)), (mA4, .inl (cI, 40, .inl at_))] H9 ∧ va_S A H0 H9 locs9 ∧ lv_has ls9 8 [(6, .int (sg_ (nx2 sg_ k))), (5, .int (eqF (sg_ (k + 1)) 33)), (2, .int (nI (nx2 sg_ k))), (3, .int (nI (40 * j + mz))), (4, .int v), (0, .ref g)]) (fun b9 H locs ls h9 => ?_) (fun k86 => ?_)
          · obtain ⟨rfl, hP, hS, hl⟩ := h9
            refine lv_istore (lv' := [(7, .int (if sg_ (nx2 sg_ k) = 103 then 0 else sg_ (nx2 sg_ k + 1) - 48)), (6, .int (sg_ (nx2 sg_ k))), (5, .int (eqF (sg_ (k + 1)) 33)), (2, .int (nI (nx2 sg_ k))), (3, .int (nI (40 * j + mz))), (4, .int v), (0, .ref g)]) hx hb d_MD_suits_86 hl (by decide) rfl (fun ls hl => ?_)
            refine vz_join 111 [] (fun b9 H9 locs9 ls9 => (b9 = cndM (holdM ro ki co u t0 fd pp (hasM ap ar af at_ (nI u) (nI t0) wn an)) sg_ k v) ∧ va_P (dC, dI) vwCl [(g, .inr (10, [.int th, .ref mPd, .int (nI pn), .int (nI bn), .ref mSg, .ref mSz, .ref mTo, .int (nI en), .ref mRo, .ref mLi, .int (nI hn), .ref mKi, .ref mCo, .ref mEm, .ref mVa, .int (nI an), .ref mA1, .ref mA2, .ref mA3, .ref mA4, .int (nI ln), .ref mLk, .int (nI xn), .ref mEx, .int (nI qn), .ref mQp, .ref mQd, .int (nI u), .int (nI t0), .int fd, .int pp, .int wn])), (mSg, .inl (cI, 800, .inl sg_)), (mSz, .inl (cI, 20, .inl sz_)), (mRo, .inl (cI, 12, .inl ro)), (mKi, .inl (cI, 16, .inl ki)), (mCo, .inl (cI, 16, .inl co)), (mA1, .inl (cI, 40, .inl ap)), (mA2, .inl (cI, 40, .inl ar)), (mA3, .inl (cI, 40, .inl af)), (mA4, .inl (cI, 40, .inl at_))] H9 ∧ va_S A H0 H9 locs9 ∧ lv_has ls9 8 [(7, .int (if sg_ (nx2 sg_ k) = 103 then 0 else sg_ (nx2 sg_ k + 1) - 48)), (6, .int (sg_ (nx2 sg_ k))), (5, .int (eqF (sg_ (k + 1)) 33)), (2, .int (nI (nx2 sg_ k))), (3, .int (nI (40 * j + mz))), (4, .int v), (0, .ref g)]) (fun b9 H locs ls h9 => ?_) (fun k111 => ?_)
            · obtain ⟨rfl, hP, hS, hl⟩ := h9
              refine lv_istore (lv' := [(4, .int (cndM (holdM ro ki co u t0 fd pp (hasM ap ar af at_ (nI u) (nI t0) wn an)) sg_ k v)), (7, .int (if sg_ (nx2 sg_ k) = 103 then 0 else sg_ (nx2 sg_ k + 1) - 48)), (6, .int (sg_ (nx2 sg_ k))), (5, .int (eqF (sg_ (k + 1)) 33)), (2, .int (nI (nx2 sg_ k))), (3, .int (nI (40 * j + mz))), (0, .ref g)]) hx hb d_MD_suits_111 hl (by decide) rfl (fun ls hl => ?_)
              refine lv_iload_n hx hb d_MD_suits_113 rfl (lv_at hl 4 rfl) ?_
              refine vz_join 126 [.int (nI (nx2 sg_ k))] (fun b9 H9 locs9 ls9 => (b9 = if sg_ (nx2 sg_ k) = 103 then 1 else 2) ∧ va_P (dC, dI) vwCl [(g, .inr (10, [.int th, .ref mPd, .int (nI pn), .int (nI bn), .ref mSg, .ref mSz, .ref mTo, .int (nI en), .ref mRo, .ref mLi, .int (nI hn), .ref mKi, .ref mCo, .ref mEm, .ref mVa, .int (nI an), .ref mA1, .ref mA2, .ref mA3, .ref mA4, .int (nI ln), .ref mLk, .int (nI xn), .ref mEx, .int (nI qn), .ref mQp, .ref mQd, .int (nI u), .int (nI t0), .int fd, .int pp, .int wn])), (mSg, .inl (cI, 800, .inl sg_)), (mSz, .inl (cI, 20, .inl sz_)), (mRo, .inl (cI, 12, .inl ro)), (mKi, .inl (cI, 16, .inl ki)), (mCo, .inl (cI, 16, .inl co)), (mA1, .inl (cI, 40, .inl ap)), (mA2, .inl (cI, 40, .inl ar)), (mA3, .inl (cI, 40, .inl af)), (mA4, .inl (cI, 40, .inl at_))] H9 ∧ va_S A H0 H9 locs9 ∧ lv_has ls9 8 [(4, .int (cndM (holdM ro ki co u t0 fd pp (hasM ap ar af at_ (nI u) (nI t0) wn an)) sg_ k v)), (7, .int (if sg_ (nx2 sg_ k) = 103 then 0 else sg_ (nx2 sg_ k + 1) - 48)), (6, .int (sg_ (nx2 sg_ k))), (5, .int (eqF (sg_ (k + 1)) 33)), (2, .int (nI (nx2 sg_ k))), (3, .int (nI (40 * j + mz))), (0, .ref g)]) (fun b9 H locs ls h9 => ?_) (fun k126 => ?_)
              · obtain ⟨rfl, hP, hS, hl⟩ := h9
                refine lv_iadd hx hb d_MD_suits_126 ?_
                refine vz_top (y := nI (nx3 sg_ k)) (by unfold nx3; split; exact nI_add _ 1; exact nI_add _ 2) ?_
                refine lv_istore_n (lv' := [(2, .int (nI (nx3 sg_ k))), (4, .int (cndM (holdM ro ki co u t0 fd pp (hasM ap ar af at_ (nI u) (nI t0) wn an)) sg_ k v)), (7, .int (if sg_ (nx2 sg_ k) = 103 then 0 else sg_ (nx2 sg_ k + 1) - 48)), (6, .int (sg_ (nx2 sg_ k))), (5, .int (eqF (sg_ (k + 1)) 33)), (3, .int (nI (40 * j + mz))), (0, .ref g)]) hx hb d_MD_suits_127 rfl hl (by decide) rfl (fun ls hl => ?_)
                refine lv_goto (tgt := 22) hx hb d_MD_suits_128 (by decide) ?_
                exact ih n1 (nx3 sg_ k) (cndM (holdM ro ki co u t0 fd pp (hasM ap ar af at_ (nI u) (nI t0) wn an)) sg_ k v) (by omega) (hw1) (hv.trans (if_pos hlt)) _ _ hP hS ls (lv_sub hl [0, 5, 1, 6] rfl)
              · refine lv_iload hx hb d_MD_suits_114 (lv_at hl 2 rfl) ?_
                refine lv_bipush (v := 103) hx hb d_MD_suits_116 (by decide) ?_
                refine lv_icmp_ne (tgt := 125) hx hb d_MD_suits_118 (by decide) (fun c118 => ?_) (fun c118 => ?_)
                · refine lv_iconst (v := 2) hx hb d_MD_suits_125 (by decide) ?_
                  exact k126 _ _ _ _ ⟨by rw [if_neg c118], hP, hS, lv_sub hl [0, 1, 2, 3, 4, 5, 6] rfl⟩
                · refine lv_iconst (v := 1) hx hb d_MD_suits_121 (by decide) ?_
                  refine lv_goto (tgt := 126) hx hb d_MD_suits_122 (by decide) ?_
                  exact k126 _ _ _ _ ⟨by rw [if_pos c118], hP, hS, lv_sub hl [0, 1, 2, 3, 4, 5, 6] rfl⟩
            · refine lv_iload hx hb d_MD_suits_88 (lv_at hl 5 rfl) ?_
              refine lv_if_eq (tgt := 110) hx hb d_MD_suits_90 (by decide) (fun c90 => ?_) (fun c90 => ?_)
              · refine lv_iconst (v := 0) hx hb d_MD_suits_110 (by decide) ?_
                exact k111 _ _ _ _ ⟨(if_pos c90).symm, hP, hS, lv_sub hl [0, 1, 2, 3, 4, 5, 6] rfl⟩
              · refine lv_aload_n hx hb d_MD_suits_93 rfl (lv_at hl 6 rfl) ?_
                refine lv_iload hx hb d_MD_suits_94 (lv_at hl 1 rfl) ?_
                refine lv_iload hx hb d_MD_suits_96 (lv_at hl 0 rfl) ?_
                have hPc := hP.sub (ws' := [(g, .inr (10, [.int th, .ref mPd, .int (nI pn), .int (nI bn), .ref mSg, .ref mSz, .ref mTo, .int (nI en), .ref mRo, .ref mLi, .int (nI hn), .ref mKi, .ref mCo, .ref mEm, .ref mVa, .int (nI an), .ref mA1, .ref mA2, .ref mA3, .ref mA4, .int (nI ln), .ref mLk, .int (nI xn), .ref mEx, .int (nI qn), .ref mQp, .ref mQd, .int (nI u), .int (nI t0), .int fd, .int pp, .int wn])), (mRo, .inl (cI, 12, .inl ro)), (mKi, .inl (cI, 16, .inl ki)), (mCo, .inl (cI, 16, .inl co)), (mA1, .inl (cI, 40, .inl ap)), (mA2, .inl (cI, 40, .inl ar)), (mA3, .inl (cI, 40, .inl af)), (mA4, .inl (cI, 40, .inl at_))]) [0, 3, 4, 5, 6, 7, 8, 9] rfl
                have hKc := hK.sub (tys' := [(cI, .int)]) [0] rfl
                refine va_calli (va_runV (As := [.int (sg_ (nx2 sg_ k)), .int (if sg_ (nx2 sg_ k) = 103 then 0 else sg_ (nx2 sg_ k + 1) - 48)]) (rest := []) ⟨hx, hb, hml, hown, hts⟩ (c_MD_holds l dC dI cI g mPd mSg mSz mTo mRo mLi mKi mCo mEm mVa mA1 mA2 mA3 mA4 mLk mEx mQp mQd th pn bn en hn an ln xn qn u t0 fd pp wn ro ki co ap ar af at_ (by first | assumption | omega) (by first | assumption | omega) (by first | assumption | omega) (sg_ (nx2 sg_ k)) (if sg_ (nx2 sg_ k) = 103 then 0 else sg_ (nx2 sg_ k + 1) - 48)) (cwV 2 hts (vz_gV wb_MD_suits b_854 b_856 bs_23 b_11 wc_MD_holds) rfl rfl rfl (by decide +kernel) ⟨Nat.le_of_ble_eq_true rfl, Nat.le_of_ble_eq_true rfl⟩) (vz_preV hPc hKc (ci := 10) (q0 := 0) rfl rfl) rfl rfl hl.1 rfl (lv_room (Nat.le_of_ble_eq_true rfl)) d_MD_suits_98 ⟨Nat.le_of_ble_eq_true rfl, Nat.le_of_ble_eq_true rfl⟩) hS (fun q _ h => False.elim h) (fun q h => False.elim h) (fun r98 u9 t9 H1 locs ht hvm hr98 hB hzx9 hkx9 hS => ?_)
                try dsimp only at hr98
                have hP := vz_kept hP hkx9
                generalize H1 = H at hP hS ⊢
                refine lv_iload hx hb d_MD_suits_101 (lv_at hl 2 rfl) ?_
                refine lv_icmp_eq (tgt := 110) hx hb d_MD_suits_103 (by decide) (fun c103 => ?_) (fun c103 => ?_)
                · refine lv_iconst (v := 0) hx hb d_MD_suits_110 (by decide) ?_
                  exact k111 _ _ _ _ ⟨((if_neg c90).trans (if_pos (by rw [← hr98]; exact c103))).symm, hP, hS, lv_sub hl [0, 1, 2, 3, 4, 5, 6] rfl⟩
                · refine lv_iconst (v := 1) hx hb d_MD_suits_106 (by decide) ?_
                  refine lv_goto (tgt := 111) hx hb d_MD_suits_107 (by decide) ?_
                  exact k111 _ _ _ _ ⟨((if_neg c90).trans (if_neg (by rw [← hr98]; exact c103))).symm, hP, hS, lv_sub hl [0, 1, 2, 3, 4, 5, 6] rfl⟩
          · refine lv_iload hx hb d_MD_suits_64 (lv_at hl 0 rfl) ?_
            refine lv_bipush (v := 103) hx hb d_MD_suits_66 (by decide) ?_
            refine lv_icmp_ne (tgt := 75) hx hb d_MD_suits_68 (by decide) (fun c68 => ?_) (fun c68 => ?_)
            · refine lv_aload_n hx hb d_MD_suits_75 rfl (lv_at hl 5 rfl) ?_
              refine va_get (D := (dC, dI)) (ci := 10) (v := .ref mSg) (C := R_MD) (T := T_MD) (N := 32) hx hb hts iMD hown hK hP 0 rfl rfl 4 (by decide) (hts _ (wb_MD_suits _ b_672)) (fun _ h9 => h9) rfl d_MD_suits_76 ?_
              refine lv_iload_n hx hb d_MD_suits_79 rfl (lv_at hl 2 rfl) ?_
              refine lv_iconst (v := 1) hx hb d_MD_suits_80 (by decide) ?_
              refine lv_iadd hx hb d_MD_suits_81 ?_
              refine vz_top (y := nI (nx2 sg_ k + 1)) (nI_1 (nx2 sg_ k)) ?_
              refine vz_iald (k := (nx2 sg_ k + 1)) hx hb hK hP 1 0 rfl rfl (by have := q3 c68; omega) (by decide) d_MD_suits_82 ?_
              refine lv_bipush (v := 48) hx hb d_MD_suits_83 (by decide) ?_
              refine lv_isub hx hb d_MD_suits_85 ?_
              exact k86 _ _ _ _ ⟨by rw [if_neg c68], hP, hS, lv_sub hl [0, 1, 2, 3, 4, 5] rfl⟩
            · refine lv_iconst (v := 0) hx hb d_MD_suits_71 (by decide) ?_
              refine lv_goto (tgt := 86) hx hb d_MD_suits_72 (by decide) ?_
              exact k86 _ _ _ _ ⟨by rw [if_pos c68], hP, hS, lv_sub hl [0, 1, 2, 3, 4, 5] rfl⟩
        · refine lv_iinc (v := nI ((k + 1) + 1)) (lv' := [(2, .int (nI ((k + 1) + 1))), (5, .int (eqF (sg_ (k + 1)) 33)), (3, .int (nI (40 * j + mz))), (4, .int v), (0, .ref g)]) hx hb d_MD_suits_53 hl (k := 1) rfl (nI_1 (k + 1)) (by decide) rfl (fun ls hl => ?_)
          have en2 : nx2 sg_ k = k + 1 + 1 := if_pos (eqF_1 c50)
          have hl : lv_has ls 8 [(2, .int (nI (nx2 sg_ k))), (5, .int (eqF (sg_ (k + 1)) 33)), (3, .int (nI (40 * j + mz))), (4, .int v), (0, .ref g)] := by rw [show nI (nx2 sg_ k) = nI (k + 1 + 1) from congrArg nI en2]; exact hl
          refine lv_aload_n hx hb d_MD_suits_56 rfl (lv_at hl 4 rfl) ?_
          refine va_get (D := (dC, dI)) (ci := 10) (v := .ref mSg) (C := R_MD) (T := T_MD) (N := 32) hx hb hts iMD hown hK hP 0 rfl rfl 4 (by decide) (hts _ (wb_MD_suits _ b_672)) (fun _ h9 => h9) rfl d_MD_suits_57 ?_
          refine lv_iload_n hx hb d_MD_suits_60 rfl (lv_at hl 0 rfl) ?_
          refine vz_iald (k := (nx2 sg_ k)) hx hb hK hP 1 0 rfl rfl (by omega) (by decide) d_MD_suits_61 ?_
          refine lv_istore (lv' := [(6, .int (sg_ (nx2 sg_ k))), (2, .int (nI (nx2 sg_ k))), (5, .int (eqF (sg_ (k + 1)) 33)), (3, .int (nI (40 * j + mz))), (4, .int v), (0, .ref g)]) hx hb d_MD_suits_62 hl (by decide) rfl (fun ls hl => ?_)
          refine vz_join 86 [] (fun b9 H9 locs9 ls9 => (b9 = if sg_ (nx2 sg_ k) = 103 then 0 else sg_ (nx2 sg_ k + 1) - 48) ∧ va_P (dC, dI) vwCl [(g, .inr (10, [.int th, .ref mPd, .int (nI pn), .int (nI bn), .ref mSg, .ref mSz, .ref mTo, .int (nI en), .ref mRo, .ref mLi, .int (nI hn), .ref mKi, .ref mCo, .ref mEm, .ref mVa, .int (nI an), .ref mA1, .ref mA2, .ref mA3, .ref mA4, .int (nI ln), .ref mLk, .int (nI xn), .ref mEx, .int (nI qn), .ref mQp, .ref mQd, .int (nI u), .int (nI t0), .int fd, .int pp, .int wn])), (mSg, .inl (cI, 800, .inl sg_)), (mSz, .inl (cI, 20, .inl sz_)), (mRo, .inl (cI, 12, .inl ro)), (mKi, .inl (cI, 16, .inl ki)), (mCo, .inl (cI, 16, .inl co)), (mA1, .inl (cI, 40, .inl ap)), (mA2, .inl (cI, 40, .inl ar)), (mA3, .inl (cI, 40, .inl af)), (mA4, .inl (cI, 40, .inl at_))] H9 ∧ va_S A H0 H9 locs9 ∧ lv_has ls9 8 [(6, .int (sg_ (nx2 sg_ k))), (2, .int (nI (nx2 sg_ k))), (5, .int (eqF (sg_ (k + 1)) 33)), (3, .int (nI (40 * j + mz))), (4, .int v), (0, .ref g)]) (fun b9 H locs ls h9 => ?_) (fun k86 => ?_)
          · obtain ⟨rfl, hP, hS, hl⟩ := h9
            refine lv_istore (lv' := [(7, .int (if sg_ (nx2 sg_ k) = 103 then 0 else sg_ (nx2 sg_ k + 1) - 48)), (6, .int (sg_ (nx2 sg_ k))), (2, .int (nI (nx2 sg_ k))), (5, .int (eqF (sg_ (k + 1)) 33)), (3, .int (nI (40 * j + mz))), (4, .int v), (0, .ref g)]) hx hb d_MD_suits_86 hl (by decide) rfl (fun ls hl => ?_)
            refine vz_join 111 [] (fun b9 H9 locs9 ls9 => (b9 = cndM (holdM ro ki co u t0 fd pp (hasM ap ar af at_ (nI u) (nI t0) wn an)) sg_ k v) ∧ va_P (dC, dI) vwCl [(g, .inr (10, [.int th, .ref mPd, .int (nI pn), .int (nI bn), .ref mSg, .ref mSz, .ref mTo, .int (nI en), .ref mRo, .ref mLi, .int (nI hn), .ref mKi, .ref mCo, .ref mEm, .ref mVa, .int (nI an), .ref mA1, .ref mA2, .ref mA3, .ref mA4, .int (nI ln), .ref mLk, .int (nI xn), .ref mEx, .int (nI qn), .ref mQp, .ref mQd, .int (nI u), .int (nI t0), .int fd, .int pp, .int wn])), (mSg, .inl (cI, 800, .inl sg_)), (mSz, .inl (cI, 20, .inl sz_)), (mRo, .inl (cI, 12, .inl ro)), (mKi, .inl (cI, 16, .inl ki)), (mCo, .inl (cI, 16, .inl co)), (mA1, .inl (cI, 40, .inl ap)), (mA2, .inl (cI, 40, .inl ar)), (mA3, .inl (cI, 40, .inl af)), (mA4, .inl (cI, 40, .inl at_))] H9 ∧ va_S A H0 H9 locs9 ∧ lv_has ls9 8 [(7, .int (if sg_ (nx2 sg_ k) = 103 then 0 else sg_ (nx2 sg_ k + 1) - 48)), (6, .int (sg_ (nx2 sg_ k))), (2, .int (nI (nx2 sg_ k))), (5, .int (eqF (sg_ (k + 1)) 33)), (3, .int (nI (40 * j + mz))), (4, .int v), (0, .ref g)]) (fun b9 H locs ls h9 => ?_) (fun k111 => ?_)
            · obtain ⟨rfl, hP, hS, hl⟩ := h9
              refine lv_istore (lv' := [(4, .int (cndM (holdM ro ki co u t0 fd pp (hasM ap ar af at_ (nI u) (nI t0) wn an)) sg_ k v)), (7, .int (if sg_ (nx2 sg_ k) = 103 then 0 else sg_ (nx2 sg_ k + 1) - 48)), (6, .int (sg_ (nx2 sg_ k))), (2, .int (nI (nx2 sg_ k))), (5, .int (eqF (sg_ (k + 1)) 33)), (3, .int (nI (40 * j + mz))), (0, .ref g)]) hx hb d_MD_suits_111 hl (by decide) rfl (fun ls hl => ?_)
              refine lv_iload_n hx hb d_MD_suits_113 rfl (lv_at hl 3 rfl) ?_
              refine vz_join 126 [.int (nI (nx2 sg_ k))] (fun b9 H9 locs9 ls9 => (b9 = if sg_ (nx2 sg_ k) = 103 then 1 else 2) ∧ va_P (dC, dI) vwCl [(g, .inr (10, [.int th, .ref mPd, .int (nI pn), .int (nI bn), .ref mSg, .ref mSz, .ref mTo, .int (nI en), .ref mRo, .ref mLi, .int (nI hn), .ref mKi, .ref mCo, .ref mEm, .ref mVa, .int (nI an), .ref mA1, .ref mA2, .ref mA3, .ref mA4, .int (nI ln), .ref mLk, .int (nI xn), .ref mEx, .int (nI qn), .ref mQp, .ref mQd, .int (nI u), .int (nI t0), .int fd, .int pp, .int wn])), (mSg, .inl (cI, 800, .inl sg_)), (mSz, .inl (cI, 20, .inl sz_)), (mRo, .inl (cI, 12, .inl ro)), (mKi, .inl (cI, 16, .inl ki)), (mCo, .inl (cI, 16, .inl co)), (mA1, .inl (cI, 40, .inl ap)), (mA2, .inl (cI, 40, .inl ar)), (mA3, .inl (cI, 40, .inl af)), (mA4, .inl (cI, 40, .inl at_))] H9 ∧ va_S A H0 H9 locs9 ∧ lv_has ls9 8 [(4, .int (cndM (holdM ro ki co u t0 fd pp (hasM ap ar af at_ (nI u) (nI t0) wn an)) sg_ k v)), (7, .int (if sg_ (nx2 sg_ k) = 103 then 0 else sg_ (nx2 sg_ k + 1) - 48)), (6, .int (sg_ (nx2 sg_ k))), (2, .int (nI (nx2 sg_ k))), (5, .int (eqF (sg_ (k + 1)) 33)), (3, .int (nI (40 * j + mz))), (0, .ref g)]) (fun b9 H locs ls h9 => ?_) (fun k126 => ?_)
              · obtain ⟨rfl, hP, hS, hl⟩ := h9
                refine lv_iadd hx hb d_MD_suits_126 ?_
                refine vz_top (y := nI (nx3 sg_ k)) (by unfold nx3; split; exact nI_add _ 1; exact nI_add _ 2) ?_
                refine lv_istore_n (lv' := [(2, .int (nI (nx3 sg_ k))), (4, .int (cndM (holdM ro ki co u t0 fd pp (hasM ap ar af at_ (nI u) (nI t0) wn an)) sg_ k v)), (7, .int (if sg_ (nx2 sg_ k) = 103 then 0 else sg_ (nx2 sg_ k + 1) - 48)), (6, .int (sg_ (nx2 sg_ k))), (5, .int (eqF (sg_ (k + 1)) 33)), (3, .int (nI (40 * j + mz))), (0, .ref g)]) hx hb d_MD_suits_127 rfl hl (by decide) rfl (fun ls hl => ?_)
                refine lv_goto (tgt := 22) hx hb d_MD_suits_128 (by decide) ?_
                exact ih n1 (nx3 sg_ k) (cndM (holdM ro ki co u t0 fd pp (hasM ap ar af at_ (nI u) (nI t0) wn an)) sg_ k v) (by omega) (hw1) (hv.trans (if_pos hlt)) _ _ hP hS ls (lv_sub hl [0, 5, 1, 6] rfl)
              · refine lv_iload hx hb d_MD_suits_114 (lv_at hl 2 rfl) ?_
                refine lv_bipush (v := 103) hx hb d_MD_suits_116 (by decide) ?_
                refine lv_icmp_ne (tgt := 125) hx hb d_MD_suits_118 (by decide) (fun c118 => ?_) (fun c118 => ?_)
                · refine lv_iconst (v := 2) hx hb d_MD_suits_125 (by decide) ?_
                  exact k126 _ _ _ _ ⟨by rw [if_neg c118], hP, hS, lv_sub hl [0, 1, 2, 3, 4, 5, 6] rfl⟩
                · refine lv_iconst (v := 1) hx hb d_MD_suits_121 (by decide) ?_
                  refine lv_goto (tgt := 126) hx hb d_MD_suits_122 (by decide) ?_
                  exact k126 _ _ _ _ ⟨by rw [if_pos c118], hP, hS, lv_sub hl [0, 1, 2, 3, 4, 5, 6] rfl⟩
            · refine lv_iload hx hb d_MD_suits_88 (lv_at hl 5 rfl) ?_
              refine lv_if_eq (tgt := 110) hx hb d_MD_suits_90 (by decide) (fun c90 => ?_) (fun c90 => ?_)
              · refine lv_iconst (v := 0) hx hb d_MD_suits_110 (by decide) ?_
                exact k111 _ _ _ _ ⟨(if_pos c90).symm, hP, hS, lv_sub hl [0, 1, 2, 3, 4, 5, 6] rfl⟩
              · refine lv_aload_n hx hb d_MD_suits_93 rfl (lv_at hl 6 rfl) ?_
                refine lv_iload hx hb d_MD_suits_94 (lv_at hl 1 rfl) ?_
                refine lv_iload hx hb d_MD_suits_96 (lv_at hl 0 rfl) ?_
                have hPc := hP.sub (ws' := [(g, .inr (10, [.int th, .ref mPd, .int (nI pn), .int (nI bn), .ref mSg, .ref mSz, .ref mTo, .int (nI en), .ref mRo, .ref mLi, .int (nI hn), .ref mKi, .ref mCo, .ref mEm, .ref mVa, .int (nI an), .ref mA1, .ref mA2, .ref mA3, .ref mA4, .int (nI ln), .ref mLk, .int (nI xn), .ref mEx, .int (nI qn), .ref mQp, .ref mQd, .int (nI u), .int (nI t0), .int fd, .int pp, .int wn])), (mRo, .inl (cI, 12, .inl ro)), (mKi, .inl (cI, 16, .inl ki)), (mCo, .inl (cI, 16, .inl co)), (mA1, .inl (cI, 40, .inl ap)), (mA2, .inl (cI, 40, .inl ar)), (mA3, .inl (cI, 40, .inl af)), (mA4, .inl (cI, 40, .inl at_))]) [0, 3, 4, 5, 6, 7, 8, 9] rfl
                have hKc := hK.sub (tys' := [(cI, .int)]) [0] rfl
                refine va_calli (va_runV (As := [.int (sg_ (nx2 sg_ k)), .int (if sg_ (nx2 sg_ k) = 103 then 0 else sg_ (nx2 sg_ k + 1) - 48)]) (rest := []) ⟨hx, hb, hml, hown, hts⟩ (c_MD_holds l dC dI cI g mPd mSg mSz mTo mRo mLi mKi mCo mEm mVa mA1 mA2 mA3 mA4 mLk mEx mQp mQd th pn bn en hn an ln xn qn u t0 fd pp wn ro ki co ap ar af at_ (by first | assumption | omega) (by first | assumption | omega) (by first | assumption | omega) (sg_ (nx2 sg_ k)) (if sg_ (nx2 sg_ k) = 103 then 0 else sg_ (nx2 sg_ k + 1) - 48)) (cwV 2 hts (vz_gV wb_MD_suits b_854 b_856 bs_23 b_11 wc_MD_holds) rfl rfl rfl (by decide +kernel) ⟨Nat.le_of_ble_eq_true rfl, Nat.le_of_ble_eq_true rfl⟩) (vz_preV hPc hKc (ci := 10) (q0 := 0) rfl rfl) rfl rfl hl.1 rfl (lv_room (Nat.le_of_ble_eq_true rfl)) d_MD_suits_98 ⟨Nat.le_of_ble_eq_true rfl, Nat.le_of_ble_eq_true rfl⟩) hS (fun q _ h => False.elim h) (fun q h => False.elim h) (fun r98 u9 t9 H1 locs ht hvm hr98 hB hzx9 hkx9 hS => ?_)
                try dsimp only at hr98
                have hP := vz_kept hP hkx9
                generalize H1 = H at hP hS ⊢
                refine lv_iload hx hb d_MD_suits_101 (lv_at hl 3 rfl) ?_
                refine lv_icmp_eq (tgt := 110) hx hb d_MD_suits_103 (by decide) (fun c103 => ?_) (fun c103 => ?_)
                · refine lv_iconst (v := 0) hx hb d_MD_suits_110 (by decide) ?_
                  exact k111 _ _ _ _ ⟨((if_neg c90).trans (if_pos (by rw [← hr98]; exact c103))).symm, hP, hS, lv_sub hl [0, 1, 2, 3, 4, 5, 6] rfl⟩
                · refine lv_iconst (v := 1) hx hb d_MD_suits_106 (by decide) ?_
                  refine lv_goto (tgt := 111) hx hb d_MD_suits_107 (by decide) ?_
                  exact k111 _ _ _ _ ⟨((if_neg c90).trans (if_neg (by rw [← hr98]; exact c103))).symm, hP, hS, lv_sub hl [0, 1, 2, 3, 4, 5, 6] rfl⟩
          · refine lv_iload hx hb d_MD_suits_64 (lv_at hl 0 rfl) ?_
            refine lv_bipush (v := 103) hx hb d_MD_suits_66 (by decide) ?_
            refine lv_icmp_ne (tgt := 75) hx hb d_MD_suits_68 (by decide) (fun c68 => ?_) (fun c68 => ?_)
            · refine lv_aload_n hx hb d_MD_suits_75 rfl (lv_at hl 5 rfl) ?_
              refine va_get (D := (dC, dI)) (ci := 10) (v := .ref mSg) (C := R_MD) (T := T_MD) (N := 32) hx hb hts iMD hown hK hP 0 rfl rfl 4 (by decide) (hts _ (wb_MD_suits _ b_672)) (fun _ h9 => h9) rfl d_MD_suits_76 ?_
              refine lv_iload_n hx hb d_MD_suits_79 rfl (lv_at hl 1 rfl) ?_
              refine lv_iconst (v := 1) hx hb d_MD_suits_80 (by decide) ?_
              refine lv_iadd hx hb d_MD_suits_81 ?_
              refine vz_top (y := nI (nx2 sg_ k + 1)) (nI_1 (nx2 sg_ k)) ?_
              refine vz_iald (k := (nx2 sg_ k + 1)) hx hb hK hP 1 0 rfl rfl (by have := q3 c68; omega) (by decide) d_MD_suits_82 ?_
              refine lv_bipush (v := 48) hx hb d_MD_suits_83 (by decide) ?_
              refine lv_isub hx hb d_MD_suits_85 ?_
              exact k86 _ _ _ _ ⟨by rw [if_neg c68], hP, hS, lv_sub hl [0, 1, 2, 3, 4, 5] rfl⟩
            · refine lv_iconst (v := 0) hx hb d_MD_suits_71 (by decide) ?_
              refine lv_goto (tgt := 86) hx hb d_MD_suits_72 (by decide) ?_
              exact k86 _ _ _ _ ⟨by rw [if_pos c68], hP, hS, lv_sub hl [0, 1, 2, 3, 4, 5] rfl⟩
      · refine lv_aload_n hx hb d_MD_suits_30 rfl (lv_at hl 3 rfl) ?_
        refine va_get (D := (dC, dI)) (ci := 10) (v := .ref mSg) (C := R_MD) (T := T_MD) (N := 32) hx hb hts iMD hown hK hP 0 rfl rfl 4 (by decide) (hts _ (wb_MD_suits _ b_672)) (fun _ h9 => h9) rfl d_MD_suits_31 ?_
        refine lv_iload_n hx hb d_MD_suits_34 rfl (lv_at hl 0 rfl) ?_
        refine vz_iald (k := (k + 1)) hx hb hK hP 1 0 rfl rfl (by omega) (by decide) d_MD_suits_35 ?_
        refine lv_bipush (v := 33) hx hb d_MD_suits_36 (by decide) ?_
        refine lv_icmp_ne (tgt := 45) hx hb d_MD_suits_38 (by decide) (fun c38 => ?_) (fun c38 => ?_)
        · refine lv_iconst (v := 0) hx hb d_MD_suits_45 (by decide) ?_
          exact k46 _ _ _ _ ⟨by simp [eqF, c38], hP, hS, lv_sub hl [0, 1, 2, 3] rfl⟩
        · refine lv_iconst (v := 1) hx hb d_MD_suits_41 (by decide) ?_
          refine lv_goto (tgt := 46) hx hb d_MD_suits_42 (by decide) ?_
          exact k46 _ _ _ _ ⟨by simp [eqF, c38], hP, hS, lv_sub hl [0, 1, 2, 3] rfl⟩
set_option maxHeartbeats 4000000 in
set_option maxRecDepth 100000 in
theorem c_MD_suits (l : Launch) (dC : Nat → ClassId) (dI : Nat → Nat → Nat) (cI : ClassId) (g mPd mSg mSz mTo mRo mLi mKi mCo mEm mVa mA1 mA2 mA3 mA4 mLk mEx mQp mQd : Nat) (th : Int32) (pn bn en hn an ln xn qn : Nat) (u t0 : Nat) (fd pp wn : Int32) (sg_ : Nat → Int32) (sz_ : Nat → Int32) (ro : Nat → Int32) (ki : Nat → Int32) (co : Nat → Int32) (ap : Nat → Int32) (ar : Nat → Int32) (af : Nat → Int32) (at_ : Nat → Int32) (han : an ≤ 40) (hu : u < 12) (ht : t0 < 16) (j mz : Nat) (hj : j < 20) (hm : mz ≤ 40) (hsz : sz_ j = nI mz) (hwf : wfM sg_ (40 * j + mz) 40 (40 * j + 1)) : Met l y_MD_suits ws_MD_suits ({ frames := 2, cells := 0, slots := 0, locals := 47 }) (va_Pc [.ref g, .int (nI j)] (fun U => va_P (dC, dI) vwCl [(g, .inr (10, [.int th, .ref mPd, .int (nI pn), .int (nI bn), .ref mSg, .ref mSz, .ref mTo, .int (nI en), .ref mRo, .ref mLi, .int (nI hn), .ref mKi, .ref mCo, .ref mEm, .ref mVa, .int (nI an), .ref mA1, .ref mA2, .ref mA3, .ref mA4, .int (nI ln), .ref mLk, .int (nI xn), .ref mEx, .int (nI qn), .ref mQp, .ref mQd, .int (nI u), .int (nI t0), .int fd, .int pp, .int wn])), (mSg, .inl (cI, 800, .inl sg_)), (mSz, .inl (cI, 20, .inl sz_)), (mRo, .inl (cI, 12, .inl ro)), (mKi, .inl (cI, 16, .inl ki)), (mCo, .inl (cI, 16, .inl co)), (mA1, .inl (cI, 40, .inl ap)), (mA2, .inl (cI, 40, .inl ar)), (mA3, .inl (cI, 40, .inl af)), (mA4, .inl (cI, 40, .inl at_))] U.heap ∧ va_K (dC, dI) vwCl [(cI, .int)] U)) (va_Qi (fun (res : Int32) (_ : Unit) => res = suM (holdM ro ki co u t0 fd pp (hasM ap ar af at_ (nI u) (nI t0) wn an)) sg_ (40 * j + mz) 40 (40 * j + 1) 1) (fun _ _ => True) (fun _ => False)) 0 0 (fun _ => False) := by
  refine Met.ofW (cc := k_MD_suits) (maxL := 8) (ret := (some .boolean)) (by decide) rfl ?_
  intro p e s m args below meth c s₁ B hml hv
  obtain ⟨rfl, hP, hK⟩ := hv
  have hx := B.exec
  have hb := B.bytes
  have hr := B.returns
  have hts := atoms_spec (ws := ws_MD_suits) B.pre
  have hown : s.vm.findClass R_MD = some m.cls := findClass_of_methodNamed B.named
  have hlocks := B.notSynchronized
  have hS : va_S (fun _ => False) s.heap s.heap [] := va_S.rf
  have hP : va_P (dC, dI) vwCl [(g, .inr (10, [.int th, .ref mPd, .int (nI pn), .int (nI bn), .ref mSg, .ref mSz, .ref mTo, .int (nI en), .ref mRo, .ref mLi, .int (nI hn), .ref mKi, .ref mCo, .ref mEm, .ref mVa, .int (nI an), .ref mA1, .ref mA2, .ref mA3, .ref mA4, .int (nI ln), .ref mLk, .int (nI xn), .ref mEx, .int (nI qn), .ref mQp, .ref mQd, .int (nI u), .int (nI t0), .int fd, .int pp, .int wn])), (mSg, .inl (cI, 800, .inl sg_)), (mSz, .inl (cI, 20, .inl sz_)), (mRo, .inl (cI, 12, .inl ro)), (mKi, .inl (cI, 16, .inl ki)), (mCo, .inl (cI, 16, .inl co)), (mA1, .inl (cI, 40, .inl ap)), (mA2, .inl (cI, 40, .inl ar)), (mA3, .inl (cI, 40, .inl af)), (mA4, .inl (cI, 40, .inl at_))] s.heap := hP
  have iMD : ∀ w ∈ u_ws R_MD T_MD 32, w ∈ ws_MD_suits := fun w h => wb_MD_suits w (in_MD w h)
  have hl := lv_entry ([.ref g, .int (nI j)]) (n := 8) (Nat.le_of_ble_eq_true rfl)
  rw [lg_entry_eq]
  generalize (lg_sl ([.ref g, .int (nI j)]) ++ List.replicate (8 - (lg_sl ([.ref g, .int (nI j)])).length) Slot.unset).toArray = ls at hl ⊢
  have hl : lv_has ls 8 [(0, .ref g), (1, .int (nI j))] := hl
  refine lv_bipush (v := 40) hx hb d_MD_suits_0 (by decide) ?_
  refine lv_iload_n hx hb d_MD_suits_2 rfl (lv_at hl 1 rfl) ?_
  refine lv_imul hx hb d_MD_suits_3 ?_
  refine lv_iconst (v := 1) hx hb d_MD_suits_4 (by decide) ?_
  refine lv_iadd hx hb d_MD_suits_5 ?_
  refine vz_top (y := nI (40 * j + 1)) (by rw [show 40 * nI j = nI (40 * j) from pk_mul 40 j]; exact nI_1 (40 * j)) ?_
  refine lv_istore_n (lv' := [(2, .int (nI (40 * j + 1))), (0, .ref g), (1, .int (nI j))]) hx hb d_MD_suits_6 rfl hl (by decide) rfl (fun ls hl => ?_)
  refine lv_bipush (v := 40) hx hb d_MD_suits_7 (by decide) ?_
  refine lv_iload_n hx hb d_MD_suits_9 rfl (lv_at hl 2 rfl) ?_
  refine lv_imul hx hb d_MD_suits_10 ?_
  refine lv_aload_n hx hb d_MD_suits_11 rfl (lv_at hl 1 rfl) ?_
  refine va_get (D := (dC, dI)) (ci := 10) (v := .ref mSz) (C := R_MD) (T := T_MD) (N := 32) hx hb hts iMD hown hK hP 0 rfl rfl 5 (by decide) (hts _ (wb_MD_suits _ b_673)) (fun _ h9 => h9) rfl d_MD_suits_12 ?_
  refine lv_iload_n hx hb d_MD_suits_15 rfl (lv_at hl 2 rfl) ?_
  refine vz_iald (k := j) hx hb hK hP 2 0 rfl rfl (by omega) (by decide) d_MD_suits_16 ?_
  refine lv_iadd hx hb d_MD_suits_17 ?_
  refine vz_top (y := nI (40 * j + mz)) (by rw [show 40 * nI j = nI (40 * j) from pk_mul 40 j, hsz, nI_add]) ?_
  refine lv_istore_n (lv' := [(3, .int (nI (40 * j + mz))), (2, .int (nI (40 * j + 1))), (0, .ref g), (1, .int (nI j))]) hx hb d_MD_suits_18 rfl hl (by decide) rfl (fun ls hl => ?_)
  refine lv_iconst (v := 1) hx hb d_MD_suits_19 (by decide) ?_
  refine lv_istore (lv' := [(4, .int 1), (3, .int (nI (40 * j + mz))), (2, .int (nI (40 * j + 1))), (0, .ref g), (1, .int (nI j))]) hx hb d_MD_suits_20 hl (by decide) rfl (fun ls hl => ?_)
  refine lp_MD_suits_22 dC dI cI g mPd mSg mSz mTo mRo mLi mKi mCo mEm mVa mA1 mA2 mA3 mA4 mLk mEx mQp mQd th pn bn en hn an ln xn qn u t0 fd pp wn sg_ sz_ ro ki co ap ar af at_ han hu ht j mz hj hm hsz hwf hx hb hml hts hown hK (fun v hv H locs hP hS ls hl => ?_) (40 + 1) 40 (40 * j + 1) 1 (by omega) (hwf) (rfl) _ _ hP hS ls (lv_sub hl [2, 1, 0, 3] rfl)
  · refine lv_iload hx hb d_MD_suits_131 (lv_at hl 0 rfl) ?_
    exact W.zret (v := v) hx hb hr (by rw [← hv]; rcases suM_z (h := holdM ro ki co u t0 fd pp (hasM ap ar af at_ (nI u) (nI t0) wn an)) (sg := sg_) (e := (40 * j + mz)) 40 (40 * j + 1) 1 (Or.inr rfl) with h9 | h9 <;> rw [h9] <;> rfl) (fun t ht hW => ⟨⟨v, (), rfl, hv.symm, trivial⟩, hS.F ht⟩) hS.2.2 d_MD_suits_133

set_option maxHeartbeats 4000000 in
set_option maxRecDepth 100000 in
theorem c_MD_put (l : Launch) (dC : Nat → ClassId) (dI : Nat → Nat → Nat) (sz : Nat) (g mPd mSg mSz mTo mRo mLi mKi mCo mEm mVa mA1 mA2 mA3 mA4 mLk mEx mQp mQd : Nat) (th : Int32) (pn bn en hn an ln xn qn : Nat) (wh wt fd pp wn : Int32) (a1 a2 a3 a4 a5 : Int32) : Met l y_MD_put ws_MD_put ({ frames := 0, cells := 0, slots := 0, locals := 0 }) (va_Pc [.ref g, .int a1, .int a2, .int a3, .int a4, .int a5] (fun U => U.heap.size = sz ∧ va_P (dC, dI) vwCl [(g, .inr (10, [.int th, .ref mPd, .int (nI pn), .int (nI bn), .ref mSg, .ref mSz, .ref mTo, .int (nI en), .ref mRo, .ref mLi, .int (nI hn), .ref mKi, .ref mCo, .ref mEm, .ref mVa, .int (nI an), .ref mA1, .ref mA2, .ref mA3, .ref mA4, .int (nI ln), .ref mLk, .int (nI xn), .ref mEx, .int (nI qn), .ref mQp, .ref mQd, .int wh, .int wt, .int fd, .int pp, .int wn]))] U.heap ∧ va_K (dC, dI) vwCl [] U ∧ va_D (fun _ => True) [(g, .inr (10, [.int th, .ref mPd, .int (nI pn), .int (nI bn), .ref mSg, .ref mSz, .ref mTo, .int (nI en), .ref mRo, .ref mLi, .int (nI hn), .ref mKi, .ref mCo, .ref mEm, .ref mVa, .int (nI an), .ref mA1, .ref mA2, .ref mA3, .ref mA4, .int (nI ln), .ref mLk, .int (nI xn), .ref mEx, .int (nI qn), .ref mQp, .ref mQd, .int wh, .int wt, .int fd, .int pp, .int wn]))])) (va_Qv (fun (_ : Unit) => True) (fun _ t => va_P (dC, dI) vwCl [(g, .inr (10, [.int th, .ref mPd, .int (nI pn), .int (nI bn), .ref mSg, .ref mSz, .ref mTo, .int (nI en), .ref mRo, .ref mLi, .int (nI hn), .ref mKi, .ref mCo, .ref mEm, .ref mVa, .int (nI an), .ref mA1, .ref mA2, .ref mA3, .ref mA4, .int (nI ln), .ref mLk, .int (nI xn), .ref mEx, .int (nI qn), .ref mQp, .ref mQd, .int a1, .int a2, .int a3, .int a4, .int a5]))] t.heap ∧ va_K (dC, dI) vwCl [] t ∧ va_D (va_A [(g, .inr (10, [.int th, .ref mPd, .int (nI pn), .int (nI bn), .ref mSg, .ref mSz, .ref mTo, .int (nI en), .ref mRo, .ref mLi, .int (nI hn), .ref mKi, .ref mCo, .ref mEm, .ref mVa, .int (nI an), .ref mA1, .ref mA2, .ref mA3, .ref mA4, .int (nI ln), .ref mLk, .int (nI xn), .ref mEx, .int (nI qn), .ref mQp, .ref mQd, .int wh, .int wt, .int fd, .int pp, .int wn]))] sz) [(g, .inr (10, [.int th, .ref mPd, .int (nI pn), .int (nI bn), .ref mSg, .ref mSz, .ref mTo, .int (nI en), .ref mRo, .ref mLi, .int (nI hn), .ref mKi, .ref mCo, .ref mEm, .ref mVa, .int (nI an), .ref mA1, .ref mA2, .ref mA3, .ref mA4, .int (nI ln), .ref mLk, .int (nI xn), .ref mEx, .int (nI qn), .ref mQp, .ref mQd, .int a1, .int a2, .int a3, .int a4, .int a5]))]) (va_A [(g, .inr (10, [.int th, .ref mPd, .int (nI pn), .int (nI bn), .ref mSg, .ref mSz, .ref mTo, .int (nI en), .ref mRo, .ref mLi, .int (nI hn), .ref mKi, .ref mCo, .ref mEm, .ref mVa, .int (nI an), .ref mA1, .ref mA2, .ref mA3, .ref mA4, .int (nI ln), .ref mLk, .int (nI xn), .ref mEx, .int (nI qn), .ref mQp, .ref mQd, .int wh, .int wt, .int fd, .int pp, .int wn]))] sz)) 0 0 (va_A [(g, .inr (10, [.int th, .ref mPd, .int (nI pn), .int (nI bn), .ref mSg, .ref mSz, .ref mTo, .int (nI en), .ref mRo, .ref mLi, .int (nI hn), .ref mKi, .ref mCo, .ref mEm, .ref mVa, .int (nI an), .ref mA1, .ref mA2, .ref mA3, .ref mA4, .int (nI ln), .ref mLk, .int (nI xn), .ref mEx, .int (nI qn), .ref mQp, .ref mQd, .int wh, .int wt, .int fd, .int pp, .int wn]))] sz) := by
  refine Met.ofW (cc := k_MD_put) (maxL := 6) (ret := none) (by decide) rfl ?_
  intro p e s m args below meth c s₁ B hml hv
  obtain ⟨rfl, hsz, hP, hK, hD0⟩ := hv
  have hx := B.exec
  have hb := B.bytes
  have hr := B.returns
  have hts := atoms_spec (ws := ws_MD_put) B.pre
  have hown : s.vm.findClass R_MD = some m.cls := findClass_of_methodNamed B.named
  have hlocks := B.notSynchronized
  subst hsz
  have hD := hD0.self (sz := s.heap.size)
  generalize hAe : va_A [(g, .inr (10, [.int th, .ref mPd, .int (nI pn), .int (nI bn), .ref mSg, .ref mSz, .ref mTo, .int (nI en), .ref mRo, .ref mLi, .int (nI hn), .ref mKi, .ref mCo, .ref mEm, .ref mVa, .int (nI an), .ref mA1, .ref mA2, .ref mA3, .ref mA4, .int (nI ln), .ref mLk, .int (nI xn), .ref mEx, .int (nI qn), .ref mQp, .ref mQd, .int wh, .int wt, .int fd, .int pp, .int wn]))] s.heap.size = A at hD ⊢
  have hA : ∀ q : Nat, s.heap.size ≤ q → A q := fun q h => by rw [← hAe]; exact Or.inr h
  have hS : va_S A s.heap s.heap [] := va_S.rf
  have hP : va_P (dC, dI) vwCl [(g, .inr (10, [.int th, .ref mPd, .int (nI pn), .int (nI bn), .ref mSg, .ref mSz, .ref mTo, .int (nI en), .ref mRo, .ref mLi, .int (nI hn), .ref mKi, .ref mCo, .ref mEm, .ref mVa, .int (nI an), .ref mA1, .ref mA2, .ref mA3, .ref mA4, .int (nI ln), .ref mLk, .int (nI xn), .ref mEx, .int (nI qn), .ref mQp, .ref mQd, .int wh, .int wt, .int fd, .int pp, .int wn]))] s.heap := hP
  have iMD : ∀ w ∈ u_ws R_MD T_MD 32, w ∈ ws_MD_put := fun w h => wb_MD_put w (in_MD w h)
  have hl := lv_entry ([.ref g, .int a1, .int a2, .int a3, .int a4, .int a5]) (n := 6) (Nat.le_of_ble_eq_true rfl)
  rw [lg_entry_eq]
  generalize (lg_sl ([.ref g, .int a1, .int a2, .int a3, .int a4, .int a5]) ++ List.replicate (6 - (lg_sl ([.ref g, .int a1, .int a2, .int a3, .int a4, .int a5])).length) Slot.unset).toArray = ls at hl ⊢
  have hl : lv_has ls 6 [(0, .ref g), (1, .int a1), (2, .int a2), (3, .int a3), (4, .int a4), (5, .int a5)] := hl
  refine lv_aload_n hx hb d_MD_put_0 rfl (lv_at hl 0 rfl) ?_
  refine lv_iload_n hx hb d_MD_put_1 rfl (lv_at hl 1 rfl) ?_
  refine va_put (D := (dC, dI)) (ci := 10) (v := .int a1) (ty := .int) (C := R_MD) (T := T_MD) (N := 32) hx hb hts iMD ty_MD tyok_MD nm_MD hown hK hP hD hS 0 rfl rfl 27 (by decide) (hts _ (wb_MD_put _ b_695)) (fun _ h9 => h9) rfl rfl rfl rfl (Nat.le_of_ble_eq_true rfl) d_MD_put_2 (fun H locs hP hD hS => ?_)
  have hP : va_P (dC, dI) vwCl [(g, .inr (10, [.int th, .ref mPd, .int (nI pn), .int (nI bn), .ref mSg, .ref mSz, .ref mTo, .int (nI en), .ref mRo, .ref mLi, .int (nI hn), .ref mKi, .ref mCo, .ref mEm, .ref mVa, .int (nI an), .ref mA1, .ref mA2, .ref mA3, .ref mA4, .int (nI ln), .ref mLk, .int (nI xn), .ref mEx, .int (nI qn), .ref mQp, .ref mQd, .int a1, .int wt, .int fd, .int pp, .int wn]))] H := hP
  have hD : va_D A [(g, .inr (10, [.int th, .ref mPd, .int (nI pn), .int (nI bn), .ref mSg, .ref mSz, .ref mTo, .int (nI en), .ref mRo, .ref mLi, .int (nI hn), .ref mKi, .ref mCo, .ref mEm, .ref mVa, .int (nI an), .ref mA1, .ref mA2, .ref mA3, .ref mA4, .int (nI ln), .ref mLk, .int (nI xn), .ref mEx, .int (nI qn), .ref mQp, .ref mQd, .int a1, .int wt, .int fd, .int pp, .int wn]))] := hD
  refine lv_aload_n hx hb d_MD_put_5 rfl (lv_at hl 0 rfl) ?_
  refine lv_iload_n hx hb d_MD_put_6 rfl (lv_at hl 2 rfl) ?_
  refine va_put (D := (dC, dI)) (ci := 10) (v := .int a2) (ty := .int) (C := R_MD) (T := T_MD) (N := 32) hx hb hts iMD ty_MD tyok_MD nm_MD hown hK hP hD hS 0 rfl rfl 28 (by decide) (hts _ (wb_MD_put _ b_696)) (fun _ h9 => h9) rfl rfl rfl rfl (Nat.le_of_ble_eq_true rfl) d_MD_put_7 (fun H locs hP hD hS => ?_)
  have hP : va_P (dC, dI) vwCl [(g, .inr (10, [.int th, .ref mPd, .int (nI pn), .int (nI bn), .ref mSg, .ref mSz, .ref mTo, .int (nI en), .ref mRo, .ref mLi, .int (nI hn), .ref mKi, .ref mCo, .ref mEm, .ref mVa, .int (nI an), .ref mA1, .ref mA2, .ref mA3, .ref mA4, .int (nI ln), .ref mLk, .int (nI xn), .ref mEx, .int (nI qn), .ref mQp, .ref mQd, .int a1, .int a2, .int fd, .int pp, .int wn]))] H := hP
  have hD : va_D A [(g, .inr (10, [.int th, .ref mPd, .int (nI pn), .int (nI bn), .ref mSg, .ref mSz, .ref mTo, .int (nI en), .ref mRo, .ref mLi, .int (nI hn), .ref mKi, .ref mCo, .ref mEm, .ref mVa, .int (nI an), .ref mA1, .ref mA2, .ref mA3, .ref mA4, .int (nI ln), .ref mLk, .int (nI xn), .ref mEx, .int (nI qn), .ref mQp, .ref mQd, .int a1, .int a2, .int fd, .int pp, .int wn]))] := hD
  refine lv_aload_n hx hb d_MD_put_10 rfl (lv_at hl 0 rfl) ?_
  refine lv_iload_n hx hb d_MD_put_11 rfl (lv_at hl 3 rfl) ?_
  refine va_put (D := (dC, dI)) (ci := 10) (v := .int a3) (ty := .int) (C := R_MD) (T := T_MD) (N := 32) hx hb hts iMD ty_MD tyok_MD nm_MD hown hK hP hD hS 0 rfl rfl 29 (by decide) (hts _ (wb_MD_put _ b_697)) (fun _ h9 => h9) rfl rfl rfl rfl (Nat.le_of_ble_eq_true rfl) d_MD_put_12 (fun H locs hP hD hS => ?_)
  have hP : va_P (dC, dI) vwCl [(g, .inr (10, [.int th, .ref mPd, .int (nI pn), .int (nI bn), .ref mSg, .ref mSz, .ref mTo, .int (nI en), .ref mRo, .ref mLi, .int (nI hn), .ref mKi, .ref mCo, .ref mEm, .ref mVa, .int (nI an), .ref mA1, .ref mA2, .ref mA3, .ref mA4, .int (nI ln), .ref mLk, .int (nI xn), .ref mEx, .int (nI qn), .ref mQp, .ref mQd, .int a1, .int a2, .int a3, .int pp, .int wn]))] H := hP
  have hD : va_D A [(g, .inr (10, [.int th, .ref mPd, .int (nI pn), .int (nI bn), .ref mSg, .ref mSz, .ref mTo, .int (nI en), .ref mRo, .ref mLi, .int (nI hn), .ref mKi, .ref mCo, .ref mEm, .ref mVa, .int (nI an), .ref mA1, .ref mA2, .ref mA3, .ref mA4, .int (nI ln), .ref mLk, .int (nI xn), .ref mEx, .int (nI qn), .ref mQp, .ref mQd, .int a1, .int a2, .int a3, .int pp, .int wn]))] := hD
  refine lv_aload_n hx hb d_MD_put_15 rfl (lv_at hl 0 rfl) ?_
  refine lv_iload hx hb d_MD_put_16 (lv_at hl 4 rfl) ?_
  refine va_put (D := (dC, dI)) (ci := 10) (v := .int a4) (ty := .int) (C := R_MD) (T := T_MD) (N := 32) hx hb hts iMD ty_MD tyok_MD nm_MD hown hK hP hD hS 0 rfl rfl 30 (by decide) (hts _ (wb_MD_put _ b_698)) (fun _ h9 => h9) rfl rfl rfl rfl (Nat.le_of_ble_eq_true rfl) d_MD_put_18 (fun H locs hP hD hS => ?_)
  have hP : va_P (dC, dI) vwCl [(g, .inr (10, [.int th, .ref mPd, .int (nI pn), .int (nI bn), .ref mSg, .ref mSz, .ref mTo, .int (nI en), .ref mRo, .ref mLi, .int (nI hn), .ref mKi, .ref mCo, .ref mEm, .ref mVa, .int (nI an), .ref mA1, .ref mA2, .ref mA3, .ref mA4, .int (nI ln), .ref mLk, .int (nI xn), .ref mEx, .int (nI qn), .ref mQp, .ref mQd, .int a1, .int a2, .int a3, .int a4, .int wn]))] H := hP
  have hD : va_D A [(g, .inr (10, [.int th, .ref mPd, .int (nI pn), .int (nI bn), .ref mSg, .ref mSz, .ref mTo, .int (nI en), .ref mRo, .ref mLi, .int (nI hn), .ref mKi, .ref mCo, .ref mEm, .ref mVa, .int (nI an), .ref mA1, .ref mA2, .ref mA3, .ref mA4, .int (nI ln), .ref mLk, .int (nI xn), .ref mEx, .int (nI qn), .ref mQp, .ref mQd, .int a1, .int a2, .int a3, .int a4, .int wn]))] := hD
  refine lv_aload_n hx hb d_MD_put_21 rfl (lv_at hl 0 rfl) ?_
  refine lv_iload hx hb d_MD_put_22 (lv_at hl 5 rfl) ?_
  refine va_put (D := (dC, dI)) (ci := 10) (v := .int a5) (ty := .int) (C := R_MD) (T := T_MD) (N := 32) hx hb hts iMD ty_MD tyok_MD nm_MD hown hK hP hD hS 0 rfl rfl 31 (by decide) (hts _ (wb_MD_put _ b_699)) (fun _ h9 => h9) rfl rfl rfl rfl (Nat.le_of_ble_eq_true rfl) d_MD_put_24 (fun H locs hP hD hS => ?_)
  have hP : va_P (dC, dI) vwCl [(g, .inr (10, [.int th, .ref mPd, .int (nI pn), .int (nI bn), .ref mSg, .ref mSz, .ref mTo, .int (nI en), .ref mRo, .ref mLi, .int (nI hn), .ref mKi, .ref mCo, .ref mEm, .ref mVa, .int (nI an), .ref mA1, .ref mA2, .ref mA3, .ref mA4, .int (nI ln), .ref mLk, .int (nI xn), .ref mEx, .int (nI qn), .ref mQp, .ref mQd, .int a1, .int a2, .int a3, .int a4, .int a5]))] H := hP
  have hD : va_D A [(g, .inr (10, [.int th, .ref mPd, .int (nI pn), .int (nI bn), .ref mSg, .ref mSz, .ref mTo, .int (nI en), .ref mRo, .ref mLi, .int (nI hn), .ref mKi, .ref mCo, .ref mEm, .ref mVa, .int (nI an), .ref mA1, .ref mA2, .ref mA3, .ref mA4, .int (nI ln), .ref mLk, .int (nI xn), .ref mEx, .int (nI qn), .ref mQp, .ref mQd, .int a1, .int a2, .int a3, .int a4, .int a5]))] := hD
  have hP9 := hP.sub (ws' := [(g, .inr (10, [.int th, .ref mPd, .int (nI pn), .int (nI bn), .ref mSg, .ref mSz, .ref mTo, .int (nI en), .ref mRo, .ref mLi, .int (nI hn), .ref mKi, .ref mCo, .ref mEm, .ref mVa, .int (nI an), .ref mA1, .ref mA2, .ref mA3, .ref mA4, .int (nI ln), .ref mLk, .int (nI xn), .ref mEx, .int (nI qn), .ref mQp, .ref mQd, .int a1, .int a2, .int a3, .int a4, .int a5]))]) [0] rfl
  have hD9 := hD.sub (ws' := [(g, .inr (10, [.int th, .ref mPd, .int (nI pn), .int (nI bn), .ref mSg, .ref mSz, .ref mTo, .int (nI en), .ref mRo, .ref mLi, .int (nI hn), .ref mKi, .ref mCo, .ref mEm, .ref mVa, .int (nI an), .ref mA1, .ref mA2, .ref mA3, .ref mA4, .int (nI ln), .ref mLk, .int (nI xn), .ref mEx, .int (nI qn), .ref mQp, .ref mQd, .int a1, .int a2, .int a3, .int a4, .int a5]))]) [0] (by decide) rfl
  exact W.vret hx hb hr (fun t ht hW => ⟨⟨(), rfl, trivial, by rw [ht]; exact hP9, va_K.moved hW.alike hK, hD9⟩, hS.F ht⟩) hS.2.2 d_MD_put_27

/-- the last answer and whether one bars, behind the first k rules -/
def gotP (S : Nat → Int32) (to sg : Nat → Int32) (wo : Int32) : Nat → Int32 × Int32
  | 0 => (0, 0)
  | k + 1 => if to k = 0 ∨ nI k = wo ∨ S k = 0 then gotP S to sg wo k else (if sg (40 * k) = 115 then 2 else 1, if ¬ (gotP S to sg wo k).2 = 0 then 1 else if sg (40 * k) = 97 then 1 else 0)
def gotM (S : Nat → Int32) (to sg : Nat → Int32) (em ro wn wo : Int32) (n : Nat) : Int32 := if wn ≤ em ∧ ro < 128 then 0 else if (gotP S to sg wo n).2 = 0 then (gotP S to sg wo n).1 else 0
/-- the texts of the first n rules are rules -/
def rulesOk (sg sz : Nat → Int32) (mz : Nat → Nat) (n : Nat) : Prop := ∀ j, j < n → mz j ≤ 40 ∧ sz j = nI (mz j) ∧ wfM sg (40 * j + mz j) 40 (40 * j + 1)

set_option maxHeartbeats 4000000 in
set_option maxRecDepth 100000 in
theorem lp_MD_got_40 {p : Program} {l : Launch} {e : Env} {s : State} {m : MethodId} {args : Array Value} {below : List Frame} {meth : Method} {c : Code} {Q : State → Prop} {A : Nat → Prop} {H0 : Heap} (dC : Nat → ClassId) (dI : Nat → Nat → Nat) (cI cZ : ClassId) (g mPd mSg mSz mTo mRo mLi mKi mCo mEm mVa mA1 mA2 mA3 mA4 mLk mEx mQp mQd : Nat) (th : Int32) (pn bn en hn an ln xn qn : Nat) (u t0 : Nat) (fd pp wn : Int32) (to_ : Nat → Int32) (em : Nat → Int32) (sg_ : Nat → Int32) (sz_ : Nat → Int32) (ro : Nat → Int32) (ki : Nat → Int32) (co : Nat → Int32) (ap : Nat → Int32) (ar : Nat → Int32) (af : Nat → Int32) (at_ : Nat → Int32) (han : an ≤ 40) (hbn : bn ≤ 20) (hu : u < 12) (ht : t0 < 16) (mz : Nat → Nat) (hro : rulesOk sg_ sz_ mz bn) (wo : Int32)  (hx : p.tables.exec = Jvm.exec) (hb : c.code = k_MD_got) (hml : c.maxLocals = 6) (hts : ∀ w ∈ ws_MD_got, w.before args s = true) (hown : s.vm.findClass R_MD = some m.cls) (hK : va_K (dC, dI) vwCl [(cZ, .boolean), (cI, .int)] s) (kx125 : ∀ (v : Int32), ∀ (b : Int32), ((v, b) = gotP (fun j => suM (holdM ro ki co u t0 fd pp (hasM ap ar af at_ (nI u) (nI t0) wn an)) sg_ (40 * j + mz j) 40 (40 * j + 1) 1) to_ sg_ wo bn) → ∀ (H : Heap) (locs : List Loc), va_P (dC, dI) vwCl [(g, .inr (10, [.int th, .ref mPd, .int (nI pn), .int (nI bn), .ref mSg, .ref mSz, .ref mTo, .int (nI en), .ref mRo, .ref mLi, .int (nI hn), .ref mKi, .ref mCo, .ref mEm, .ref mVa, .int (nI an), .ref mA1, .ref mA2, .ref mA3, .ref mA4, .int (nI ln), .ref mLk, .int (nI xn), .ref mEx, .int (nI qn), .ref mQp, .ref mQd, .int (nI u), .int (nI t0), .int fd, .int pp, .int wn])), (mTo, .inl (cZ, 20, .inl to_)), (mEm, .inl (cI, 16, .inl em)), (mSg, .inl (cI, 800, .inl sg_)), (mSz, .inl (cI, 20, .inl sz_)), (mRo, .inl (cI, 12, .inl ro)), (mKi, .inl (cI, 16, .inl ki)), (mCo, .inl (cI, 16, .inl co)), (mA1, .inl (cI, 40, .inl ap)), (mA2, .inl (cI, 40, .inl ar)), (mA3, .inl (cI, 40, .inl af)), (mA4, .inl (cI, 40, .inl at_))] H → va_S A H0 H locs → ∀ ls : Array Slot, lv_has ls 6 [(2, .int v), (3, .int b)] → W p l e ({ frames := 3, cells := 0, slots := 0, locals := 74 }) s m args below meth c H locs 0 0 Q (F0 m 125 ls [])) : ∀ (N : Nat), ∀ (k : Nat), ∀ (v : Int32), ∀ (b : Int32), bn + 1 ≤ k + N → (k ≤ bn) → ((v, b) = gotP (fun j => suM (holdM ro ki co u t0 fd pp (hasM ap ar af at_ (nI u) (nI t0) wn an)) sg_ (40 * j + mz j) 40 (40 * j + 1) 1) to_ sg_ wo k) → ∀ (H : Heap) (locs : List Loc), va_P (dC, dI) vwCl [(g, .inr (10, [.int th, .ref mPd, .int (nI pn), .int (nI bn), .ref mSg, .ref mSz, .ref mTo, .int (nI en), .ref mRo, .ref mLi, .int (nI hn), .ref mKi, .ref mCo, .ref mEm, .ref mVa, .int (nI an), .ref mA1, .ref mA2, .ref mA3, .ref mA4, .int (nI ln), .ref mLk, .int (nI xn), .ref mEx, .int (nI qn), .ref mQp, .ref mQd, .int (nI u), .int (nI t0), .int fd, .int pp, .int wn])), (mTo, .inl (cZ, 20, .inl to_)), (mEm, .inl (cI, 16, .inl em)), (mSg, .inl (cI, 800, .inl sg_)), (mSz, .inl (cI, 20, .inl sz_)), (mRo, .inl (cI, 12, .inl ro)), (mKi, .inl (cI, 16, .inl ki)), (mCo, .inl (cI, 16, .inl co)), (mA1, .inl (cI, 40, .inl ap)), (mA2, .inl (cI, 40, .inl ar)), (mA3, .inl (cI, 40, .inl af)), (mA4, .inl (cI, 40, .inl at_))] H → va_S A H0 H locs → ∀ ls : Array Slot, lv_has ls 6 [(4, .int (nI k)), (2, .int v), (3, .int b), (0, .ref g), (1, .int wo)] → W p l e ({ frames := 3, cells := 0, slots := 0, locals := 74 }) s m args below meth c H locs 0 0 Q (F0 m 40 ls []) := by
  have iMD : ∀ w ∈ u_ws R_MD T_MD 32, w ∈ ws_MD_got := fun w h => wb_MD_got w (in_MD w h)
  intro N
  induction N with
  | zero =>
    intro k v b hme hk hv
    exact absurd hme (by omega)
  | succ N ih =>
    intro k v b hme hk hv H locs hP hS ls hl
    refine lv_iload hx hb d_MD_got_40 (lv_at hl 0 rfl) ?_
    refine lv_aload_n hx hb d_MD_got_42 rfl (lv_at hl 3 rfl) ?_
    refine va_get (D := (dC, dI)) (ci := 10) (v := .int (nI bn)) (C := R_MD) (T := T_MD) (N := 32) hx hb hts iMD hown hK hP 0 rfl rfl 3 (by decide) (hts _ (wb_MD_got _ b_671)) (fun _ h9 => h9) rfl d_MD_got_43 ?_
    refine lv_icmp_ge (tgt := 125) hx hb d_MD_got_46 (by decide) (fun c46 => ?_) (fun c46 => ?_)
    · have hge : bn ≤ k := (nI_leI (show bn < 2147483648 by omega) (show k < 2147483648 by omega)).mp c46
      exact kx125 v b (by rw [hv, show k = bn by omega]) _ _ hP hS ls (lv_sub hl [1, 2] rfl)
    · have hlt : k < bn := Nat.lt_of_not_le (mt (nI_leI (show bn < 2147483648 by omega) (show k < 2147483648 by omega)).mpr c46)
      refine lv_aload_n hx hb d_MD_got_49 rfl (lv_at hl 3 rfl) ?_
      refine va_get (D := (dC, dI)) (ci := 10) (v := .ref mTo) (C := R_MD) (T := T_MD) (N := 32) hx hb hts iMD hown hK hP 0 rfl rfl 6 (by decide) (hts _ (wb_MD_got _ b_674)) (fun _ h9 => h9) rfl d_MD_got_50 ?_
      refine lv_iload hx hb d_MD_got_53 (lv_at hl 0 rfl) ?_
      refine vz_zald (k := k) hx hb hK hP 1 0 rfl rfl (by omega) (by decide) d_MD_got_55 ?_
      refine lv_if_eq (tgt := 119) hx hb d_MD_got_56 (by decide) (fun c56 => ?_) (fun c56 => ?_)
      · refine lv_iinc (v := nI (k + 1)) (lv' := [(4, .int (nI (k + 1))), (2, .int v), (3, .int b), (0, .ref g), (1, .int wo)]) hx hb d_MD_got_119 hl (k := 0) rfl (nI_1 k) (by decide) rfl (fun ls hl => ?_)
        refine lv_goto (tgt := 40) hx hb d_MD_got_122 (by decide) ?_
        exact ih (k + 1) v b (by omega) (by omega) (hv.trans (if_pos (Or.inl c56)).symm) _ _ hP hS ls (lv_sub hl [0, 1, 2, 3, 4] rfl)
      · refine lv_iload hx hb d_MD_got_59 (lv_at hl 0 rfl) ?_
        refine lv_iload_n hx hb d_MD_got_61 rfl (lv_at hl 4 rfl) ?_
        refine lv_icmp_eq (tgt := 119) hx hb d_MD_got_62 (by decide) (fun c62 => ?_) (fun c62 => ?_)
        · refine lv_iinc (v := nI (k + 1)) (lv' := [(4, .int (nI (k + 1))), (2, .int v), (3, .int b), (0, .ref g), (1, .int wo)]) hx hb d_MD_got_119 hl (k := 0) rfl (nI_1 k) (by decide) rfl (fun ls hl => ?_)
          refine lv_goto (tgt := 40) hx hb d_MD_got_122 (by decide) ?_
          exact ih (k + 1) v b (by omega) (by omega) (hv.trans (if_pos (Or.inr (Or.inl c62))).symm) _ _ hP hS ls (lv_sub hl [0, 1, 2, 3, 4] rfl)
        · refine lv_aload_n hx hb d_MD_got_65 rfl (lv_at hl 3 rfl) ?_
          refine lv_iload hx hb d_MD_got_66 (lv_at hl 0 rfl) ?_
          have hPc := hP.sub (ws' := [(g, .inr (10, [.int th, .ref mPd, .int (nI pn), .int (nI bn), .ref mSg, .ref mSz, .ref mTo, .int (nI en), .ref mRo, .ref mLi, .int (nI hn), .ref mKi, .ref mCo, .ref mEm, .ref mVa, .int (nI an), .ref mA1, .ref mA2, .ref mA3, .ref mA4, .int (nI ln), .ref mLk, .int (nI xn), .ref mEx, .int (nI qn), .ref mQp, .ref mQd, .int (nI u), .int (nI t0), .int fd, .int pp, .int wn])), (mSg, .inl (cI, 800, .inl sg_)), (mSz, .inl (cI, 20, .inl sz_)), (mRo, .inl (cI, 12, .inl ro)), (mKi, .inl (cI, 16, .inl ki)), (mCo, .inl (cI, 16, .inl co)), (mA1, .inl (cI, 40, .inl ap)), (mA2, .inl (cI, 40, .inl ar)), (mA3, .inl (cI, 40, .inl af)), (mA4, .inl (cI, 40, .inl at_))]) [0, 3, 4, 5, 6, 7, 8, 9, 10, 11] rfl
          have hKc := hK.sub (tys' := [(cI, .int)]) [1] rfl
          refine va_calli (va_runV (As := [.int (nI k)]) (rest := []) ⟨hx, hb, hml, hown, hts⟩ (c_MD_suits l dC dI cI g mPd mSg mSz mTo mRo mLi mKi mCo mEm mVa mA1 mA2 mA3 mA4 mLk mEx mQp mQd th pn bn en hn an ln xn qn u t0 fd pp wn sg_ sz_ ro ki co ap ar af at_ (by first | assumption | omega) (by first | assumption | omega) (by first | assumption | omega) k (mz k) (by omega) ((hro k hlt).1) ((hro k hlt).2.1) ((hro k hlt).2.2)) (cwV 1 hts (vz_gV wb_MD_got b_850 b_852 bs_22 b_11 wc_MD_suits) rfl rfl rfl (by decide +kernel) ⟨Nat.le_of_ble_eq_true rfl, Nat.le_of_ble_eq_true rfl⟩) (vz_preV hPc hKc (ci := 10) (q0 := 0) rfl rfl) rfl rfl hl.1 rfl (lv_room (Nat.le_of_ble_eq_true rfl)) d_MD_got_68 ⟨Nat.le_of_ble_eq_true rfl, Nat.le_of_ble_eq_true rfl⟩) hS (fun q _ h => False.elim h) (fun q h => False.elim h) (fun r68 u9 t9 H1 locs ht hvm hr68 hB hzx9 hkx9 hS => ?_)
          try dsimp only at hr68
          have hP := vz_kept hP hkx9
          generalize H1 = H at hP hS ⊢
          refine lv_if_ne (tgt := 77) hx hb d_MD_got_71 (by decide) (fun c71 => ?_) (fun c71 => ?_)
          · refine lv_aload_n hx hb d_MD_got_77 rfl (lv_at hl 3 rfl) ?_
            refine va_get (D := (dC, dI)) (ci := 10) (v := .ref mSg) (C := R_MD) (T := T_MD) (N := 32) hx hb hts iMD hown hK hP 0 rfl rfl 4 (by decide) (hts _ (wb_MD_got _ b_672)) (fun _ h9 => h9) rfl d_MD_got_78 ?_
            refine lv_bipush (v := 40) hx hb d_MD_got_81 (by decide) ?_
            refine lv_iload hx hb d_MD_got_83 (lv_at hl 0 rfl) ?_
            refine lv_imul hx hb d_MD_got_85 ?_
            refine vz_top (y := nI (40 * k)) (pk_mul 40 k) ?_
            refine vz_iald (k := (40 * k)) hx hb hK hP 3 1 rfl rfl (by omega) (by decide) d_MD_got_86 ?_
            refine lv_topi (fun aw eaw => ?_)
            refine lv_istore (lv' := [(5, .int aw), (4, .int (nI k)), (2, .int v), (3, .int b), (0, .ref g), (1, .int wo)]) hx hb d_MD_got_87 hl (by decide) rfl (fun ls hl => ?_)
            refine vz_join 105 [] (fun b9 H9 locs9 ls9 => (b9 = if ¬ b = 0 then 1 else if aw = 97 then 1 else 0) ∧ va_P (dC, dI) vwCl [(g, .inr (10, [.int th, .ref mPd, .int (nI pn), .int (nI bn), .ref mSg, .ref mSz, .ref mTo, .int (nI en), .ref mRo, .ref mLi, .int (nI hn), .ref mKi, .ref mCo, .ref mEm, .ref mVa, .int (nI an), .ref mA1, .ref mA2, .ref mA3, .ref mA4, .int (nI ln), .ref mLk, .int (nI xn), .ref mEx, .int (nI qn), .ref mQp, .ref mQd, .int (nI u), .int (nI t0), .int fd, .int pp, .int wn])), (mTo, .inl (cZ, 20, .inl to_)), (mEm, .inl (cI, 16, .inl em)), (mSg, .inl (cI, 800, .inl sg_)), (mSz, .inl (cI, 20, .inl sz_)), (mRo, .inl (cI, 12, .inl ro)), (mKi, .inl (cI, 16, .inl ki)), (mCo, .inl (cI, 16, .inl co)), (mA1, .inl (cI, 40, .inl ap)), (mA2, .inl (cI, 40, .inl ar)), (mA3, .inl (cI, 40, .inl af)), (mA4, .inl (cI, 40, .inl at_))] H9 ∧ va_S A H0 H9 locs9 ∧ lv_has ls9 6 [(5, .int aw), (4, .int (nI k)), (2, .int v), (3, .int b), (0, .ref g), (1, .int wo)]) (fun b9 H locs ls h9 => ?_) (fun k105 => ?_)
            · obtain ⟨rfl, hP, hS, hl⟩ := h9
              refine lv_istore_n (lv' := [(3, .int (if ¬ b = 0 then 1 else if aw = 97 then 1 else 0)), (5, .int aw), (4, .int (nI k)), (2, .int v), (0, .ref g), (1, .int wo)]) hx hb d_MD_got_105 rfl hl (by decide) rfl (fun ls hl => ?_)
              refine vz_join 118 [] (fun b9 H9 locs9 ls9 => (b9 = if aw = 115 then 2 else 1) ∧ va_P (dC, dI) vwCl [(g, .inr (10, [.int th, .ref mPd, .int (nI pn), .int (nI bn), .ref mSg, .ref mSz, .ref mTo, .int (nI en), .ref mRo, .ref mLi, .int (nI hn), .ref mKi, .ref mCo, .ref mEm, .ref mVa, .int (nI an), .ref mA1, .ref mA2, .ref mA3, .ref mA4, .int (nI ln), .ref mLk, .int (nI xn), .ref mEx, .int (nI qn), .ref mQp, .ref mQd, .int (nI u), .int (nI t0), .int fd, .int pp, .int wn])), (mTo, .inl (cZ, 20, .inl to_)), (mEm, .inl (cI, 16, .inl em)), (mSg, .inl (cI, 800, .inl sg_)), (mSz, .inl (cI, 20, .inl sz_)), (mRo, .inl (cI, 12, .inl ro)), (mKi, .inl (cI, 16, .inl ki)), (mCo, .inl (cI, 16, .inl co)), (mA1, .inl (cI, 40, .inl ap)), (mA2, .inl (cI, 40, .inl ar)), (mA3, .inl (cI, 40, .inl af)), (mA4, .inl (cI, 40, .inl at_))] H9 ∧ va_S A H0 H9 locs9 ∧ lv_has ls9 6 [(3, .int (if ¬ b = 0 then 1 else if aw = 97 then 1 else 0)), (5, .int aw), (4, .int (nI k)), (2, .int v), (0, .ref g), (1, .int wo)]) (fun b9 H locs ls h9 => ?_) (fun k118 => ?_)
              · obtain ⟨rfl, hP, hS, hl⟩ := h9
                refine lv_istore_n (lv' := [(2, .int (if aw = 115 then 2 else 1)), (3, .int (if ¬ b = 0 then 1 else if aw = 97 then 1 else 0)), (5, .int aw), (4, .int (nI k)), (0, .ref g), (1, .int wo)]) hx hb d_MD_got_118 rfl hl (by decide) rfl (fun ls hl => ?_)
                refine lv_iinc (v := nI (k + 1)) (lv' := [(4, .int (nI (k + 1))), (2, .int (if aw = 115 then 2 else 1)), (3, .int (if ¬ b = 0 then 1 else if aw = 97 then 1 else 0)), (5, .int aw), (0, .ref g), (1, .int wo)]) hx hb d_MD_got_119 hl (k := 3) rfl (nI_1 k) (by decide) rfl (fun ls hl => ?_)
                refine lv_goto (tgt := 40) hx hb d_MD_got_122 (by decide) ?_
                exact ih (k + 1) (if aw = 115 then 2 else 1) (if ¬ b = 0 then 1 else if aw = 97 then 1 else 0) (by omega) (by omega) (((if_neg (fun h9 => by rcases h9 with h9 | h9 | h9; exact c56 h9; exact c62 h9; exact c71 (hr68.trans h9))).trans (by rw [← hv, eaw])).symm) _ _ hP hS ls (lv_sub hl [0, 1, 2, 4, 5] rfl)
              · refine lv_iload hx hb d_MD_got_106 (lv_at hl 1 rfl) ?_
                refine lv_bipush (v := 115) hx hb d_MD_got_108 (by decide) ?_
                refine lv_icmp_ne (tgt := 117) hx hb d_MD_got_110 (by decide) (fun c110 => ?_) (fun c110 => ?_)
                · refine lv_iconst (v := 1) hx hb d_MD_got_117 (by decide) ?_
                  exact k118 _ _ _ _ ⟨by rw [if_neg c110], hP, hS, lv_sub hl [0, 1, 2, 3, 4, 5] rfl⟩
                · refine lv_iconst (v := 2) hx hb d_MD_got_113 (by decide) ?_
                  refine lv_goto (tgt := 118) hx hb d_MD_got_114 (by decide) ?_
                  exact k118 _ _ _ _ ⟨by rw [if_pos c110], hP, hS, lv_sub hl [0, 1, 2, 3, 4, 5] rfl⟩
            · refine lv_iload_n hx hb d_MD_got_89 rfl (lv_at hl 3 rfl) ?_
              refine lv_if_ne (tgt := 100) hx hb d_MD_got_90 (by decide) (fun c90 => ?_) (fun c90 => ?_)
              · refine lv_iconst (v := 1) hx hb d_MD_got_100 (by decide) ?_
                refine lv_goto (tgt := 105) hx hb d_MD_got_101 (by decide) ?_
                exact k105 _ _ _ _ ⟨by rw [if_pos c90], hP, hS, lv_sub hl [0, 1, 2, 3, 4, 5] rfl⟩
              · refine lv_iload hx hb d_MD_got_93 (lv_at hl 0 rfl) ?_
                refine lv_bipush (v := 97) hx hb d_MD_got_95 (by decide) ?_
                refine lv_icmp_ne (tgt := 104) hx hb d_MD_got_97 (by decide) (fun c97 => ?_) (fun c97 => ?_)
                · refine lv_iconst (v := 0) hx hb d_MD_got_104 (by decide) ?_
                  exact k105 _ _ _ _ ⟨by rw [if_neg (fun h9 => h9 c90), if_neg c97], hP, hS, lv_sub hl [0, 1, 2, 3, 4, 5] rfl⟩
                · refine lv_iconst (v := 1) hx hb d_MD_got_100 (by decide) ?_
                  refine lv_goto (tgt := 105) hx hb d_MD_got_101 (by decide) ?_
                  exact k105 _ _ _ _ ⟨by rw [if_neg (fun h9 => h9 c90), if_pos c97], hP, hS, lv_sub hl [0, 1, 2, 3, 4, 5] rfl⟩
          · refine lv_goto (tgt := 119) hx hb d_MD_got_74 (by decide) ?_
            refine lv_iinc (v := nI (k + 1)) (lv' := [(4, .int (nI (k + 1))), (2, .int v), (3, .int b), (0, .ref g), (1, .int wo)]) hx hb d_MD_got_119 hl (k := 0) rfl (nI_1 k) (by decide) rfl (fun ls hl => ?_)
            refine lv_goto (tgt := 40) hx hb d_MD_got_122 (by decide) ?_
            exact ih (k + 1) v b (by omega) (by omega) (hv.trans (if_pos (Or.inr (Or.inr (hr68.symm.trans c71)))).symm) _ _ hP hS ls (lv_sub hl [0, 1, 2, 3, 4] rfl)
set_option maxHeartbeats 4000000 in
set_option maxRecDepth 100000 in
theorem c_MD_got (l : Launch) (dC : Nat → ClassId) (dI : Nat → Nat → Nat) (cI cZ : ClassId) (g mPd mSg mSz mTo mRo mLi mKi mCo mEm mVa mA1 mA2 mA3 mA4 mLk mEx mQp mQd : Nat) (th : Int32) (pn bn en hn an ln xn qn : Nat) (u t0 : Nat) (fd pp wn : Int32) (to_ : Nat → Int32) (em : Nat → Int32) (sg_ : Nat → Int32) (sz_ : Nat → Int32) (ro : Nat → Int32) (ki : Nat → Int32) (co : Nat → Int32) (ap : Nat → Int32) (ar : Nat → Int32) (af : Nat → Int32) (at_ : Nat → Int32) (han : an ≤ 40) (hbn : bn ≤ 20) (hu : u < 12) (ht : t0 < 16) (mz : Nat → Nat) (hro : rulesOk sg_ sz_ mz bn) (wo : Int32) : Met l y_MD_got ws_MD_got ({ frames := 3, cells := 0, slots := 0, locals := 74 }) (va_Pc [.ref g, .int wo] (fun U => va_P (dC, dI) vwCl [(g, .inr (10, [.int th, .ref mPd, .int (nI pn), .int (nI bn), .ref mSg, .ref mSz, .ref mTo, .int (nI en), .ref mRo, .ref mLi, .int (nI hn), .ref mKi, .ref mCo, .ref mEm, .ref mVa, .int (nI an), .ref mA1, .ref mA2, .ref mA3, .ref mA4, .int (nI ln), .ref mLk, .int (nI xn), .ref mEx, .int (nI qn), .ref mQp, .ref mQd, .int (nI u), .int (nI t0), .int fd, .int pp, .int wn])), (mTo, .inl (cZ, 20, .inl to_)), (mEm, .inl (cI, 16, .inl em)), (mSg, .inl (cI, 800, .inl sg_)), (mSz, .inl (cI, 20, .inl sz_)), (mRo, .inl (cI, 12, .inl ro)), (mKi, .inl (cI, 16, .inl ki)), (mCo, .inl (cI, 16, .inl co)), (mA1, .inl (cI, 40, .inl ap)), (mA2, .inl (cI, 40, .inl ar)), (mA3, .inl (cI, 40, .inl af)), (mA4, .inl (cI, 40, .inl at_))] U.heap ∧ va_K (dC, dI) vwCl [(cZ, .boolean), (cI, .int)] U)) (va_Qi (fun (res : Int32) (_ : Unit) => res = gotM (fun j => suM (holdM ro ki co u t0 fd pp (hasM ap ar af at_ (nI u) (nI t0) wn an)) sg_ (40 * j + mz j) 40 (40 * j + 1) 1) to_ sg_ (em t0) (ro u) wn wo bn) (fun _ _ => True) (fun _ => False)) 0 0 (fun _ => False) := by
  refine Met.ofW (cc := k_MD_got) (maxL := 6) (ret := (some .int)) (by decide) rfl ?_
  intro p e s m args below meth c s₁ B hml hv
  obtain ⟨rfl, hP, hK⟩ := hv
  have hx := B.exec
  have hb := B.bytes
  have hr := B.returns
  have hts := atoms_spec (ws := ws_MD_got) B.pre
  have hown : s.vm.findClass R_MD = some m.cls := findClass_of_methodNamed B.named
  have hlocks := B.notSynchronized
  have hS : va_S (fun _ => False) s.heap s.heap [] := va_S.rf
  have hP : va_P (dC, dI) vwCl [(g, .inr (10, [.int th, .ref mPd, .int (nI pn), .int (nI bn), .ref mSg, .ref mSz, .ref mTo, .int (nI en), .ref mRo, .ref mLi, .int (nI hn), .ref mKi, .ref mCo, .ref mEm, .ref mVa, .int (nI an), .ref mA1, .ref mA2, .ref mA3, .ref mA4, .int (nI ln), .ref mLk, .int (nI xn), .ref mEx, .int (nI qn), .ref mQp, .ref mQd, .int (nI u), .int (nI t0), .int fd, .int pp, .int wn])), (mTo, .inl (cZ, 20, .inl to_)), (mEm, .inl (cI, 16, .inl em)), (mSg, .inl (cI, 800, .inl sg_)), (mSz, .inl (cI, 20, .inl sz_)), (mRo, .inl (cI, 12, .inl ro)), (mKi, .inl (cI, 16, .inl ki)), (mCo, .inl (cI, 16, .inl co)), (mA1, .inl (cI, 40, .inl ap)), (mA2, .inl (cI, 40, .inl ar)), (mA3, .inl (cI, 40, .inl af)), (mA4, .inl (cI, 40, .inl at_))] s.heap := hP
  have iMD : ∀ w ∈ u_ws R_MD T_MD 32, w ∈ ws_MD_got := fun w h => wb_MD_got w (in_MD w h)
  have hl := lv_entry ([.ref g, .int wo]) (n := 6) (Nat.le_of_ble_eq_true rfl)
  rw [lg_entry_eq]
  generalize (lg_sl ([.ref g, .int wo]) ++ List.replicate (6 - (lg_sl ([.ref g, .int wo])).length) Slot.unset).toArray = ls at hl ⊢
  have hl : lv_has ls 6 [(0, .ref g), (1, .int wo)] := hl
  refine lv_aload_n hx hb d_MD_got_0 rfl (lv_at hl 0 rfl) ?_
  refine va_get (D := (dC, dI)) (ci := 10) (v := .ref mEm) (C := R_MD) (T := T_MD) (N := 32) hx hb hts iMD hown hK hP 0 rfl rfl 13 (by decide) (hts _ (wb_MD_got _ b_681)) (fun _ h9 => h9) rfl d_MD_got_1 ?_
  refine lv_aload_n hx hb d_MD_got_4 rfl (lv_at hl 0 rfl) ?_
  refine va_get (D := (dC, dI)) (ci := 10) (v := .int (nI t0)) (C := R_MD) (T := T_MD) (N := 32) hx hb hts iMD hown hK hP 0 rfl rfl 28 (by decide) (hts _ (wb_MD_got _ b_696)) (fun _ h9 => h9) rfl d_MD_got_5 ?_
  refine vz_iald (k := t0) hx hb hK hP 2 1 rfl rfl (by omega) (by decide) d_MD_got_8 ?_
  refine lv_aload_n hx hb d_MD_got_9 rfl (lv_at hl 0 rfl) ?_
  refine va_get (D := (dC, dI)) (ci := 10) (v := .int wn) (C := R_MD) (T := T_MD) (N := 32) hx hb hts iMD hown hK hP 0 rfl rfl 31 (by decide) (hts _ (wb_MD_got _ b_699)) (fun _ h9 => h9) rfl d_MD_got_10 ?_
  refine lv_icmp_lt (tgt := 33) hx hb d_MD_got_13 (by decide) (fun c13 => ?_) (fun c13 => ?_)
  · refine lv_iconst (v := 0) hx hb d_MD_got_33 (by decide) ?_
    refine lv_istore_n (lv' := [(2, .int 0), (0, .ref g), (1, .int wo)]) hx hb d_MD_got_34 rfl hl (by decide) rfl (fun ls hl => ?_)
    refine lv_iconst (v := 0) hx hb d_MD_got_35 (by decide) ?_
    refine lv_istore_n (lv' := [(3, .int 0), (2, .int 0), (0, .ref g), (1, .int wo)]) hx hb d_MD_got_36 rfl hl (by decide) rfl (fun ls hl => ?_)
    refine lv_iconst (v := 0) hx hb d_MD_got_37 (by decide) ?_
    refine lv_istore (lv' := [(4, .int 0), (3, .int 0), (2, .int 0), (0, .ref g), (1, .int wo)]) hx hb d_MD_got_38 hl (by decide) rfl (fun ls hl => ?_)
    refine lp_MD_got_40 dC dI cI cZ g mPd mSg mSz mTo mRo mLi mKi mCo mEm mVa mA1 mA2 mA3 mA4 mLk mEx mQp mQd th pn bn en hn an ln xn qn u t0 fd pp wn to_ em sg_ sz_ ro ki co ap ar af at_ han hbn hu ht mz hro wo hx hb hml hts hown hK (fun v b hv H locs hP hS ls hl => ?_) (bn + 1) 0 0 0 (by omega) (Nat.zero_le _) (rfl) _ _ hP hS ls (lv_sub hl [0, 2, 1, 3, 4] rfl)
    · refine lv_iload_n hx hb d_MD_got_125 rfl (lv_at hl 1 rfl) ?_
      refine lv_if_eq (tgt := 133) hx hb d_MD_got_126 (by decide) (fun c126 => ?_) (fun c126 => ?_)
      · refine lv_iload_n hx hb d_MD_got_133 rfl (lv_at hl 0 rfl) ?_
        exact W.iret (v := v) hx hb hr (fun t ht hW => ⟨⟨v, (), rfl, by unfold gotM; rw [if_neg (fun h9 => absurd h9.1 (Int32.not_le.mpr c13)), ← hv]; exact (if_pos c126).symm, trivial⟩, hS.F ht⟩) hS.2.2 d_MD_got_134
      · refine lv_iconst (v := 0) hx hb d_MD_got_129 (by decide) ?_
        refine lv_goto (tgt := 134) hx hb d_MD_got_130 (by decide) ?_
        exact W.iret (v := 0) hx hb hr (fun t ht hW => ⟨⟨0, (), rfl, by unfold gotM; rw [if_neg (fun h9 => absurd h9.1 (Int32.not_le.mpr c13)), ← hv]; exact (if_neg c126).symm, trivial⟩, hS.F ht⟩) hS.2.2 d_MD_got_134
  · refine lv_aload_n hx hb d_MD_got_16 rfl (lv_at hl 0 rfl) ?_
    refine va_get (D := (dC, dI)) (ci := 10) (v := .ref mRo) (C := R_MD) (T := T_MD) (N := 32) hx hb hts iMD hown hK hP 0 rfl rfl 8 (by decide) (hts _ (wb_MD_got _ b_676)) (fun _ h9 => h9) rfl d_MD_got_17 ?_
    refine lv_aload_n hx hb d_MD_got_20 rfl (lv_at hl 0 rfl) ?_
    refine va_get (D := (dC, dI)) (ci := 10) (v := .int (nI u)) (C := R_MD) (T := T_MD) (N := 32) hx hb hts iMD hown hK hP 0 rfl rfl 27 (by decide) (hts _ (wb_MD_got _ b_695)) (fun _ h9 => h9) rfl d_MD_got_21 ?_
    refine vz_iald (k := u) hx hb hK hP 5 1 rfl rfl (by omega) (by decide) d_MD_got_24 ?_
    refine lv_sipush (v := 128) hx hb d_MD_got_25 (by decide) ?_
    refine lv_icmp_ge (tgt := 33) hx hb d_MD_got_28 (by decide) (fun c28 => ?_) (fun c28 => ?_)
    · refine lv_iconst (v := 0) hx hb d_MD_got_33 (by decide) ?_
      refine lv_istore_n (lv' := [(2, .int 0), (0, .ref g), (1, .int wo)]) hx hb d_MD_got_34 rfl hl (by decide) rfl (fun ls hl => ?_)
      refine lv_iconst (v := 0) hx hb d_MD_got_35 (by decide) ?_
      refine lv_istore_n (lv' := [(3, .int 0), (2, .int 0), (0, .ref g), (1, .int wo)]) hx hb d_MD_got_36 rfl hl (by decide) rfl (fun ls hl => ?_)
      refine lv_iconst (v := 0) hx hb d_MD_got_37 (by decide) ?_
      refine lv_istore (lv' := [(4, .int 0), (3, .int 0), (2, .int 0), (0, .ref g), (1, .int wo)]) hx hb d_MD_got_38 hl (by decide) rfl (fun ls hl => ?_)
      refine lp_MD_got_40 dC dI cI cZ g mPd mSg mSz mTo mRo mLi mKi mCo mEm mVa mA1 mA2 mA3 mA4 mLk mEx mQp mQd th pn bn en hn an ln xn qn u t0 fd pp wn to_ em sg_ sz_ ro ki co ap ar af at_ han hbn hu ht mz hro wo hx hb hml hts hown hK (fun v b hv H locs hP hS ls hl => ?_) (bn + 1) 0 0 0 (by omega) (Nat.zero_le _) (rfl) _ _ hP hS ls (lv_sub hl [0, 2, 1, 3, 4] rfl)
      · refine lv_iload_n hx hb d_MD_got_125 rfl (lv_at hl 1 rfl) ?_
        refine lv_if_eq (tgt := 133) hx hb d_MD_got_126 (by decide) (fun c126 => ?_) (fun c126 => ?_)
        · refine lv_iload_n hx hb d_MD_got_133 rfl (lv_at hl 0 rfl) ?_
          exact W.iret (v := v) hx hb hr (fun t ht hW => ⟨⟨v, (), rfl, by unfold gotM; rw [if_neg (fun h9 => absurd h9.2 (Int32.not_lt.mpr c28)), ← hv]; exact (if_pos c126).symm, trivial⟩, hS.F ht⟩) hS.2.2 d_MD_got_134
        · refine lv_iconst (v := 0) hx hb d_MD_got_129 (by decide) ?_
          refine lv_goto (tgt := 134) hx hb d_MD_got_130 (by decide) ?_
          exact W.iret (v := 0) hx hb hr (fun t ht hW => ⟨⟨0, (), rfl, by unfold gotM; rw [if_neg (fun h9 => absurd h9.2 (Int32.not_lt.mpr c28)), ← hv]; exact (if_neg c126).symm, trivial⟩, hS.F ht⟩) hS.2.2 d_MD_got_134
    · refine lv_iconst (v := 0) hx hb d_MD_got_31 (by decide) ?_
      exact W.iret (v := 0) hx hb hr (fun t ht hW => ⟨⟨0, (), rfl, by unfold gotM; rw [if_pos ⟨Int32.not_lt.mp c13, Int32.not_le.mp c28⟩], trivial⟩, hS.F ht⟩) hS.2.2 d_MD_got_32
