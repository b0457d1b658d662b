/-- the reference's search for an agreement among the first k -/
def hasM (ap ar af at_ : Nat → Int32) (w r d : Int32) : Nat → Int32
  | 0 => 0
  | k + 1 => if ¬ hasM ap ar af at_ w r d k = 0 then 1 else if ap k = w ∧ ar k = r ∧ af k ≤ d ∧ d ≤ at_ k then 1 else 0
theorem hasM_z (ap ar af at_ : Nat → Int32) (w r d : Int32) (k : Nat) : hasM ap ar af at_ w r d k = 0 ∨ hasM ap ar af at_ w r d k = 1 := by
  cases k with
  | zero => exact Or.inl rfl
  | succ k => unfold hasM; (repeat' split) <;> first | exact Or.inl rfl | exact Or.inr rfl

theorem hasM_no {ap ar af at_ : Nat → Int32} {w r d : Int32} {k : Nat} (h : hasM ap ar af at_ w r d k = 0) (hn : ¬ (ap k = w ∧ ar k = r ∧ af k ≤ d ∧ d ≤ at_ k)) : hasM ap ar af at_ w r d (k + 1) = 0 := by
  show (if ¬ hasM ap ar af at_ w r d k = 0 then _ else _) = _
  rw [if_neg (fun h9 => h9 h), if_neg hn]
theorem hasM_yes {ap ar af at_ : Nat → Int32} {w r d : Int32} {k : Nat} (h : hasM ap ar af at_ w r d k = 0) (hn : ap k = w ∧ ar k = r ∧ af k ≤ d ∧ d ≤ at_ k) : hasM ap ar af at_ w r d (k + 1) = 1 := by
  show (if ¬ hasM ap ar af at_ w r d k = 0 then _ else _) = _
  rw [if_neg (fun h9 => h9 h), if_pos hn]
theorem hasM_on {ap ar af at_ : Nat → Int32} {w r d : Int32} {k : Nat} (h : ¬ hasM ap ar af at_ w r d k = 0) : hasM ap ar af at_ w r d (k + 1) = 1 := if_pos h

set_option maxHeartbeats 4000000 in
set_option maxRecDepth 100000 in
theorem lp_MD_hasAgreement_6 {p : Program} {l : Launch} {e : Env} {R : Room} {s : State} {m : MethodId} {args : Array Value} {below : List Frame} {meth : Method} {c : Code} {cells slots : Nat} {Q : State → Prop} {A : Nat → Prop} {H0 : Heap} (dC : Nat → ClassId) (dI : Nat → Nat → Nat) (cI : ClassId) (g mPd mSg mSz mTo mRo mLi mKi mCo mEm mVa mA1 mA2 mA3 mA4 mLk mEx mQp mQd : Nat) (th : Int32) (pn bn en hn an ln xn qn : Nat) (wh wt fd pp wn : Int32) (ap : Nat → Int32) (ar : Nat → Int32) (af : Nat → Int32) (at_ : Nat → Int32) (han : an ≤ 40) (w r d : Int32)  (hx : p.tables.exec = Jvm.exec) (hb : c.code = k_MD_hasAgreement) (hml : c.maxLocals = 6) (hts : ∀ w ∈ ws_MD_hasAgreement, w.before args s = true) (hown : s.vm.findClass R_MD = some m.cls) (hK : va_K (dC, dI) vwCl [(cI, .int)] s) (kx77 : ∀ (v : Int32), (v = hasM ap ar af at_ w r d an) → ∀ (H : Heap) (locs : List Loc), va_P (dC, dI) vwCl [(g, .inr (10, [.int th, .ref mPd, .int (nI pn), .int (nI bn), .ref mSg, .ref mSz, .ref mTo, .int (nI en), .ref mRo, .ref mLi, .int (nI hn), .ref mKi, .ref mCo, .ref mEm, .ref mVa, .int (nI an), .ref mA1, .ref mA2, .ref mA3, .ref mA4, .int (nI ln), .ref mLk, .int (nI xn), .ref mEx, .int (nI qn), .ref mQp, .ref mQd, .int wh, .int wt, .int fd, .int pp, .int wn])), (mA1, .inl (cI, 40, .inl ap)), (mA2, .inl (cI, 40, .inl ar)), (mA3, .inl (cI, 40, .inl af)), (mA4, .inl (cI, 40, .inl at_))] H → va_S A H0 H locs → ∀ ls : Array Slot, lv_has ls 6 [(4, .int v)] → W p l e R s m args below meth c H locs cells slots Q (F0 m 77 ls [])) : ∀ (N : Nat), ∀ (k : Nat), ∀ (v : Int32), an + 1 ≤ k + N → (k ≤ an) → (v = hasM ap ar af at_ w r d k) → ∀ (H : Heap) (locs : List Loc), va_P (dC, dI) vwCl [(g, .inr (10, [.int th, .ref mPd, .int (nI pn), .int (nI bn), .ref mSg, .ref mSz, .ref mTo, .int (nI en), .ref mRo, .ref mLi, .int (nI hn), .ref mKi, .ref mCo, .ref mEm, .ref mVa, .int (nI an), .ref mA1, .ref mA2, .ref mA3, .ref mA4, .int (nI ln), .ref mLk, .int (nI xn), .ref mEx, .int (nI qn), .ref mQp, .ref mQd, .int wh, .int wt, .int fd, .int pp, .int wn])), (mA1, .inl (cI, 40, .inl ap)), (mA2, .inl (cI, 40, .inl ar)), (mA3, .inl (cI, 40, .inl af)), (mA4, .inl (cI, 40, .inl at_))] H → va_S A H0 H locs → ∀ ls : Array Slot, lv_has ls 6 [(5, .int (nI k)), (4, .int v), (0, .ref g), (1, .int w), (2, .int r), (3, .int d)] → W p l e R s m args below meth c H locs cells slots Q (F0 m 6 ls []) := by
  have iMD : ∀ w ∈ u_ws R_MD T_MD 32, w ∈ ws_MD_hasAgreement := fun w h => wb_MD_hasAgreement w (in_MD w h)
  intro N
  induction N with
  | zero =>
    intro k v hme hk hv
    exact absurd hme (by omega)
  | succ N ih =>
    intro k v hme hk hv H locs hP hS ls hl
    refine lv_iload hx hb d_MD_hasAgreement_6 (lv_at hl 0 rfl) ?_
    refine lv_aload_n hx hb d_MD_hasAgreement_8 rfl (lv_at hl 2 rfl) ?_
    refine va_get (D := (dC, dI)) (ci := 10) (v := .int (nI an)) (C := R_MD) (T := T_MD) (N := 32) hx hb hts iMD hown hK hP 0 rfl rfl 15 (by decide) (hts _ (wb_MD_hasAgreement _ b_683)) (fun _ h9 => h9) rfl d_MD_hasAgreement_9 ?_
    refine lv_icmp_ge (tgt := 77) hx hb d_MD_hasAgreement_12 (by decide) (fun c12 => ?_) (fun c12 => ?_)
    · have hge : an ≤ k := (nI_leI (show an < 2147483648 by omega) (show k < 2147483648 by omega)).mp c12
      exact kx77 v (by rw [hv, show k = an by omega]) _ _ hP hS ls (lv_sub hl [1] rfl)
    · have hlt : k < an := Nat.lt_of_not_le (mt (nI_leI (show an < 2147483648 by omega) (show k < 2147483648 by omega)).mpr c12)
      refine vz_join 69 [] (fun b9 H9 locs9 ls9 => (b9 = hasM ap ar af at_ w r d (k + 1)) ∧ va_P (dC, dI) vwCl [(g, .inr (10, [.int th, .ref mPd, .int (nI pn), .int (nI bn), .ref mSg, .ref mSz, .ref mTo, .int (nI en), .ref mRo, .ref mLi, .int (nI hn), .ref mKi, .ref mCo, .ref mEm, .ref mVa, .int (nI an), .ref mA1, .ref mA2, .ref mA3, .ref mA4, .int (nI ln), .ref mLk, .int (nI xn), .ref mEx, .int (nI qn), .ref mQp, .ref mQd, .int wh, .int wt, .int fd, .int pp, .int wn])), (mA1, .inl (cI, 40, .inl ap)), (mA2, .inl (cI, 40, .inl ar)), (mA3, .inl (cI, 40, .inl af)), (mA4, .inl (cI, 40, .inl at_))] H9 ∧ va_S A H0 H9 locs9 ∧ lv_has ls9 6 [(5, .int (nI k)), (4, .int v), (0, .ref g), (1, .int w), (2, .int r), (3, .int d)]) (fun b9 H locs ls h9 => ?_) (fun k69 => ?_)
      · obtain ⟨rfl, hP, hS, hl⟩ := h9
        refine lv_istore (lv' := [(4, .int (hasM ap ar af at_ w r d (k + 1))), (5, .int (nI k)), (0, .ref g), (1, .int w), (2, .int r), (3, .int d)]) hx hb d_MD_hasAgreement_69 hl (by decide) rfl (fun ls hl => ?_)
        refine lv_iinc (v := nI (k + 1)) (lv' := [(5, .int (nI (k + 1))), (4, .int (hasM ap ar af at_ w r d (k + 1))), (0, .ref g), (1, .int w), (2, .int r), (3, .int d)]) hx hb d_MD_hasAgreement_71 hl (k := 1) rfl (nI_1 k) (by decide) rfl (fun ls hl => ?_)
        refine lv_goto (tgt := 6) hx hb d_MD_hasAgreement_74 (by decide) ?_
        exact ih (k + 1) (hasM ap ar af at_ w r d (k + 1)) (by omega) (by omega) (rfl) _ _ hP hS ls (lv_sub hl [0, 1, 2, 3, 4, 5] rfl)
      · refine lv_iload hx hb d_MD_hasAgreement_15 (lv_at hl 1 rfl) ?_
        refine lv_if_ne (tgt := 64) hx hb d_MD_hasAgreement_17 (by decide) (fun c17 => ?_) (fun c17 => ?_)
        · refine lv_iconst (v := 1) hx hb d_MD_hasAgreement_64 (by decide) ?_
          refine lv_goto (tgt := 69) hx hb d_MD_hasAgreement_65 (by decide) ?_
          exact k69 _ _ _ _ ⟨(hasM_on (by rw [← hv]; exact c17)).symm, hP, hS, lv_sub hl [0, 1, 2, 3, 4, 5] rfl⟩
        · refine lv_aload_n hx hb d_MD_hasAgreement_20 rfl (lv_at hl 2 rfl) ?_
          refine va_get (D := (dC, dI)) (ci := 10) (v := .ref mA1) (C := R_MD) (T := T_MD) (N := 32) hx hb hts iMD hown hK hP 0 rfl rfl 16 (by decide) (hts _ (wb_MD_hasAgreement _ b_684)) (fun _ h9 => h9) rfl d_MD_hasAgreement_21 ?_
          refine lv_iload hx hb d_MD_hasAgreement_24 (lv_at hl 0 rfl) ?_
          refine vz_iald (k := k) hx hb hK hP 1 0 rfl rfl (by omega) (by decide) d_MD_hasAgreement_26 ?_
          refine lv_iload_n hx hb d_MD_hasAgreement_27 rfl (lv_at hl 3 rfl) ?_
          refine lv_icmp_ne (tgt := 68) hx hb d_MD_hasAgreement_28 (by decide) (fun c28 => ?_) (fun c28 => ?_)
          · refine lv_iconst (v := 0) hx hb d_MD_hasAgreement_68 (by decide) ?_
            exact k69 _ _ _ _ ⟨(hasM_no (hv.symm.trans c17) (fun h9 => absurd h9.1 c28)).symm, hP, hS, lv_sub hl [0, 1, 2, 3, 4, 5] rfl⟩
          · refine lv_aload_n hx hb d_MD_hasAgreement_31 rfl (lv_at hl 2 rfl) ?_
            refine va_get (D := (dC, dI)) (ci := 10) (v := .ref mA2) (C := R_MD) (T := T_MD) (N := 32) hx hb hts iMD hown hK hP 0 rfl rfl 17 (by decide) (hts _ (wb_MD_hasAgreement _ b_685)) (fun _ h9 => h9) rfl d_MD_hasAgreement_32 ?_
            refine lv_iload hx hb d_MD_hasAgreement_35 (lv_at hl 0 rfl) ?_
            refine vz_iald (k := k) hx hb hK hP 2 0 rfl rfl (by omega) (by decide) d_MD_hasAgreement_37 ?_
            refine lv_iload_n hx hb d_MD_hasAgreement_38 rfl (lv_at hl 4 rfl) ?_
            refine lv_icmp_ne (tgt := 68) hx hb d_MD_hasAgreement_39 (by decide) (fun c39 => ?_) (fun c39 => ?_)
            · refine lv_iconst (v := 0) hx hb d_MD_hasAgreement_68 (by decide) ?_
              exact k69 _ _ _ _ ⟨(hasM_no (hv.symm.trans c17) (fun h9 => absurd h9.2.1 c39)).symm, hP, hS, lv_sub hl [0, 1, 2, 3, 4, 5] rfl⟩
            · refine lv_aload_n hx hb d_MD_hasAgreement_42 rfl (lv_at hl 2 rfl) ?_
              refine va_get (D := (dC, dI)) (ci := 10) (v := .ref mA3) (C := R_MD) (T := T_MD) (N := 32) hx hb hts iMD hown hK hP 0 rfl rfl 18 (by decide) (hts _ (wb_MD_hasAgreement _ b_686)) (fun _ h9 => h9) rfl d_MD_hasAgreement_43 ?_
              refine lv_iload hx hb d_MD_hasAgreement_46 (lv_at hl 0 rfl) ?_
              refine vz_iald (k := k) hx hb hK hP 3 0 rfl rfl (by omega) (by decide) d_MD_hasAgreement_48 ?_
              refine lv_iload_n hx hb d_MD_hasAgreement_49 rfl (lv_at hl 5 rfl) ?_
              refine lv_icmp_gt (tgt := 68) hx hb d_MD_hasAgreement_50 (by decide) (fun c50 => ?_) (fun c50 => ?_)
              · refine lv_iconst (v := 0) hx hb d_MD_hasAgreement_68 (by decide) ?_
                exact k69 _ _ _ _ ⟨(hasM_no (hv.symm.trans c17) (fun h9 => absurd h9.2.2.1 (Int32.not_le.mpr c50))).symm, hP, hS, lv_sub hl [0, 1, 2, 3, 4, 5] rfl⟩
              · refine lv_iload_n hx hb d_MD_hasAgreement_53 rfl (lv_at hl 5 rfl) ?_
                refine lv_aload_n hx hb d_MD_hasAgreement_54 rfl (lv_at hl 2 rfl) ?_
                refine va_get (D := (dC, dI)) (ci := 10) (v := .ref mA4) (C := R_MD) (T := T_MD) (N := 32) hx hb hts iMD hown hK hP 0 rfl rfl 19 (by decide) (hts _ (wb_MD_hasAgreement _ b_687)) (fun _ h9 => h9) rfl d_MD_hasAgreement_55 ?_
                refine lv_iload hx hb d_MD_hasAgreement_58 (lv_at hl 0 rfl) ?_
                refine vz_iald (k := k) hx hb hK hP 4 0 rfl rfl (by omega) (by decide) d_MD_hasAgreement_60 ?_
                refine lv_icmp_gt (tgt := 68) hx hb d_MD_hasAgreement_61 (by decide) (fun c61 => ?_) (fun c61 => ?_)
                · refine lv_iconst (v := 0) hx hb d_MD_hasAgreement_68 (by decide) ?_
                  exact k69 _ _ _ _ ⟨(hasM_no (hv.symm.trans c17) (fun h9 => absurd h9.2.2.2 (Int32.not_le.mpr c61))).symm, hP, hS, lv_sub hl [0, 1, 2, 3, 4, 5] rfl⟩
                · refine lv_iconst (v := 1) hx hb d_MD_hasAgreement_64 (by decide) ?_
                  refine lv_goto (tgt := 69) hx hb d_MD_hasAgreement_65 (by decide) ?_
                  exact k69 _ _ _ _ ⟨(hasM_yes (hv.symm.trans c17) ⟨c28, c39, Int32.not_lt.mp c50, Int32.not_lt.mp c61⟩).symm, hP, hS, lv_sub hl [0, 1, 2, 3, 4, 5] rfl⟩
set_option maxHeartbeats 4000000 in
set_option maxRecDepth 100000 in
theorem c_MD_hasAgreement (l : Launch) (dC : Nat → ClassId) (dI : Nat → Nat → Nat) (cI : ClassId) (g mPd mSg mSz mTo mRo mLi mKi mCo mEm mVa mA1 mA2 mA3 mA4 mLk mEx mQp mQd : Nat) (th : Int32) (pn bn en hn an ln xn qn : Nat) (wh wt fd pp wn : Int32) (ap : Nat → Int32) (ar : Nat → Int32) (af : Nat → Int32) (at_ : Nat → Int32) (han : an ≤ 40) (w r d : Int32) : Met l y_MD_hasAgreement ws_MD_hasAgreement ({ frames := 0, cells := 0, slots := 0, locals := 0 }) (va_Pc [.ref g, .int w, .int r, .int d] (fun U => va_P (dC, dI) vwCl [(g, .inr (10, [.int th, .ref mPd, .int (nI pn), .int (nI bn), .ref mSg, .ref mSz, .ref mTo, .int (nI en), .ref mRo, .ref mLi, .int (nI hn), .ref mKi, .ref mCo, .ref mEm, .ref mVa, .int (nI an), .ref mA1, .ref mA2, .ref mA3, .ref mA4, .int (nI ln), .ref mLk, .int (nI xn), .ref mEx, .int (nI qn), .ref mQp, .ref mQd, .int wh, .int wt, .int fd, .int pp, .int wn])), (mA1, .inl (cI, 40, .inl ap)), (mA2, .inl (cI, 40, .inl ar)), (mA3, .inl (cI, 40, .inl af)), (mA4, .inl (cI, 40, .inl at_))] U.heap ∧ va_K (dC, dI) vwCl [(cI, .int)] U)) (va_Qi (fun (res : Int32) (_ : Unit) => res = hasM ap ar af at_ w r d an) (fun _ _ => True) (fun _ => False)) 0 0 (fun _ => False) := by
  refine Met.ofW (cc := k_MD_hasAgreement) (maxL := 6) (ret := (some .boolean)) (by decide) rfl ?_
  intro p e s m args below meth c s₁ B hml hv
  obtain ⟨rfl, hP, hK⟩ := hv
  have hx := B.exec
  have hb := B.bytes
  have hr := B.returns
  have hts := atoms_spec (ws := ws_MD_hasAgreement) B.pre
  have hown : s.vm.findClass R_MD = some m.cls := findClass_of_methodNamed B.named
  have hlocks := B.notSynchronized
  have hS : va_S (fun _ => False) s.heap s.heap [] := va_S.rf
  have hP : va_P (dC, dI) vwCl [(g, .inr (10, [.int th, .ref mPd, .int (nI pn), .int (nI bn), .ref mSg, .ref mSz, .ref mTo, .int (nI en), .ref mRo, .ref mLi, .int (nI hn), .ref mKi, .ref mCo, .ref mEm, .ref mVa, .int (nI an), .ref mA1, .ref mA2, .ref mA3, .ref mA4, .int (nI ln), .ref mLk, .int (nI xn), .ref mEx, .int (nI qn), .ref mQp, .ref mQd, .int wh, .int wt, .int fd, .int pp, .int wn])), (mA1, .inl (cI, 40, .inl ap)), (mA2, .inl (cI, 40, .inl ar)), (mA3, .inl (cI, 40, .inl af)), (mA4, .inl (cI, 40, .inl at_))] s.heap := hP
  have iMD : ∀ w ∈ u_ws R_MD T_MD 32, w ∈ ws_MD_hasAgreement := fun w h => wb_MD_hasAgreement w (in_MD w h)
  have hl := lv_entry ([.ref g, .int w, .int r, .int d]) (n := 6) (Nat.le_of_ble_eq_true rfl)
  rw [lg_entry_eq]
  generalize (lg_sl ([.ref g, .int w, .int r, .int d]) ++ List.replicate (6 - (lg_sl ([.ref g, .int w, .int r, .int d])).length) Slot.unset).toArray = ls at hl ⊢
  have hl : lv_has ls 6 [(0, .ref g), (1, .int w), (2, .int r), (3, .int d)] := hl
  refine lv_iconst (v := 0) hx hb d_MD_hasAgreement_0 (by decide) ?_
  refine lv_istore (lv' := [(4, .int 0), (0, .ref g), (1, .int w), (2, .int r), (3, .int d)]) hx hb d_MD_hasAgreement_1 hl (by decide) rfl (fun ls hl => ?_)
  refine lv_iconst (v := 0) hx hb d_MD_hasAgreement_3 (by decide) ?_
  refine lv_istore (lv' := [(5, .int 0), (4, .int 0), (0, .ref g), (1, .int w), (2, .int r), (3, .int d)]) hx hb d_MD_hasAgreement_4 hl (by decide) rfl (fun ls hl => ?_)
  refine lp_MD_hasAgreement_6 dC dI cI g mPd mSg mSz mTo mRo mLi mKi mCo mEm mVa mA1 mA2 mA3 mA4 mLk mEx mQp mQd th pn bn en hn an ln xn qn wh wt fd pp wn ap ar af at_ han w r d hx hb hml hts hown hK (fun v hv H locs hP hS ls hl => ?_) (an + 1) 0 0 (by omega) (Nat.zero_le _) (rfl) _ _ hP hS ls (lv_sub hl [0, 1, 2, 3, 4, 5] rfl)
  · refine lv_iload hx hb d_MD_hasAgreement_77 (lv_at hl 0 rfl) ?_
    exact W.zret (v := v) hx hb hr (by rw [hv]; rcases hasM_z ap ar af at_ w r d an with h9 | h9 <;> rw [h9] <;> rfl) (fun t ht hW => ⟨⟨v, (), rfl, hv, trivial⟩, hS.F ht⟩) hS.2.2 d_MD_hasAgreement_79

/-- a condition of the reference: a letter and a digit -/
def holdM (ro ki co : Nat → Int32) (u t : Nat) (fd pp : Int32) (ag z dg : Int32) : Int32 := if z = 99 then eqF (co t) dg else if z = 102 then eqF fd dg else if z = 107 then eqF (ki t) dg else if z = 112 then eqF pp dg else if z = 114 then eqF ((ro u >>> (dg &&& 31)) &&& 1) 1 else ag
theorem eqF_z (a b : Int32) : eqF a b = 0 ∨ eqF a b = 1 := by unfold eqF; split; exact Or.inr rfl; exact Or.inl rfl
theorem holdM_z {ro ki co : Nat → Int32} {u t : Nat} {fd pp ag z dg : Int32} (h : ag = 0 ∨ ag = 1) : holdM ro ki co u t fd pp ag z dg = 0 ∨ holdM ro ki co u t fd pp ag z dg = 1 := by
  unfold holdM
  (repeat' split) <;> first | exact h | exact eqF_z _ _

set_option maxHeartbeats 4000000 in
set_option maxRecDepth 100000 in
theorem c_MD_holds (l : Launch) (dC : Nat → ClassId) (dI : Nat → Nat → Nat) (cI : ClassId) (g mPd mSg mSz mTo mRo mLi mKi mCo mEm mVa mA1 mA2 mA3 mA4 mLk mEx mQp mQd : Nat) (th : Int32) (pn bn en hn an ln xn qn : Nat) (u t0 : Nat) (fd pp wn : Int32) (ro : Nat → Int32) (ki : Nat → Int32) (co : Nat → Int32) (ap : Nat → Int32) (ar : Nat → Int32) (af : Nat → Int32) (at_ : Nat → Int32) (han : an ≤ 40) (hu : u < 12) (ht : t0 < 16) (z dg : Int32) : Met l y_MD_holds ws_MD_holds ({ frames := 1, cells := 0, slots := 0, locals := 25 }) (va_Pc [.ref g, .int z, .int dg] (fun U => va_P (dC, dI) vwCl [(g, .inr (10, [.int th, .ref mPd, .int (nI pn), .int (nI bn), .ref mSg, .ref mSz, .ref mTo, .int (nI en), .ref mRo, .ref mLi, .int (nI hn), .ref mKi, .ref mCo, .ref mEm, .ref mVa, .int (nI an), .ref mA1, .ref mA2, .ref mA3, .ref mA4, .int (nI ln), .ref mLk, .int (nI xn), .ref mEx, .int (nI qn), .ref mQp, .ref mQd, .int (nI u), .int (nI t0), .int fd, .int pp, .int wn])), (mRo, .inl (cI, 12, .inl ro)), (mKi, .inl (cI, 16, .inl ki)), (mCo, .inl (cI, 16, .inl co)), (mA1, .inl (cI, 40, .inl ap)), (mA2, .inl (cI, 40, .inl ar)), (mA3, .inl (cI, 40, .inl af)), (mA4, .inl (cI, 40, .inl at_))] U.heap ∧ va_K (dC, dI) vwCl [(cI, .int)] U)) (va_Qi (fun (res : Int32) (_ : Unit) => res = holdM ro ki co u t0 fd pp (hasM ap ar af at_ (nI u) (nI t0) wn an) z dg) (fun _ _ => True) (fun _ => False)) 0 0 (fun _ => False) := by
  refine Met.ofW (cc := k_MD_holds) (maxL := 3) (ret := (some .boolean)) (by decide) rfl ?_
  intro p e s m args below meth c s₁ B hml hv
  obtain ⟨rfl, hP, hK⟩ := hv
  have hx := B.exec
  have hb := B.bytes
  have hr := B.returns
  have hts := atoms_spec (ws := ws_MD_holds) B.pre
  have hown : s.vm.findClass R_MD = some m.cls := findClass_of_methodNamed B.named
  have hlocks := B.notSynchronized
  have hS : va_S (fun _ => False) s.heap s.heap [] := va_S.rf
  have hP : va_P (dC, dI) vwCl [(g, .inr (10, [.int th, .ref mPd, .int (nI pn), .int (nI bn), .ref mSg, .ref mSz, .ref mTo, .int (nI en), .ref mRo, .ref mLi, .int (nI hn), .ref mKi, .ref mCo, .ref mEm, .ref mVa, .int (nI an), .ref mA1, .ref mA2, .ref mA3, .ref mA4, .int (nI ln), .ref mLk, .int (nI xn), .ref mEx, .int (nI qn), .ref mQp, .ref mQd, .int (nI u), .int (nI t0), .int fd, .int pp, .int wn])), (mRo, .inl (cI, 12, .inl ro)), (mKi, .inl (cI, 16, .inl ki)), (mCo, .inl (cI, 16, .inl co)), (mA1, .inl (cI, 40, .inl ap)), (mA2, .inl (cI, 40, .inl ar)), (mA3, .inl (cI, 40, .inl af)), (mA4, .inl (cI, 40, .inl at_))] s.heap := hP
  have iMD : ∀ w ∈ u_ws R_MD T_MD 32, w ∈ ws_MD_holds := fun w h => wb_MD_holds w (in_MD w h)
  have hl := lv_entry ([.ref g, .int z, .int dg]) (n := 3) (Nat.le_of_ble_eq_true rfl)
  rw [lg_entry_eq]
  generalize (lg_sl ([.ref g, .int z, .int dg]) ++ List.replicate (3 - (lg_sl ([.ref g, .int z, .int dg])).length) Slot.unset).toArray = ls at hl ⊢
  have hl : lv_has ls 3 [(0, .ref g), (1, .int z), (2, .int dg)] := hl
  refine lv_iload_n hx hb d_MD_holds_0 rfl (lv_at hl 1 rfl) ?_
  by_cases e1_99 : z = 99
  · refine vz_top (y := 99) e1_99 ?_
    refine lv_lookup (off := 121) (tgt := 122) hx hb d_MD_holds_1 (by decide) (by decide) (by decide) ?_
    refine lv_aload_n hx hb d_MD_holds_122 rfl (lv_at hl 0 rfl) ?_
    refine va_get (D := (dC, dI)) (ci := 10) (v := .ref mCo) (C := R_MD) (T := T_MD) (N := 32) hx hb hts iMD hown hK hP 0 rfl rfl 12 (by decide) (hts _ (wb_MD_holds _ b_680)) (fun _ h9 => h9) rfl d_MD_holds_123 ?_
    refine lv_aload_n hx hb d_MD_holds_126 rfl (lv_at hl 0 rfl) ?_
    refine va_get (D := (dC, dI)) (ci := 10) (v := .int (nI t0)) (C := R_MD) (T := T_MD) (N := 32) hx hb hts iMD hown hK hP 0 rfl rfl 28 (by decide) (hts _ (wb_MD_holds _ b_696)) (fun _ h9 => h9) rfl d_MD_holds_127 ?_
    refine vz_iald (k := t0) hx hb hK hP 3 0 rfl rfl (by omega) (by decide) d_MD_holds_130 ?_
    refine lv_iload_n hx hb d_MD_holds_131 rfl (lv_at hl 2 rfl) ?_
    refine lv_icmp_ne (tgt := 139) hx hb d_MD_holds_132 (by decide) (fun c132 => ?_) (fun c132 => ?_)
    · refine lv_iconst (v := 0) hx hb d_MD_holds_139 (by decide) ?_
      exact W.zret (v := 0) hx hb hr (rfl) (fun t ht hW => ⟨⟨0, (), rfl, by simp [holdM, eqF, e1_99, c132], trivial⟩, hS.F ht⟩) hS.2.2 d_MD_holds_140
    · refine lv_iconst (v := 1) hx hb d_MD_holds_135 (by decide) ?_
      refine lv_goto (tgt := 140) hx hb d_MD_holds_136 (by decide) ?_
      exact W.zret (v := 1) hx hb hr (rfl) (fun t ht hW => ⟨⟨1, (), rfl, by simp [holdM, eqF, e1_99, c132], trivial⟩, hS.F ht⟩) hS.2.2 d_MD_holds_140
  by_cases e1_102 : z = 102
  · refine vz_top (y := 102) e1_102 ?_
    refine lv_lookup (off := 93) (tgt := 94) hx hb d_MD_holds_1 (by decide) (by decide) (by decide) ?_
    refine lv_aload_n hx hb d_MD_holds_94 rfl (lv_at hl 0 rfl) ?_
    refine va_get (D := (dC, dI)) (ci := 10) (v := .int fd) (C := R_MD) (T := T_MD) (N := 32) hx hb hts iMD hown hK hP 0 rfl rfl 29 (by decide) (hts _ (wb_MD_holds _ b_697)) (fun _ h9 => h9) rfl d_MD_holds_95 ?_
    refine lv_iload_n hx hb d_MD_holds_98 rfl (lv_at hl 2 rfl) ?_
    refine lv_icmp_ne (tgt := 106) hx hb d_MD_holds_99 (by decide) (fun c99 => ?_) (fun c99 => ?_)
    · refine lv_iconst (v := 0) hx hb d_MD_holds_106 (by decide) ?_
      exact W.zret (v := 0) hx hb hr (rfl) (fun t ht hW => ⟨⟨0, (), rfl, by simp [holdM, eqF, e1_102, c99], trivial⟩, hS.F ht⟩) hS.2.2 d_MD_holds_107
    · refine lv_iconst (v := 1) hx hb d_MD_holds_102 (by decide) ?_
      refine lv_goto (tgt := 107) hx hb d_MD_holds_103 (by decide) ?_
      exact W.zret (v := 1) hx hb hr (rfl) (fun t ht hW => ⟨⟨1, (), rfl, by simp [holdM, eqF, e1_102, c99], trivial⟩, hS.F ht⟩) hS.2.2 d_MD_holds_107
  by_cases e1_107 : z = 107
  · refine vz_top (y := 107) e1_107 ?_
    refine lv_lookup (off := 74) (tgt := 75) hx hb d_MD_holds_1 (by decide) (by decide) (by decide) ?_
    refine lv_aload_n hx hb d_MD_holds_75 rfl (lv_at hl 0 rfl) ?_
    refine va_get (D := (dC, dI)) (ci := 10) (v := .ref mKi) (C := R_MD) (T := T_MD) (N := 32) hx hb hts iMD hown hK hP 0 rfl rfl 11 (by decide) (hts _ (wb_MD_holds _ b_679)) (fun _ h9 => h9) rfl d_MD_holds_76 ?_
    refine lv_aload_n hx hb d_MD_holds_79 rfl (lv_at hl 0 rfl) ?_
    refine va_get (D := (dC, dI)) (ci := 10) (v := .int (nI t0)) (C := R_MD) (T := T_MD) (N := 32) hx hb hts iMD hown hK hP 0 rfl rfl 28 (by decide) (hts _ (wb_MD_holds _ b_696)) (fun _ h9 => h9) rfl d_MD_holds_80 ?_
    refine vz_iald (k := t0) hx hb hK hP 2 0 rfl rfl (by omega) (by decide) d_MD_holds_83 ?_
    refine lv_iload_n hx hb d_MD_holds_84 rfl (lv_at hl 2 rfl) ?_
    refine lv_icmp_ne (tgt := 92) hx hb d_MD_holds_85 (by decide) (fun c85 => ?_) (fun c85 => ?_)
    · refine lv_iconst (v := 0) hx hb d_MD_holds_92 (by decide) ?_
      exact W.zret (v := 0) hx hb hr (rfl) (fun t ht hW => ⟨⟨0, (), rfl, by simp [holdM, eqF, e1_107, c85], trivial⟩, hS.F ht⟩) hS.2.2 d_MD_holds_93
    · refine lv_iconst (v := 1) hx hb d_MD_holds_88 (by decide) ?_
      refine lv_goto (tgt := 93) hx hb d_MD_holds_89 (by decide) ?_
      exact W.zret (v := 1) hx hb hr (rfl) (fun t ht hW => ⟨⟨1, (), rfl, by simp [holdM, eqF, e1_107, c85], trivial⟩, hS.F ht⟩) hS.2.2 d_MD_holds_93
  by_cases e1_112 : z = 112
  · refine vz_top (y := 112) e1_112 ?_
    refine lv_lookup (off := 107) (tgt := 108) hx hb d_MD_holds_1 (by decide) (by decide) (by decide) ?_
    refine lv_aload_n hx hb d_MD_holds_108 rfl (lv_at hl 0 rfl) ?_
    refine va_get (D := (dC, dI)) (ci := 10) (v := .int pp) (C := R_MD) (T := T_MD) (N := 32) hx hb hts iMD hown hK hP 0 rfl rfl 30 (by decide) (hts _ (wb_MD_holds _ b_698)) (fun _ h9 => h9) rfl d_MD_holds_109 ?_
    refine lv_iload_n hx hb d_MD_holds_112 rfl (lv_at hl 2 rfl) ?_
    refine lv_icmp_ne (tgt := 120) hx hb d_MD_holds_113 (by decide) (fun c113 => ?_) (fun c113 => ?_)
    · refine lv_iconst (v := 0) hx hb d_MD_holds_120 (by decide) ?_
      exact W.zret (v := 0) hx hb hr (rfl) (fun t ht hW => ⟨⟨0, (), rfl, by simp [holdM, eqF, e1_112, c113], trivial⟩, hS.F ht⟩) hS.2.2 d_MD_holds_121
    · refine lv_iconst (v := 1) hx hb d_MD_holds_116 (by decide) ?_
      refine lv_goto (tgt := 121) hx hb d_MD_holds_117 (by decide) ?_
      exact W.zret (v := 1) hx hb hr (rfl) (fun t ht hW => ⟨⟨1, (), rfl, by simp [holdM, eqF, e1_112, c113], trivial⟩, hS.F ht⟩) hS.2.2 d_MD_holds_121
  by_cases e1_114 : z = 114
  · refine vz_top (y := 114) e1_114 ?_
    refine lv_lookup (off := 51) (tgt := 52) hx hb d_MD_holds_1 (by decide) (by decide) (by decide) ?_
    refine lv_aload_n hx hb d_MD_holds_52 rfl (lv_at hl 0 rfl) ?_
    refine va_get (D := (dC, dI)) (ci := 10) (v := .ref mRo) (C := R_MD) (T := T_MD) (N := 32) hx hb hts iMD hown hK hP 0 rfl rfl 8 (by decide) (hts _ (wb_MD_holds _ b_676)) (fun _ h9 => h9) rfl d_MD_holds_53 ?_
    refine lv_aload_n hx hb d_MD_holds_56 rfl (lv_at hl 0 rfl) ?_
    refine va_get (D := (dC, dI)) (ci := 10) (v := .int (nI u)) (C := R_MD) (T := T_MD) (N := 32) hx hb hts iMD hown hK hP 0 rfl rfl 27 (by decide) (hts _ (wb_MD_holds _ b_695)) (fun _ h9 => h9) rfl d_MD_holds_57 ?_
    refine vz_iald (k := u) hx hb hK hP 1 0 rfl rfl (by omega) (by decide) d_MD_holds_60 ?_
    refine lv_iload_n hx hb d_MD_holds_61 rfl (lv_at hl 2 rfl) ?_
    refine lv_ishr hx hb d_MD_holds_62 ?_
    refine lv_iconst (v := 1) hx hb d_MD_holds_63 (by decide) ?_
    refine lv_iand hx hb d_MD_holds_64 ?_
    refine lv_iconst (v := 1) hx hb d_MD_holds_65 (by decide) ?_
    refine lv_icmp_ne (tgt := 73) hx hb d_MD_holds_66 (by decide) (fun c66 => ?_) (fun c66 => ?_)
    · refine lv_iconst (v := 0) hx hb d_MD_holds_73 (by decide) ?_
      exact W.zret (v := 0) hx hb hr (rfl) (fun t ht hW => ⟨⟨0, (), rfl, by simp [holdM, eqF, e1_114, c66], trivial⟩, hS.F ht⟩) hS.2.2 d_MD_holds_74
    · refine lv_iconst (v := 1) hx hb d_MD_holds_69 (by decide) ?_
      refine lv_goto (tgt := 74) hx hb d_MD_holds_70 (by decide) ?_
      exact W.zret (v := 1) hx hb hr (rfl) (fun t ht hW => ⟨⟨1, (), rfl, by simp [holdM, eqF, e1_114, c66], trivial⟩, hS.F ht⟩) hS.2.2 d_MD_holds_74
  refine lv_lookup (off := 140) (tgt := 141) hx hb d_MD_holds_1 (by decide) ((lv_osw (k := 99) e1_99 rfl).trans ((lv_osw (k := 102) e1_102 rfl).trans ((lv_osw (k := 107) e1_107 rfl).trans ((lv_osw (k := 112) e1_112 rfl).trans ((lv_osw (k := 114) e1_114 rfl).trans (rfl)))))) (by decide) ?_
  refine lv_aload_n hx hb d_MD_holds_141 rfl (lv_at hl 0 rfl) ?_
  refine lv_aload_n hx hb d_MD_holds_142 rfl (lv_at hl 0 rfl) ?_
  refine va_get (D := (dC, dI)) (ci := 10) (v := .int (nI u)) (C := R_MD) (T := T_MD) (N := 32) hx hb hts iMD hown hK hP 0 rfl rfl 27 (by decide) (hts _ (wb_MD_holds _ b_695)) (fun _ h9 => h9) rfl d_MD_holds_143 ?_
  refine lv_aload_n hx hb d_MD_holds_146 rfl (lv_at hl 0 rfl) ?_
  refine va_get (D := (dC, dI)) (ci := 10) (v := .int (nI t0)) (C := R_MD) (T := T_MD) (N := 32) hx hb hts iMD hown hK hP 0 rfl rfl 28 (by decide) (hts _ (wb_MD_holds _ b_696)) (fun _ h9 => h9) rfl d_MD_holds_147 ?_
  refine lv_aload_n hx hb d_MD_holds_150 rfl (lv_at hl 0 rfl) ?_
  refine va_get (D := (dC, dI)) (ci := 10) (v := .int wn) (C := R_MD) (T := T_MD) (N := 32) hx hb hts iMD hown hK hP 0 rfl rfl 31 (by decide) (hts _ (wb_MD_holds _ b_699)) (fun _ h9 => h9) rfl d_MD_holds_151 ?_
  have hPc := hP.sub (ws' := [(g, .inr (10, [.int th, .ref mPd, .int (nI pn), .int (nI bn), .ref mSg, .ref mSz, .ref mTo, .int (nI en), .ref mRo, .ref mLi, .int (nI hn), .ref mKi, .ref mCo, .ref mEm, .ref mVa, .int (nI an), .ref mA1, .ref mA2, .ref mA3, .ref mA4, .int (nI ln), .ref mLk, .int (nI xn), .ref mEx, .int (nI qn), .ref mQp, .ref mQd, .int (nI u), .int (nI t0), .int fd, .int pp, .int wn])), (mA1, .inl (cI, 40, .inl ap)), (mA2, .inl (cI, 40, .inl ar)), (mA3, .inl (cI, 40, .inl af)), (mA4, .inl (cI, 40, .inl at_))]) [0, 4, 5, 6, 7] rfl
  have hKc := hK.sub (tys' := [(cI, .int)]) [0] rfl
  refine va_calli (va_runV (As := [.int (nI u), .int (nI t0), .int wn]) (rest := []) ⟨hx, hb, hml, hown, hts⟩ (c_MD_hasAgreement l dC dI cI g mPd mSg mSz mTo mRo mLi mKi mCo mEm mVa mA1 mA2 mA3 mA4 mLk mEx mQp mQd th pn bn en hn an ln xn qn (nI u) (nI t0) fd pp wn ap ar af at_ (by first | assumption | omega) (nI u) (nI t0) wn) (cwV 3 hts (vz_gV wb_MD_holds b_858 b_860 bs_24 b_11 wc_MD_hasAgreement) rfl rfl rfl (by decide +kernel) ⟨Nat.le_of_ble_eq_true rfl, Nat.le_of_ble_eq_true rfl⟩) (vz_preV hPc hKc (ci := 10) (q0 := 0) rfl rfl) rfl rfl hl.1 rfl (lv_room (Nat.le_of_ble_eq_true rfl)) d_MD_holds_154 ⟨Nat.le_of_ble_eq_true rfl, Nat.le_of_ble_eq_true rfl⟩) hS (fun q _ h => False.elim h) (fun q h => False.elim h) (fun r154 u9 t9 H1 locs ht hvm hr154 hB hzx9 hkx9 hS => ?_)
  try dsimp only at hr154
  have hP := vz_kept hP hkx9
  generalize H1 = H at hP hS ⊢
  exact W.zret (v := r154) hx hb hr (by rw [hr154]; rcases hasM_z ap ar af at_ (nI u) (nI t0) wn an with h9 | h9 <;> rw [h9] <;> rfl) (fun t ht hW => ⟨⟨r154, (), rfl, by rw [hr154]; simp [holdM, e1_99, e1_102, e1_107, e1_112, e1_114], trivial⟩, hS.F ht⟩) hS.2.2 d_MD_holds_157
