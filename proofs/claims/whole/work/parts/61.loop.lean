set_option maxHeartbeats 4000000 in
set_option maxRecDepth 100000 in
theorem law_loop {p : Program} {l : Launch} {e : Env} {s : State} {m : MethodId} {below : List Frame} {meth : Method} {c : Code} {Q : State → Prop} {b L : Nat} {xs : Nat → Int32} {A : Nat → Prop} {dC : Nat → ClassId} {dI : Nat → Nat → Nat} {cI cC cL cZ : ClassId} {h hPA hRD hRB hPE hHO hAG hLO hRQ hEX aFR aS aN aB aRo aLi aFa aEm aVa aAP aAR aAF aAT aLP aLL aQP aQD aER g mPd mSg mSz mTo mRo mLi mKi mCo mEm mVa mA1 mA2 mA3 mA4 mLk mEx mQp mQd aO : Nat} (X : LFix p l s m c b L xs A dC dI cI cC cL cZ) (kx : ∀ (H : Heap) (locs : List Loc), va_S A s.heap H locs → ∀ (cN sN : Nat), cN ≤ 1094 → sN ≤ 11516 → ∀ ls : Array Slot, W p l e room_1 s m #[Value.ref b] below meth c H locs cN sN Q (F0 m 1419 ls [])) : ∀ (N i cN sN : Nat), i ≤ L → L < i + 6 * N → cN + N ≤ 1094 → sN + 6 * N ≤ 11516 → ∀ (pf : Nat → Int32) (pn : Nat) (pl : Int32) (x : RdS) (nd br : Nat → Int32) (bn : Nat) (tl ab mk sh : Int32) (ro li : Nat → Int32) (en : Nat) (fa em : Nat → Int32) (va : Nat → Int64) (hn : Nat) (ap ar af at_ : Nat → Int32) (an : Nat) (lp lk : Nat → Int32) (ln : Nat) (qp qd : Nat → Int32) (qn : Nat) (er : Nat → Int32) (xn : Nat) (fr : Nat → Int32) (sg_ sz_ to_ ki co : Nat → Int32) (th wh wt fd pp wn : Int32) (mz : Nat → Nat) (ov : Nat → Int64), LInv pf pn pl x nd br bn tl ab mk sh ro li en fa em va hn ap ar af at_ an lp lk ln qp qd qn er xn fr sg_ sz_ to_ ki co th wh wt fd pp wn mz ov → LAt p l e s m below meth c Q b A dC dI cI cC cL cZ h hPA hRD hRB hPE hHO hAG hLO hRQ hEX aFR aS aN aB aRo aLi aFa aEm aVa aAP aAR aAF aAT aLP aLL aQP aQD aER g mPd mSg mSz mTo mRo mLi mKi mCo mEm mVa mA1 mA2 mA3 mA4 mLk mEx mQp mQd aO i 23 cN sN pf pn pl x nd br bn tl ab mk sh ro li en fa em va hn ap ar af at_ an lp lk ln qp qd qn er xn fr sg_ sz_ to_ ki co th wh wt fd pp wn mz ov := by
  have X0 := X
  obtain ⟨hst, hx, hb, hml, hown, hts, hK, hA, hA2, hX, hbl, hE, hNo, hL⟩ := X
  have hbA : ¬ A b := fun h => absurd (hA2 b h) (Nat.not_le.mpr hbl)
  intro N
  induction N with
  | zero =>
    intro i cN sN h1 h2
    exact absurd h2 (by omega)
  | succ N ih =>
    intro i cN sN hiL hiN hcN hsN
    have kk : i + 6 ≤ L → ∀ (pf : Nat → Int32) (pn : Nat) (pl : Int32) (x : RdS) (nd br : Nat → Int32) (bn : Nat) (tl ab mk sh : Int32) (ro li : Nat → Int32) (en : Nat) (fa em : Nat → Int32) (va : Nat → Int64) (hn : Nat) (ap ar af at_ : Nat → Int32) (an : Nat) (lp lk : Nat → Int32) (ln : Nat) (qp qd : Nat → Int32) (qn : Nat) (er : Nat → Int32) (xn : Nat) (fr : Nat → Int32) (sg_ sz_ to_ ki co : Nat → Int32) (th wh wt fd pp wn : Int32) (mz : Nat → Nat) (ov : Nat → Int64), LInv pf pn pl x nd br bn tl ab mk sh ro li en fa em va hn ap ar af at_ an lp lk ln qp qd qn er xn fr sg_ sz_ to_ ki co th wh wt fd pp wn mz ov → LAt p l e s m below meth c Q b A dC dI cI cC cL cZ h hPA hRD hRB hPE hHO hAG hLO hRQ hEX aFR aS aN aB aRo aLi aFa aEm aVa aAP aAR aAF aAT aLP aLL aQP aQD aER g mPd mSg mSz mTo mRo mLi mKi mCo mEm mVa mA1 mA2 mA3 mA4 mLk mEx mQp mQd aO i 1413 (cN + 1) (sN + 6) pf pn pl x nd br bn tl ab mk sh ro li en fa em va hn ap ar af at_ an lp lk ln qp qd qn er xn fr sg_ sz_ to_ ki co th wh wt fd pp wn mz ov := by
      intro hi pf pn pl x nd br bn tl ab mk sh ro li en fa em va hn ap ar af at_ an lp lk ln qp qd qn er xn fr sg_ sz_ to_ ki co th wh wt fd pp wn mz ov hI H locs hP hD hS ls hl
      have hl : lv_has ls 8 [(4, .int (nI i)), (0, .ref b), (1, .ref h), (2, .ref g), (3, .ref aO)] := hl
      refine lv_iinc (v := nI (i + 6)) (lv' := [(4, .int (nI (i + 6))), (0, .ref b), (1, .ref h), (2, .ref g), (3, .ref aO)]) hx hb d_LW_law_1413 hl (k := 0) rfl (nI_add i 6) (by decide) rfl (fun ls hl => ?_)
      refine lv_goto (tgt := 23) hx hb d_LW_law_1416 (by decide) ?_
      exact ih (i + 6) (cN + 1) (sN + 6) hi (by omega) (by omega) (by omega) pf pn pl x nd br bn tl ab mk sh ro li en fa em va hn ap ar af at_ an lp lk ln qp qd qn er xn fr sg_ sz_ to_ ki co th wh wt fd pp wn mz ov hI H locs hP hD hS ls hl
    intro pf pn pl x nd br bn tl ab mk sh ro li en fa em va hn ap ar af at_ an lp lk ln qp qd qn er xn fr sg_ sz_ to_ ki co th wh wt fd pp wn mz ov hI H locs hP hD hS ls hl
    have hl : lv_has ls 8 [(4, .int (nI i)), (0, .ref b), (1, .ref h), (2, .ref g), (3, .ref aO)] := hl
    refine lv_iload hx hb d_LW_law_23 (lv_at hl 0 rfl) ?_
    refine lv_aload_n hx hb d_LW_law_25 rfl (lv_at hl 1 rfl) ?_
    refine va_slen hx hb hX hbl hbA hS d_LW_law_26 ?_
    refine lv_bipush (v := 6) hx hb d_LW_law_27 (by decide) ?_
    refine lv_isub hx hb d_LW_law_29 ?_
    refine lv_icmp_gt (tgt := 1419) hx hb d_LW_law_30 (by decide) (fun c30 => ?_) (fun c30 => ?_)
    · exact kx H locs hS cN sN (by omega) (by omega) ls
    · have hi : i + 6 ≤ L := hd_le hL (by omega) c30
      refine lv_aload_n hx hb d_LW_law_33 rfl (lv_at hl 1 rfl) ?_
      refine lv_iload hx hb d_LW_law_34 (lv_at hl 0 rfl) ?_
      refine va_sld hx hb hX hbl hbA hS (vp_in_nI (show i < L by omega) (by omega)) d_LW_law_36 ?_
      refine vz_top (y := xs i) (congrArg xs (nI_clamp (show i < 2 ^ 31 by omega))) ?_
      refine lv_bipush (v := 31) hx hb d_LW_law_37 (by decide) ?_
      refine lv_iand hx hb d_LW_law_39 ?_
      by_cases e40_0 : (xs i &&& 31) = 0
      · refine vz_top (y := 0) e40_0 ?_
        refine lv_tableIn (off := 88) (tgt := 128) hx hb d_LW_law_40 (by decide) (by decide) (by decide) (by decide) ?_
        exact law_unit X0 hi (by omega) (by omega) (kk hi) pf pn pl x nd br bn tl ab mk sh ro li en fa em va hn ap ar af at_ an lp lk ln qp qd qn er xn fr sg_ sz_ to_ ki co th wh wt fd pp wn mz ov hI H locs hP hD hS ls hl
      by_cases e40_1 : (xs i &&& 31) = 1
      · refine vz_top (y := 1) e40_1 ?_
        refine lv_tableIn (off := 180) (tgt := 220) hx hb d_LW_law_40 (by decide) (by decide) (by decide) (by decide) ?_
        exact law_rule X0 hi (by omega) (by omega) (kk hi) pf pn pl x nd br bn tl ab mk sh ro li en fa em va hn ap ar af at_ an lp lk ln qp qd qn er xn fr sg_ sz_ to_ ki co th wh wt fd pp wn mz ov hI H locs hP hD hS ls hl
      by_cases e40_2 : (xs i &&& 31) = 2
      · refine vz_top (y := 2) e40_2 ?_
        refine lv_tableIn (off := 224) (tgt := 264) hx hb d_LW_law_40 (by decide) (by decide) (by decide) (by decide) ?_
        exact law_drop X0 hi (by omega) (by omega) (kk hi) pf pn pl x nd br bn tl ab mk sh ro li en fa em va hn ap ar af at_ an lp lk ln qp qd qn er xn fr sg_ sz_ to_ ki co th wh wt fd pp wn mz ov hI H locs hP hD hS ls hl
      by_cases e40_3 : (xs i &&& 31) = 3
      · refine vz_top (y := 3) e40_3 ?_
        refine lv_tableIn (off := 287) (tgt := 327) hx hb d_LW_law_40 (by decide) (by decide) (by decide) (by decide) ?_
        exact law_person X0 hi (by omega) (by omega) (kk hi) pf pn pl x nd br bn tl ab mk sh ro li en fa em va hn ap ar af at_ an lp lk ln qp qd qn er xn fr sg_ sz_ to_ ki co th wh wt fd pp wn mz ov hI H locs hP hD hS ls hl
      by_cases e40_4 : (xs i &&& 31) = 4
      · refine vz_top (y := 4) e40_4 ?_
        refine lv_tableIn (off := 343) (tgt := 383) hx hb d_LW_law_40 (by decide) (by decide) (by decide) (by decide) ?_
        exact law_record X0 hi (by omega) (by omega) (kk hi) pf pn pl x nd br bn tl ab mk sh ro li en fa em va hn ap ar af at_ an lp lk ln qp qd qn er xn fr sg_ sz_ to_ ki co th wh wt fd pp wn mz ov hI H locs hP hD hS ls hl
      by_cases e40_5 : (xs i &&& 31) = 5
      · refine vz_top (y := 5) e40_5 ?_
        refine lv_tableIn (off := 411) (tgt := 451) hx hb d_LW_law_40 (by decide) (by decide) (by decide) (by decide) ?_
        exact law_value X0 hi (by omega) (by omega) (kk hi) pf pn pl x nd br bn tl ab mk sh ro li en fa em va hn ap ar af at_ an lp lk ln qp qd qn er xn fr sg_ sz_ to_ ki co th wh wt fd pp wn mz ov hI H locs hP hD hS ls hl
      by_cases e40_6 : (xs i &&& 31) = 6
      · refine vz_top (y := 6) e40_6 ?_
        refine lv_tableIn (off := 522) (tgt := 562) hx hb d_LW_law_40 (by decide) (by decide) (by decide) (by decide) ?_
        exact law_embargo X0 hi (by omega) (by omega) (kk hi) pf pn pl x nd br bn tl ab mk sh ro li en fa em va hn ap ar af at_ an lp lk ln qp qd qn er xn fr sg_ sz_ to_ ki co th wh wt fd pp wn mz ov hI H locs hP hD hS ls hl
      by_cases e40_7 : (xs i &&& 31) = 7
      · refine vz_top (y := 7) e40_7 ?_
        refine lv_tableIn (off := 590) (tgt := 630) hx hb d_LW_law_40 (by decide) (by decide) (by decide) (by decide) ?_
        exact law_agreement X0 hi (by omega) (by omega) (kk hi) pf pn pl x nd br bn tl ab mk sh ro li en fa em va hn ap ar af at_ an lp lk ln qp qd qn er xn fr sg_ sz_ to_ ki co th wh wt fd pp wn mz ov hI H locs hP hD hS ls hl
      by_cases e40_8 : (xs i &&& 31) = 8
      · refine vz_top (y := 8) e40_8 ?_
        refine lv_tableIn (off := 682) (tgt := 722) hx hb d_LW_law_40 (by decide) (by decide) (by decide) (by decide) ?_
        exact law_asks X0 hi (by omega) (by omega) (kk hi) pf pn pl x nd br bn tl ab mk sh ro li en fa em va hn ap ar af at_ an lp lk ln qp qd qn er xn fr sg_ sz_ to_ ki co th wh wt fd pp wn mz ov hI H locs hP hD hS ls hl
      by_cases e40_9 : (xs i &&& 31) = 9
      · refine vz_top (y := 9) e40_9 ?_
        refine lv_tableIn (off := 786) (tgt := 826) hx hb d_LW_law_40 (by decide) (by decide) (by decide) (by decide) ?_
        exact law_masked X0 hi (by omega) (by omega) (kk hi) pf pn pl x nd br bn tl ab mk sh ro li en fa em va hn ap ar af at_ an lp lk ln qp qd qn er xn fr sg_ sz_ to_ ki co th wh wt fd pp wn mz ov hI H locs hP hD hS ls hl
      by_cases e40_10 : (xs i &&& 31) = 10
      · refine vz_top (y := 10) e40_10 ?_
        refine lv_tableIn (off := 853) (tgt := 893) hx hb d_LW_law_40 (by decide) (by decide) (by decide) (by decide) ?_
        exact law_look X0 hi (by omega) (by omega) (kk hi) pf pn pl x nd br bn tl ab mk sh ro li en fa em va hn ap ar af at_ an lp lk ln qp qd qn er xn fr sg_ sz_ to_ ki co th wh wt fd pp wn mz ov hI H locs hP hD hS ls hl
      by_cases e40_11 : (xs i &&& 31) = 11
      · refine vz_top (y := 11) e40_11 ?_
        refine lv_tableIn (off := 921) (tgt := 961) hx hb d_LW_law_40 (by decide) (by decide) (by decide) (by decide) ?_
        exact law_looked X0 hi (by omega) (by omega) (kk hi) pf pn pl x nd br bn tl ab mk sh ro li en fa em va hn ap ar af at_ an lp lk ln qp qd qn er xn fr sg_ sz_ to_ ki co th wh wt fd pp wn mz ov hI H locs hP hD hS ls hl
      by_cases e40_12 : (xs i &&& 31) = 12
      · refine vz_top (y := 12) e40_12 ?_
        refine lv_tableIn (off := 989) (tgt := 1029) hx hb d_LW_law_40 (by decide) (by decide) (by decide) (by decide) ?_
        exact law_export X0 hi (by omega) (by omega) (kk hi) pf pn pl x nd br bn tl ab mk sh ro li en fa em va hn ap ar af at_ an lp lk ln qp qd qn er xn fr sg_ sz_ to_ ki co th wh wt fd pp wn mz ov hI H locs hP hD hS ls hl
      by_cases e40_13 : (xs i &&& 31) = 13
      · refine vz_top (y := 13) e40_13 ?_
        refine lv_tableIn (off := 1057) (tgt := 1097) hx hb d_LW_law_40 (by decide) (by decide) (by decide) (by decide) ?_
        exact law_exported X0 hi (by omega) (by omega) (kk hi) pf pn pl x nd br bn tl ab mk sh ro li en fa em va hn ap ar af at_ an lp lk ln qp qd qn er xn fr sg_ sz_ to_ ki co th wh wt fd pp wn mz ov hI H locs hP hD hS ls hl
      by_cases e40_14 : (xs i &&& 31) = 14
      · refine vz_top (y := 14) e40_14 ?_
        refine lv_tableIn (off := 1113) (tgt := 1153) hx hb d_LW_law_40 (by decide) (by decide) (by decide) (by decide) ?_
        exact law_request X0 hi (by omega) (by omega) (kk hi) pf pn pl x nd br bn tl ab mk sh ro li en fa em va hn ap ar af at_ an lp lk ln qp qd qn er xn fr sg_ sz_ to_ ki co th wh wt fd pp wn mz ov hI H locs hP hD hS ls hl
      by_cases e40_15 : (xs i &&& 31) = 15
      · refine vz_top (y := 15) e40_15 ?_
        refine lv_tableIn (off := 1193) (tgt := 1233) hx hb d_LW_law_40 (by decide) (by decide) (by decide) (by decide) ?_
        exact law_limit X0 hi (by omega) (by omega) (kk hi) pf pn pl x nd br bn tl ab mk sh ro li en fa em va hn ap ar af at_ an lp lk ln qp qd qn er xn fr sg_ sz_ to_ ki co th wh wt fd pp wn mz ov hI H locs hP hD hS ls hl
      by_cases e40_16 : (xs i &&& 31) = 16
      · refine vz_top (y := 16) e40_16 ?_
        refine lv_tableIn (off := 1261) (tgt := 1301) hx hb d_LW_law_40 (by decide) (by decide) (by decide) (by decide) ?_
        exact law_idle X0 hi (by omega) (by omega) (kk hi) pf pn pl x nd br bn tl ab mk sh ro li en fa em va hn ap ar af at_ an lp lk ln qp qd qn er xn fr sg_ sz_ to_ ki co th wh wt fd pp wn mz ov hI H locs hP hD hS ls hl
      by_cases e40_17 : (xs i &&& 31) = 17
      · refine vz_top (y := 17) e40_17 ?_
        refine lv_tableIn (off := 1317) (tgt := 1357) hx hb d_LW_law_40 (by decide) (by decide) (by decide) (by decide) ?_
        exact law_count X0 hi (by omega) (by omega) (kk hi) pf pn pl x nd br bn tl ab mk sh ro li en fa em va hn ap ar af at_ an lp lk ln qp qd qn er xn fr sg_ sz_ to_ ki co th wh wt fd pp wn mz ov hI H locs hP hD hS ls hl
      refine lv_tableOut (tgt := 1413) hx hb d_LW_law_40 (by have z0 := lv_neT e40_0 (show (0 : Int32).toInt = 0 by decide); have z1 := lv_neT e40_1 (show (1 : Int32).toInt = 1 by decide); have z2 := lv_neT e40_2 (show (2 : Int32).toInt = 2 by decide); have z3 := lv_neT e40_3 (show (3 : Int32).toInt = 3 by decide); have z4 := lv_neT e40_4 (show (4 : Int32).toInt = 4 by decide); have z5 := lv_neT e40_5 (show (5 : Int32).toInt = 5 by decide); have z6 := lv_neT e40_6 (show (6 : Int32).toInt = 6 by decide); have z7 := lv_neT e40_7 (show (7 : Int32).toInt = 7 by decide); have z8 := lv_neT e40_8 (show (8 : Int32).toInt = 8 by decide); have z9 := lv_neT e40_9 (show (9 : Int32).toInt = 9 by decide); have z10 := lv_neT e40_10 (show (10 : Int32).toInt = 10 by decide); have z11 := lv_neT e40_11 (show (11 : Int32).toInt = 11 by decide); have z12 := lv_neT e40_12 (show (12 : Int32).toInt = 12 by decide); have z13 := lv_neT e40_13 (show (13 : Int32).toInt = 13 by decide); have z14 := lv_neT e40_14 (show (14 : Int32).toInt = 14 by decide); have z15 := lv_neT e40_15 (show (15 : Int32).toInt = 15 by decide); have z16 := lv_neT e40_16 (show (16 : Int32).toInt = 16 by decide); have z17 := lv_neT e40_17 (show (17 : Int32).toInt = 17 by decide); omega) (by decide) ?_
      refine W.widen (k := cN + 1) (n := sN + 6) (by omega) (by omega) ?_
      exact kk hi pf pn pl x nd br bn tl ab mk sh ro li en fa em va hn ap ar af at_ an lp lk ln qp qd qn er xn fr sg_ sz_ to_ ki co th wh wt fd pp wn mz ov hI H locs hP hD hS ls hl
