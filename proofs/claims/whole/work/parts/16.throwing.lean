set_option maxHeartbeats 4000000 in
set_option maxRecDepth 100000 in
theorem t_RR_requirePerson (l : Launch) (hst : l.stackTraces = false) (dC : Nat → ClassId) (dI : Nat → Nat → Nat) (N0 : Nat) (h hPA hRD hRB hPE hHO hAG hLO hRQ hEX aFR : Nat) (aRo aLi : Nat) (en : Nat) (x0 : Int32) (hbad : x0 < 0 ∨ nI en ≤ x0) : tMet l y_RR_requirePerson ws_RR_requirePerson ({ frames := 6, cells := 1, slots := 6, locals := 90 }) (va_Pc [.ref h, .int x0] (fun U => va_P (dC, dI) vwCl [(h, .inr (9, [.ref hPA, .ref hRD, .ref hRB, .ref hPE, .ref hHO, .ref hAG, .ref hLO, .ref hRQ, .ref hEX, .ref aFR])), (hPE, .inr (5, [.ref aRo, .ref aLi, .int (nI en)]))] U.heap ∧ va_K (dC, dI) vwCl [] U ∧ xkE N0 U ∧ N0 ≤ U.heap.size)) xkN := by
  refine tMet.ofW (cc := k_RR_requirePerson) (maxL := 2) (ret := none) (by decide) rfl ?_
  intro p e s m args below meth c s₁ B hml htab hv
  obtain ⟨rfl, hP, hK, hE, hN⟩ := hv
  have hx := B.exec
  have hb := B.bytes
  have hts := atoms_spec (ws := ws_RR_requirePerson) B.pre
  have hown : s.vm.findClass R_RR = some m.cls := findClass_of_methodNamed B.named
  have hlocks := B.notSynchronized
  have hS : va_S (fun _ => False) s.heap s.heap [] := va_S.rf
  have hP : va_P (dC, dI) vwCl [(h, .inr (9, [.ref hPA, .ref hRD, .ref hRB, .ref hPE, .ref hHO, .ref hAG, .ref hLO, .ref hRQ, .ref hEX, .ref aFR])), (hPE, .inr (5, [.ref aRo, .ref aLi, .int (nI en)]))] s.heap := hP
  have iPE : ∀ w ∈ u_ws R_PE T_PE 3, w ∈ ws_RR_requirePerson := fun w h => wb_RR_requirePerson w (in_PE w h)
  have iRR : ∀ w ∈ u_ws R_RR T_RR 10, w ∈ ws_RR_requirePerson := fun w h => wb_RR_requirePerson w (in_RR w h)
  have hl := lv_entry ([.ref h, .int x0]) (n := 2) (Nat.le_of_ble_eq_true rfl)
  rw [lg_entry_eq]
  generalize (lg_sl ([.ref h, .int x0]) ++ List.replicate (2 - (lg_sl ([.ref h, .int x0])).length) Slot.unset).toArray = ls at hl ⊢
  have hl : lv_has ls 2 [(0, .ref h), (1, .int x0)] := hl
  refine lv_iload_n hx hb d_RR_requirePerson_0 rfl (lv_at hl 1 rfl) ?_
  refine lv_if_lt (tgt := 15) hx hb d_RR_requirePerson_1 (by decide) (fun c1 => ?_) (fun c1 => ?_)
  · obtain ⟨sa, hsa⟩ := hE.2.2.2 (254, "no such person") (by decide)
    exact xk_throwG (cls := xkN) hx hb hown (hts _ (wb_RR_requirePerson _ b_386)) (hts _ (wb_RR_requirePerson _ b_16)) (hts _ (wb_RR_requirePerson _ b_387)) d_RR_requirePerson_15 d_RR_requirePerson_18 (Nat.le_of_ble_eq_true rfl) (Nat.le_of_ble_eq_true rfl) (xk_ld hx hb hown hsa d_RR_requirePerson_19) (xk_ctN hx hb hst hown (xk_words (fun w h => hts w (wb_RR_requirePerson w h)) hE at_NSE) (hl.1.trans hml.symm) d_RR_requirePerson_21 d_RR_requirePerson_24 htab (Nat.le_of_ble_eq_true rfl) (Nat.le_of_ble_eq_true rfl) hlocks)
  · refine lv_iload_n hx hb d_RR_requirePerson_4 rfl (lv_at hl 1 rfl) ?_
    refine lv_aload_n hx hb d_RR_requirePerson_5 rfl (lv_at hl 0 rfl) ?_
    refine va_get (D := (dC, dI)) (ci := 9) (v := .ref hPE) (C := R_RR) (T := T_RR) (N := 10) hx hb hts iRR hown hK hP 0 rfl rfl 3 (by decide) (hts _ (wb_RR_requirePerson _ b_227)) (fun _ h9 => h9) rfl d_RR_requirePerson_6 ?_
    refine va_get (D := (dC, dI)) (ci := 5) (v := .int (nI en)) (C := R_PE) (T := T_PE) (N := 3) hx hb hts iPE hown hK hP 1 rfl rfl 2 (by decide) (hts _ (wb_RR_requirePerson _ b_121)) (fun _ h9 => h9) rfl d_RR_requirePerson_9 ?_
    refine lv_icmp_lt (tgt := 25) hx hb d_RR_requirePerson_12 (by decide) (fun c12 => ?_) (fun c12 => ?_)
    · exact absurd c12 (Int32.not_lt.mpr (hbad.resolve_left c1))
    · obtain ⟨sa, hsa⟩ := hE.2.2.2 (254, "no such person") (by decide)
      exact xk_throwG (cls := xkN) hx hb hown (hts _ (wb_RR_requirePerson _ b_386)) (hts _ (wb_RR_requirePerson _ b_16)) (hts _ (wb_RR_requirePerson _ b_387)) d_RR_requirePerson_15 d_RR_requirePerson_18 (Nat.le_of_ble_eq_true rfl) (Nat.le_of_ble_eq_true rfl) (xk_ld hx hb hown hsa d_RR_requirePerson_19) (xk_ctN hx hb hst hown (xk_words (fun w h => hts w (wb_RR_requirePerson w h)) hE at_NSE) (hl.1.trans hml.symm) d_RR_requirePerson_21 d_RR_requirePerson_24 htab (Nat.le_of_ble_eq_true rfl) (Nat.le_of_ble_eq_true rfl) hlocks)

set_option maxHeartbeats 4000000 in
set_option maxRecDepth 100000 in
theorem t_RR_requireRecord (l : Launch) (hst : l.stackTraces = false) (dC : Nat → ClassId) (dI : Nat → Nat → Nat) (N0 : Nat) (h hPA hRD hRB hPE hHO hAG hLO hRQ hEX aFR : Nat) (aFa aEm aVa : Nat) (hn : Nat) (x0 : Int32) (hbad : x0 < 0 ∨ nI hn ≤ x0) : tMet l y_RR_requireRecord ws_RR_requireRecord ({ frames := 6, cells := 1, slots := 6, locals := 90 }) (va_Pc [.ref h, .int x0] (fun U => va_P (dC, dI) vwCl [(h, .inr (9, [.ref hPA, .ref hRD, .ref hRB, .ref hPE, .ref hHO, .ref hAG, .ref hLO, .ref hRQ, .ref hEX, .ref aFR])), (hHO, .inr (2, [.ref aFa, .ref aEm, .ref aVa, .int (nI hn)]))] U.heap ∧ va_K (dC, dI) vwCl [] U ∧ xkE N0 U ∧ N0 ≤ U.heap.size)) xkN := by
  refine tMet.ofW (cc := k_RR_requireRecord) (maxL := 2) (ret := none) (by decide) rfl ?_
  intro p e s m args below meth c s₁ B hml htab hv
  obtain ⟨rfl, hP, hK, hE, hN⟩ := hv
  have hx := B.exec
  have hb := B.bytes
  have hts := atoms_spec (ws := ws_RR_requireRecord) B.pre
  have hown : s.vm.findClass R_RR = some m.cls := findClass_of_methodNamed B.named
  have hlocks := B.notSynchronized
  have hS : va_S (fun _ => False) s.heap s.heap [] := va_S.rf
  have hP : va_P (dC, dI) vwCl [(h, .inr (9, [.ref hPA, .ref hRD, .ref hRB, .ref hPE, .ref hHO, .ref hAG, .ref hLO, .ref hRQ, .ref hEX, .ref aFR])), (hHO, .inr (2, [.ref aFa, .ref aEm, .ref aVa, .int (nI hn)]))] s.heap := hP
  have iHO : ∀ w ∈ u_ws R_HO T_HO 4, w ∈ ws_RR_requireRecord := fun w h => wb_RR_requireRecord w (in_HO w h)
  have iRR : ∀ w ∈ u_ws R_RR T_RR 10, w ∈ ws_RR_requireRecord := fun w h => wb_RR_requireRecord w (in_RR w h)
  have hl := lv_entry ([.ref h, .int x0]) (n := 2) (Nat.le_of_ble_eq_true rfl)
  rw [lg_entry_eq]
  generalize (lg_sl ([.ref h, .int x0]) ++ List.replicate (2 - (lg_sl ([.ref h, .int x0])).length) Slot.unset).toArray = ls at hl ⊢
  have hl : lv_has ls 2 [(0, .ref h), (1, .int x0)] := hl
  refine lv_iload_n hx hb d_RR_requireRecord_0 rfl (lv_at hl 1 rfl) ?_
  refine lv_if_lt (tgt := 15) hx hb d_RR_requireRecord_1 (by decide) (fun c1 => ?_) (fun c1 => ?_)
  · obtain ⟨sa, hsa⟩ := hE.2.2.2 (256, "no such record") (by decide)
    exact xk_throwG (cls := xkN) hx hb hown (hts _ (wb_RR_requireRecord _ b_386)) (hts _ (wb_RR_requireRecord _ b_16)) (hts _ (wb_RR_requireRecord _ b_387)) d_RR_requireRecord_15 d_RR_requireRecord_18 (Nat.le_of_ble_eq_true rfl) (Nat.le_of_ble_eq_true rfl) (xk_ldw hx hb hown hsa d_RR_requireRecord_19) (xk_ctN hx hb hst hown (xk_words (fun w h => hts w (wb_RR_requireRecord w h)) hE at_NSE) (hl.1.trans hml.symm) d_RR_requireRecord_22 d_RR_requireRecord_25 htab (Nat.le_of_ble_eq_true rfl) (Nat.le_of_ble_eq_true rfl) hlocks)
  · refine lv_iload_n hx hb d_RR_requireRecord_4 rfl (lv_at hl 1 rfl) ?_
    refine lv_aload_n hx hb d_RR_requireRecord_5 rfl (lv_at hl 0 rfl) ?_
    refine va_get (D := (dC, dI)) (ci := 9) (v := .ref hHO) (C := R_RR) (T := T_RR) (N := 10) hx hb hts iRR hown hK hP 0 rfl rfl 4 (by decide) (hts _ (wb_RR_requireRecord _ b_228)) (fun _ h9 => h9) rfl d_RR_requireRecord_6 ?_
    refine va_get (D := (dC, dI)) (ci := 2) (v := .int (nI hn)) (C := R_HO) (T := T_HO) (N := 4) hx hb hts iHO hown hK hP 1 rfl rfl 3 (by decide) (hts _ (wb_RR_requireRecord _ b_141)) (fun _ h9 => h9) rfl d_RR_requireRecord_9 ?_
    refine lv_icmp_lt (tgt := 26) hx hb d_RR_requireRecord_12 (by decide) (fun c12 => ?_) (fun c12 => ?_)
    · exact absurd c12 (Int32.not_lt.mpr (hbad.resolve_left c1))
    · obtain ⟨sa, hsa⟩ := hE.2.2.2 (256, "no such record") (by decide)
      exact xk_throwG (cls := xkN) hx hb hown (hts _ (wb_RR_requireRecord _ b_386)) (hts _ (wb_RR_requireRecord _ b_16)) (hts _ (wb_RR_requireRecord _ b_387)) d_RR_requireRecord_15 d_RR_requireRecord_18 (Nat.le_of_ble_eq_true rfl) (Nat.le_of_ble_eq_true rfl) (xk_ldw hx hb hown hsa d_RR_requireRecord_19) (xk_ctN hx hb hst hown (xk_words (fun w h => hts w (wb_RR_requireRecord w h)) hE at_NSE) (hl.1.trans hml.symm) d_RR_requireRecord_22 d_RR_requireRecord_25 htab (Nat.le_of_ble_eq_true rfl) (Nat.le_of_ble_eq_true rfl) hlocks)

set_option maxHeartbeats 4000000 in
set_option maxRecDepth 100000 in
theorem t_RR_requireField (l : Launch) (hst : l.stackTraces = false) (dC : Nat → ClassId) (dI : Nat → Nat → Nat) (N0 : Nat) (x0 : Int32) (hbad : x0 < 0 ∨ 6 ≤ x0) : tMet l y_RR_requireField ws_RR_requireField ({ frames := 6, cells := 1, slots := 6, locals := 90 }) (va_Pc [.int x0] (fun U => va_P (dC, dI) vwCl [] U.heap ∧ va_K (dC, dI) vwCl [] U ∧ xkE N0 U ∧ N0 ≤ U.heap.size)) xkN := by
  refine tMet.ofW (cc := k_RR_requireField) (maxL := 1) (ret := none) (by decide) rfl ?_
  intro p e s m args below meth c s₁ B hml htab hv
  obtain ⟨rfl, hP, hK, hE, hN⟩ := hv
  have hx := B.exec
  have hb := B.bytes
  have hts := atoms_spec (ws := ws_RR_requireField) B.pre
  have hown : s.vm.findClass R_RR = some m.cls := findClass_of_methodNamed B.named
  have hlocks := B.notSynchronized
  have hS : va_S (fun _ => False) s.heap s.heap [] := va_S.rf
  have hP : va_P (dC, dI) vwCl [] s.heap := hP
  have hl := lv_entry ([.int x0]) (n := 1) (Nat.le_of_ble_eq_true rfl)
  rw [lg_entry_eq]
  generalize (lg_sl ([.int x0]) ++ List.replicate (1 - (lg_sl ([.int x0])).length) Slot.unset).toArray = ls at hl ⊢
  have hl : lv_has ls 1 [(0, .int x0)] := hl
  refine lv_iload_n hx hb d_RR_requireField_0 rfl (lv_at hl 0 rfl) ?_
  refine lv_if_lt (tgt := 10) hx hb d_RR_requireField_1 (by decide) (fun c1 => ?_) (fun c1 => ?_)
  · obtain ⟨sa, hsa⟩ := hE.2.2.2 (258, "no such field") (by decide)
    exact xk_throwG (cls := xkN) hx hb hown (hts _ (wb_RR_requireField _ b_386)) (hts _ (wb_RR_requireField _ b_16)) (hts _ (wb_RR_requireField _ b_387)) d_RR_requireField_10 d_RR_requireField_13 (Nat.le_of_ble_eq_true rfl) (Nat.le_of_ble_eq_true rfl) (xk_ldw hx hb hown hsa d_RR_requireField_14) (xk_ctN hx hb hst hown (xk_words (fun w h => hts w (wb_RR_requireField w h)) hE at_NSE) (hl.1.trans hml.symm) d_RR_requireField_17 d_RR_requireField_20 htab (Nat.le_of_ble_eq_true rfl) (Nat.le_of_ble_eq_true rfl) hlocks)
  · refine lv_iload_n hx hb d_RR_requireField_4 rfl (lv_at hl 0 rfl) ?_
    refine lv_bipush (v := 6) hx hb d_RR_requireField_5 (by decide) ?_
    refine lv_icmp_lt (tgt := 21) hx hb d_RR_requireField_7 (by decide) (fun c7 => ?_) (fun c7 => ?_)
    · exact absurd c7 (Int32.not_lt.mpr (hbad.resolve_left c1))
    · obtain ⟨sa, hsa⟩ := hE.2.2.2 (258, "no such field") (by decide)
      exact xk_throwG (cls := xkN) hx hb hown (hts _ (wb_RR_requireField _ b_386)) (hts _ (wb_RR_requireField _ b_16)) (hts _ (wb_RR_requireField _ b_387)) d_RR_requireField_10 d_RR_requireField_13 (Nat.le_of_ble_eq_true rfl) (Nat.le_of_ble_eq_true rfl) (xk_ldw hx hb hown hsa d_RR_requireField_14) (xk_ctN hx hb hst hown (xk_words (fun w h => hts w (wb_RR_requireField w h)) hE at_NSE) (hl.1.trans hml.symm) d_RR_requireField_17 d_RR_requireField_20 htab (Nat.le_of_ble_eq_true rfl) (Nat.le_of_ble_eq_true rfl) hlocks)

set_option maxHeartbeats 4000000 in
set_option maxRecDepth 100000 in
theorem t_RR_requireDay (l : Launch) (hst : l.stackTraces = false) (dC : Nat → ClassId) (dI : Nat → Nat → Nat) (N0 : Nat) (x0 : Int32) (hbad : x0 < 0 ∨ 100000 < x0) : tMet l y_RR_requireDay ws_RR_requireDay ({ frames := 6, cells := 1, slots := 6, locals := 90 }) (va_Pc [.int x0] (fun U => va_P (dC, dI) vwCl [] U.heap ∧ va_K (dC, dI) vwCl [] U ∧ xkE N0 U ∧ N0 ≤ U.heap.size)) "java/lang/IllegalArgumentException" := by
  refine tMet.ofW (cc := k_RR_requireDay) (maxL := 1) (ret := none) (by decide) rfl ?_
  intro p e s m args below meth c s₁ B hml htab hv
  obtain ⟨rfl, hP, hK, hE, hN⟩ := hv
  have hx := B.exec
  have hb := B.bytes
  have hts := atoms_spec (ws := ws_RR_requireDay) B.pre
  have hown : s.vm.findClass R_RR = some m.cls := findClass_of_methodNamed B.named
  have hlocks := B.notSynchronized
  have hS : va_S (fun _ => False) s.heap s.heap [] := va_S.rf
  have hP : va_P (dC, dI) vwCl [] s.heap := hP
  have hl := lv_entry ([.int x0]) (n := 1) (Nat.le_of_ble_eq_true rfl)
  rw [lg_entry_eq]
  generalize (lg_sl ([.int x0]) ++ List.replicate (1 - (lg_sl ([.int x0])).length) Slot.unset).toArray = ls at hl ⊢
  have hl : lv_has ls 1 [(0, .int x0)] := hl
  refine lv_iload_n hx hb d_RR_requireDay_0 rfl (lv_at hl 0 rfl) ?_
  refine lv_if_lt (tgt := 11) hx hb d_RR_requireDay_1 (by decide) (fun c1 => ?_) (fun c1 => ?_)
  · obtain ⟨sa, hsa⟩ := hE.2.2.2 (261, "a day is 0 .. 100000") (by decide)
    exact xk_throwG (cls := "java/lang/IllegalArgumentException") hx hb hown (hts _ (wb_RR_requireDay _ b_414)) (hts _ (wb_RR_requireDay _ b_17)) (hts _ (wb_RR_requireDay _ b_415)) d_RR_requireDay_11 d_RR_requireDay_14 (Nat.le_of_ble_eq_true rfl) (Nat.le_of_ble_eq_true rfl) (xk_ldw hx hb hown hsa d_RR_requireDay_15) (xk_ct hx hb hst hown (by decide) (xk_words (fun w h => hts w (wb_RR_requireDay w h)) hE at_IAE) (hl.1.trans hml.symm) d_RR_requireDay_18 d_RR_requireDay_21 htab (Nat.le_of_ble_eq_true rfl) (Nat.le_of_ble_eq_true rfl) hlocks)
  · refine lv_iload_n hx hb d_RR_requireDay_4 rfl (lv_at hl 0 rfl) ?_
    refine lv_ldcw (v := 100000) hx hb hown (hts _ (wb_RR_requireDay _ b_483)) d_RR_requireDay_5 ?_
    refine lv_icmp_le (tgt := 22) hx hb d_RR_requireDay_8 (by decide) (fun c8 => ?_) (fun c8 => ?_)
    · exact absurd c8 (Int32.not_le.mpr (hbad.resolve_left c1))
    · obtain ⟨sa, hsa⟩ := hE.2.2.2 (261, "a day is 0 .. 100000") (by decide)
      exact xk_throwG (cls := "java/lang/IllegalArgumentException") hx hb hown (hts _ (wb_RR_requireDay _ b_414)) (hts _ (wb_RR_requireDay _ b_17)) (hts _ (wb_RR_requireDay _ b_415)) d_RR_requireDay_11 d_RR_requireDay_14 (Nat.le_of_ble_eq_true rfl) (Nat.le_of_ble_eq_true rfl) (xk_ldw hx hb hown hsa d_RR_requireDay_15) (xk_ct hx hb hst hown (by decide) (xk_words (fun w h => hts w (wb_RR_requireDay w h)) hE at_IAE) (hl.1.trans hml.symm) d_RR_requireDay_18 d_RR_requireDay_21 htab (Nat.le_of_ble_eq_true rfl) (Nat.le_of_ble_eq_true rfl) hlocks)

set_option maxHeartbeats 4000000 in
set_option maxRecDepth 100000 in
theorem t_RR_unit (l : Launch) (hst : l.stackTraces = false) (dC : Nat → ClassId) (dI : Nat → Nat → Nat) (N0 : Nat) (h hPA hRD hRB hPE hHO hAG hLO hRQ hEX aFR : Nat) (aS : Nat) (pn : Nat) (a b c0 d : Int32) (hpn : pn ≤ 40) (hbad : 40 < pn + sgn4 a b c0 d) : tMet l y_RR_unit ws_RR_unit ({ frames := 6, cells := 1, slots := 6, locals := 90 }) (va_Pc [.ref h, .int a, .int b, .int c0, .int d] (fun U => va_P (dC, dI) vwCl [(h, .inr (9, [.ref hPA, .ref hRD, .ref hRB, .ref hPE, .ref hHO, .ref hAG, .ref hLO, .ref hRQ, .ref hEX, .ref aFR])), (hPA, .inr (4, [.ref aS, .int (nI pn)]))] U.heap ∧ va_K (dC, dI) vwCl [] U ∧ xkE N0 U ∧ N0 ≤ U.heap.size)) "java/lang/IllegalStateException" := by
  refine tMet.ofW (cc := k_RR_unit) (maxL := 6) (ret := (some .int)) (by decide) rfl ?_
  intro p e s m args below meth c s₁ B hml htab hv
  obtain ⟨rfl, hP, hK, hE, hN⟩ := hv
  have hx := B.exec
  have hb := B.bytes
  have hts := atoms_spec (ws := ws_RR_unit) B.pre
  have hown : s.vm.findClass R_RR = some m.cls := findClass_of_methodNamed B.named
  have hlocks := B.notSynchronized
  have hS : va_S (fun _ => False) s.heap s.heap [] := va_S.rf
  have hP : va_P (dC, dI) vwCl [(h, .inr (9, [.ref hPA, .ref hRD, .ref hRB, .ref hPE, .ref hHO, .ref hAG, .ref hLO, .ref hRQ, .ref hEX, .ref aFR])), (hPA, .inr (4, [.ref aS, .int (nI pn)]))] s.heap := hP
  have iPA : ∀ w ∈ u_ws R_PA T_PA 2, w ∈ ws_RR_unit := fun w h => wb_RR_unit w (in_PA w h)
  have iRR : ∀ w ∈ u_ws R_RR T_RR 10, w ∈ ws_RR_unit := fun w h => wb_RR_unit w (in_RR w h)
  have hl := lv_entry ([.ref h, .int a, .int b, .int c0, .int d]) (n := 6) (Nat.le_of_ble_eq_true rfl)
  rw [lg_entry_eq]
  generalize (lg_sl ([.ref h, .int a, .int b, .int c0, .int d]) ++ List.replicate (6 - (lg_sl ([.ref h, .int a, .int b, .int c0, .int d])).length) Slot.unset).toArray = ls at hl ⊢
  have hl : lv_has ls 6 [(0, .ref h), (1, .int a), (2, .int b), (3, .int c0), (4, .int d)] := hl
  refine lv_iload_n hx hb d_RR_unit_0 rfl (lv_at hl 1 rfl) ?_
  have hPc := hP.sub (ws' := []) [] rfl
  have hKc := hK.sub (tys' := []) [] rfl
  refine va_calli (va_runS (As := [.int a]) (rest := []) ⟨hx, hb, hml, hown, hts⟩ (c_PA_signsIn l dC dI a) (va_cwS 1 hts (vz_gS wb_RR_unit b_263 b_264 b_2 wc_PA_signsIn) rfl rfl rfl (by decide +kernel) ⟨Nat.le_of_ble_eq_true rfl, Nat.le_of_ble_eq_true rfl⟩) (vz_preS hPc hKc) rfl rfl hl.1 rfl (lv_room (Nat.le_of_ble_eq_true rfl)) d_RR_unit_1 ⟨Nat.le_of_ble_eq_true rfl, Nat.le_of_ble_eq_true rfl⟩) hS (fun q _ h => False.elim h) (fun q h => False.elim h) (fun r1 u9 t9 H1 locs ht hvm hr1 hB hzx9 hkx9 hS => ?_)
  try dsimp only at hr1
  have hP := vz_kept hP hkx9
  generalize H1 = H at hP hS ⊢
  obtain rfl : locs = [] := List.eq_nil_iff_forall_not_mem.mpr (fun x hx => hS.2.2 x hx)
  refine lv_iload_n hx hb d_RR_unit_4 rfl (lv_at hl 2 rfl) ?_
  have hPc := hP.sub (ws' := []) [] rfl
  have hKc := hK.sub (tys' := []) [] rfl
  refine va_calli (va_runS (As := [.int b]) (rest := [.int r1]) ⟨hx, hb, hml, hown, hts⟩ (c_PA_signsIn l dC dI b) (va_cwS 1 hts (vz_gS wb_RR_unit b_263 b_264 b_2 wc_PA_signsIn) rfl rfl rfl (by decide +kernel) ⟨Nat.le_of_ble_eq_true rfl, Nat.le_of_ble_eq_true rfl⟩) (vz_preS hPc hKc) rfl rfl hl.1 rfl (lv_room (Nat.le_of_ble_eq_true rfl)) d_RR_unit_5 ⟨Nat.le_of_ble_eq_true rfl, Nat.le_of_ble_eq_true rfl⟩) hS (fun q _ h => False.elim h) (fun q h => False.elim h) (fun r5 u9 t9 H1 locs ht hvm hr5 hB hzx9 hkx9 hS => ?_)
  try dsimp only at hr5
  have hP := vz_kept hP hkx9
  generalize H1 = H at hP hS ⊢
  obtain rfl : locs = [] := List.eq_nil_iff_forall_not_mem.mpr (fun x hx => hS.2.2 x hx)
  refine lv_iadd hx hb d_RR_unit_8 ?_
  refine lv_iload_n hx hb d_RR_unit_9 rfl (lv_at hl 3 rfl) ?_
  have hPc := hP.sub (ws' := []) [] rfl
  have hKc := hK.sub (tys' := []) [] rfl
  refine va_calli (va_runS (As := [.int c0]) (rest := [.int (r1 + r5)]) ⟨hx, hb, hml, hown, hts⟩ (c_PA_signsIn l dC dI c0) (va_cwS 1 hts (vz_gS wb_RR_unit b_263 b_264 b_2 wc_PA_signsIn) rfl rfl rfl (by decide +kernel) ⟨Nat.le_of_ble_eq_true rfl, Nat.le_of_ble_eq_true rfl⟩) (vz_preS hPc hKc) rfl rfl hl.1 rfl (lv_room (Nat.le_of_ble_eq_true rfl)) d_RR_unit_10 ⟨Nat.le_of_ble_eq_true rfl, Nat.le_of_ble_eq_true rfl⟩) hS (fun q _ h => False.elim h) (fun q h => False.elim h) (fun r10 u9 t9 H1 locs ht hvm hr10 hB hzx9 hkx9 hS => ?_)
  try dsimp only at hr10
  have hP := vz_kept hP hkx9
  generalize H1 = H at hP hS ⊢
  obtain rfl : locs = [] := List.eq_nil_iff_forall_not_mem.mpr (fun x hx => hS.2.2 x hx)
  refine lv_iadd hx hb d_RR_unit_13 ?_
  refine lv_iload hx hb d_RR_unit_14 (lv_at hl 4 rfl) ?_
  have hPc := hP.sub (ws' := []) [] rfl
  have hKc := hK.sub (tys' := []) [] rfl
  refine va_calli (va_runS (As := [.int d]) (rest := [.int ((r1 + r5) + r10)]) ⟨hx, hb, hml, hown, hts⟩ (c_PA_signsIn l dC dI d) (va_cwS 1 hts (vz_gS wb_RR_unit b_263 b_264 b_2 wc_PA_signsIn) rfl rfl rfl (by decide +kernel) ⟨Nat.le_of_ble_eq_true rfl, Nat.le_of_ble_eq_true rfl⟩) (vz_preS hPc hKc) rfl rfl hl.1 rfl (lv_room (Nat.le_of_ble_eq_true rfl)) d_RR_unit_16 ⟨Nat.le_of_ble_eq_true rfl, Nat.le_of_ble_eq_true rfl⟩) hS (fun q _ h => False.elim h) (fun q h => False.elim h) (fun r16 u9 t9 H1 locs ht hvm hr16 hB hzx9 hkx9 hS => ?_)
  try dsimp only at hr16
  have hP := vz_kept hP hkx9
  generalize H1 = H at hP hS ⊢
  obtain rfl : locs = [] := List.eq_nil_iff_forall_not_mem.mpr (fun x hx => hS.2.2 x hx)
  refine lv_iadd hx hb d_RR_unit_19 ?_
  refine lv_topi (fun mo emo => ?_)
  refine lv_istore (lv' := [(5, .int mo), (0, .ref h), (1, .int a), (2, .int b), (3, .int c0), (4, .int d)]) hx hb d_RR_unit_20 hl (by decide) rfl (fun ls hl => ?_)
  refine lv_aload_n hx hb d_RR_unit_22 rfl (lv_at hl 1 rfl) ?_
  refine va_get (D := (dC, dI)) (ci := 9) (v := .ref hPA) (C := R_RR) (T := T_RR) (N := 10) hx hb hts iRR hown hK hP 0 rfl rfl 0 (by decide) (hts _ (wb_RR_unit _ b_224)) (fun _ h9 => h9) rfl d_RR_unit_23 ?_
  refine va_get (D := (dC, dI)) (ci := 4) (v := .int (nI pn)) (C := R_PA) (T := T_PA) (N := 2) hx hb hts iPA hown hK hP 1 rfl rfl 1 (by decide) (hts _ (wb_RR_unit _ b_36)) (fun _ h9 => h9) rfl d_RR_unit_26 ?_
  refine lv_iload hx hb d_RR_unit_29 (lv_at hl 0 rfl) ?_
  refine lv_iadd hx hb d_RR_unit_31 ?_
  refine vz_top (y := nI (pn + sgn4 a b c0 d)) (by rw [emo, hr1, hr5, hr10, hr16, nI_add, nI_add, nI_add, nI_add]; rfl) ?_
  refine lv_bipush (v := 40) hx hb d_RR_unit_32 (by decide) ?_
  refine lv_icmp_le (tgt := 47) hx hb d_RR_unit_34 (by decide) (fun c34 => ?_) (fun c34 => ?_)
  · exact absurd ((nI_leI (show pn + sgn4 a b c0 d < 2147483648 by have := sgn4_le a b c0 d; omega) (show 40 < 2147483648 by omega)).mp c34) (by omega)
  · obtain ⟨sa, hsa⟩ := hE.2.2.2 (86, "the pad would hold more than 40 signs") (by decide)
    exact xk_throwG (cls := "java/lang/IllegalStateException") hx hb hown (hts _ (wb_RR_unit _ b_266)) (hts _ (wb_RR_unit _ b_15)) (hts _ (wb_RR_unit _ b_267)) d_RR_unit_37 d_RR_unit_40 (Nat.le_of_ble_eq_true rfl) (Nat.le_of_ble_eq_true rfl) (xk_ld hx hb hown hsa d_RR_unit_41) (xk_ct hx hb hst hown (by decide) (xk_words (fun w h => hts w (wb_RR_unit w h)) hE at_ISE) (hl.1.trans hml.symm) d_RR_unit_43 d_RR_unit_46 htab (Nat.le_of_ble_eq_true rfl) (Nat.le_of_ble_eq_true rfl) hlocks)

set_option maxHeartbeats 4000000 in
set_option maxRecDepth 100000 in
theorem t_RR_rule (l : Launch) (hst : l.stackTraces = false) (dC : Nat → ClassId) (dI : Nat → Nat → Nat) (N0 : Nat) (h hPA hRD hRB hPE hHO hAG hLO hRQ hEX aFR : Nat) (aN aB : Nat) (bn : Nat) (tl ab mk sh : Int32) (hb1 : bn ≤ 20) (hbad : 20 ≤ bn) : tMet l y_RR_rule ws_RR_rule ({ frames := 6, cells := 1, slots := 6, locals := 90 }) (va_Pc [.ref h] (fun U => va_P (dC, dI) vwCl [(h, .inr (9, [.ref hPA, .ref hRD, .ref hRB, .ref hPE, .ref hHO, .ref hAG, .ref hLO, .ref hRQ, .ref hEX, .ref aFR])), (hRB, .inr (7, [.ref aN, .ref aB, .int (nI bn), .int tl, .int ab, .int mk, .int sh]))] U.heap ∧ va_K (dC, dI) vwCl [] U ∧ xkE N0 U ∧ N0 ≤ U.heap.size)) "java/lang/IllegalStateException" := by
  refine tMet.ofW (cc := k_RR_rule) (maxL := 2) (ret := (some .int)) (by decide) rfl ?_
  intro p e s m args below meth c s₁ B hml htab hv
  obtain ⟨rfl, hP, hK, hE, hN⟩ := hv
  have hx := B.exec
  have hb := B.bytes
  have hts := atoms_spec (ws := ws_RR_rule) B.pre
  have hown : s.vm.findClass R_RR = some m.cls := findClass_of_methodNamed B.named
  have hlocks := B.notSynchronized
  have hS : va_S (fun _ => False) s.heap s.heap [] := va_S.rf
  have hP : va_P (dC, dI) vwCl [(h, .inr (9, [.ref hPA, .ref hRD, .ref hRB, .ref hPE, .ref hHO, .ref hAG, .ref hLO, .ref hRQ, .ref hEX, .ref aFR])), (hRB, .inr (7, [.ref aN, .ref aB, .int (nI bn), .int tl, .int ab, .int mk, .int sh]))] s.heap := hP
  have iRB : ∀ w ∈ u_ws R_RB T_RB 7, w ∈ ws_RR_rule := fun w h => wb_RR_rule w (in_RB w h)
  have iRR : ∀ w ∈ u_ws R_RR T_RR 10, w ∈ ws_RR_rule := fun w h => wb_RR_rule w (in_RR w h)
  have hl := lv_entry ([.ref h]) (n := 2) (Nat.le_of_ble_eq_true rfl)
  rw [lg_entry_eq]
  generalize (lg_sl ([.ref h]) ++ List.replicate (2 - (lg_sl ([.ref h])).length) Slot.unset).toArray = ls at hl ⊢
  have hl : lv_has ls 2 [(0, .ref h)] := hl
  refine lv_aload_n hx hb d_RR_rule_0 rfl (lv_at hl 0 rfl) ?_
  refine va_get (D := (dC, dI)) (ci := 9) (v := .ref hRB) (C := R_RR) (T := T_RR) (N := 10) hx hb hts iRR hown hK hP 0 rfl rfl 2 (by decide) (hts _ (wb_RR_rule _ b_226)) (fun _ h9 => h9) rfl d_RR_rule_1 ?_
  refine va_get (D := (dC, dI)) (ci := 7) (v := .int (nI bn)) (C := R_RB) (T := T_RB) (N := 7) hx hb hts iRB hown hK hP 1 rfl rfl 2 (by decide) (hts _ (wb_RR_rule _ b_88)) (fun _ h9 => h9) rfl d_RR_rule_4 ?_
  refine lv_bipush (v := 20) hx hb d_RR_rule_7 (by decide) ?_
  refine lv_icmp_lt (tgt := 22) hx hb d_RR_rule_9 (by decide) (fun c9 => ?_) (fun c9 => ?_)
  · exact absurd ((nI_ltI (show bn < 2147483648 by omega) (show 20 < 2147483648 by omega)).mp c9) (by omega)
  · obtain ⟨sa, hsa⟩ := hE.2.2.2 (98, "there are twenty rules") (by decide)
    exact xk_throwG (cls := "java/lang/IllegalStateException") hx hb hown (hts _ (wb_RR_rule _ b_266)) (hts _ (wb_RR_rule _ b_15)) (hts _ (wb_RR_rule _ b_267)) d_RR_rule_12 d_RR_rule_15 (Nat.le_of_ble_eq_true rfl) (Nat.le_of_ble_eq_true rfl) (xk_ld hx hb hown hsa d_RR_rule_16) (xk_ct hx hb hst hown (by decide) (xk_words (fun w h => hts w (wb_RR_rule w h)) hE at_ISE) (hl.1.trans hml.symm) d_RR_rule_18 d_RR_rule_21 htab (Nat.le_of_ble_eq_true rfl) (Nat.le_of_ble_eq_true rfl) hlocks)

set_option maxHeartbeats 4000000 in
set_option maxRecDepth 100000 in
theorem t_RR_drop (l : Launch) (hst : l.stackTraces = false) (dC : Nat → ClassId) (dI : Nat → Nat → Nat) (N0 : Nat) (h hPA hRD hRB hPE hHO hAG hLO hRQ hEX aFR : Nat) (aN aB : Nat) (bn : Nat) (tl ab mk sh : Int32) (x0 : Int32) (hbad : x0 < 0 ∨ nI bn ≤ x0) : tMet l y_RR_drop ws_RR_drop ({ frames := 6, cells := 1, slots := 6, locals := 90 }) (va_Pc [.ref h, .int x0] (fun U => va_P (dC, dI) vwCl [(h, .inr (9, [.ref hPA, .ref hRD, .ref hRB, .ref hPE, .ref hHO, .ref hAG, .ref hLO, .ref hRQ, .ref hEX, .ref aFR])), (hRB, .inr (7, [.ref aN, .ref aB, .int (nI bn), .int tl, .int ab, .int mk, .int sh]))] U.heap ∧ va_K (dC, dI) vwCl [] U ∧ xkE N0 U ∧ N0 ≤ U.heap.size)) xkN := by
  refine tMet.ofW (cc := k_RR_drop) (maxL := 2) (ret := (some .boolean)) (by decide) rfl ?_
  intro p e s m args below meth c s₁ B hml htab hv
  obtain ⟨rfl, hP, hK, hE, hN⟩ := hv
  have hx := B.exec
  have hb := B.bytes
  have hts := atoms_spec (ws := ws_RR_drop) B.pre
  have hown : s.vm.findClass R_RR = some m.cls := findClass_of_methodNamed B.named
  have hlocks := B.notSynchronized
  have hS : va_S (fun _ => False) s.heap s.heap [] := va_S.rf
  have hP : va_P (dC, dI) vwCl [(h, .inr (9, [.ref hPA, .ref hRD, .ref hRB, .ref hPE, .ref hHO, .ref hAG, .ref hLO, .ref hRQ, .ref hEX, .ref aFR])), (hRB, .inr (7, [.ref aN, .ref aB, .int (nI bn), .int tl, .int ab, .int mk, .int sh]))] s.heap := hP
  have iRB : ∀ w ∈ u_ws R_RB T_RB 7, w ∈ ws_RR_drop := fun w h => wb_RR_drop w (in_RB w h)
  have iRR : ∀ w ∈ u_ws R_RR T_RR 10, w ∈ ws_RR_drop := fun w h => wb_RR_drop w (in_RR w h)
  have hl := lv_entry ([.ref h, .int x0]) (n := 2) (Nat.le_of_ble_eq_true rfl)
  rw [lg_entry_eq]
  generalize (lg_sl ([.ref h, .int x0]) ++ List.replicate (2 - (lg_sl ([.ref h, .int x0])).length) Slot.unset).toArray = ls at hl ⊢
  have hl : lv_has ls 2 [(0, .ref h), (1, .int x0)] := hl
  refine lv_iload_n hx hb d_RR_drop_0 rfl (lv_at hl 1 rfl) ?_
  refine lv_if_lt (tgt := 15) hx hb d_RR_drop_1 (by decide) (fun c1 => ?_) (fun c1 => ?_)
  · obtain ⟨sa, hsa⟩ := hE.2.2.2 (122, "no such rule") (by decide)
    exact xk_throwG (cls := xkN) hx hb hown (hts _ (wb_RR_drop _ b_386)) (hts _ (wb_RR_drop _ b_16)) (hts _ (wb_RR_drop _ b_387)) d_RR_drop_15 d_RR_drop_18 (Nat.le_of_ble_eq_true rfl) (Nat.le_of_ble_eq_true rfl) (xk_ld hx hb hown hsa d_RR_drop_19) (xk_ctN hx hb hst hown (xk_words (fun w h => hts w (wb_RR_drop w h)) hE at_NSE) (hl.1.trans hml.symm) d_RR_drop_21 d_RR_drop_24 htab (Nat.le_of_ble_eq_true rfl) (Nat.le_of_ble_eq_true rfl) hlocks)
  · refine lv_iload_n hx hb d_RR_drop_4 rfl (lv_at hl 1 rfl) ?_
    refine lv_aload_n hx hb d_RR_drop_5 rfl (lv_at hl 0 rfl) ?_
    refine va_get (D := (dC, dI)) (ci := 9) (v := .ref hRB) (C := R_RR) (T := T_RR) (N := 10) hx hb hts iRR hown hK hP 0 rfl rfl 2 (by decide) (hts _ (wb_RR_drop _ b_226)) (fun _ h9 => h9) rfl d_RR_drop_6 ?_
    refine va_get (D := (dC, dI)) (ci := 7) (v := .int (nI bn)) (C := R_RB) (T := T_RB) (N := 7) hx hb hts iRB hown hK hP 1 rfl rfl 2 (by decide) (hts _ (wb_RR_drop _ b_88)) (fun _ h9 => h9) rfl d_RR_drop_9 ?_
    refine lv_icmp_lt (tgt := 25) hx hb d_RR_drop_12 (by decide) (fun c12 => ?_) (fun c12 => ?_)
    · exact absurd c12 (Int32.not_lt.mpr (hbad.resolve_left c1))
    · obtain ⟨sa, hsa⟩ := hE.2.2.2 (122, "no such rule") (by decide)
      exact xk_throwG (cls := xkN) hx hb hown (hts _ (wb_RR_drop _ b_386)) (hts _ (wb_RR_drop _ b_16)) (hts _ (wb_RR_drop _ b_387)) d_RR_drop_15 d_RR_drop_18 (Nat.le_of_ble_eq_true rfl) (Nat.le_of_ble_eq_true rfl) (xk_ld hx hb hown hsa d_RR_drop_19) (xk_ctN hx hb hst hown (xk_words (fun w h => hts w (wb_RR_drop w h)) hE at_NSE) (hl.1.trans hml.symm) d_RR_drop_21 d_RR_drop_24 htab (Nat.le_of_ble_eq_true rfl) (Nat.le_of_ble_eq_true rfl) hlocks)

set_option maxHeartbeats 4000000 in
set_option maxRecDepth 100000 in
theorem t_RR_person1 (l : Launch) (hst : l.stackTraces = false) (dC : Nat → ClassId) (dI : Nat → Nat → Nat) (N0 : Nat) (h hPA hRD hRB hPE hHO hAG hLO hRQ hEX aFR : Nat) (x0 : Int32) (hbad : x0 < 0 ∨ 256 ≤ x0) : tMet l y_RR_person ws_RR_person ({ frames := 6, cells := 1, slots := 6, locals := 90 }) (va_Pc [.ref h, .int x0] (fun U => va_P (dC, dI) vwCl [(h, .inr (9, [.ref hPA, .ref hRD, .ref hRB, .ref hPE, .ref hHO, .ref hAG, .ref hLO, .ref hRQ, .ref hEX, .ref aFR]))] U.heap ∧ va_K (dC, dI) vwCl [] U ∧ xkE N0 U ∧ N0 ≤ U.heap.size)) "java/lang/IllegalArgumentException" := by
  refine tMet.ofW (cc := k_RR_person) (maxL := 2) (ret := (some .int)) (by decide) rfl ?_
  intro p e s m args below meth c s₁ B hml htab hv
  obtain ⟨rfl, hP, hK, hE, hN⟩ := hv
  have hx := B.exec
  have hb := B.bytes
  have hts := atoms_spec (ws := ws_RR_person) B.pre
  have hown : s.vm.findClass R_RR = some m.cls := findClass_of_methodNamed B.named
  have hlocks := B.notSynchronized
  have hS : va_S (fun _ => False) s.heap s.heap [] := va_S.rf
  have hP : va_P (dC, dI) vwCl [(h, .inr (9, [.ref hPA, .ref hRD, .ref hRB, .ref hPE, .ref hHO, .ref hAG, .ref hLO, .ref hRQ, .ref hEX, .ref aFR]))] s.heap := hP
  have iRR : ∀ w ∈ u_ws R_RR T_RR 10, w ∈ ws_RR_person := fun w h => wb_RR_person w (in_RR w h)
  have hl := lv_entry ([.ref h, .int x0]) (n := 2) (Nat.le_of_ble_eq_true rfl)
  rw [lg_entry_eq]
  generalize (lg_sl ([.ref h, .int x0]) ++ List.replicate (2 - (lg_sl ([.ref h, .int x0])).length) Slot.unset).toArray = ls at hl ⊢
  have hl : lv_has ls 2 [(0, .ref h), (1, .int x0)] := hl
  refine lv_iload_n hx hb d_RR_person_0 rfl (lv_at hl 1 rfl) ?_
  refine lv_if_lt (tgt := 11) hx hb d_RR_person_1 (by decide) (fun c1 => ?_) (fun c1 => ?_)
  · obtain ⟨sa, hsa⟩ := hE.2.2.2 (131, "roles are a set of 0 .. 7") (by decide)
    exact xk_throwG (cls := "java/lang/IllegalArgumentException") hx hb hown (hts _ (wb_RR_person _ b_414)) (hts _ (wb_RR_person _ b_17)) (hts _ (wb_RR_person _ b_415)) d_RR_person_11 d_RR_person_14 (Nat.le_of_ble_eq_true rfl) (Nat.le_of_ble_eq_true rfl) (xk_ld hx hb hown hsa d_RR_person_15) (xk_ct hx hb hst hown (by decide) (xk_words (fun w h => hts w (wb_RR_person w h)) hE at_IAE) (hl.1.trans hml.symm) d_RR_person_17 d_RR_person_20 htab (Nat.le_of_ble_eq_true rfl) (Nat.le_of_ble_eq_true rfl) hlocks)
  · refine lv_iload_n hx hb d_RR_person_4 rfl (lv_at hl 1 rfl) ?_
    refine lv_sipush (v := 256) hx hb d_RR_person_5 (by decide) ?_
    refine lv_icmp_lt (tgt := 21) hx hb d_RR_person_8 (by decide) (fun c8 => ?_) (fun c8 => ?_)
    · exact absurd c8 (Int32.not_lt.mpr (hbad.resolve_left c1))
    · obtain ⟨sa, hsa⟩ := hE.2.2.2 (131, "roles are a set of 0 .. 7") (by decide)
      exact xk_throwG (cls := "java/lang/IllegalArgumentException") hx hb hown (hts _ (wb_RR_person _ b_414)) (hts _ (wb_RR_person _ b_17)) (hts _ (wb_RR_person _ b_415)) d_RR_person_11 d_RR_person_14 (Nat.le_of_ble_eq_true rfl) (Nat.le_of_ble_eq_true rfl) (xk_ld hx hb hown hsa d_RR_person_15) (xk_ct hx hb hst hown (by decide) (xk_words (fun w h => hts w (wb_RR_person w h)) hE at_IAE) (hl.1.trans hml.symm) d_RR_person_17 d_RR_person_20 htab (Nat.le_of_ble_eq_true rfl) (Nat.le_of_ble_eq_true rfl) hlocks)

set_option maxHeartbeats 4000000 in
set_option maxRecDepth 100000 in
theorem t_RR_person2 (l : Launch) (hst : l.stackTraces = false) (dC : Nat → ClassId) (dI : Nat → Nat → Nat) (N0 : Nat) (h hPA hRD hRB hPE hHO hAG hLO hRQ hEX aFR : Nat) (aRo aLi : Nat) (en : Nat) (z : Int32) (hz0 : ¬ z < 0) (hz1 : z < 256) (he1 : en ≤ 12) (hbad : 12 ≤ en) : tMet l y_RR_person ws_RR_person ({ frames := 6, cells := 1, slots := 6, locals := 90 }) (va_Pc [.ref h, .int z] (fun U => va_P (dC, dI) vwCl [(h, .inr (9, [.ref hPA, .ref hRD, .ref hRB, .ref hPE, .ref hHO, .ref hAG, .ref hLO, .ref hRQ, .ref hEX, .ref aFR])), (hPE, .inr (5, [.ref aRo, .ref aLi, .int (nI en)]))] U.heap ∧ va_K (dC, dI) vwCl [] U ∧ xkE N0 U ∧ N0 ≤ U.heap.size)) "java/lang/IllegalStateException" := by
  refine tMet.ofW (cc := k_RR_person) (maxL := 2) (ret := (some .int)) (by decide) rfl ?_
  intro p e s m args below meth c s₁ B hml htab hv
  obtain ⟨rfl, hP, hK, hE, hN⟩ := hv
  have hx := B.exec
  have hb := B.bytes
  have hts := atoms_spec (ws := ws_RR_person) B.pre
  have hown : s.vm.findClass R_RR = some m.cls := findClass_of_methodNamed B.named
  have hlocks := B.notSynchronized
  have hS : va_S (fun _ => False) s.heap s.heap [] := va_S.rf
  have hP : va_P (dC, dI) vwCl [(h, .inr (9, [.ref hPA, .ref hRD, .ref hRB, .ref hPE, .ref hHO, .ref hAG, .ref hLO, .ref hRQ, .ref hEX, .ref aFR])), (hPE, .inr (5, [.ref aRo, .ref aLi, .int (nI en)]))] s.heap := hP
  have iPE : ∀ w ∈ u_ws R_PE T_PE 3, w ∈ ws_RR_person := fun w h => wb_RR_person w (in_PE w h)
  have iRR : ∀ w ∈ u_ws R_RR T_RR 10, w ∈ ws_RR_person := fun w h => wb_RR_person w (in_RR w h)
  have hl := lv_entry ([.ref h, .int z]) (n := 2) (Nat.le_of_ble_eq_true rfl)
  rw [lg_entry_eq]
  generalize (lg_sl ([.ref h, .int z]) ++ List.replicate (2 - (lg_sl ([.ref h, .int z])).length) Slot.unset).toArray = ls at hl ⊢
  have hl : lv_has ls 2 [(0, .ref h), (1, .int z)] := hl
  refine lv_iload_n hx hb d_RR_person_0 rfl (lv_at hl 1 rfl) ?_
  refine lv_if_lt (tgt := 11) hx hb d_RR_person_1 (by decide) (fun c1 => ?_) (fun c1 => ?_)
  · exact absurd c1 hz0
  · refine lv_iload_n hx hb d_RR_person_4 rfl (lv_at hl 1 rfl) ?_
    refine lv_sipush (v := 256) hx hb d_RR_person_5 (by decide) ?_
    refine lv_icmp_lt (tgt := 21) hx hb d_RR_person_8 (by decide) (fun c8 => ?_) (fun c8 => ?_)
    · refine lv_aload_n hx hb d_RR_person_21 rfl (lv_at hl 0 rfl) ?_
      refine va_get (D := (dC, dI)) (ci := 9) (v := .ref hPE) (C := R_RR) (T := T_RR) (N := 10) hx hb hts iRR hown hK hP 0 rfl rfl 3 (by decide) (hts _ (wb_RR_person _ b_227)) (fun _ h9 => h9) rfl d_RR_person_22 ?_
      refine va_get (D := (dC, dI)) (ci := 5) (v := .int (nI en)) (C := R_PE) (T := T_PE) (N := 3) hx hb hts iPE hown hK hP 1 rfl rfl 2 (by decide) (hts _ (wb_RR_person _ b_121)) (fun _ h9 => h9) rfl d_RR_person_25 ?_
      refine lv_bipush (v := 12) hx hb d_RR_person_28 (by decide) ?_
      refine lv_icmp_lt (tgt := 43) hx hb d_RR_person_30 (by decide) (fun c30 => ?_) (fun c30 => ?_)
      · exact absurd ((nI_ltI (show en < 2147483648 by omega) (show 12 < 2147483648 by omega)).mp c30) (by omega)
      · obtain ⟨sa, hsa⟩ := hE.2.2.2 (135, "there are twelve persons") (by decide)
        exact xk_throwG (cls := "java/lang/IllegalStateException") hx hb hown (hts _ (wb_RR_person _ b_266)) (hts _ (wb_RR_person _ b_15)) (hts _ (wb_RR_person _ b_267)) d_RR_person_33 d_RR_person_36 (Nat.le_of_ble_eq_true rfl) (Nat.le_of_ble_eq_true rfl) (xk_ld hx hb hown hsa d_RR_person_37) (xk_ct hx hb hst hown (by decide) (xk_words (fun w h => hts w (wb_RR_person w h)) hE at_ISE) (hl.1.trans hml.symm) d_RR_person_39 d_RR_person_42 htab (Nat.le_of_ble_eq_true rfl) (Nat.le_of_ble_eq_true rfl) hlocks)
    · exact absurd hz1 c8

set_option maxHeartbeats 4000000 in
set_option maxRecDepth 100000 in
theorem t_RR_record1 (l : Launch) (hst : l.stackTraces = false) (dC : Nat → ClassId) (dI : Nat → Nat → Nat) (N0 : Nat) (h hPA hRD hRB hPE hHO hAG hLO hRQ hEX aFR : Nat) (x0 : Int32) (hbad : x0 < 0 ∨ 4 ≤ x0) (z : Int32) : tMet l y_RR_record ws_RR_record ({ frames := 6, cells := 1, slots := 6, locals := 90 }) (va_Pc [.ref h, .int x0, .int z] (fun U => va_P (dC, dI) vwCl [(h, .inr (9, [.ref hPA, .ref hRD, .ref hRB, .ref hPE, .ref hHO, .ref hAG, .ref hLO, .ref hRQ, .ref hEX, .ref aFR]))] U.heap ∧ va_K (dC, dI) vwCl [] U ∧ xkE N0 U ∧ N0 ≤ U.heap.size)) "java/lang/IllegalArgumentException" := by
  refine tMet.ofW (cc := k_RR_record) (maxL := 4) (ret := (some .int)) (by decide) rfl ?_
  intro p e s m args below meth c s₁ B hml htab hv
  obtain ⟨rfl, hP, hK, hE, hN⟩ := hv
  have hx := B.exec
  have hb := B.bytes
  have hts := atoms_spec (ws := ws_RR_record) B.pre
  have hown : s.vm.findClass R_RR = some m.cls := findClass_of_methodNamed B.named
  have hlocks := B.notSynchronized
  have hS : va_S (fun _ => False) s.heap s.heap [] := va_S.rf
  have hP : va_P (dC, dI) vwCl [(h, .inr (9, [.ref hPA, .ref hRD, .ref hRB, .ref hPE, .ref hHO, .ref hAG, .ref hLO, .ref hRQ, .ref hEX, .ref aFR]))] s.heap := hP
  have iRR : ∀ w ∈ u_ws R_RR T_RR 10, w ∈ ws_RR_record := fun w h => wb_RR_record w (in_RR w h)
  have hl := lv_entry ([.ref h, .int x0, .int z]) (n := 4) (Nat.le_of_ble_eq_true rfl)
  rw [lg_entry_eq]
  generalize (lg_sl ([.ref h, .int x0, .int z]) ++ List.replicate (4 - (lg_sl ([.ref h, .int x0, .int z])).length) Slot.unset).toArray = ls at hl ⊢
  have hl : lv_has ls 4 [(0, .ref h), (1, .int x0), (2, .int z)] := hl
  refine lv_iload_n hx hb d_RR_record_0 rfl (lv_at hl 1 rfl) ?_
  refine lv_if_lt (tgt := 9) hx hb d_RR_record_1 (by decide) (fun c1 => ?_) (fun c1 => ?_)
  · obtain ⟨sa, hsa⟩ := hE.2.2.2 (140, "a kind is 0 .. 3") (by decide)
    exact xk_throwG (cls := "java/lang/IllegalArgumentException") hx hb hown (hts _ (wb_RR_record _ b_414)) (hts _ (wb_RR_record _ b_17)) (hts _ (wb_RR_record _ b_415)) d_RR_record_9 d_RR_record_12 (Nat.le_of_ble_eq_true rfl) (Nat.le_of_ble_eq_true rfl) (xk_ld hx hb hown hsa d_RR_record_13) (xk_ct hx hb hst hown (by decide) (xk_words (fun w h => hts w (wb_RR_record w h)) hE at_IAE) (hl.1.trans hml.symm) d_RR_record_15 d_RR_record_18 htab (Nat.le_of_ble_eq_true rfl) (Nat.le_of_ble_eq_true rfl) hlocks)
  · refine lv_iload_n hx hb d_RR_record_4 rfl (lv_at hl 1 rfl) ?_
    refine lv_iconst (v := 4) hx hb d_RR_record_5 (by decide) ?_
    refine lv_icmp_lt (tgt := 19) hx hb d_RR_record_6 (by decide) (fun c6 => ?_) (fun c6 => ?_)
    · exact absurd c6 (Int32.not_lt.mpr (hbad.resolve_left c1))
    · obtain ⟨sa, hsa⟩ := hE.2.2.2 (140, "a kind is 0 .. 3") (by decide)
      exact xk_throwG (cls := "java/lang/IllegalArgumentException") hx hb hown (hts _ (wb_RR_record _ b_414)) (hts _ (wb_RR_record _ b_17)) (hts _ (wb_RR_record _ b_415)) d_RR_record_9 d_RR_record_12 (Nat.le_of_ble_eq_true rfl) (Nat.le_of_ble_eq_true rfl) (xk_ld hx hb hown hsa d_RR_record_13) (xk_ct hx hb hst hown (by decide) (xk_words (fun w h => hts w (wb_RR_record w h)) hE at_IAE) (hl.1.trans hml.symm) d_RR_record_15 d_RR_record_18 htab (Nat.le_of_ble_eq_true rfl) (Nat.le_of_ble_eq_true rfl) hlocks)

set_option maxHeartbeats 4000000 in
set_option maxRecDepth 100000 in
theorem t_RR_record2 (l : Launch) (hst : l.stackTraces = false) (dC : Nat → ClassId) (dI : Nat → Nat → Nat) (N0 : Nat) (h hPA hRD hRB hPE hHO hAG hLO hRQ hEX aFR : Nat) (k : Int32) (hk0 : ¬ k < 0) (hk1 : k < 4) (x0 : Int32) (hbad : x0 < -1 ∨ 8 ≤ x0) : tMet l y_RR_record ws_RR_record ({ frames := 6, cells := 1, slots := 6, locals := 90 }) (va_Pc [.ref h, .int k, .int x0] (fun U => va_P (dC, dI) vwCl [(h, .inr (9, [.ref hPA, .ref hRD, .ref hRB, .ref hPE, .ref hHO, .ref hAG, .ref hLO, .ref hRQ, .ref hEX, .ref aFR]))] U.heap ∧ va_K (dC, dI) vwCl [] U ∧ xkE N0 U ∧ N0 ≤ U.heap.size)) "java/lang/IllegalArgumentException" := by
  refine tMet.ofW (cc := k_RR_record) (maxL := 4) (ret := (some .int)) (by decide) rfl ?_
  intro p e s m args below meth c s₁ B hml htab hv
  obtain ⟨rfl, hP, hK, hE, hN⟩ := hv
  have hx := B.exec
  have hb := B.bytes
  have hts := atoms_spec (ws := ws_RR_record) B.pre
  have hown : s.vm.findClass R_RR = some m.cls := findClass_of_methodNamed B.named
  have hlocks := B.notSynchronized
  have hS : va_S (fun _ => False) s.heap s.heap [] := va_S.rf
  have hP : va_P (dC, dI) vwCl [(h, .inr (9, [.ref hPA, .ref hRD, .ref hRB, .ref hPE, .ref hHO, .ref hAG, .ref hLO, .ref hRQ, .ref hEX, .ref aFR]))] s.heap := hP
  have iRR : ∀ w ∈ u_ws R_RR T_RR 10, w ∈ ws_RR_record := fun w h => wb_RR_record w (in_RR w h)
  have hl := lv_entry ([.ref h, .int k, .int x0]) (n := 4) (Nat.le_of_ble_eq_true rfl)
  rw [lg_entry_eq]
  generalize (lg_sl ([.ref h, .int k, .int x0]) ++ List.replicate (4 - (lg_sl ([.ref h, .int k, .int x0])).length) Slot.unset).toArray = ls at hl ⊢
  have hl : lv_has ls 4 [(0, .ref h), (1, .int k), (2, .int x0)] := hl
  refine lv_iload_n hx hb d_RR_record_0 rfl (lv_at hl 1 rfl) ?_
  refine lv_if_lt (tgt := 9) hx hb d_RR_record_1 (by decide) (fun c1 => ?_) (fun c1 => ?_)
  · exact absurd c1 hk0
  · refine lv_iload_n hx hb d_RR_record_4 rfl (lv_at hl 1 rfl) ?_
    refine lv_iconst (v := 4) hx hb d_RR_record_5 (by decide) ?_
    refine lv_icmp_lt (tgt := 19) hx hb d_RR_record_6 (by decide) (fun c6 => ?_) (fun c6 => ?_)
    · refine lv_iload_n hx hb d_RR_record_19 rfl (lv_at hl 2 rfl) ?_
      refine lv_iconst (v := (-1)) hx hb d_RR_record_20 (by decide) ?_
      refine lv_icmp_lt (tgt := 30) hx hb d_RR_record_21 (by decide) (fun c21 => ?_) (fun c21 => ?_)
      · obtain ⟨sa, hsa⟩ := hE.2.2.2 (142, "a community is 0 .. 7, or NONE") (by decide)
        exact xk_throwG (cls := "java/lang/IllegalArgumentException") hx hb hown (hts _ (wb_RR_record _ b_414)) (hts _ (wb_RR_record _ b_17)) (hts _ (wb_RR_record _ b_415)) d_RR_record_30 d_RR_record_33 (Nat.le_of_ble_eq_true rfl) (Nat.le_of_ble_eq_true rfl) (xk_ld hx hb hown hsa d_RR_record_34) (xk_ct hx hb hst hown (by decide) (xk_words (fun w h => hts w (wb_RR_record w h)) hE at_IAE) (hl.1.trans hml.symm) d_RR_record_36 d_RR_record_39 htab (Nat.le_of_ble_eq_true rfl) (Nat.le_of_ble_eq_true rfl) hlocks)
      · refine lv_iload_n hx hb d_RR_record_24 rfl (lv_at hl 2 rfl) ?_
        refine lv_bipush (v := 8) hx hb d_RR_record_25 (by decide) ?_
        refine lv_icmp_lt (tgt := 40) hx hb d_RR_record_27 (by decide) (fun c27 => ?_) (fun c27 => ?_)
        · exact absurd c27 (Int32.not_lt.mpr (hbad.resolve_left c21))
        · obtain ⟨sa, hsa⟩ := hE.2.2.2 (142, "a community is 0 .. 7, or NONE") (by decide)
          exact xk_throwG (cls := "java/lang/IllegalArgumentException") hx hb hown (hts _ (wb_RR_record _ b_414)) (hts _ (wb_RR_record _ b_17)) (hts _ (wb_RR_record _ b_415)) d_RR_record_30 d_RR_record_33 (Nat.le_of_ble_eq_true rfl) (Nat.le_of_ble_eq_true rfl) (xk_ld hx hb hown hsa d_RR_record_34) (xk_ct hx hb hst hown (by decide) (xk_words (fun w h => hts w (wb_RR_record w h)) hE at_IAE) (hl.1.trans hml.symm) d_RR_record_36 d_RR_record_39 htab (Nat.le_of_ble_eq_true rfl) (Nat.le_of_ble_eq_true rfl) hlocks)
    · exact absurd hk1 c6

set_option maxHeartbeats 4000000 in
set_option maxRecDepth 100000 in
theorem t_RR_record3 (l : Launch) (hst : l.stackTraces = false) (dC : Nat → ClassId) (dI : Nat → Nat → Nat) (N0 : Nat) (h hPA hRD hRB hPE hHO hAG hLO hRQ hEX aFR : Nat) (aFa aEm aVa : Nat) (hn : Nat) (k z : Int32) (hk0 : ¬ k < 0) (hk1 : k < 4) (hz0 : ¬ z < -1) (hz1 : z < 8) (hh1 : hn ≤ 16) (hbad : 16 ≤ hn) : tMet l y_RR_record ws_RR_record ({ frames := 6, cells := 1, slots := 6, locals := 90 }) (va_Pc [.ref h, .int k, .int z] (fun U => va_P (dC, dI) vwCl [(h, .inr (9, [.ref hPA, .ref hRD, .ref hRB, .ref hPE, .ref hHO, .ref hAG, .ref hLO, .ref hRQ, .ref hEX, .ref aFR])), (hHO, .inr (2, [.ref aFa, .ref aEm, .ref aVa, .int (nI hn)]))] U.heap ∧ va_K (dC, dI) vwCl [] U ∧ xkE N0 U ∧ N0 ≤ U.heap.size)) "java/lang/IllegalStateException" := by
  refine tMet.ofW (cc := k_RR_record) (maxL := 4) (ret := (some .int)) (by decide) rfl ?_
  intro p e s m args below meth c s₁ B hml htab hv
  obtain ⟨rfl, hP, hK, hE, hN⟩ := hv
  have hx := B.exec
  have hb := B.bytes
  have hts := atoms_spec (ws := ws_RR_record) B.pre
  have hown : s.vm.findClass R_RR = some m.cls := findClass_of_methodNamed B.named
  have hlocks := B.notSynchronized
  have hS : va_S (fun _ => False) s.heap s.heap [] := va_S.rf
  have hP : va_P (dC, dI) vwCl [(h, .inr (9, [.ref hPA, .ref hRD, .ref hRB, .ref hPE, .ref hHO, .ref hAG, .ref hLO, .ref hRQ, .ref hEX, .ref aFR])), (hHO, .inr (2, [.ref aFa, .ref aEm, .ref aVa, .int (nI hn)]))] s.heap := hP
  have iHO : ∀ w ∈ u_ws R_HO T_HO 4, w ∈ ws_RR_record := fun w h => wb_RR_record w (in_HO w h)
  have iRR : ∀ w ∈ u_ws R_RR T_RR 10, w ∈ ws_RR_record := fun w h => wb_RR_record w (in_RR w h)
  have hl := lv_entry ([.ref h, .int k, .int z]) (n := 4) (Nat.le_of_ble_eq_true rfl)
  rw [lg_entry_eq]
  generalize (lg_sl ([.ref h, .int k, .int z]) ++ List.replicate (4 - (lg_sl ([.ref h, .int k, .int z])).length) Slot.unset).toArray = ls at hl ⊢
  have hl : lv_has ls 4 [(0, .ref h), (1, .int k), (2, .int z)] := hl
  refine lv_iload_n hx hb d_RR_record_0 rfl (lv_at hl 1 rfl) ?_
  refine lv_if_lt (tgt := 9) hx hb d_RR_record_1 (by decide) (fun c1 => ?_) (fun c1 => ?_)
  · exact absurd c1 hk0
  · refine lv_iload_n hx hb d_RR_record_4 rfl (lv_at hl 1 rfl) ?_
    refine lv_iconst (v := 4) hx hb d_RR_record_5 (by decide) ?_
    refine lv_icmp_lt (tgt := 19) hx hb d_RR_record_6 (by decide) (fun c6 => ?_) (fun c6 => ?_)
    · refine lv_iload_n hx hb d_RR_record_19 rfl (lv_at hl 2 rfl) ?_
      refine lv_iconst (v := (-1)) hx hb d_RR_record_20 (by decide) ?_
      refine lv_icmp_lt (tgt := 30) hx hb d_RR_record_21 (by decide) (fun c21 => ?_) (fun c21 => ?_)
      · exact absurd c21 hz0
      · refine lv_iload_n hx hb d_RR_record_24 rfl (lv_at hl 2 rfl) ?_
        refine lv_bipush (v := 8) hx hb d_RR_record_25 (by decide) ?_
        refine lv_icmp_lt (tgt := 40) hx hb d_RR_record_27 (by decide) (fun c27 => ?_) (fun c27 => ?_)
        · refine lv_aload_n hx hb d_RR_record_40 rfl (lv_at hl 0 rfl) ?_
          refine va_get (D := (dC, dI)) (ci := 9) (v := .ref hHO) (C := R_RR) (T := T_RR) (N := 10) hx hb hts iRR hown hK hP 0 rfl rfl 4 (by decide) (hts _ (wb_RR_record _ b_228)) (fun _ h9 => h9) rfl d_RR_record_41 ?_
          refine va_get (D := (dC, dI)) (ci := 2) (v := .int (nI hn)) (C := R_HO) (T := T_HO) (N := 4) hx hb hts iHO hown hK hP 1 rfl rfl 3 (by decide) (hts _ (wb_RR_record _ b_141)) (fun _ h9 => h9) rfl d_RR_record_44 ?_
          refine lv_bipush (v := 16) hx hb d_RR_record_47 (by decide) ?_
          refine lv_icmp_lt (tgt := 62) hx hb d_RR_record_49 (by decide) (fun c49 => ?_) (fun c49 => ?_)
          · exact absurd ((nI_ltI (show hn < 2147483648 by omega) (show 16 < 2147483648 by omega)).mp c49) (by omega)
          · obtain ⟨sa, hsa⟩ := hE.2.2.2 (145, "there are sixteen records") (by decide)
            exact xk_throwG (cls := "java/lang/IllegalStateException") hx hb hown (hts _ (wb_RR_record _ b_266)) (hts _ (wb_RR_record _ b_15)) (hts _ (wb_RR_record _ b_267)) d_RR_record_52 d_RR_record_55 (Nat.le_of_ble_eq_true rfl) (Nat.le_of_ble_eq_true rfl) (xk_ld hx hb hown hsa d_RR_record_56) (xk_ct hx hb hst hown (by decide) (xk_words (fun w h => hts w (wb_RR_record w h)) hE at_ISE) (hl.1.trans hml.symm) d_RR_record_58 d_RR_record_61 htab (Nat.le_of_ble_eq_true rfl) (Nat.le_of_ble_eq_true rfl) hlocks)
        · exact absurd hz1 c27
    · exact absurd hk1 c6

set_option maxHeartbeats 4000000 in
set_option maxRecDepth 100000 in
theorem t_RR_value1 (l : Launch) (hst : l.stackTraces = false) (dC : Nat → ClassId) (dI : Nat → Nat → Nat) (N0 : Nat) (h hPA hRD hRB hPE hHO hAG hLO hRQ hEX aFR : Nat) (aFa aEm aVa : Nat) (hn : Nat) (x0 : Int32) (hbad : x0 < 0 ∨ nI hn ≤ x0) (f : Int32) (v : Int64) : tMet l y_RR_value ws_RR_value ({ frames := 7, cells := 1, slots := 6, locals := 111 }) (va_Pc [.ref h, .int x0, .int f, .long v] (fun U => va_P (dC, dI) vwCl [(h, .inr (9, [.ref hPA, .ref hRD, .ref hRB, .ref hPE, .ref hHO, .ref hAG, .ref hLO, .ref hRQ, .ref hEX, .ref aFR])), (hHO, .inr (2, [.ref aFa, .ref aEm, .ref aVa, .int (nI hn)]))] U.heap ∧ va_K (dC, dI) vwCl [] U ∧ xkE N0 U ∧ N0 ≤ U.heap.size)) xkN := by
  refine tMet.ofW (cc := k_RR_value) (maxL := 5) (ret := (some .long)) (by decide) rfl ?_
  intro p e s m args below meth c s₁ B hml htab hv
  obtain ⟨rfl, hP, hK, hE, hN⟩ := hv
  have hx := B.exec
  have hb := B.bytes
  have hts := atoms_spec (ws := ws_RR_value) B.pre
  have hown : s.vm.findClass R_RR = some m.cls := findClass_of_methodNamed B.named
  have hlocks := B.notSynchronized
  have hS : va_S (fun _ => False) s.heap s.heap [] := va_S.rf
  have hP : va_P (dC, dI) vwCl [(h, .inr (9, [.ref hPA, .ref hRD, .ref hRB, .ref hPE, .ref hHO, .ref hAG, .ref hLO, .ref hRQ, .ref hEX, .ref aFR])), (hHO, .inr (2, [.ref aFa, .ref aEm, .ref aVa, .int (nI hn)]))] s.heap := hP
  have iHO : ∀ w ∈ u_ws R_HO T_HO 4, w ∈ ws_RR_value := fun w h => wb_RR_value w (in_HO w h)
  have iRR : ∀ w ∈ u_ws R_RR T_RR 10, w ∈ ws_RR_value := fun w h => wb_RR_value w (in_RR w h)
  have hl := lv_entry ([.ref h, .int x0, .int f, .long v]) (n := 5) (Nat.le_of_ble_eq_true rfl)
  rw [lg_entry_eq]
  generalize (lg_sl ([.ref h, .int x0, .int f, .long v]) ++ List.replicate (5 - (lg_sl ([.ref h, .int x0, .int f, .long v])).length) Slot.unset).toArray = ls at hl ⊢
  have hl : lv_has ls 5 [(0, .ref h), (1, .int x0), (2, .int f), (3, .long v)] := hl
  refine lv_aload_n hx hb d_RR_value_0 rfl (lv_at hl 0 rfl) ?_
  refine lv_iload_n hx hb d_RR_value_1 rfl (lv_at hl 1 rfl) ?_
  have hPc := hP.sub (ws' := [(h, .inr (9, [.ref hPA, .ref hRD, .ref hRB, .ref hPE, .ref hHO, .ref hAG, .ref hLO, .ref hRQ, .ref hEX, .ref aFR])), (hHO, .inr (2, [.ref aFa, .ref aEm, .ref aVa, .int (nI hn)]))]) [0, 1] rfl
  have hKc := hK.sub (tys' := []) [] rfl
  refine xk_callV (As := [.int x0]) (rest := []) ⟨hx, hb, hml, hown, hts⟩ (t_RR_requireRecord l hst dC dI N0 h hPA hRD hRB hPE hHO hAG hLO hRQ hEX aFR aFa aEm aVa hn x0 (by first | assumption | omega)) (cwV 1 hts (vz_gV wb_RR_value b_456 b_458 bs_7 b_1 wc_RR_requireRecord) rfl rfl rfl (by decide +kernel) ⟨Nat.le_of_ble_eq_true rfl, Nat.le_of_ble_eq_true rfl⟩) (vz_preVt hPc hKc hE hN hS (ci := 9) (q0 := 0) rfl rfl) rfl rfl hl.1 (Nat.le_of_ble_eq_true rfl) d_RR_value_2 ⟨Nat.le_of_ble_eq_true rfl, Nat.le_of_ble_eq_true rfl⟩ (fun q9 H9 hnew => ?_)
  exact xk_out htab hlocks hnew

set_option maxHeartbeats 4000000 in
set_option maxRecDepth 100000 in
theorem t_RR_value2 (l : Launch) (hst : l.stackTraces = false) (dC : Nat → ClassId) (dI : Nat → Nat → Nat) (N0 : Nat) (h hPA hRD hRB hPE hHO hAG hLO hRQ hEX aFR : Nat) (aFa aEm aVa : Nat) (hn : Nat) (hhn : hn ≤ 16) (r : Nat) (hr : r < hn) (x0 : Int32) (hbad : x0 < 0 ∨ 6 ≤ x0) (v : Int64) : tMet l y_RR_value ws_RR_value ({ frames := 7, cells := 1, slots := 6, locals := 110 }) (va_Pc [.ref h, .int (nI r), .int x0, .long v] (fun U => va_P (dC, dI) vwCl [(h, .inr (9, [.ref hPA, .ref hRD, .ref hRB, .ref hPE, .ref hHO, .ref hAG, .ref hLO, .ref hRQ, .ref hEX, .ref aFR])), (hHO, .inr (2, [.ref aFa, .ref aEm, .ref aVa, .int (nI hn)]))] U.heap ∧ va_K (dC, dI) vwCl [] U ∧ xkE N0 U ∧ N0 ≤ U.heap.size)) xkN := by
  refine tMet.ofW (cc := k_RR_value) (maxL := 5) (ret := (some .long)) (by decide) rfl ?_
  intro p e s m args below meth c s₁ B hml htab hv
  obtain ⟨rfl, hP, hK, hE, hN⟩ := hv
  have hx := B.exec
  have hb := B.bytes
  have hts := atoms_spec (ws := ws_RR_value) B.pre
  have hown : s.vm.findClass R_RR = some m.cls := findClass_of_methodNamed B.named
  have hlocks := B.notSynchronized
  have hS : va_S (fun _ => False) s.heap s.heap [] := va_S.rf
  have hP : va_P (dC, dI) vwCl [(h, .inr (9, [.ref hPA, .ref hRD, .ref hRB, .ref hPE, .ref hHO, .ref hAG, .ref hLO, .ref hRQ, .ref hEX, .ref aFR])), (hHO, .inr (2, [.ref aFa, .ref aEm, .ref aVa, .int (nI hn)]))] s.heap := hP
  have iHO : ∀ w ∈ u_ws R_HO T_HO 4, w ∈ ws_RR_value := fun w h => wb_RR_value w (in_HO w h)
  have iRR : ∀ w ∈ u_ws R_RR T_RR 10, w ∈ ws_RR_value := fun w h => wb_RR_value w (in_RR w h)
  have hl := lv_entry ([.ref h, .int (nI r), .int x0, .long v]) (n := 5) (Nat.le_of_ble_eq_true rfl)
  rw [lg_entry_eq]
  generalize (lg_sl ([.ref h, .int (nI r), .int x0, .long v]) ++ List.replicate (5 - (lg_sl ([.ref h, .int (nI r), .int x0, .long v])).length) Slot.unset).toArray = ls at hl ⊢
  have hl : lv_has ls 5 [(0, .ref h), (1, .int (nI r)), (2, .int x0), (3, .long v)] := hl
  refine lv_aload_n hx hb d_RR_value_0 rfl (lv_at hl 0 rfl) ?_
  refine lv_iload_n hx hb d_RR_value_1 rfl (lv_at hl 1 rfl) ?_
  have hPc := hP.sub (ws' := [(h, .inr (9, [.ref hPA, .ref hRD, .ref hRB, .ref hPE, .ref hHO, .ref hAG, .ref hLO, .ref hRQ, .ref hEX, .ref aFR])), (hHO, .inr (2, [.ref aFa, .ref aEm, .ref aVa, .int (nI hn)]))]) [0, 1] rfl
  have hKc := hK.sub (tys' := []) [] rfl
  refine va_callv (va_runV (As := [.int (nI r)]) (rest := []) ⟨hx, hb, hml, hown, hts⟩ (c_RR_requireRecord l dC dI h hPA hRD hRB hPE hHO hAG hLO hRQ hEX aFR aFa aEm aVa hn (by first | assumption | omega) r (by first | assumption | omega)) (cwV 1 hts (vz_gV wb_RR_value b_456 b_458 bs_7 b_1 wc_RR_requireRecord) rfl rfl rfl (by decide +kernel) ⟨Nat.le_of_ble_eq_true rfl, Nat.le_of_ble_eq_true rfl⟩) (vz_preV hPc hKc (ci := 9) (q0 := 0) rfl rfl) rfl rfl hl.1 rfl (lv_room (Nat.le_of_ble_eq_true rfl)) d_RR_value_2 ⟨Nat.le_of_ble_eq_true rfl, Nat.le_of_ble_eq_true rfl⟩) hS (fun q _ h => False.elim h) (fun q h => False.elim h) (fun u9 t9 H1 locs ht hvm hr2 hB hzx9 hkx9 hS => ?_)
  try dsimp only at hr2
  have hP := vz_kept hP hkx9
  generalize H1 = H at hP hS ⊢
  obtain rfl : locs = [] := List.eq_nil_iff_forall_not_mem.mpr (fun x hx => hS.2.2 x hx)
  refine lv_iload_n hx hb d_RR_value_5 rfl (lv_at hl 2 rfl) ?_
  have hPc := hP.sub (ws' := []) [] rfl
  have hKc := hK.sub (tys' := []) [] rfl
  refine xk_callS (As := [.int x0]) (rest := []) ⟨hx, hb, hml, hown, hts⟩ (t_RR_requireField l hst dC dI N0 x0 (by first | assumption | omega)) (va_cwS 1 hts (vz_gS wb_RR_value b_461 b_462 b_1 wc_RR_requireField) rfl rfl rfl (by decide +kernel) ⟨Nat.le_of_ble_eq_true rfl, Nat.le_of_ble_eq_true rfl⟩) (vz_preSt hPc hKc hE hN hS) rfl rfl hl.1 (Nat.le_of_ble_eq_true rfl) d_RR_value_6 ⟨Nat.le_of_ble_eq_true rfl, Nat.le_of_ble_eq_true rfl⟩ (fun q9 H9 hnew => ?_)
  exact xk_out htab hlocks hnew

set_option maxHeartbeats 4000000 in
set_option maxRecDepth 100000 in
theorem t_RR_masked1 (l : Launch) (hst : l.stackTraces = false) (dC : Nat → ClassId) (dI : Nat → Nat → Nat) (N0 : Nat) (h hPA hRD hRB hPE hHO hAG hLO hRQ hEX aFR : Nat) (aFa aEm aVa : Nat) (hn : Nat) (x0 : Int32) (hbad : x0 < 0 ∨ nI hn ≤ x0) (f : Int32) : tMet l y_RR_masked ws_RR_masked ({ frames := 7, cells := 1, slots := 6, locals := 111 }) (va_Pc [.ref h, .int x0, .int f] (fun U => va_P (dC, dI) vwCl [(h, .inr (9, [.ref hPA, .ref hRD, .ref hRB, .ref hPE, .ref hHO, .ref hAG, .ref hLO, .ref hRQ, .ref hEX, .ref aFR])), (hHO, .inr (2, [.ref aFa, .ref aEm, .ref aVa, .int (nI hn)]))] U.heap ∧ va_K (dC, dI) vwCl [] U ∧ xkE N0 U ∧ N0 ≤ U.heap.size)) xkN := by
  refine tMet.ofW (cc := k_RR_masked) (maxL := 5) (ret := (some .long)) (by decide) rfl ?_
  intro p e s m args below meth c s₁ B hml htab hv
  obtain ⟨rfl, hP, hK, hE, hN⟩ := hv
  have hx := B.exec
  have hb := B.bytes
  have hts := atoms_spec (ws := ws_RR_masked) B.pre
  have hown : s.vm.findClass R_RR = some m.cls := findClass_of_methodNamed B.named
  have hlocks := B.notSynchronized
  have hS : va_S (fun _ => False) s.heap s.heap [] := va_S.rf
  have hP : va_P (dC, dI) vwCl [(h, .inr (9, [.ref hPA, .ref hRD, .ref hRB, .ref hPE, .ref hHO, .ref hAG, .ref hLO, .ref hRQ, .ref hEX, .ref aFR])), (hHO, .inr (2, [.ref aFa, .ref aEm, .ref aVa, .int (nI hn)]))] s.heap := hP
  have iHO : ∀ w ∈ u_ws R_HO T_HO 4, w ∈ ws_RR_masked := fun w h => wb_RR_masked w (in_HO w h)
  have iRR : ∀ w ∈ u_ws R_RR T_RR 10, w ∈ ws_RR_masked := fun w h => wb_RR_masked w (in_RR w h)
  have hl := lv_entry ([.ref h, .int x0, .int f]) (n := 5) (Nat.le_of_ble_eq_true rfl)
  rw [lg_entry_eq]
  generalize (lg_sl ([.ref h, .int x0, .int f]) ++ List.replicate (5 - (lg_sl ([.ref h, .int x0, .int f])).length) Slot.unset).toArray = ls at hl ⊢
  have hl : lv_has ls 5 [(0, .ref h), (1, .int x0), (2, .int f)] := hl
  refine lv_aload_n hx hb d_RR_masked_0 rfl (lv_at hl 0 rfl) ?_
  refine lv_iload_n hx hb d_RR_masked_1 rfl (lv_at hl 1 rfl) ?_
  have hPc := hP.sub (ws' := [(h, .inr (9, [.ref hPA, .ref hRD, .ref hRB, .ref hPE, .ref hHO, .ref hAG, .ref hLO, .ref hRQ, .ref hEX, .ref aFR])), (hHO, .inr (2, [.ref aFa, .ref aEm, .ref aVa, .int (nI hn)]))]) [0, 1] rfl
  have hKc := hK.sub (tys' := []) [] rfl
  refine xk_callV (As := [.int x0]) (rest := []) ⟨hx, hb, hml, hown, hts⟩ (t_RR_requireRecord l hst dC dI N0 h hPA hRD hRB hPE hHO hAG hLO hRQ hEX aFR aFa aEm aVa hn x0 (by first | assumption | omega)) (cwV 1 hts (vz_gV wb_RR_masked b_456 b_458 bs_7 b_1 wc_RR_requireRecord) rfl rfl rfl (by decide +kernel) ⟨Nat.le_of_ble_eq_true rfl, Nat.le_of_ble_eq_true rfl⟩) (vz_preVt hPc hKc hE hN hS (ci := 9) (q0 := 0) rfl rfl) rfl rfl hl.1 (Nat.le_of_ble_eq_true rfl) d_RR_masked_2 ⟨Nat.le_of_ble_eq_true rfl, Nat.le_of_ble_eq_true rfl⟩ (fun q9 H9 hnew => ?_)
  exact xk_out htab hlocks hnew

set_option maxHeartbeats 4000000 in
set_option maxRecDepth 100000 in
theorem t_RR_masked2 (l : Launch) (hst : l.stackTraces = false) (dC : Nat → ClassId) (dI : Nat → Nat → Nat) (N0 : Nat) (h hPA hRD hRB hPE hHO hAG hLO hRQ hEX aFR : Nat) (aFa aEm aVa : Nat) (hn : Nat) (hhn : hn ≤ 16) (r : Nat) (hr : r < hn) (x0 : Int32) (hbad : x0 < 0 ∨ 6 ≤ x0) : tMet l y_RR_masked ws_RR_masked ({ frames := 7, cells := 1, slots := 6, locals := 110 }) (va_Pc [.ref h, .int (nI r), .int x0] (fun U => va_P (dC, dI) vwCl [(h, .inr (9, [.ref hPA, .ref hRD, .ref hRB, .ref hPE, .ref hHO, .ref hAG, .ref hLO, .ref hRQ, .ref hEX, .ref aFR])), (hHO, .inr (2, [.ref aFa, .ref aEm, .ref aVa, .int (nI hn)]))] U.heap ∧ va_K (dC, dI) vwCl [] U ∧ xkE N0 U ∧ N0 ≤ U.heap.size)) xkN := by
  refine tMet.ofW (cc := k_RR_masked) (maxL := 5) (ret := (some .long)) (by decide) rfl ?_
  intro p e s m args below meth c s₁ B hml htab hv
  obtain ⟨rfl, hP, hK, hE, hN⟩ := hv
  have hx := B.exec
  have hb := B.bytes
  have hts := atoms_spec (ws := ws_RR_masked) B.pre
  have hown : s.vm.findClass R_RR = some m.cls := findClass_of_methodNamed B.named
  have hlocks := B.notSynchronized
  have hS : va_S (fun _ => False) s.heap s.heap [] := va_S.rf
  have hP : va_P (dC, dI) vwCl [(h, .inr (9, [.ref hPA, .ref hRD, .ref hRB, .ref hPE, .ref hHO, .ref hAG, .ref hLO, .ref hRQ, .ref hEX, .ref aFR])), (hHO, .inr (2, [.ref aFa, .ref aEm, .ref aVa, .int (nI hn)]))] s.heap := hP
  have iHO : ∀ w ∈ u_ws R_HO T_HO 4, w ∈ ws_RR_masked := fun w h => wb_RR_masked w (in_HO w h)
  have iRR : ∀ w ∈ u_ws R_RR T_RR 10, w ∈ ws_RR_masked := fun w h => wb_RR_masked w (in_RR w h)
  have hl := lv_entry ([.ref h, .int (nI r), .int x0]) (n := 5) (Nat.le_of_ble_eq_true rfl)
  rw [lg_entry_eq]
  generalize (lg_sl ([.ref h, .int (nI r), .int x0]) ++ List.replicate (5 - (lg_sl ([.ref h, .int (nI r), .int x0])).length) Slot.unset).toArray = ls at hl ⊢
  have hl : lv_has ls 5 [(0, .ref h), (1, .int (nI r)), (2, .int x0)] := hl
  refine lv_aload_n hx hb d_RR_masked_0 rfl (lv_at hl 0 rfl) ?_
  refine lv_iload_n hx hb d_RR_masked_1 rfl (lv_at hl 1 rfl) ?_
  have hPc := hP.sub (ws' := [(h, .inr (9, [.ref hPA, .ref hRD, .ref hRB, .ref hPE, .ref hHO, .ref hAG, .ref hLO, .ref hRQ, .ref hEX, .ref aFR])), (hHO, .inr (2, [.ref aFa, .ref aEm, .ref aVa, .int (nI hn)]))]) [0, 1] rfl
  have hKc := hK.sub (tys' := []) [] rfl
  refine va_callv (va_runV (As := [.int (nI r)]) (rest := []) ⟨hx, hb, hml, hown, hts⟩ (c_RR_requireRecord l dC dI h hPA hRD hRB hPE hHO hAG hLO hRQ hEX aFR aFa aEm aVa hn (by first | assumption | omega) r (by first | assumption | omega)) (cwV 1 hts (vz_gV wb_RR_masked b_456 b_458 bs_7 b_1 wc_RR_requireRecord) rfl rfl rfl (by decide +kernel) ⟨Nat.le_of_ble_eq_true rfl, Nat.le_of_ble_eq_true rfl⟩) (vz_preV hPc hKc (ci := 9) (q0 := 0) rfl rfl) rfl rfl hl.1 rfl (lv_room (Nat.le_of_ble_eq_true rfl)) d_RR_masked_2 ⟨Nat.le_of_ble_eq_true rfl, Nat.le_of_ble_eq_true rfl⟩) hS (fun q _ h => False.elim h) (fun q h => False.elim h) (fun u9 t9 H1 locs ht hvm hr2 hB hzx9 hkx9 hS => ?_)
  try dsimp only at hr2
  have hP := vz_kept hP hkx9
  generalize H1 = H at hP hS ⊢
  obtain rfl : locs = [] := List.eq_nil_iff_forall_not_mem.mpr (fun x hx => hS.2.2 x hx)
  refine lv_iload_n hx hb d_RR_masked_5 rfl (lv_at hl 2 rfl) ?_
  have hPc := hP.sub (ws' := []) [] rfl
  have hKc := hK.sub (tys' := []) [] rfl
  refine xk_callS (As := [.int x0]) (rest := []) ⟨hx, hb, hml, hown, hts⟩ (t_RR_requireField l hst dC dI N0 x0 (by first | assumption | omega)) (va_cwS 1 hts (vz_gS wb_RR_masked b_461 b_462 b_1 wc_RR_requireField) rfl rfl rfl (by decide +kernel) ⟨Nat.le_of_ble_eq_true rfl, Nat.le_of_ble_eq_true rfl⟩) (vz_preSt hPc hKc hE hN hS) rfl rfl hl.1 (Nat.le_of_ble_eq_true rfl) d_RR_masked_6 ⟨Nat.le_of_ble_eq_true rfl, Nat.le_of_ble_eq_true rfl⟩ (fun q9 H9 hnew => ?_)
  exact xk_out htab hlocks hnew

set_option maxHeartbeats 4000000 in
set_option maxRecDepth 100000 in
theorem t_RR_embargo1 (l : Launch) (hst : l.stackTraces = false) (dC : Nat → ClassId) (dI : Nat → Nat → Nat) (N0 : Nat) (h hPA hRD hRB hPE hHO hAG hLO hRQ hEX aFR : Nat) (aFa aEm aVa : Nat) (hn : Nat) (x0 : Int32) (hbad : x0 < 0 ∨ nI hn ≤ x0) (d : Int32) : tMet l y_RR_embargo ws_RR_embargo ({ frames := 7, cells := 1, slots := 6, locals := 111 }) (va_Pc [.ref h, .int x0, .int d] (fun U => va_P (dC, dI) vwCl [(h, .inr (9, [.ref hPA, .ref hRD, .ref hRB, .ref hPE, .ref hHO, .ref hAG, .ref hLO, .ref hRQ, .ref hEX, .ref aFR])), (hHO, .inr (2, [.ref aFa, .ref aEm, .ref aVa, .int (nI hn)]))] U.heap ∧ va_K (dC, dI) vwCl [] U ∧ xkE N0 U ∧ N0 ≤ U.heap.size)) xkN := by
  refine tMet.ofW (cc := k_RR_embargo) (maxL := 4) (ret := (some .int)) (by decide) rfl ?_
  intro p e s m args below meth c s₁ B hml htab hv
  obtain ⟨rfl, hP, hK, hE, hN⟩ := hv
  have hx := B.exec
  have hb := B.bytes
  have hts := atoms_spec (ws := ws_RR_embargo) B.pre
  have hown : s.vm.findClass R_RR = some m.cls := findClass_of_methodNamed B.named
  have hlocks := B.notSynchronized
  have hS : va_S (fun _ => False) s.heap s.heap [] := va_S.rf
  have hP : va_P (dC, dI) vwCl [(h, .inr (9, [.ref hPA, .ref hRD, .ref hRB, .ref hPE, .ref hHO, .ref hAG, .ref hLO, .ref hRQ, .ref hEX, .ref aFR])), (hHO, .inr (2, [.ref aFa, .ref aEm, .ref aVa, .int (nI hn)]))] s.heap := hP
  have iHO : ∀ w ∈ u_ws R_HO T_HO 4, w ∈ ws_RR_embargo := fun w h => wb_RR_embargo w (in_HO w h)
  have iRR : ∀ w ∈ u_ws R_RR T_RR 10, w ∈ ws_RR_embargo := fun w h => wb_RR_embargo w (in_RR w h)
  have hl := lv_entry ([.ref h, .int x0, .int d]) (n := 4) (Nat.le_of_ble_eq_true rfl)
  rw [lg_entry_eq]
  generalize (lg_sl ([.ref h, .int x0, .int d]) ++ List.replicate (4 - (lg_sl ([.ref h, .int x0, .int d])).length) Slot.unset).toArray = ls at hl ⊢
  have hl : lv_has ls 4 [(0, .ref h), (1, .int x0), (2, .int d)] := hl
  refine lv_aload_n hx hb d_RR_embargo_0 rfl (lv_at hl 0 rfl) ?_
  refine lv_iload_n hx hb d_RR_embargo_1 rfl (lv_at hl 1 rfl) ?_
  have hPc := hP.sub (ws' := [(h, .inr (9, [.ref hPA, .ref hRD, .ref hRB, .ref hPE, .ref hHO, .ref hAG, .ref hLO, .ref hRQ, .ref hEX, .ref aFR])), (hHO, .inr (2, [.ref aFa, .ref aEm, .ref aVa, .int (nI hn)]))]) [0, 1] rfl
  have hKc := hK.sub (tys' := []) [] rfl
  refine xk_callV (As := [.int x0]) (rest := []) ⟨hx, hb, hml, hown, hts⟩ (t_RR_requireRecord l hst dC dI N0 h hPA hRD hRB hPE hHO hAG hLO hRQ hEX aFR aFa aEm aVa hn x0 (by first | assumption | omega)) (cwV 1 hts (vz_gV wb_RR_embargo b_456 b_458 bs_7 b_1 wc_RR_requireRecord) rfl rfl rfl (by decide +kernel) ⟨Nat.le_of_ble_eq_true rfl, Nat.le_of_ble_eq_true rfl⟩) (vz_preVt hPc hKc hE hN hS (ci := 9) (q0 := 0) rfl rfl) rfl rfl hl.1 (Nat.le_of_ble_eq_true rfl) d_RR_embargo_2 ⟨Nat.le_of_ble_eq_true rfl, Nat.le_of_ble_eq_true rfl⟩ (fun q9 H9 hnew => ?_)
  exact xk_out htab hlocks hnew

set_option maxHeartbeats 4000000 in
set_option maxRecDepth 100000 in
theorem t_RR_embargo2 (l : Launch) (hst : l.stackTraces = false) (dC : Nat → ClassId) (dI : Nat → Nat → Nat) (N0 : Nat) (h hPA hRD hRB hPE hHO hAG hLO hRQ hEX aFR : Nat) (aFa aEm aVa : Nat) (hn : Nat) (hhn : hn ≤ 16) (r : Nat) (hr : r < hn) (x0 : Int32) (hbad : x0 < 0 ∨ 100000 < x0) (hne : ¬ x0 = -1) : tMet l y_RR_embargo ws_RR_embargo ({ frames := 7, cells := 1, slots := 6, locals := 110 }) (va_Pc [.ref h, .int (nI r), .int x0] (fun U => va_P (dC, dI) vwCl [(h, .inr (9, [.ref hPA, .ref hRD, .ref hRB, .ref hPE, .ref hHO, .ref hAG, .ref hLO, .ref hRQ, .ref hEX, .ref aFR])), (hHO, .inr (2, [.ref aFa, .ref aEm, .ref aVa, .int (nI hn)]))] U.heap ∧ va_K (dC, dI) vwCl [] U ∧ xkE N0 U ∧ N0 ≤ U.heap.size)) "java/lang/IllegalArgumentException" := by
  refine tMet.ofW (cc := k_RR_embargo) (maxL := 4) (ret := (some .int)) (by decide) rfl ?_
  intro p e s m args below meth c s₁ B hml htab hv
  obtain ⟨rfl, hP, hK, hE, hN⟩ := hv
  have hx := B.exec
  have hb := B.bytes
  have hts := atoms_spec (ws := ws_RR_embargo) B.pre
  have hown : s.vm.findClass R_RR = some m.cls := findClass_of_methodNamed B.named
  have hlocks := B.notSynchronized
  have hS : va_S (fun _ => False) s.heap s.heap [] := va_S.rf
  have hP : va_P (dC, dI) vwCl [(h, .inr (9, [.ref hPA, .ref hRD, .ref hRB, .ref hPE, .ref hHO, .ref hAG, .ref hLO, .ref hRQ, .ref hEX, .ref aFR])), (hHO, .inr (2, [.ref aFa, .ref aEm, .ref aVa, .int (nI hn)]))] s.heap := hP
  have iHO : ∀ w ∈ u_ws R_HO T_HO 4, w ∈ ws_RR_embargo := fun w h => wb_RR_embargo w (in_HO w h)
  have iRR : ∀ w ∈ u_ws R_RR T_RR 10, w ∈ ws_RR_embargo := fun w h => wb_RR_embargo w (in_RR w h)
  have hl := lv_entry ([.ref h, .int (nI r), .int x0]) (n := 4) (Nat.le_of_ble_eq_true rfl)
  rw [lg_entry_eq]
  generalize (lg_sl ([.ref h, .int (nI r), .int x0]) ++ List.replicate (4 - (lg_sl ([.ref h, .int (nI r), .int x0])).length) Slot.unset).toArray = ls at hl ⊢
  have hl : lv_has ls 4 [(0, .ref h), (1, .int (nI r)), (2, .int x0)] := hl
  refine lv_aload_n hx hb d_RR_embargo_0 rfl (lv_at hl 0 rfl) ?_
  refine lv_iload_n hx hb d_RR_embargo_1 rfl (lv_at hl 1 rfl) ?_
  have hPc := hP.sub (ws' := [(h, .inr (9, [.ref hPA, .ref hRD, .ref hRB, .ref hPE, .ref hHO, .ref hAG, .ref hLO, .ref hRQ, .ref hEX, .ref aFR])), (hHO, .inr (2, [.ref aFa, .ref aEm, .ref aVa, .int (nI hn)]))]) [0, 1] rfl
  have hKc := hK.sub (tys' := []) [] rfl
  refine va_callv (va_runV (As := [.int (nI r)]) (rest := []) ⟨hx, hb, hml, hown, hts⟩ (c_RR_requireRecord l dC dI h hPA hRD hRB hPE hHO hAG hLO hRQ hEX aFR aFa aEm aVa hn (by first | assumption | omega) r (by first | assumption | omega)) (cwV 1 hts (vz_gV wb_RR_embargo b_456 b_458 bs_7 b_1 wc_RR_requireRecord) rfl rfl rfl (by decide +kernel) ⟨Nat.le_of_ble_eq_true rfl, Nat.le_of_ble_eq_true rfl⟩) (vz_preV hPc hKc (ci := 9) (q0 := 0) rfl rfl) rfl rfl hl.1 rfl (lv_room (Nat.le_of_ble_eq_true rfl)) d_RR_embargo_2 ⟨Nat.le_of_ble_eq_true rfl, Nat.le_of_ble_eq_true rfl⟩) hS (fun q _ h => False.elim h) (fun q h => False.elim h) (fun u9 t9 H1 locs ht hvm hr2 hB hzx9 hkx9 hS => ?_)
  try dsimp only at hr2
  have hP := vz_kept hP hkx9
  generalize H1 = H at hP hS ⊢
  obtain rfl : locs = [] := List.eq_nil_iff_forall_not_mem.mpr (fun x hx => hS.2.2 x hx)
  refine lv_iload_n hx hb d_RR_embargo_5 rfl (lv_at hl 2 rfl) ?_
  refine lv_iconst (v := (-1)) hx hb d_RR_embargo_6 (by decide) ?_
  refine lv_icmp_eq (tgt := 14) hx hb d_RR_embargo_7 (by decide) (fun c7 => ?_) (fun c7 => ?_)
  · exact absurd c7 hne
  · refine lv_iload_n hx hb d_RR_embargo_10 rfl (lv_at hl 2 rfl) ?_
    have hPc := hP.sub (ws' := []) [] rfl
    have hKc := hK.sub (tys' := []) [] rfl
    refine xk_callS (As := [.int x0]) (rest := []) ⟨hx, hb, hml, hown, hts⟩ (t_RR_requireDay l hst dC dI N0 x0 (by first | assumption | omega)) (va_cwS 1 hts (vz_gS wb_RR_embargo b_480 b_481 b_1 wc_RR_requireDay) rfl rfl rfl (by decide +kernel) ⟨Nat.le_of_ble_eq_true rfl, Nat.le_of_ble_eq_true rfl⟩) (vz_preSt hPc hKc hE hN hS) rfl rfl hl.1 (Nat.le_of_ble_eq_true rfl) d_RR_embargo_11 ⟨Nat.le_of_ble_eq_true rfl, Nat.le_of_ble_eq_true rfl⟩ (fun q9 H9 hnew => ?_)
    exact xk_out htab hlocks hnew

set_option maxHeartbeats 4000000 in
set_option maxRecDepth 100000 in
theorem t_RR_agreement1 (l : Launch) (hst : l.stackTraces = false) (dC : Nat → ClassId) (dI : Nat → Nat → Nat) (N0 : Nat) (h hPA hRD hRB hPE hHO hAG hLO hRQ hEX aFR : Nat) (aRo aLi : Nat) (en : Nat) (aFa aEm aVa : Nat) (hn : Nat) (x0 : Int32) (hbad : x0 < 0 ∨ nI en ≤ x0) (r f t1 : Int32) : tMet l y_RR_agreement ws_RR_agreement ({ frames := 7, cells := 1, slots := 6, locals := 111 }) (va_Pc [.ref h, .int x0, .int r, .int f, .int t1] (fun U => va_P (dC, dI) vwCl [(h, .inr (9, [.ref hPA, .ref hRD, .ref hRB, .ref hPE, .ref hHO, .ref hAG, .ref hLO, .ref hRQ, .ref hEX, .ref aFR])), (hPE, .inr (5, [.ref aRo, .ref aLi, .int (nI en)])), (hHO, .inr (2, [.ref aFa, .ref aEm, .ref aVa, .int (nI hn)]))] U.heap ∧ va_K (dC, dI) vwCl [] U ∧ xkE N0 U ∧ N0 ≤ U.heap.size)) xkN := by
  refine tMet.ofW (cc := k_RR_agreement) (maxL := 5) (ret := (some .int)) (by decide) rfl ?_
  intro p e s m args below meth c s₁ B hml htab hv
  obtain ⟨rfl, hP, hK, hE, hN⟩ := hv
  have hx := B.exec
  have hb := B.bytes
  have hts := atoms_spec (ws := ws_RR_agreement) B.pre
  have hown : s.vm.findClass R_RR = some m.cls := findClass_of_methodNamed B.named
  have hlocks := B.notSynchronized
  have hS : va_S (fun _ => False) s.heap s.heap [] := va_S.rf
  have hP : va_P (dC, dI) vwCl [(h, .inr (9, [.ref hPA, .ref hRD, .ref hRB, .ref hPE, .ref hHO, .ref hAG, .ref hLO, .ref hRQ, .ref hEX, .ref aFR])), (hPE, .inr (5, [.ref aRo, .ref aLi, .int (nI en)])), (hHO, .inr (2, [.ref aFa, .ref aEm, .ref aVa, .int (nI hn)]))] s.heap := hP
  have iHO : ∀ w ∈ u_ws R_HO T_HO 4, w ∈ ws_RR_agreement := fun w h => wb_RR_agreement w (in_HO w h)
  have iPE : ∀ w ∈ u_ws R_PE T_PE 3, w ∈ ws_RR_agreement := fun w h => wb_RR_agreement w (in_PE w h)
  have iRR : ∀ w ∈ u_ws R_RR T_RR 10, w ∈ ws_RR_agreement := fun w h => wb_RR_agreement w (in_RR w h)
  have hl := lv_entry ([.ref h, .int x0, .int r, .int f, .int t1]) (n := 5) (Nat.le_of_ble_eq_true rfl)
  rw [lg_entry_eq]
  generalize (lg_sl ([.ref h, .int x0, .int r, .int f, .int t1]) ++ List.replicate (5 - (lg_sl ([.ref h, .int x0, .int r, .int f, .int t1])).length) Slot.unset).toArray = ls at hl ⊢
  have hl : lv_has ls 5 [(0, .ref h), (1, .int x0), (2, .int r), (3, .int f), (4, .int t1)] := hl
  refine lv_aload_n hx hb d_RR_agreement_0 rfl (lv_at hl 0 rfl) ?_
  refine lv_iload_n hx hb d_RR_agreement_1 rfl (lv_at hl 1 rfl) ?_
  have hPc := hP.sub (ws' := [(h, .inr (9, [.ref hPA, .ref hRD, .ref hRB, .ref hPE, .ref hHO, .ref hAG, .ref hLO, .ref hRQ, .ref hEX, .ref aFR])), (hPE, .inr (5, [.ref aRo, .ref aLi, .int (nI en)]))]) [0, 1] rfl
  have hKc := hK.sub (tys' := []) [] rfl
  refine xk_callV (As := [.int x0]) (rest := []) ⟨hx, hb, hml, hown, hts⟩ (t_RR_requirePerson l hst dC dI N0 h hPA hRD hRB hPE hHO hAG hLO hRQ hEX aFR aRo aLi en x0 (by first | assumption | omega)) (cwV 1 hts (vz_gV wb_RR_agreement b_492 b_494 bs_8 b_1 wc_RR_requirePerson) rfl rfl rfl (by decide +kernel) ⟨Nat.le_of_ble_eq_true rfl, Nat.le_of_ble_eq_true rfl⟩) (vz_preVt hPc hKc hE hN hS (ci := 9) (q0 := 0) rfl rfl) rfl rfl hl.1 (Nat.le_of_ble_eq_true rfl) d_RR_agreement_2 ⟨Nat.le_of_ble_eq_true rfl, Nat.le_of_ble_eq_true rfl⟩ (fun q9 H9 hnew => ?_)
  exact xk_out htab hlocks hnew

set_option maxHeartbeats 4000000 in
set_option maxRecDepth 100000 in
theorem t_RR_agreement2 (l : Launch) (hst : l.stackTraces = false) (dC : Nat → ClassId) (dI : Nat → Nat → Nat) (N0 : Nat) (h hPA hRD hRB hPE hHO hAG hLO hRQ hEX aFR : Nat) (aRo aLi : Nat) (en : Nat) (aFa aEm aVa : Nat) (hn : Nat) (hen : en ≤ 12) (u : Nat) (hu : u < en) (x0 : Int32) (hbad : x0 < 0 ∨ nI hn ≤ x0) (f t1 : Int32) : tMet l y_RR_agreement ws_RR_agreement ({ frames := 7, cells := 1, slots := 6, locals := 111 }) (va_Pc [.ref h, .int (nI u), .int x0, .int f, .int t1] (fun U => va_P (dC, dI) vwCl [(h, .inr (9, [.ref hPA, .ref hRD, .ref hRB, .ref hPE, .ref hHO, .ref hAG, .ref hLO, .ref hRQ, .ref hEX, .ref aFR])), (hPE, .inr (5, [.ref aRo, .ref aLi, .int (nI en)])), (hHO, .inr (2, [.ref aFa, .ref aEm, .ref aVa, .int (nI hn)]))] U.heap ∧ va_K (dC, dI) vwCl [] U ∧ xkE N0 U ∧ N0 ≤ U.heap.size)) xkN := by
  refine tMet.ofW (cc := k_RR_agreement) (maxL := 5) (ret := (some .int)) (by decide) rfl ?_
  intro p e s m args below meth c s₁ B hml htab hv
  obtain ⟨rfl, hP, hK, hE, hN⟩ := hv
  have hx := B.exec
  have hb := B.bytes
  have hts := atoms_spec (ws := ws_RR_agreement) B.pre
  have hown : s.vm.findClass R_RR = some m.cls := findClass_of_methodNamed B.named
  have hlocks := B.notSynchronized
  have hS : va_S (fun _ => False) s.heap s.heap [] := va_S.rf
  have hP : va_P (dC, dI) vwCl [(h, .inr (9, [.ref hPA, .ref hRD, .ref hRB, .ref hPE, .ref hHO, .ref hAG, .ref hLO, .ref hRQ, .ref hEX, .ref aFR])), (hPE, .inr (5, [.ref aRo, .ref aLi, .int (nI en)])), (hHO, .inr (2, [.ref aFa, .ref aEm, .ref aVa, .int (nI hn)]))] s.heap := hP
  have iHO : ∀ w ∈ u_ws R_HO T_HO 4, w ∈ ws_RR_agreement := fun w h => wb_RR_agreement w (in_HO w h)
  have iPE : ∀ w ∈ u_ws R_PE T_PE 3, w ∈ ws_RR_agreement := fun w h => wb_RR_agreement w (in_PE w h)
  have iRR : ∀ w ∈ u_ws R_RR T_RR 10, w ∈ ws_RR_agreement := fun w h => wb_RR_agreement w (in_RR w h)
  have hl := lv_entry ([.ref h, .int (nI u), .int x0, .int f, .int t1]) (n := 5) (Nat.le_of_ble_eq_true rfl)
  rw [lg_entry_eq]
  generalize (lg_sl ([.ref h, .int (nI u), .int x0, .int f, .int t1]) ++ List.replicate (5 - (lg_sl ([.ref h, .int (nI u), .int x0, .int f, .int t1])).length) Slot.unset).toArray = ls at hl ⊢
  have hl : lv_has ls 5 [(0, .ref h), (1, .int (nI u)), (2, .int x0), (3, .int f), (4, .int t1)] := hl
  refine lv_aload_n hx hb d_RR_agreement_0 rfl (lv_at hl 0 rfl) ?_
  refine lv_iload_n hx hb d_RR_agreement_1 rfl (lv_at hl 1 rfl) ?_
  have hPc := hP.sub (ws' := [(h, .inr (9, [.ref hPA, .ref hRD, .ref hRB, .ref hPE, .ref hHO, .ref hAG, .ref hLO, .ref hRQ, .ref hEX, .ref aFR])), (hPE, .inr (5, [.ref aRo, .ref aLi, .int (nI en)]))]) [0, 1] rfl
  have hKc := hK.sub (tys' := []) [] rfl
  refine va_callv (va_runV (As := [.int (nI u)]) (rest := []) ⟨hx, hb, hml, hown, hts⟩ (c_RR_requirePerson l dC dI h hPA hRD hRB hPE hHO hAG hLO hRQ hEX aFR aRo aLi en (by first | assumption | omega) u (by first | assumption | omega)) (cwV 1 hts (vz_gV wb_RR_agreement b_492 b_494 bs_8 b_1 wc_RR_requirePerson) rfl rfl rfl (by decide +kernel) ⟨Nat.le_of_ble_eq_true rfl, Nat.le_of_ble_eq_true rfl⟩) (vz_preV hPc hKc (ci := 9) (q0 := 0) rfl rfl) rfl rfl hl.1 rfl (lv_room (Nat.le_of_ble_eq_true rfl)) d_RR_agreement_2 ⟨Nat.le_of_ble_eq_true rfl, Nat.le_of_ble_eq_true rfl⟩) hS (fun q _ h => False.elim h) (fun q h => False.elim h) (fun u9 t9 H1 locs ht hvm hr2 hB hzx9 hkx9 hS => ?_)
  try dsimp only at hr2
  have hP := vz_kept hP hkx9
  generalize H1 = H at hP hS ⊢
  obtain rfl : locs = [] := List.eq_nil_iff_forall_not_mem.mpr (fun x hx => hS.2.2 x hx)
  refine lv_aload_n hx hb d_RR_agreement_5 rfl (lv_at hl 0 rfl) ?_
  refine lv_iload_n hx hb d_RR_agreement_6 rfl (lv_at hl 2 rfl) ?_
  have hPc := hP.sub (ws' := [(h, .inr (9, [.ref hPA, .ref hRD, .ref hRB, .ref hPE, .ref hHO, .ref hAG, .ref hLO, .ref hRQ, .ref hEX, .ref aFR])), (hHO, .inr (2, [.ref aFa, .ref aEm, .ref aVa, .int (nI hn)]))]) [0, 2] rfl
  have hKc := hK.sub (tys' := []) [] rfl
  refine xk_callV (As := [.int x0]) (rest := []) ⟨hx, hb, hml, hown, hts⟩ (t_RR_requireRecord l hst dC dI N0 h hPA hRD hRB hPE hHO hAG hLO hRQ hEX aFR aFa aEm aVa hn x0 (by first | assumption | omega)) (cwV 1 hts (vz_gV wb_RR_agreement b_456 b_458 bs_7 b_1 wc_RR_requireRecord) rfl rfl rfl (by decide +kernel) ⟨Nat.le_of_ble_eq_true rfl, Nat.le_of_ble_eq_true rfl⟩) (vz_preVt hPc hKc hE hN hS (ci := 9) (q0 := 0) rfl rfl) rfl rfl hl.1 (Nat.le_of_ble_eq_true rfl) d_RR_agreement_7 ⟨Nat.le_of_ble_eq_true rfl, Nat.le_of_ble_eq_true rfl⟩ (fun q9 H9 hnew => ?_)
  exact xk_out htab hlocks hnew

set_option maxHeartbeats 4000000 in
set_option maxRecDepth 100000 in
theorem t_RR_agreement3 (l : Launch) (hst : l.stackTraces = false) (dC : Nat → ClassId) (dI : Nat → Nat → Nat) (N0 : Nat) (h hPA hRD hRB hPE hHO hAG hLO hRQ hEX aFR : Nat) (aRo aLi : Nat) (en : Nat) (aFa aEm aVa : Nat) (hn : Nat) (hen : en ≤ 12) (u : Nat) (hu : u < en) (hhn : hn ≤ 16) (r : Nat) (hr : r < hn) (x0 : Int32) (hbad : x0 < 0 ∨ 100000 < x0) (t1 : Int32) : tMet l y_RR_agreement ws_RR_agreement ({ frames := 7, cells := 1, slots := 6, locals := 110 }) (va_Pc [.ref h, .int (nI u), .int (nI r), .int x0, .int t1] (fun U => va_P (dC, dI) vwCl [(h, .inr (9, [.ref hPA, .ref hRD, .ref hRB, .ref hPE, .ref hHO, .ref hAG, .ref hLO, .ref hRQ, .ref hEX, .ref aFR])), (hPE, .inr (5, [.ref aRo, .ref aLi, .int (nI en)])), (hHO, .inr (2, [.ref aFa, .ref aEm, .ref aVa, .int (nI hn)]))] U.heap ∧ va_K (dC, dI) vwCl [] U ∧ xkE N0 U ∧ N0 ≤ U.heap.size)) "java/lang/IllegalArgumentException" := by
  refine tMet.ofW (cc := k_RR_agreement) (maxL := 5) (ret := (some .int)) (by decide) rfl ?_
  intro p e s m args below meth c s₁ B hml htab hv
  obtain ⟨rfl, hP, hK, hE, hN⟩ := hv
  have hx := B.exec
  have hb := B.bytes
  have hts := atoms_spec (ws := ws_RR_agreement) B.pre
  have hown : s.vm.findClass R_RR = some m.cls := findClass_of_methodNamed B.named
  have hlocks := B.notSynchronized
  have hS : va_S (fun _ => False) s.heap s.heap [] := va_S.rf
  have hP : va_P (dC, dI) vwCl [(h, .inr (9, [.ref hPA, .ref hRD, .ref hRB, .ref hPE, .ref hHO, .ref hAG, .ref hLO, .ref hRQ, .ref hEX, .ref aFR])), (hPE, .inr (5, [.ref aRo, .ref aLi, .int (nI en)])), (hHO, .inr (2, [.ref aFa, .ref aEm, .ref aVa, .int (nI hn)]))] s.heap := hP
  have iHO : ∀ w ∈ u_ws R_HO T_HO 4, w ∈ ws_RR_agreement := fun w h => wb_RR_agreement w (in_HO w h)
  have iPE : ∀ w ∈ u_ws R_PE T_PE 3, w ∈ ws_RR_agreement := fun w h => wb_RR_agreement w (in_PE w h)
  have iRR : ∀ w ∈ u_ws R_RR T_RR 10, w ∈ ws_RR_agreement := fun w h => wb_RR_agreement w (in_RR w h)
  have hl := lv_entry ([.ref h, .int (nI u), .int (nI r), .int x0, .int t1]) (n := 5) (Nat.le_of_ble_eq_true rfl)
  rw [lg_entry_eq]
  generalize (lg_sl ([.ref h, .int (nI u), .int (nI r), .int x0, .int t1]) ++ List.replicate (5 - (lg_sl ([.ref h, .int (nI u), .int (nI r), .int x0, .int t1])).length) Slot.unset).toArray = ls at hl ⊢
  have hl : lv_has ls 5 [(0, .ref h), (1, .int (nI u)), (2, .int (nI r)), (3, .int x0), (4, .int t1)] := hl
  refine lv_aload_n hx hb d_RR_agreement_0 rfl (lv_at hl 0 rfl) ?_
  refine lv_iload_n hx hb d_RR_agreement_1 rfl (lv_at hl 1 rfl) ?_
  have hPc := hP.sub (ws' := [(h, .inr (9, [.ref hPA, .ref hRD, .ref hRB, .ref hPE, .ref hHO, .ref hAG, .ref hLO, .ref hRQ, .ref hEX, .ref aFR])), (hPE, .inr (5, [.ref aRo, .ref aLi, .int (nI en)]))]) [0, 1] rfl
  have hKc := hK.sub (tys' := []) [] rfl
  refine va_callv (va_runV (As := [.int (nI u)]) (rest := []) ⟨hx, hb, hml, hown, hts⟩ (c_RR_requirePerson l dC dI h hPA hRD hRB hPE hHO hAG hLO hRQ hEX aFR aRo aLi en (by first | assumption | omega) u (by first | assumption | omega)) (cwV 1 hts (vz_gV wb_RR_agreement b_492 b_494 bs_8 b_1 wc_RR_requirePerson) rfl rfl rfl (by decide +kernel) ⟨Nat.le_of_ble_eq_true rfl, Nat.le_of_ble_eq_true rfl⟩) (vz_preV hPc hKc (ci := 9) (q0 := 0) rfl rfl) rfl rfl hl.1 rfl (lv_room (Nat.le_of_ble_eq_true rfl)) d_RR_agreement_2 ⟨Nat.le_of_ble_eq_true rfl, Nat.le_of_ble_eq_true rfl⟩) hS (fun q _ h => False.elim h) (fun q h => False.elim h) (fun u9 t9 H1 locs ht hvm hr2 hB hzx9 hkx9 hS => ?_)
  try dsimp only at hr2
  have hP := vz_kept hP hkx9
  generalize H1 = H at hP hS ⊢
  obtain rfl : locs = [] := List.eq_nil_iff_forall_not_mem.mpr (fun x hx => hS.2.2 x hx)
  refine lv_aload_n hx hb d_RR_agreement_5 rfl (lv_at hl 0 rfl) ?_
  refine lv_iload_n hx hb d_RR_agreement_6 rfl (lv_at hl 2 rfl) ?_
  have hPc := hP.sub (ws' := [(h, .inr (9, [.ref hPA, .ref hRD, .ref hRB, .ref hPE, .ref hHO, .ref hAG, .ref hLO, .ref hRQ, .ref hEX, .ref aFR])), (hHO, .inr (2, [.ref aFa, .ref aEm, .ref aVa, .int (nI hn)]))]) [0, 2] rfl
  have hKc := hK.sub (tys' := []) [] rfl
  refine va_callv (va_runV (As := [.int (nI r)]) (rest := []) ⟨hx, hb, hml, hown, hts⟩ (c_RR_requireRecord l dC dI h hPA hRD hRB hPE hHO hAG hLO hRQ hEX aFR aFa aEm aVa hn (by first | assumption | omega) r (by first | assumption | omega)) (cwV 1 hts (vz_gV wb_RR_agreement b_456 b_458 bs_7 b_1 wc_RR_requireRecord) rfl rfl rfl (by decide +kernel) ⟨Nat.le_of_ble_eq_true rfl, Nat.le_of_ble_eq_true rfl⟩) (vz_preV hPc hKc (ci := 9) (q0 := 0) rfl rfl) rfl rfl hl.1 rfl (lv_room (Nat.le_of_ble_eq_true rfl)) d_RR_agreement_7 ⟨Nat.le_of_ble_eq_true rfl, Nat.le_of_ble_eq_true rfl⟩) hS (fun q _ h => False.elim h) (fun q h => False.elim h) (fun u9 t9 H1 locs ht hvm hr7 hB hzx9 hkx9 hS => ?_)
  try dsimp only at hr7
  have hP := vz_kept hP hkx9
  generalize H1 = H at hP hS ⊢
  obtain rfl : locs = [] := List.eq_nil_iff_forall_not_mem.mpr (fun x hx => hS.2.2 x hx)
  refine lv_iload_n hx hb d_RR_agreement_10 rfl (lv_at hl 3 rfl) ?_
  have hPc := hP.sub (ws' := []) [] rfl
  have hKc := hK.sub (tys' := []) [] rfl
  refine xk_callS (As := [.int x0]) (rest := []) ⟨hx, hb, hml, hown, hts⟩ (t_RR_requireDay l hst dC dI N0 x0 (by first | assumption | omega)) (va_cwS 1 hts (vz_gS wb_RR_agreement b_480 b_481 b_1 wc_RR_requireDay) rfl rfl rfl (by decide +kernel) ⟨Nat.le_of_ble_eq_true rfl, Nat.le_of_ble_eq_true rfl⟩) (vz_preSt hPc hKc hE hN hS) rfl rfl hl.1 (Nat.le_of_ble_eq_true rfl) d_RR_agreement_11 ⟨Nat.le_of_ble_eq_true rfl, Nat.le_of_ble_eq_true rfl⟩ (fun q9 H9 hnew => ?_)
  exact xk_out htab hlocks hnew

set_option maxHeartbeats 4000000 in
set_option maxRecDepth 100000 in
theorem t_RR_agreement4 (l : Launch) (hst : l.stackTraces = false) (dC : Nat → ClassId) (dI : Nat → Nat → Nat) (N0 : Nat) (h hPA hRD hRB hPE hHO hAG hLO hRQ hEX aFR : Nat) (aRo aLi : Nat) (en : Nat) (aFa aEm aVa : Nat) (hn : Nat) (hen : en ≤ 12) (u : Nat) (hu : u < en) (hhn : hn ≤ 16) (r : Nat) (hr : r < hn) (f : Int32) (hf0 : ¬ f < 0) (hf1 : f ≤ 100000) (x0 : Int32) (hbad : x0 < 0 ∨ 100000 < x0) : tMet l y_RR_agreement ws_RR_agreement ({ frames := 7, cells := 1, slots := 6, locals := 110 }) (va_Pc [.ref h, .int (nI u), .int (nI r), .int f, .int x0] (fun U => va_P (dC, dI) vwCl [(h, .inr (9, [.ref hPA, .ref hRD, .ref hRB, .ref hPE, .ref hHO, .ref hAG, .ref hLO, .ref hRQ, .ref hEX, .ref aFR])), (hPE, .inr (5, [.ref aRo, .ref aLi, .int (nI en)])), (hHO, .inr (2, [.ref aFa, .ref aEm, .ref aVa, .int (nI hn)]))] U.heap ∧ va_K (dC, dI) vwCl [] U ∧ xkE N0 U ∧ N0 ≤ U.heap.size)) "java/lang/IllegalArgumentException" := by
  refine tMet.ofW (cc := k_RR_agreement) (maxL := 5) (ret := (some .int)) (by decide) rfl ?_
  intro p e s m args below meth c s₁ B hml htab hv
  obtain ⟨rfl, hP, hK, hE, hN⟩ := hv
  have hx := B.exec
  have hb := B.bytes
  have hts := atoms_spec (ws := ws_RR_agreement) B.pre
  have hown : s.vm.findClass R_RR = some m.cls := findClass_of_methodNamed B.named
  have hlocks := B.notSynchronized
  have hS : va_S (fun _ => False) s.heap s.heap [] := va_S.rf
  have hP : va_P (dC, dI) vwCl [(h, .inr (9, [.ref hPA, .ref hRD, .ref hRB, .ref hPE, .ref hHO, .ref hAG, .ref hLO, .ref hRQ, .ref hEX, .ref aFR])), (hPE, .inr (5, [.ref aRo, .ref aLi, .int (nI en)])), (hHO, .inr (2, [.ref aFa, .ref aEm, .ref aVa, .int (nI hn)]))] s.heap := hP
  have iHO : ∀ w ∈ u_ws R_HO T_HO 4, w ∈ ws_RR_agreement := fun w h => wb_RR_agreement w (in_HO w h)
  have iPE : ∀ w ∈ u_ws R_PE T_PE 3, w ∈ ws_RR_agreement := fun w h => wb_RR_agreement w (in_PE w h)
  have iRR : ∀ w ∈ u_ws R_RR T_RR 10, w ∈ ws_RR_agreement := fun w h => wb_RR_agreement w (in_RR w h)
  have hl := lv_entry ([.ref h, .int (nI u), .int (nI r), .int f, .int x0]) (n := 5) (Nat.le_of_ble_eq_true rfl)
  rw [lg_entry_eq]
  generalize (lg_sl ([.ref h, .int (nI u), .int (nI r), .int f, .int x0]) ++ List.replicate (5 - (lg_sl ([.ref h, .int (nI u), .int (nI r), .int f, .int x0])).length) Slot.unset).toArray = ls at hl ⊢
  have hl : lv_has ls 5 [(0, .ref h), (1, .int (nI u)), (2, .int (nI r)), (3, .int f), (4, .int x0)] := hl
  refine lv_aload_n hx hb d_RR_agreement_0 rfl (lv_at hl 0 rfl) ?_
  refine lv_iload_n hx hb d_RR_agreement_1 rfl (lv_at hl 1 rfl) ?_
  have hPc := hP.sub (ws' := [(h, .inr (9, [.ref hPA, .ref hRD, .ref hRB, .ref hPE, .ref hHO, .ref hAG, .ref hLO, .ref hRQ, .ref hEX, .ref aFR])), (hPE, .inr (5, [.ref aRo, .ref aLi, .int (nI en)]))]) [0, 1] rfl
  have hKc := hK.sub (tys' := []) [] rfl
  refine va_callv (va_runV (As := [.int (nI u)]) (rest := []) ⟨hx, hb, hml, hown, hts⟩ (c_RR_requirePerson l dC dI h hPA hRD hRB hPE hHO hAG hLO hRQ hEX aFR aRo aLi en (by first | assumption | omega) u (by first | assumption | omega)) (cwV 1 hts (vz_gV wb_RR_agreement b_492 b_494 bs_8 b_1 wc_RR_requirePerson) rfl rfl rfl (by decide +kernel) ⟨Nat.le_of_ble_eq_true rfl, Nat.le_of_ble_eq_true rfl⟩) (vz_preV hPc hKc (ci := 9) (q0 := 0) rfl rfl) rfl rfl hl.1 rfl (lv_room (Nat.le_of_ble_eq_true rfl)) d_RR_agreement_2 ⟨Nat.le_of_ble_eq_true rfl, Nat.le_of_ble_eq_true rfl⟩) hS (fun q _ h => False.elim h) (fun q h => False.elim h) (fun u9 t9 H1 locs ht hvm hr2 hB hzx9 hkx9 hS => ?_)
  try dsimp only at hr2
  have hP := vz_kept hP hkx9
  generalize H1 = H at hP hS ⊢
  obtain rfl : locs = [] := List.eq_nil_iff_forall_not_mem.mpr (fun x hx => hS.2.2 x hx)
  refine lv_aload_n hx hb d_RR_agreement_5 rfl (lv_at hl 0 rfl) ?_
  refine lv_iload_n hx hb d_RR_agreement_6 rfl (lv_at hl 2 rfl) ?_
  have hPc := hP.sub (ws' := [(h, .inr (9, [.ref hPA, .ref hRD, .ref hRB, .ref hPE, .ref hHO, .ref hAG, .ref hLO, .ref hRQ, .ref hEX, .ref aFR])), (hHO, .inr (2, [.ref aFa, .ref aEm, .ref aVa, .int (nI hn)]))]) [0, 2] rfl
  have hKc := hK.sub (tys' := []) [] rfl
  refine va_callv (va_runV (As := [.int (nI r)]) (rest := []) ⟨hx, hb, hml, hown, hts⟩ (c_RR_requireRecord l dC dI h hPA hRD hRB hPE hHO hAG hLO hRQ hEX aFR aFa aEm aVa hn (by first | assumption | omega) r (by first | assumption | omega)) (cwV 1 hts (vz_gV wb_RR_agreement b_456 b_458 bs_7 b_1 wc_RR_requireRecord) rfl rfl rfl (by decide +kernel) ⟨Nat.le_of_ble_eq_true rfl, Nat.le_of_ble_eq_true rfl⟩) (vz_preV hPc hKc (ci := 9) (q0 := 0) rfl rfl) rfl rfl hl.1 rfl (lv_room (Nat.le_of_ble_eq_true rfl)) d_RR_agreement_7 ⟨Nat.le_of_ble_eq_true rfl, Nat.le_of_ble_eq_true rfl⟩) hS (fun q _ h => False.elim h) (fun q h => False.elim h) (fun u9 t9 H1 locs ht hvm hr7 hB hzx9 hkx9 hS => ?_)
  try dsimp only at hr7
  have hP := vz_kept hP hkx9
  generalize H1 = H at hP hS ⊢
  obtain rfl : locs = [] := List.eq_nil_iff_forall_not_mem.mpr (fun x hx => hS.2.2 x hx)
  refine lv_iload_n hx hb d_RR_agreement_10 rfl (lv_at hl 3 rfl) ?_
  have hPc := hP.sub (ws' := []) [] rfl
  have hKc := hK.sub (tys' := []) [] rfl
  refine va_callv (va_runS (As := [.int f]) (rest := []) ⟨hx, hb, hml, hown, hts⟩ (c_RR_requireDay l dC dI f (by first | assumption | omega) (by first | assumption | omega)) (va_cwS 1 hts (vz_gS wb_RR_agreement b_480 b_481 b_1 wc_RR_requireDay) rfl rfl rfl (by decide +kernel) ⟨Nat.le_of_ble_eq_true rfl, Nat.le_of_ble_eq_true rfl⟩) (vz_preS hPc hKc) rfl rfl hl.1 rfl (lv_room (Nat.le_of_ble_eq_true rfl)) d_RR_agreement_11 ⟨Nat.le_of_ble_eq_true rfl, Nat.le_of_ble_eq_true rfl⟩) hS (fun q _ h => False.elim h) (fun q h => False.elim h) (fun u9 t9 H1 locs ht hvm hr11 hB hzx9 hkx9 hS => ?_)
  try dsimp only at hr11
  have hP := vz_kept hP hkx9
  generalize H1 = H at hP hS ⊢
  obtain rfl : locs = [] := List.eq_nil_iff_forall_not_mem.mpr (fun x hx => hS.2.2 x hx)
  refine lv_iload hx hb d_RR_agreement_14 (lv_at hl 4 rfl) ?_
  have hPc := hP.sub (ws' := []) [] rfl
  have hKc := hK.sub (tys' := []) [] rfl
  refine xk_callS (As := [.int x0]) (rest := []) ⟨hx, hb, hml, hown, hts⟩ (t_RR_requireDay l hst dC dI N0 x0 (by first | assumption | omega)) (va_cwS 1 hts (vz_gS wb_RR_agreement b_480 b_481 b_1 wc_RR_requireDay) rfl rfl rfl (by decide +kernel) ⟨Nat.le_of_ble_eq_true rfl, Nat.le_of_ble_eq_true rfl⟩) (vz_preSt hPc hKc hE hN hS) rfl rfl hl.1 (Nat.le_of_ble_eq_true rfl) d_RR_agreement_16 ⟨Nat.le_of_ble_eq_true rfl, Nat.le_of_ble_eq_true rfl⟩ (fun q9 H9 hnew => ?_)
  exact xk_out htab hlocks hnew

set_option maxHeartbeats 4000000 in
set_option maxRecDepth 100000 in
theorem t_RR_agreement5 (l : Launch) (hst : l.stackTraces = false) (dC : Nat → ClassId) (dI : Nat → Nat → Nat) (N0 : Nat) (h hPA hRD hRB hPE hHO hAG hLO hRQ hEX aFR : Nat) (aRo aLi : Nat) (en : Nat) (aFa aEm aVa : Nat) (hn : Nat) (hen : en ≤ 12) (u : Nat) (hu : u < en) (hhn : hn ≤ 16) (r : Nat) (hr : r < hn) (f : Int32) (hf0 : ¬ f < 0) (hf1 : f ≤ 100000) (t1 : Int32) (ht0 : ¬ t1 < 0) (ht1 : t1 ≤ 100000) (hbad : ¬ f ≤ t1) : tMet l y_RR_agreement ws_RR_agreement ({ frames := 6, cells := 1, slots := 6, locals := 90 }) (va_Pc [.ref h, .int (nI u), .int (nI r), .int f, .int t1] (fun U => va_P (dC, dI) vwCl [(h, .inr (9, [.ref hPA, .ref hRD, .ref hRB, .ref hPE, .ref hHO, .ref hAG, .ref hLO, .ref hRQ, .ref hEX, .ref aFR])), (hPE, .inr (5, [.ref aRo, .ref aLi, .int (nI en)])), (hHO, .inr (2, [.ref aFa, .ref aEm, .ref aVa, .int (nI hn)]))] U.heap ∧ va_K (dC, dI) vwCl [] U ∧ xkE N0 U ∧ N0 ≤ U.heap.size)) "java/lang/IllegalArgumentException" := by
  refine tMet.ofW (cc := k_RR_agreement) (maxL := 5) (ret := (some .int)) (by decide) rfl ?_
  intro p e s m args below meth c s₁ B hml htab hv
  obtain ⟨rfl, hP, hK, hE, hN⟩ := hv
  have hx := B.exec
  have hb := B.bytes
  have hts := atoms_spec (ws := ws_RR_agreement) B.pre
  have hown : s.vm.findClass R_RR = some m.cls := findClass_of_methodNamed B.named
  have hlocks := B.notSynchronized
  have hS : va_S (fun _ => False) s.heap s.heap [] := va_S.rf
  have hP : va_P (dC, dI) vwCl [(h, .inr (9, [.ref hPA, .ref hRD, .ref hRB, .ref hPE, .ref hHO, .ref hAG, .ref hLO, .ref hRQ, .ref hEX, .ref aFR])), (hPE, .inr (5, [.ref aRo, .ref aLi, .int (nI en)])), (hHO, .inr (2, [.ref aFa, .ref aEm, .ref aVa, .int (nI hn)]))] s.heap := hP
  have iHO : ∀ w ∈ u_ws R_HO T_HO 4, w ∈ ws_RR_agreement := fun w h => wb_RR_agreement w (in_HO w h)
  have iPE : ∀ w ∈ u_ws R_PE T_PE 3, w ∈ ws_RR_agreement := fun w h => wb_RR_agreement w (in_PE w h)
  have iRR : ∀ w ∈ u_ws R_RR T_RR 10, w ∈ ws_RR_agreement := fun w h => wb_RR_agreement w (in_RR w h)
  have hl := lv_entry ([.ref h, .int (nI u), .int (nI r), .int f, .int t1]) (n := 5) (Nat.le_of_ble_eq_true rfl)
  rw [lg_entry_eq]
  generalize (lg_sl ([.ref h, .int (nI u), .int (nI r), .int f, .int t1]) ++ List.replicate (5 - (lg_sl ([.ref h, .int (nI u), .int (nI r), .int f, .int t1])).length) Slot.unset).toArray = ls at hl ⊢
  have hl : lv_has ls 5 [(0, .ref h), (1, .int (nI u)), (2, .int (nI r)), (3, .int f), (4, .int t1)] := hl
  refine lv_aload_n hx hb d_RR_agreement_0 rfl (lv_at hl 0 rfl) ?_
  refine lv_iload_n hx hb d_RR_agreement_1 rfl (lv_at hl 1 rfl) ?_
  have hPc := hP.sub (ws' := [(h, .inr (9, [.ref hPA, .ref hRD, .ref hRB, .ref hPE, .ref hHO, .ref hAG, .ref hLO, .ref hRQ, .ref hEX, .ref aFR])), (hPE, .inr (5, [.ref aRo, .ref aLi, .int (nI en)]))]) [0, 1] rfl
  have hKc := hK.sub (tys' := []) [] rfl
  refine va_callv (va_runV (As := [.int (nI u)]) (rest := []) ⟨hx, hb, hml, hown, hts⟩ (c_RR_requirePerson l dC dI h hPA hRD hRB hPE hHO hAG hLO hRQ hEX aFR aRo aLi en (by first | assumption | omega) u (by first | assumption | omega)) (cwV 1 hts (vz_gV wb_RR_agreement b_492 b_494 bs_8 b_1 wc_RR_requirePerson) rfl rfl rfl (by decide +kernel) ⟨Nat.le_of_ble_eq_true rfl, Nat.le_of_ble_eq_true rfl⟩) (vz_preV hPc hKc (ci := 9) (q0 := 0) rfl rfl) rfl rfl hl.1 rfl (lv_room (Nat.le_of_ble_eq_true rfl)) d_RR_agreement_2 ⟨Nat.le_of_ble_eq_true rfl, Nat.le_of_ble_eq_true rfl⟩) hS (fun q _ h => False.elim h) (fun q h => False.elim h) (fun u9 t9 H1 locs ht hvm hr2 hB hzx9 hkx9 hS => ?_)
  try dsimp only at hr2
  have hP := vz_kept hP hkx9
  generalize H1 = H at hP hS ⊢
  obtain rfl : locs = [] := List.eq_nil_iff_forall_not_mem.mpr (fun x hx => hS.2.2 x hx)
  refine lv_aload_n hx hb d_RR_agreement_5 rfl (lv_at hl 0 rfl) ?_
  refine lv_iload_n hx hb d_RR_agreement_6 rfl (lv_at hl 2 rfl) ?_
  have hPc := hP.sub (ws' := [(h, .inr (9, [.ref hPA, .ref hRD, .ref hRB, .ref hPE, .ref hHO, .ref hAG, .ref hLO, .ref hRQ, .ref hEX, .ref aFR])), (hHO, .inr (2, [.ref aFa, .ref aEm, .ref aVa, .int (nI hn)]))]) [0, 2] rfl
  have hKc := hK.sub (tys' := []) [] rfl
  refine va_callv (va_runV (As := [.int (nI r)]) (rest := []) ⟨hx, hb, hml, hown, hts⟩ (c_RR_requireRecord l dC dI h hPA hRD hRB hPE hHO hAG hLO hRQ hEX aFR aFa aEm aVa hn (by first | assumption | omega) r (by first | assumption | omega)) (cwV 1 hts (vz_gV wb_RR_agreement b_456 b_458 bs_7 b_1 wc_RR_requireRecord) rfl rfl rfl (by decide +kernel) ⟨Nat.le_of_ble_eq_true rfl, Nat.le_of_ble_eq_true rfl⟩) (vz_preV hPc hKc (ci := 9) (q0 := 0) rfl rfl) rfl rfl hl.1 rfl (lv_room (Nat.le_of_ble_eq_true rfl)) d_RR_agreement_7 ⟨Nat.le_of_ble_eq_true rfl, Nat.le_of_ble_eq_true rfl⟩) hS (fun q _ h => False.elim h) (fun q h => False.elim h) (fun u9 t9 H1 locs ht hvm hr7 hB hzx9 hkx9 hS => ?_)
  try dsimp only at hr7
  have hP := vz_kept hP hkx9
  generalize H1 = H at hP hS ⊢
  obtain rfl : locs = [] := List.eq_nil_iff_forall_not_mem.mpr (fun x hx => hS.2.2 x hx)
  refine lv_iload_n hx hb d_RR_agreement_10 rfl (lv_at hl 3 rfl) ?_
  have hPc := hP.sub (ws' := []) [] rfl
  have hKc := hK.sub (tys' := []) [] rfl
  refine va_callv (va_runS (As := [.int f]) (rest := []) ⟨hx, hb, hml, hown, hts⟩ (c_RR_requireDay l dC dI f (by first | assumption | omega) (by first | assumption | omega)) (va_cwS 1 hts (vz_gS wb_RR_agreement b_480 b_481 b_1 wc_RR_requireDay) rfl rfl rfl (by decide +kernel) ⟨Nat.le_of_ble_eq_true rfl, Nat.le_of_ble_eq_true rfl⟩) (vz_preS hPc hKc) rfl rfl hl.1 rfl (lv_room (Nat.le_of_ble_eq_true rfl)) d_RR_agreement_11 ⟨Nat.le_of_ble_eq_true rfl, Nat.le_of_ble_eq_true rfl⟩) hS (fun q _ h => False.elim h) (fun q h => False.elim h) (fun u9 t9 H1 locs ht hvm hr11 hB hzx9 hkx9 hS => ?_)
  try dsimp only at hr11
  have hP := vz_kept hP hkx9
  generalize H1 = H at hP hS ⊢
  obtain rfl : locs = [] := List.eq_nil_iff_forall_not_mem.mpr (fun x hx => hS.2.2 x hx)
  refine lv_iload hx hb d_RR_agreement_14 (lv_at hl 4 rfl) ?_
  have hPc := hP.sub (ws' := []) [] rfl
  have hKc := hK.sub (tys' := []) [] rfl
  refine va_callv (va_runS (As := [.int t1]) (rest := []) ⟨hx, hb, hml, hown, hts⟩ (c_RR_requireDay l dC dI t1 (by first | assumption | omega) (by first | assumption | omega)) (va_cwS 1 hts (vz_gS wb_RR_agreement b_480 b_481 b_1 wc_RR_requireDay) rfl rfl rfl (by decide +kernel) ⟨Nat.le_of_ble_eq_true rfl, Nat.le_of_ble_eq_true rfl⟩) (vz_preS hPc hKc) rfl rfl hl.1 rfl (lv_room (Nat.le_of_ble_eq_true rfl)) d_RR_agreement_16 ⟨Nat.le_of_ble_eq_true rfl, Nat.le_of_ble_eq_true rfl⟩) hS (fun q _ h => False.elim h) (fun q h => False.elim h) (fun u9 t9 H1 locs ht hvm hr16 hB hzx9 hkx9 hS => ?_)
  try dsimp only at hr16
  have hP := vz_kept hP hkx9
  generalize H1 = H at hP hS ⊢
  obtain rfl : locs = [] := List.eq_nil_iff_forall_not_mem.mpr (fun x hx => hS.2.2 x hx)
  refine lv_iload_n hx hb d_RR_agreement_19 rfl (lv_at hl 3 rfl) ?_
  refine lv_iload hx hb d_RR_agreement_20 (lv_at hl 4 rfl) ?_
  refine lv_icmp_le (tgt := 35) hx hb d_RR_agreement_22 (by decide) (fun c22 => ?_) (fun c22 => ?_)
  · exact absurd c22 hbad
  · obtain ⟨sa, hsa⟩ := hE.2.2.2 (167, "an agreement ends before it begins") (by decide)
    exact xk_throwG (cls := "java/lang/IllegalArgumentException") hx hb hown (hts _ (wb_RR_agreement _ b_414)) (hts _ (wb_RR_agreement _ b_17)) (hts _ (wb_RR_agreement _ b_415)) d_RR_agreement_25 d_RR_agreement_28 (Nat.le_of_ble_eq_true rfl) (Nat.le_of_ble_eq_true rfl) (xk_ld hx hb hown hsa d_RR_agreement_29) (xk_ct hx hb hst hown (by decide) (xk_words (fun w h => hts w (wb_RR_agreement w h)) hE at_IAE) (hl.1.trans hml.symm) d_RR_agreement_31 d_RR_agreement_34 htab (Nat.le_of_ble_eq_true rfl) (Nat.le_of_ble_eq_true rfl) hlocks)

set_option maxHeartbeats 4000000 in
set_option maxRecDepth 100000 in
theorem t_RR_agreement6 (l : Launch) (hst : l.stackTraces = false) (dC : Nat → ClassId) (dI : Nat → Nat → Nat) (N0 : Nat) (h hPA hRD hRB hPE hHO hAG hLO hRQ hEX aFR : Nat) (aRo aLi : Nat) (en : Nat) (aFa aEm aVa : Nat) (hn : Nat) (aAP aAR aAF aAT : Nat) (an : Nat) (hen : en ≤ 12) (u : Nat) (hu : u < en) (hhn : hn ≤ 16) (r : Nat) (hr : r < hn) (f : Int32) (hf0 : ¬ f < 0) (hf1 : f ≤ 100000) (t1 : Int32) (ht0 : ¬ t1 < 0) (ht1 : t1 ≤ 100000) (hft : f ≤ t1) (han : an ≤ 40) (hbad : 40 ≤ an) : tMet l y_RR_agreement ws_RR_agreement ({ frames := 6, cells := 1, slots := 6, locals := 90 }) (va_Pc [.ref h, .int (nI u), .int (nI r), .int f, .int t1] (fun U => va_P (dC, dI) vwCl [(h, .inr (9, [.ref hPA, .ref hRD, .ref hRB, .ref hPE, .ref hHO, .ref hAG, .ref hLO, .ref hRQ, .ref hEX, .ref aFR])), (hPE, .inr (5, [.ref aRo, .ref aLi, .int (nI en)])), (hHO, .inr (2, [.ref aFa, .ref aEm, .ref aVa, .int (nI hn)])), (hAG, .inr (0, [.ref aAP, .ref aAR, .ref aAF, .ref aAT, .int (nI an)]))] U.heap ∧ va_K (dC, dI) vwCl [] U ∧ xkE N0 U ∧ N0 ≤ U.heap.size)) "java/lang/IllegalStateException" := by
  refine tMet.ofW (cc := k_RR_agreement) (maxL := 5) (ret := (some .int)) (by decide) rfl ?_
  intro p e s m args below meth c s₁ B hml htab hv
  obtain ⟨rfl, hP, hK, hE, hN⟩ := hv
  have hx := B.exec
  have hb := B.bytes
  have hts := atoms_spec (ws := ws_RR_agreement) B.pre
  have hown : s.vm.findClass R_RR = some m.cls := findClass_of_methodNamed B.named
  have hlocks := B.notSynchronized
  have hS : va_S (fun _ => False) s.heap s.heap [] := va_S.rf
  have hP : va_P (dC, dI) vwCl [(h, .inr (9, [.ref hPA, .ref hRD, .ref hRB, .ref hPE, .ref hHO, .ref hAG, .ref hLO, .ref hRQ, .ref hEX, .ref aFR])), (hPE, .inr (5, [.ref aRo, .ref aLi, .int (nI en)])), (hHO, .inr (2, [.ref aFa, .ref aEm, .ref aVa, .int (nI hn)])), (hAG, .inr (0, [.ref aAP, .ref aAR, .ref aAF, .ref aAT, .int (nI an)]))] s.heap := hP
  have iAG : ∀ w ∈ u_ws R_AG T_AG 5, w ∈ ws_RR_agreement := fun w h => wb_RR_agreement w (in_AG w h)
  have iHO : ∀ w ∈ u_ws R_HO T_HO 4, w ∈ ws_RR_agreement := fun w h => wb_RR_agreement w (in_HO w h)
  have iPE : ∀ w ∈ u_ws R_PE T_PE 3, w ∈ ws_RR_agreement := fun w h => wb_RR_agreement w (in_PE w h)
  have iRR : ∀ w ∈ u_ws R_RR T_RR 10, w ∈ ws_RR_agreement := fun w h => wb_RR_agreement w (in_RR w h)
  have hl := lv_entry ([.ref h, .int (nI u), .int (nI r), .int f, .int t1]) (n := 5) (Nat.le_of_ble_eq_true rfl)
  rw [lg_entry_eq]
  generalize (lg_sl ([.ref h, .int (nI u), .int (nI r), .int f, .int t1]) ++ List.replicate (5 - (lg_sl ([.ref h, .int (nI u), .int (nI r), .int f, .int t1])).length) Slot.unset).toArray = ls at hl ⊢
  have hl : lv_has ls 5 [(0, .ref h), (1, .int (nI u)), (2, .int (nI r)), (3, .int f), (4, .int t1)] := hl
  refine lv_aload_n hx hb d_RR_agreement_0 rfl (lv_at hl 0 rfl) ?_
  refine lv_iload_n hx hb d_RR_agreement_1 rfl (lv_at hl 1 rfl) ?_
  have hPc := hP.sub (ws' := [(h, .inr (9, [.ref hPA, .ref hRD, .ref hRB, .ref hPE, .ref hHO, .ref hAG, .ref hLO, .ref hRQ, .ref hEX, .ref aFR])), (hPE, .inr (5, [.ref aRo, .ref aLi, .int (nI en)]))]) [0, 1] rfl
  have hKc := hK.sub (tys' := []) [] rfl
  refine va_callv (va_runV (As := [.int (nI u)]) (rest := []) ⟨hx, hb, hml, hown, hts⟩ (c_RR_requirePerson l dC dI h hPA hRD hRB hPE hHO hAG hLO hRQ hEX aFR aRo aLi en (by first | assumption | omega) u (by first | assumption | omega)) (cwV 1 hts (vz_gV wb_RR_agreement b_492 b_494 bs_8 b_1 wc_RR_requirePerson) rfl rfl rfl (by decide +kernel) ⟨Nat.le_of_ble_eq_true rfl, Nat.le_of_ble_eq_true rfl⟩) (vz_preV hPc hKc (ci := 9) (q0 := 0) rfl rfl) rfl rfl hl.1 rfl (lv_room (Nat.le_of_ble_eq_true rfl)) d_RR_agreement_2 ⟨Nat.le_of_ble_eq_true rfl, Nat.le_of_ble_eq_true rfl⟩) hS (fun q _ h => False.elim h) (fun q h => False.elim h) (fun u9 t9 H1 locs ht hvm hr2 hB hzx9 hkx9 hS => ?_)
  try dsimp only at hr2
  have hP := vz_kept hP hkx9
  generalize H1 = H at hP hS ⊢
  obtain rfl : locs = [] := List.eq_nil_iff_forall_not_mem.mpr (fun x hx => hS.2.2 x hx)
  refine lv_aload_n hx hb d_RR_agreement_5 rfl (lv_at hl 0 rfl) ?_
  refine lv_iload_n hx hb d_RR_agreement_6 rfl (lv_at hl 2 rfl) ?_
  have hPc := hP.sub (ws' := [(h, .inr (9, [.ref hPA, .ref hRD, .ref hRB, .ref hPE, .ref hHO, .ref hAG, .ref hLO, .ref hRQ, .ref hEX, .ref aFR])), (hHO, .inr (2, [.ref aFa, .ref aEm, .ref aVa, .int (nI hn)]))]) [0, 2] rfl
  have hKc := hK.sub (tys' := []) [] rfl
  refine va_callv (va_runV (As := [.int (nI r)]) (rest := []) ⟨hx, hb, hml, hown, hts⟩ (c_RR_requireRecord l dC dI h hPA hRD hRB hPE hHO hAG hLO hRQ hEX aFR aFa aEm aVa hn (by first | assumption | omega) r (by first | assumption | omega)) (cwV 1 hts (vz_gV wb_RR_agreement b_456 b_458 bs_7 b_1 wc_RR_requireRecord) rfl rfl rfl (by decide +kernel) ⟨Nat.le_of_ble_eq_true rfl, Nat.le_of_ble_eq_true rfl⟩) (vz_preV hPc hKc (ci := 9) (q0 := 0) rfl rfl) rfl rfl hl.1 rfl (lv_room (Nat.le_of_ble_eq_true rfl)) d_RR_agreement_7 ⟨Nat.le_of_ble_eq_true rfl, Nat.le_of_ble_eq_true rfl⟩) hS (fun q _ h => False.elim h) (fun q h => False.elim h) (fun u9 t9 H1 locs ht hvm hr7 hB hzx9 hkx9 hS => ?_)
  try dsimp only at hr7
  have hP := vz_kept hP hkx9
  generalize H1 = H at hP hS ⊢
  obtain rfl : locs = [] := List.eq_nil_iff_forall_not_mem.mpr (fun x hx => hS.2.2 x hx)
  refine lv_iload_n hx hb d_RR_agreement_10 rfl (lv_at hl 3 rfl) ?_
  have hPc := hP.sub (ws' := []) [] rfl
  have hKc := hK.sub (tys' := []) [] rfl
  refine va_callv (va_runS (As := [.int f]) (rest := []) ⟨hx, hb, hml, hown, hts⟩ (c_RR_requireDay l dC dI f (by first | assumption | omega) (by first | assumption | omega)) (va_cwS 1 hts (vz_gS wb_RR_agreement b_480 b_481 b_1 wc_RR_requireDay) rfl rfl rfl (by decide +kernel) ⟨Nat.le_of_ble_eq_true rfl, Nat.le_of_ble_eq_true rfl⟩) (vz_preS hPc hKc) rfl rfl hl.1 rfl (lv_room (Nat.le_of_ble_eq_true rfl)) d_RR_agreement_11 ⟨Nat.le_of_ble_eq_true rfl, Nat.le_of_ble_eq_true rfl⟩) hS (fun q _ h => False.elim h) (fun q h => False.elim h) (fun u9 t9 H1 locs ht hvm hr11 hB hzx9 hkx9 hS => ?_)
  try dsimp only at hr11
  have hP := vz_kept hP hkx9
  generalize H1 = H at hP hS ⊢
  obtain rfl : locs = [] := List.eq_nil_iff_forall_not_mem.mpr (fun x hx => hS.2.2 x hx)
  refine lv_iload hx hb d_RR_agreement_14 (lv_at hl 4 rfl) ?_
  have hPc := hP.sub (ws' := []) [] rfl
  have hKc := hK.sub (tys' := []) [] rfl
  refine va_callv (va_runS (As := [.int t1]) (rest := []) ⟨hx, hb, hml, hown, hts⟩ (c_RR_requireDay l dC dI t1 (by first | assumption | omega) (by first | assumption | omega)) (va_cwS 1 hts (vz_gS wb_RR_agreement b_480 b_481 b_1 wc_RR_requireDay) rfl rfl rfl (by decide +kernel) ⟨Nat.le_of_ble_eq_true rfl, Nat.le_of_ble_eq_true rfl⟩) (vz_preS hPc hKc) rfl rfl hl.1 rfl (lv_room (Nat.le_of_ble_eq_true rfl)) d_RR_agreement_16 ⟨Nat.le_of_ble_eq_true rfl, Nat.le_of_ble_eq_true rfl⟩) hS (fun q _ h => False.elim h) (fun q h => False.elim h) (fun u9 t9 H1 locs ht hvm hr16 hB hzx9 hkx9 hS => ?_)
  try dsimp only at hr16
  have hP := vz_kept hP hkx9
  generalize H1 = H at hP hS ⊢
  obtain rfl : locs = [] := List.eq_nil_iff_forall_not_mem.mpr (fun x hx => hS.2.2 x hx)
  refine lv_iload_n hx hb d_RR_agreement_19 rfl (lv_at hl 3 rfl) ?_
  refine lv_iload hx hb d_RR_agreement_20 (lv_at hl 4 rfl) ?_
  refine lv_icmp_le (tgt := 35) hx hb d_RR_agreement_22 (by decide) (fun c22 => ?_) (fun c22 => ?_)
  · refine lv_aload_n hx hb d_RR_agreement_35 rfl (lv_at hl 0 rfl) ?_
    refine va_get (D := (dC, dI)) (ci := 9) (v := .ref hAG) (C := R_RR) (T := T_RR) (N := 10) hx hb hts iRR hown hK hP 0 rfl rfl 5 (by decide) (hts _ (wb_RR_agreement _ b_229)) (fun _ h9 => h9) rfl d_RR_agreement_36 ?_
    refine va_get (D := (dC, dI)) (ci := 0) (v := .int (nI an)) (C := R_AG) (T := T_AG) (N := 5) hx hb hts iAG hown hK hP 3 rfl rfl 4 (by decide) (hts _ (wb_RR_agreement _ b_163)) (fun _ h9 => h9) rfl d_RR_agreement_39 ?_
    refine lv_bipush (v := 40) hx hb d_RR_agreement_42 (by decide) ?_
    refine lv_icmp_lt (tgt := 57) hx hb d_RR_agreement_44 (by decide) (fun c44 => ?_) (fun c44 => ?_)
    · exact absurd ((nI_ltI (show an < 2147483648 by omega) (show 40 < 2147483648 by omega)).mp c44) (by omega)
    · obtain ⟨sa, hsa⟩ := hE.2.2.2 (170, "there are 40 agreements") (by decide)
      exact xk_throwG (cls := "java/lang/IllegalStateException") hx hb hown (hts _ (wb_RR_agreement _ b_266)) (hts _ (wb_RR_agreement _ b_15)) (hts _ (wb_RR_agreement _ b_267)) d_RR_agreement_47 d_RR_agreement_50 (Nat.le_of_ble_eq_true rfl) (Nat.le_of_ble_eq_true rfl) (xk_ld hx hb hown hsa d_RR_agreement_51) (xk_ct hx hb hst hown (by decide) (xk_words (fun w h => hts w (wb_RR_agreement w h)) hE at_ISE) (hl.1.trans hml.symm) d_RR_agreement_53 d_RR_agreement_56 htab (Nat.le_of_ble_eq_true rfl) (Nat.le_of_ble_eq_true rfl) hlocks)
  · exact absurd hft c22

set_option maxHeartbeats 4000000 in
set_option maxRecDepth 100000 in
theorem t_RR_asks1 (l : Launch) (hst : l.stackTraces = false) (dC : Nat → ClassId) (dI : Nat → Nat → Nat) (N0 : Nat) (h hPA hRD hRB hPE hHO hAG hLO hRQ hEX aFR : Nat) (aRo aLi : Nat) (en : Nat) (aFa aEm aVa : Nat) (hn : Nat) (x0 : Int32) (hbad : x0 < 0 ∨ nI en ≤ x0) (r f q d : Int32) : tMet l y_RR_asks ws_RR_asks ({ frames := 7, cells := 1, slots := 6, locals := 111 }) (va_Pc [.ref h, .int x0, .int r, .int f, .int q, .int d] (fun U => va_P (dC, dI) vwCl [(h, .inr (9, [.ref hPA, .ref hRD, .ref hRB, .ref hPE, .ref hHO, .ref hAG, .ref hLO, .ref hRQ, .ref hEX, .ref aFR])), (hPE, .inr (5, [.ref aRo, .ref aLi, .int (nI en)])), (hHO, .inr (2, [.ref aFa, .ref aEm, .ref aVa, .int (nI hn)]))] U.heap ∧ va_K (dC, dI) vwCl [] U ∧ xkE N0 U ∧ N0 ≤ U.heap.size)) xkN := by
  refine tMet.ofW (cc := k_RR_asks) (maxL := 7) (ret := (some .int)) (by decide) rfl ?_
  intro p e s m args below meth c s₁ B hml htab hv
  obtain ⟨rfl, hP, hK, hE, hN⟩ := hv
  have hx := B.exec
  have hb := B.bytes
  have hts := atoms_spec (ws := ws_RR_asks) B.pre
  have hown : s.vm.findClass R_RR = some m.cls := findClass_of_methodNamed B.named
  have hlocks := B.notSynchronized
  have hS : va_S (fun _ => False) s.heap s.heap [] := va_S.rf
  have hP : va_P (dC, dI) vwCl [(h, .inr (9, [.ref hPA, .ref hRD, .ref hRB, .ref hPE, .ref hHO, .ref hAG, .ref hLO, .ref hRQ, .ref hEX, .ref aFR])), (hPE, .inr (5, [.ref aRo, .ref aLi, .int (nI en)])), (hHO, .inr (2, [.ref aFa, .ref aEm, .ref aVa, .int (nI hn)]))] s.heap := hP
  have iHO : ∀ w ∈ u_ws R_HO T_HO 4, w ∈ ws_RR_asks := fun w h => wb_RR_asks w (in_HO w h)
  have iPE : ∀ w ∈ u_ws R_PE T_PE 3, w ∈ ws_RR_asks := fun w h => wb_RR_asks w (in_PE w h)
  have iRR : ∀ w ∈ u_ws R_RR T_RR 10, w ∈ ws_RR_asks := fun w h => wb_RR_asks w (in_RR w h)
  have hl := lv_entry ([.ref h, .int x0, .int r, .int f, .int q, .int d]) (n := 7) (Nat.le_of_ble_eq_true rfl)
  rw [lg_entry_eq]
  generalize (lg_sl ([.ref h, .int x0, .int r, .int f, .int q, .int d]) ++ List.replicate (7 - (lg_sl ([.ref h, .int x0, .int r, .int f, .int q, .int d])).length) Slot.unset).toArray = ls at hl ⊢
  have hl : lv_has ls 7 [(0, .ref h), (1, .int x0), (2, .int r), (3, .int f), (4, .int q), (5, .int d)] := hl
  refine lv_aload_n hx hb d_RR_asks_0 rfl (lv_at hl 0 rfl) ?_
  refine lv_iload_n hx hb d_RR_asks_1 rfl (lv_at hl 1 rfl) ?_
  have hPc := hP.sub (ws' := [(h, .inr (9, [.ref hPA, .ref hRD, .ref hRB, .ref hPE, .ref hHO, .ref hAG, .ref hLO, .ref hRQ, .ref hEX, .ref aFR])), (hPE, .inr (5, [.ref aRo, .ref aLi, .int (nI en)]))]) [0, 1] rfl
  have hKc := hK.sub (tys' := []) [] rfl
  refine xk_callV (As := [.int x0]) (rest := []) ⟨hx, hb, hml, hown, hts⟩ (t_RR_requirePerson l hst dC dI N0 h hPA hRD hRB hPE hHO hAG hLO hRQ hEX aFR aRo aLi en x0 (by first | assumption | omega)) (cwV 1 hts (vz_gV wb_RR_asks b_492 b_494 bs_8 b_1 wc_RR_requirePerson) rfl rfl rfl (by decide +kernel) ⟨Nat.le_of_ble_eq_true rfl, Nat.le_of_ble_eq_true rfl⟩) (vz_preVt hPc hKc hE hN hS (ci := 9) (q0 := 0) rfl rfl) rfl rfl hl.1 (Nat.le_of_ble_eq_true rfl) d_RR_asks_2 ⟨Nat.le_of_ble_eq_true rfl, Nat.le_of_ble_eq_true rfl⟩ (fun q9 H9 hnew => ?_)
  exact xk_out htab hlocks hnew

set_option maxHeartbeats 4000000 in
set_option maxRecDepth 100000 in
theorem t_RR_asks2 (l : Launch) (hst : l.stackTraces = false) (dC : Nat → ClassId) (dI : Nat → Nat → Nat) (N0 : Nat) (h hPA hRD hRB hPE hHO hAG hLO hRQ hEX aFR : Nat) (aRo aLi : Nat) (en : Nat) (aFa aEm aVa : Nat) (hn : Nat) (hen : en ≤ 12) (u : Nat) (hu : u < en) (x0 : Int32) (hbad : x0 < 0 ∨ nI hn ≤ x0) (f q d : Int32) : tMet l y_RR_asks ws_RR_asks ({ frames := 7, cells := 1, slots := 6, locals := 111 }) (va_Pc [.ref h, .int (nI u), .int x0, .int f, .int q, .int d] (fun U => va_P (dC, dI) vwCl [(h, .inr (9, [.ref hPA, .ref hRD, .ref hRB, .ref hPE, .ref hHO, .ref hAG, .ref hLO, .ref hRQ, .ref hEX, .ref aFR])), (hPE, .inr (5, [.ref aRo, .ref aLi, .int (nI en)])), (hHO, .inr (2, [.ref aFa, .ref aEm, .ref aVa, .int (nI hn)]))] U.heap ∧ va_K (dC, dI) vwCl [] U ∧ xkE N0 U ∧ N0 ≤ U.heap.size)) xkN := by
  refine tMet.ofW (cc := k_RR_asks) (maxL := 7) (ret := (some .int)) (by decide) rfl ?_
  intro p e s m args below meth c s₁ B hml htab hv
  obtain ⟨rfl, hP, hK, hE, hN⟩ := hv
  have hx := B.exec
  have hb := B.bytes
  have hts := atoms_spec (ws := ws_RR_asks) B.pre
  have hown : s.vm.findClass R_RR = some m.cls := findClass_of_methodNamed B.named
  have hlocks := B.notSynchronized
  have hS : va_S (fun _ => False) s.heap s.heap [] := va_S.rf
  have hP : va_P (dC, dI) vwCl [(h, .inr (9, [.ref hPA, .ref hRD, .ref hRB, .ref hPE, .ref hHO, .ref hAG, .ref hLO, .ref hRQ, .ref hEX, .ref aFR])), (hPE, .inr (5, [.ref aRo, .ref aLi, .int (nI en)])), (hHO, .inr (2, [.ref aFa, .ref aEm, .ref aVa, .int (nI hn)]))] s.heap := hP
  have iHO : ∀ w ∈ u_ws R_HO T_HO 4, w ∈ ws_RR_asks := fun w h => wb_RR_asks w (in_HO w h)
  have iPE : ∀ w ∈ u_ws R_PE T_PE 3, w ∈ ws_RR_asks := fun w h => wb_RR_asks w (in_PE w h)
  have iRR : ∀ w ∈ u_ws R_RR T_RR 10, w ∈ ws_RR_asks := fun w h => wb_RR_asks w (in_RR w h)
  have hl := lv_entry ([.ref h, .int (nI u), .int x0, .int f, .int q, .int d]) (n := 7) (Nat.le_of_ble_eq_true rfl)
  rw [lg_entry_eq]
  generalize (lg_sl ([.ref h, .int (nI u), .int x0, .int f, .int q, .int d]) ++ List.replicate (7 - (lg_sl ([.ref h, .int (nI u), .int x0, .int f, .int q, .int d])).length) Slot.unset).toArray = ls at hl ⊢
  have hl : lv_has ls 7 [(0, .ref h), (1, .int (nI u)), (2, .int x0), (3, .int f), (4, .int q), (5, .int d)] := hl
  refine lv_aload_n hx hb d_RR_asks_0 rfl (lv_at hl 0 rfl) ?_
  refine lv_iload_n hx hb d_RR_asks_1 rfl (lv_at hl 1 rfl) ?_
  have hPc := hP.sub (ws' := [(h, .inr (9, [.ref hPA, .ref hRD, .ref hRB, .ref hPE, .ref hHO, .ref hAG, .ref hLO, .ref hRQ, .ref hEX, .ref aFR])), (hPE, .inr (5, [.ref aRo, .ref aLi, .int (nI en)]))]) [0, 1] rfl
  have hKc := hK.sub (tys' := []) [] rfl
  refine va_callv (va_runV (As := [.int (nI u)]) (rest := []) ⟨hx, hb, hml, hown, hts⟩ (c_RR_requirePerson l dC dI h hPA hRD hRB hPE hHO hAG hLO hRQ hEX aFR aRo aLi en (by first | assumption | omega) u (by first | assumption | omega)) (cwV 1 hts (vz_gV wb_RR_asks b_492 b_494 bs_8 b_1 wc_RR_requirePerson) rfl rfl rfl (by decide +kernel) ⟨Nat.le_of_ble_eq_true rfl, Nat.le_of_ble_eq_true rfl⟩) (vz_preV hPc hKc (ci := 9) (q0 := 0) rfl rfl) rfl rfl hl.1 rfl (lv_room (Nat.le_of_ble_eq_true rfl)) d_RR_asks_2 ⟨Nat.le_of_ble_eq_true rfl, Nat.le_of_ble_eq_true rfl⟩) hS (fun q _ h => False.elim h) (fun q h => False.elim h) (fun u9 t9 H1 locs ht hvm hr2 hB hzx9 hkx9 hS => ?_)
  try dsimp only at hr2
  have hP := vz_kept hP hkx9
  generalize H1 = H at hP hS ⊢
  obtain rfl : locs = [] := List.eq_nil_iff_forall_not_mem.mpr (fun x hx => hS.2.2 x hx)
  refine lv_aload_n hx hb d_RR_asks_5 rfl (lv_at hl 0 rfl) ?_
  refine lv_iload_n hx hb d_RR_asks_6 rfl (lv_at hl 2 rfl) ?_
  have hPc := hP.sub (ws' := [(h, .inr (9, [.ref hPA, .ref hRD, .ref hRB, .ref hPE, .ref hHO, .ref hAG, .ref hLO, .ref hRQ, .ref hEX, .ref aFR])), (hHO, .inr (2, [.ref aFa, .ref aEm, .ref aVa, .int (nI hn)]))]) [0, 2] rfl
  have hKc := hK.sub (tys' := []) [] rfl
  refine xk_callV (As := [.int x0]) (rest := []) ⟨hx, hb, hml, hown, hts⟩ (t_RR_requireRecord l hst dC dI N0 h hPA hRD hRB hPE hHO hAG hLO hRQ hEX aFR aFa aEm aVa hn x0 (by first | assumption | omega)) (cwV 1 hts (vz_gV wb_RR_asks b_456 b_458 bs_7 b_1 wc_RR_requireRecord) rfl rfl rfl (by decide +kernel) ⟨Nat.le_of_ble_eq_true rfl, Nat.le_of_ble_eq_true rfl⟩) (vz_preVt hPc hKc hE hN hS (ci := 9) (q0 := 0) rfl rfl) rfl rfl hl.1 (Nat.le_of_ble_eq_true rfl) d_RR_asks_7 ⟨Nat.le_of_ble_eq_true rfl, Nat.le_of_ble_eq_true rfl⟩ (fun q9 H9 hnew => ?_)
  exact xk_out htab hlocks hnew

set_option maxHeartbeats 4000000 in
set_option maxRecDepth 100000 in
theorem t_RR_asks3 (l : Launch) (hst : l.stackTraces = false) (dC : Nat → ClassId) (dI : Nat → Nat → Nat) (N0 : Nat) (h hPA hRD hRB hPE hHO hAG hLO hRQ hEX aFR : Nat) (aRo aLi : Nat) (en : Nat) (aFa aEm aVa : Nat) (hn : Nat) (hen : en ≤ 12) (u : Nat) (hu : u < en) (hhn : hn ≤ 16) (r : Nat) (hr : r < hn) (x0 : Int32) (hbad : x0 < 0 ∨ 6 ≤ x0) (q d : Int32) : tMet l y_RR_asks ws_RR_asks ({ frames := 7, cells := 1, slots := 6, locals := 110 }) (va_Pc [.ref h, .int (nI u), .int (nI r), .int x0, .int q, .int d] (fun U => va_P (dC, dI) vwCl [(h, .inr (9, [.ref hPA, .ref hRD, .ref hRB, .ref hPE, .ref hHO, .ref hAG, .ref hLO, .ref hRQ, .ref hEX, .ref aFR])), (hPE, .inr (5, [.ref aRo, .ref aLi, .int (nI en)])), (hHO, .inr (2, [.ref aFa, .ref aEm, .ref aVa, .int (nI hn)]))] U.heap ∧ va_K (dC, dI) vwCl [] U ∧ xkE N0 U ∧ N0 ≤ U.heap.size)) xkN := by
  refine tMet.ofW (cc := k_RR_asks) (maxL := 7) (ret := (some .int)) (by decide) rfl ?_
  intro p e s m args below meth c s₁ B hml htab hv
  obtain ⟨rfl, hP, hK, hE, hN⟩ := hv
  have hx := B.exec
  have hb := B.bytes
  have hts := atoms_spec (ws := ws_RR_asks) B.pre
  have hown : s.vm.findClass R_RR = some m.cls := findClass_of_methodNamed B.named
  have hlocks := B.notSynchronized
  have hS : va_S (fun _ => False) s.heap s.heap [] := va_S.rf
  have hP : va_P (dC, dI) vwCl [(h, .inr (9, [.ref hPA, .ref hRD, .ref hRB, .ref hPE, .ref hHO, .ref hAG, .ref hLO, .ref hRQ, .ref hEX, .ref aFR])), (hPE, .inr (5, [.ref aRo, .ref aLi, .int (nI en)])), (hHO, .inr (2, [.ref aFa, .ref aEm, .ref aVa, .int (nI hn)]))] s.heap := hP
  have iHO : ∀ w ∈ u_ws R_HO T_HO 4, w ∈ ws_RR_asks := fun w h => wb_RR_asks w (in_HO w h)
  have iPE : ∀ w ∈ u_ws R_PE T_PE 3, w ∈ ws_RR_asks := fun w h => wb_RR_asks w (in_PE w h)
  have iRR : ∀ w ∈ u_ws R_RR T_RR 10, w ∈ ws_RR_asks := fun w h => wb_RR_asks w (in_RR w h)
  have hl := lv_entry ([.ref h, .int (nI u), .int (nI r), .int x0, .int q, .int d]) (n := 7) (Nat.le_of_ble_eq_true rfl)
  rw [lg_entry_eq]
  generalize (lg_sl ([.ref h, .int (nI u), .int (nI r), .int x0, .int q, .int d]) ++ List.replicate (7 - (lg_sl ([.ref h, .int (nI u), .int (nI r), .int x0, .int q, .int d])).length) Slot.unset).toArray = ls at hl ⊢
  have hl : lv_has ls 7 [(0, .ref h), (1, .int (nI u)), (2, .int (nI r)), (3, .int x0), (4, .int q), (5, .int d)] := hl
  refine lv_aload_n hx hb d_RR_asks_0 rfl (lv_at hl 0 rfl) ?_
  refine lv_iload_n hx hb d_RR_asks_1 rfl (lv_at hl 1 rfl) ?_
  have hPc := hP.sub (ws' := [(h, .inr (9, [.ref hPA, .ref hRD, .ref hRB, .ref hPE, .ref hHO, .ref hAG, .ref hLO, .ref hRQ, .ref hEX, .ref aFR])), (hPE, .inr (5, [.ref aRo, .ref aLi, .int (nI en)]))]) [0, 1] rfl
  have hKc := hK.sub (tys' := []) [] rfl
  refine va_callv (va_runV (As := [.int (nI u)]) (rest := []) ⟨hx, hb, hml, hown, hts⟩ (c_RR_requirePerson l dC dI h hPA hRD hRB hPE hHO hAG hLO hRQ hEX aFR aRo aLi en (by first | assumption | omega) u (by first | assumption | omega)) (cwV 1 hts (vz_gV wb_RR_asks b_492 b_494 bs_8 b_1 wc_RR_requirePerson) rfl rfl rfl (by decide +kernel) ⟨Nat.le_of_ble_eq_true rfl, Nat.le_of_ble_eq_true rfl⟩) (vz_preV hPc hKc (ci := 9) (q0 := 0) rfl rfl) rfl rfl hl.1 rfl (lv_room (Nat.le_of_ble_eq_true rfl)) d_RR_asks_2 ⟨Nat.le_of_ble_eq_true rfl, Nat.le_of_ble_eq_true rfl⟩) hS (fun q _ h => False.elim h) (fun q h => False.elim h) (fun u9 t9 H1 locs ht hvm hr2 hB hzx9 hkx9 hS => ?_)
  try dsimp only at hr2
  have hP := vz_kept hP hkx9
  generalize H1 = H at hP hS ⊢
  obtain rfl : locs = [] := List.eq_nil_iff_forall_not_mem.mpr (fun x hx => hS.2.2 x hx)
  refine lv_aload_n hx hb d_RR_asks_5 rfl (lv_at hl 0 rfl) ?_
  refine lv_iload_n hx hb d_RR_asks_6 rfl (lv_at hl 2 rfl) ?_
  have hPc := hP.sub (ws' := [(h, .inr (9, [.ref hPA, .ref hRD, .ref hRB, .ref hPE, .ref hHO, .ref hAG, .ref hLO, .ref hRQ, .ref hEX, .ref aFR])), (hHO, .inr (2, [.ref aFa, .ref aEm, .ref aVa, .int (nI hn)]))]) [0, 2] rfl
  have hKc := hK.sub (tys' := []) [] rfl
  refine va_callv (va_runV (As := [.int (nI r)]) (rest := []) ⟨hx, hb, hml, hown, hts⟩ (c_RR_requireRecord l dC dI h hPA hRD hRB hPE hHO hAG hLO hRQ hEX aFR aFa aEm aVa hn (by first | assumption | omega) r (by first | assumption | omega)) (cwV 1 hts (vz_gV wb_RR_asks b_456 b_458 bs_7 b_1 wc_RR_requireRecord) rfl rfl rfl (by decide +kernel) ⟨Nat.le_of_ble_eq_true rfl, Nat.le_of_ble_eq_true rfl⟩) (vz_preV hPc hKc (ci := 9) (q0 := 0) rfl rfl) rfl rfl hl.1 rfl (lv_room (Nat.le_of_ble_eq_true rfl)) d_RR_asks_7 ⟨Nat.le_of_ble_eq_true rfl, Nat.le_of_ble_eq_true rfl⟩) hS (fun q _ h => False.elim h) (fun q h => False.elim h) (fun u9 t9 H1 locs ht hvm hr7 hB hzx9 hkx9 hS => ?_)
  try dsimp only at hr7
  have hP := vz_kept hP hkx9
  generalize H1 = H at hP hS ⊢
  obtain rfl : locs = [] := List.eq_nil_iff_forall_not_mem.mpr (fun x hx => hS.2.2 x hx)
  refine lv_iload_n hx hb d_RR_asks_10 rfl (lv_at hl 3 rfl) ?_
  have hPc := hP.sub (ws' := []) [] rfl
  have hKc := hK.sub (tys' := []) [] rfl
  refine xk_callS (As := [.int x0]) (rest := []) ⟨hx, hb, hml, hown, hts⟩ (t_RR_requireField l hst dC dI N0 x0 (by first | assumption | omega)) (va_cwS 1 hts (vz_gS wb_RR_asks b_461 b_462 b_1 wc_RR_requireField) rfl rfl rfl (by decide +kernel) ⟨Nat.le_of_ble_eq_true rfl, Nat.le_of_ble_eq_true rfl⟩) (vz_preSt hPc hKc hE hN hS) rfl rfl hl.1 (Nat.le_of_ble_eq_true rfl) d_RR_asks_11 ⟨Nat.le_of_ble_eq_true rfl, Nat.le_of_ble_eq_true rfl⟩ (fun q9 H9 hnew => ?_)
  exact xk_out htab hlocks hnew

set_option maxHeartbeats 4000000 in
set_option maxRecDepth 100000 in
theorem t_RR_asks4 (l : Launch) (hst : l.stackTraces = false) (dC : Nat → ClassId) (dI : Nat → Nat → Nat) (N0 : Nat) (h hPA hRD hRB hPE hHO hAG hLO hRQ hEX aFR : Nat) (aRo aLi : Nat) (en : Nat) (aFa aEm aVa : Nat) (hn : Nat) (hen : en ≤ 12) (u : Nat) (hu : u < en) (hhn : hn ≤ 16) (r : Nat) (hr : r < hn) (f : Nat) (hf : f < 6) (x0 : Int32) (hbad : x0 < 0 ∨ 4 ≤ x0) (d : Int32) : tMet l y_RR_asks ws_RR_asks ({ frames := 6, cells := 1, slots := 6, locals := 90 }) (va_Pc [.ref h, .int (nI u), .int (nI r), .int (nI f), .int x0, .int d] (fun U => va_P (dC, dI) vwCl [(h, .inr (9, [.ref hPA, .ref hRD, .ref hRB, .ref hPE, .ref hHO, .ref hAG, .ref hLO, .ref hRQ, .ref hEX, .ref aFR])), (hPE, .inr (5, [.ref aRo, .ref aLi, .int (nI en)])), (hHO, .inr (2, [.ref aFa, .ref aEm, .ref aVa, .int (nI hn)]))] U.heap ∧ va_K (dC, dI) vwCl [] U ∧ xkE N0 U ∧ N0 ≤ U.heap.size)) xkN := by
  refine tMet.ofW (cc := k_RR_asks) (maxL := 7) (ret := (some .int)) (by decide) rfl ?_
  intro p e s m args below meth c s₁ B hml htab hv
  obtain ⟨rfl, hP, hK, hE, hN⟩ := hv
  have hx := B.exec
  have hb := B.bytes
  have hts := atoms_spec (ws := ws_RR_asks) B.pre
  have hown : s.vm.findClass R_RR = some m.cls := findClass_of_methodNamed B.named
  have hlocks := B.notSynchronized
  have hS : va_S (fun _ => False) s.heap s.heap [] := va_S.rf
  have hP : va_P (dC, dI) vwCl [(h, .inr (9, [.ref hPA, .ref hRD, .ref hRB, .ref hPE, .ref hHO, .ref hAG, .ref hLO, .ref hRQ, .ref hEX, .ref aFR])), (hPE, .inr (5, [.ref aRo, .ref aLi, .int (nI en)])), (hHO, .inr (2, [.ref aFa, .ref aEm, .ref aVa, .int (nI hn)]))] s.heap := hP
  have iHO : ∀ w ∈ u_ws R_HO T_HO 4, w ∈ ws_RR_asks := fun w h => wb_RR_asks w (in_HO w h)
  have iPE : ∀ w ∈ u_ws R_PE T_PE 3, w ∈ ws_RR_asks := fun w h => wb_RR_asks w (in_PE w h)
  have iRR : ∀ w ∈ u_ws R_RR T_RR 10, w ∈ ws_RR_asks := fun w h => wb_RR_asks w (in_RR w h)
  have hl := lv_entry ([.ref h, .int (nI u), .int (nI r), .int (nI f), .int x0, .int d]) (n := 7) (Nat.le_of_ble_eq_true rfl)
  rw [lg_entry_eq]
  generalize (lg_sl ([.ref h, .int (nI u), .int (nI r), .int (nI f), .int x0, .int d]) ++ List.replicate (7 - (lg_sl ([.ref h, .int (nI u), .int (nI r), .int (nI f), .int x0, .int d])).length) Slot.unset).toArray = ls at hl ⊢
  have hl : lv_has ls 7 [(0, .ref h), (1, .int (nI u)), (2, .int (nI r)), (3, .int (nI f)), (4, .int x0), (5, .int d)] := hl
  refine lv_aload_n hx hb d_RR_asks_0 rfl (lv_at hl 0 rfl) ?_
  refine lv_iload_n hx hb d_RR_asks_1 rfl (lv_at hl 1 rfl) ?_
  have hPc := hP.sub (ws' := [(h, .inr (9, [.ref hPA, .ref hRD, .ref hRB, .ref hPE, .ref hHO, .ref hAG, .ref hLO, .ref hRQ, .ref hEX, .ref aFR])), (hPE, .inr (5, [.ref aRo, .ref aLi, .int (nI en)]))]) [0, 1] rfl
  have hKc := hK.sub (tys' := []) [] rfl
  refine va_callv (va_runV (As := [.int (nI u)]) (rest := []) ⟨hx, hb, hml, hown, hts⟩ (c_RR_requirePerson l dC dI h hPA hRD hRB hPE hHO hAG hLO hRQ hEX aFR aRo aLi en (by first | assumption | omega) u (by first | assumption | omega)) (cwV 1 hts (vz_gV wb_RR_asks b_492 b_494 bs_8 b_1 wc_RR_requirePerson) rfl rfl rfl (by decide +kernel) ⟨Nat.le_of_ble_eq_true rfl, Nat.le_of_ble_eq_true rfl⟩) (vz_preV hPc hKc (ci := 9) (q0 := 0) rfl rfl) rfl rfl hl.1 rfl (lv_room (Nat.le_of_ble_eq_true rfl)) d_RR_asks_2 ⟨Nat.le_of_ble_eq_true rfl, Nat.le_of_ble_eq_true rfl⟩) hS (fun q _ h => False.elim h) (fun q h => False.elim h) (fun u9 t9 H1 locs ht hvm hr2 hB hzx9 hkx9 hS => ?_)
  try dsimp only at hr2
  have hP := vz_kept hP hkx9
  generalize H1 = H at hP hS ⊢
  obtain rfl : locs = [] := List.eq_nil_iff_forall_not_mem.mpr (fun x hx => hS.2.2 x hx)
  refine lv_aload_n hx hb d_RR_asks_5 rfl (lv_at hl 0 rfl) ?_
  refine lv_iload_n hx hb d_RR_asks_6 rfl (lv_at hl 2 rfl) ?_
  have hPc := hP.sub (ws' := [(h, .inr (9, [.ref hPA, .ref hRD, .ref hRB, .ref hPE, .ref hHO, .ref hAG, .ref hLO, .ref hRQ, .ref hEX, .ref aFR])), (hHO, .inr (2, [.ref aFa, .ref aEm, .ref aVa, .int (nI hn)]))]) [0, 2] rfl
  have hKc := hK.sub (tys' := []) [] rfl
  refine va_callv (va_runV (As := [.int (nI r)]) (rest := []) ⟨hx, hb, hml, hown, hts⟩ (c_RR_requireRecord l dC dI h hPA hRD hRB hPE hHO hAG hLO hRQ hEX aFR aFa aEm aVa hn (by first | assumption | omega) r (by first | assumption | omega)) (cwV 1 hts (vz_gV wb_RR_asks b_456 b_458 bs_7 b_1 wc_RR_requireRecord) rfl rfl rfl (by decide +kernel) ⟨Nat.le_of_ble_eq_true rfl, Nat.le_of_ble_eq_true rfl⟩) (vz_preV hPc hKc (ci := 9) (q0 := 0) rfl rfl) rfl rfl hl.1 rfl (lv_room (Nat.le_of_ble_eq_true rfl)) d_RR_asks_7 ⟨Nat.le_of_ble_eq_true rfl, Nat.le_of_ble_eq_true rfl⟩) hS (fun q _ h => False.elim h) (fun q h => False.elim h) (fun u9 t9 H1 locs ht hvm hr7 hB hzx9 hkx9 hS => ?_)
  try dsimp only at hr7
  have hP := vz_kept hP hkx9
  generalize H1 = H at hP hS ⊢
  obtain rfl : locs = [] := List.eq_nil_iff_forall_not_mem.mpr (fun x hx => hS.2.2 x hx)
  refine lv_iload_n hx hb d_RR_asks_10 rfl (lv_at hl 3 rfl) ?_
  have hPc := hP.sub (ws' := []) [] rfl
  have hKc := hK.sub (tys' := []) [] rfl
  refine va_callv (va_runS (As := [.int (nI f)]) (rest := []) ⟨hx, hb, hml, hown, hts⟩ (c_RR_requireField l dC dI f (by first | assumption | omega)) (va_cwS 1 hts (vz_gS wb_RR_asks b_461 b_462 b_1 wc_RR_requireField) rfl rfl rfl (by decide +kernel) ⟨Nat.le_of_ble_eq_true rfl, Nat.le_of_ble_eq_true rfl⟩) (vz_preS hPc hKc) rfl rfl hl.1 rfl (lv_room (Nat.le_of_ble_eq_true rfl)) d_RR_asks_11 ⟨Nat.le_of_ble_eq_true rfl, Nat.le_of_ble_eq_true rfl⟩) hS (fun q _ h => False.elim h) (fun q h => False.elim h) (fun u9 t9 H1 locs ht hvm hr11 hB hzx9 hkx9 hS => ?_)
  try dsimp only at hr11
  have hP := vz_kept hP hkx9
  generalize H1 = H at hP hS ⊢
  obtain rfl : locs = [] := List.eq_nil_iff_forall_not_mem.mpr (fun x hx => hS.2.2 x hx)
  refine lv_iload hx hb d_RR_asks_14 (lv_at hl 4 rfl) ?_
  refine lv_if_lt (tgt := 25) hx hb d_RR_asks_16 (by decide) (fun c16 => ?_) (fun c16 => ?_)
  · obtain ⟨sa, hsa⟩ := hE.2.2.2 (175, "no such purpose") (by decide)
    exact xk_throwG (cls := xkN) hx hb hown (hts _ (wb_RR_asks _ b_386)) (hts _ (wb_RR_asks _ b_16)) (hts _ (wb_RR_asks _ b_387)) d_RR_asks_25 d_RR_asks_28 (Nat.le_of_ble_eq_true rfl) (Nat.le_of_ble_eq_true rfl) (xk_ld hx hb hown hsa d_RR_asks_29) (xk_ctN hx hb hst hown (xk_words (fun w h => hts w (wb_RR_asks w h)) hE at_NSE) (hl.1.trans hml.symm) d_RR_asks_31 d_RR_asks_34 htab (Nat.le_of_ble_eq_true rfl) (Nat.le_of_ble_eq_true rfl) hlocks)
  · refine lv_iload hx hb d_RR_asks_19 (lv_at hl 4 rfl) ?_
    refine lv_iconst (v := 4) hx hb d_RR_asks_21 (by decide) ?_
    refine lv_icmp_lt (tgt := 35) hx hb d_RR_asks_22 (by decide) (fun c22 => ?_) (fun c22 => ?_)
    · exact absurd c22 (Int32.not_lt.mpr (hbad.resolve_left c16))
    · obtain ⟨sa, hsa⟩ := hE.2.2.2 (175, "no such purpose") (by decide)
      exact xk_throwG (cls := xkN) hx hb hown (hts _ (wb_RR_asks _ b_386)) (hts _ (wb_RR_asks _ b_16)) (hts _ (wb_RR_asks _ b_387)) d_RR_asks_25 d_RR_asks_28 (Nat.le_of_ble_eq_true rfl) (Nat.le_of_ble_eq_true rfl) (xk_ld hx hb hown hsa d_RR_asks_29) (xk_ctN hx hb hst hown (xk_words (fun w h => hts w (wb_RR_asks w h)) hE at_NSE) (hl.1.trans hml.symm) d_RR_asks_31 d_RR_asks_34 htab (Nat.le_of_ble_eq_true rfl) (Nat.le_of_ble_eq_true rfl) hlocks)

set_option maxHeartbeats 4000000 in
set_option maxRecDepth 100000 in
theorem t_RR_asks5 (l : Launch) (hst : l.stackTraces = false) (dC : Nat → ClassId) (dI : Nat → Nat → Nat) (N0 : Nat) (h hPA hRD hRB hPE hHO hAG hLO hRQ hEX aFR : Nat) (aRo aLi : Nat) (en : Nat) (aFa aEm aVa : Nat) (hn : Nat) (hen : en ≤ 12) (u : Nat) (hu : u < en) (hhn : hn ≤ 16) (r : Nat) (hr : r < hn) (f q : Nat) (hf : f < 6) (hq : q < 4) (x0 : Int32) (hbad : x0 < 0 ∨ 100000 < x0) : tMet l y_RR_asks ws_RR_asks ({ frames := 7, cells := 1, slots := 6, locals := 110 }) (va_Pc [.ref h, .int (nI u), .int (nI r), .int (nI f), .int (nI q), .int x0] (fun U => va_P (dC, dI) vwCl [(h, .inr (9, [.ref hPA, .ref hRD, .ref hRB, .ref hPE, .ref hHO, .ref hAG, .ref hLO, .ref hRQ, .ref hEX, .ref aFR])), (hPE, .inr (5, [.ref aRo, .ref aLi, .int (nI en)])), (hHO, .inr (2, [.ref aFa, .ref aEm, .ref aVa, .int (nI hn)]))] U.heap ∧ va_K (dC, dI) vwCl [] U ∧ xkE N0 U ∧ N0 ≤ U.heap.size)) "java/lang/IllegalArgumentException" := by
  refine tMet.ofW (cc := k_RR_asks) (maxL := 7) (ret := (some .int)) (by decide) rfl ?_
  intro p e s m args below meth c s₁ B hml htab hv
  obtain ⟨rfl, hP, hK, hE, hN⟩ := hv
  have hx := B.exec
  have hb := B.bytes
  have hts := atoms_spec (ws := ws_RR_asks) B.pre
  have hown : s.vm.findClass R_RR = some m.cls := findClass_of_methodNamed B.named
  have hlocks := B.notSynchronized
  have hS : va_S (fun _ => False) s.heap s.heap [] := va_S.rf
  have hP : va_P (dC, dI) vwCl [(h, .inr (9, [.ref hPA, .ref hRD, .ref hRB, .ref hPE, .ref hHO, .ref hAG, .ref hLO, .ref hRQ, .ref hEX, .ref aFR])), (hPE, .inr (5, [.ref aRo, .ref aLi, .int (nI en)])), (hHO, .inr (2, [.ref aFa, .ref aEm, .ref aVa, .int (nI hn)]))] s.heap := hP
  have iHO : ∀ w ∈ u_ws R_HO T_HO 4, w ∈ ws_RR_asks := fun w h => wb_RR_asks w (in_HO w h)
  have iPE : ∀ w ∈ u_ws R_PE T_PE 3, w ∈ ws_RR_asks := fun w h => wb_RR_asks w (in_PE w h)
  have iRR : ∀ w ∈ u_ws R_RR T_RR 10, w ∈ ws_RR_asks := fun w h => wb_RR_asks w (in_RR w h)
  have hl := lv_entry ([.ref h, .int (nI u), .int (nI r), .int (nI f), .int (nI q), .int x0]) (n := 7) (Nat.le_of_ble_eq_true rfl)
  rw [lg_entry_eq]
  generalize (lg_sl ([.ref h, .int (nI u), .int (nI r), .int (nI f), .int (nI q), .int x0]) ++ List.replicate (7 - (lg_sl ([.ref h, .int (nI u), .int (nI r), .int (nI f), .int (nI q), .int x0])).length) Slot.unset).toArray = ls at hl ⊢
  have hl : lv_has ls 7 [(0, .ref h), (1, .int (nI u)), (2, .int (nI r)), (3, .int (nI f)), (4, .int (nI q)), (5, .int x0)] := hl
  refine lv_aload_n hx hb d_RR_asks_0 rfl (lv_at hl 0 rfl) ?_
  refine lv_iload_n hx hb d_RR_asks_1 rfl (lv_at hl 1 rfl) ?_
  have hPc := hP.sub (ws' := [(h, .inr (9, [.ref hPA, .ref hRD, .ref hRB, .ref hPE, .ref hHO, .ref hAG, .ref hLO, .ref hRQ, .ref hEX, .ref aFR])), (hPE, .inr (5, [.ref aRo, .ref aLi, .int (nI en)]))]) [0, 1] rfl
  have hKc := hK.sub (tys' := []) [] rfl
  refine va_callv (va_runV (As := [.int (nI u)]) (rest := []) ⟨hx, hb, hml, hown, hts⟩ (c_RR_requirePerson l dC dI h hPA hRD hRB hPE hHO hAG hLO hRQ hEX aFR aRo aLi en (by first | assumption | omega) u (by first | assumption | omega)) (cwV 1 hts (vz_gV wb_RR_asks b_492 b_494 bs_8 b_1 wc_RR_requirePerson) rfl rfl rfl (by decide +kernel) ⟨Nat.le_of_ble_eq_true rfl, Nat.le_of_ble_eq_true rfl⟩) (vz_preV hPc hKc (ci := 9) (q0 := 0) rfl rfl) rfl rfl hl.1 rfl (lv_room (Nat.le_of_ble_eq_true rfl)) d_RR_asks_2 ⟨Nat.le_of_ble_eq_true rfl, Nat.le_of_ble_eq_true rfl⟩) hS (fun q _ h => False.elim h) (fun q h => False.elim h) (fun u9 t9 H1 locs ht hvm hr2 hB hzx9 hkx9 hS => ?_)
  try dsimp only at hr2
  have hP := vz_kept hP hkx9
  generalize H1 = H at hP hS ⊢
  obtain rfl : locs = [] := List.eq_nil_iff_forall_not_mem.mpr (fun x hx => hS.2.2 x hx)
  refine lv_aload_n hx hb d_RR_asks_5 rfl (lv_at hl 0 rfl) ?_
  refine lv_iload_n hx hb d_RR_asks_6 rfl (lv_at hl 2 rfl) ?_
  have hPc := hP.sub (ws' := [(h, .inr (9, [.ref hPA, .ref hRD, .ref hRB, .ref hPE, .ref hHO, .ref hAG, .ref hLO, .ref hRQ, .ref hEX, .ref aFR])), (hHO, .inr (2, [.ref aFa, .ref aEm, .ref aVa, .int (nI hn)]))]) [0, 2] rfl
  have hKc := hK.sub (tys' := []) [] rfl
  refine va_callv (va_runV (As := [.int (nI r)]) (rest := []) ⟨hx, hb, hml, hown, hts⟩ (c_RR_requireRecord l dC dI h hPA hRD hRB hPE hHO hAG hLO hRQ hEX aFR aFa aEm aVa hn (by first | assumption | omega) r (by first | assumption | omega)) (cwV 1 hts (vz_gV wb_RR_asks b_456 b_458 bs_7 b_1 wc_RR_requireRecord) rfl rfl rfl (by decide +kernel) ⟨Nat.le_of_ble_eq_true rfl, Nat.le_of_ble_eq_true rfl⟩) (vz_preV hPc hKc (ci := 9) (q0 := 0) rfl rfl) rfl rfl hl.1 rfl (lv_room (Nat.le_of_ble_eq_true rfl)) d_RR_asks_7 ⟨Nat.le_of_ble_eq_true rfl, Nat.le_of_ble_eq_true rfl⟩) hS (fun q _ h => False.elim h) (fun q h => False.elim h) (fun u9 t9 H1 locs ht hvm hr7 hB hzx9 hkx9 hS => ?_)
  try dsimp only at hr7
  have hP := vz_kept hP hkx9
  generalize H1 = H at hP hS ⊢
  obtain rfl : locs = [] := List.eq_nil_iff_forall_not_mem.mpr (fun x hx => hS.2.2 x hx)
  refine lv_iload_n hx hb d_RR_asks_10 rfl (lv_at hl 3 rfl) ?_
  have hPc := hP.sub (ws' := []) [] rfl
  have hKc := hK.sub (tys' := []) [] rfl
  refine va_callv (va_runS (As := [.int (nI f)]) (rest := []) ⟨hx, hb, hml, hown, hts⟩ (c_RR_requireField l dC dI f (by first | assumption | omega)) (va_cwS 1 hts (vz_gS wb_RR_asks b_461 b_462 b_1 wc_RR_requireField) rfl rfl rfl (by decide +kernel) ⟨Nat.le_of_ble_eq_true rfl, Nat.le_of_ble_eq_true rfl⟩) (vz_preS hPc hKc) rfl rfl hl.1 rfl (lv_room (Nat.le_of_ble_eq_true rfl)) d_RR_asks_11 ⟨Nat.le_of_ble_eq_true rfl, Nat.le_of_ble_eq_true rfl⟩) hS (fun q _ h => False.elim h) (fun q h => False.elim h) (fun u9 t9 H1 locs ht hvm hr11 hB hzx9 hkx9 hS => ?_)
  try dsimp only at hr11
  have hP := vz_kept hP hkx9
  generalize H1 = H at hP hS ⊢
  obtain rfl : locs = [] := List.eq_nil_iff_forall_not_mem.mpr (fun x hx => hS.2.2 x hx)
  refine lv_iload hx hb d_RR_asks_14 (lv_at hl 4 rfl) ?_
  refine lv_if_lt (tgt := 25) hx hb d_RR_asks_16 (by decide) (fun c16 => ?_) (fun c16 => ?_)
  · exact absurd c16 (nI_pos (by omega))
  · refine lv_iload hx hb d_RR_asks_19 (lv_at hl 4 rfl) ?_
    refine lv_iconst (v := 4) hx hb d_RR_asks_21 (by decide) ?_
    refine lv_icmp_lt (tgt := 35) hx hb d_RR_asks_22 (by decide) (fun c22 => ?_) (fun c22 => ?_)
    · refine lv_iload hx hb d_RR_asks_35 (lv_at hl 5 rfl) ?_
      have hPc := hP.sub (ws' := []) [] rfl
      have hKc := hK.sub (tys' := []) [] rfl
      refine xk_callS (As := [.int x0]) (rest := []) ⟨hx, hb, hml, hown, hts⟩ (t_RR_requireDay l hst dC dI N0 x0 (by first | assumption | omega)) (va_cwS 1 hts (vz_gS wb_RR_asks b_480 b_481 b_1 wc_RR_requireDay) rfl rfl rfl (by decide +kernel) ⟨Nat.le_of_ble_eq_true rfl, Nat.le_of_ble_eq_true rfl⟩) (vz_preSt hPc hKc hE hN hS) rfl rfl hl.1 (Nat.le_of_ble_eq_true rfl) d_RR_asks_37 ⟨Nat.le_of_ble_eq_true rfl, Nat.le_of_ble_eq_true rfl⟩ (fun q9 H9 hnew => ?_)
      exact xk_out htab hlocks hnew
    · exact absurd ((nI_ltI (show q < 2147483648 by omega) (show 4 < 2147483648 by omega)).mpr hq) c22

set_option maxHeartbeats 4000000 in
set_option maxRecDepth 100000 in
theorem t_RR_look1 (l : Launch) (hst : l.stackTraces = false) (dC : Nat → ClassId) (dI : Nat → Nat → Nat) (N0 : Nat) (h hPA hRD hRB hPE hHO hAG hLO hRQ hEX aFR : Nat) (aLP aLL : Nat) (ln : Nat) (x0 : Int32) (hbad : x0 < 0 ∨ nI ln ≤ x0) (j : Int32) : tMet l y_RR_look ws_RR_look ({ frames := 6, cells := 1, slots := 6, locals := 90 }) (va_Pc [.ref h, .int x0, .int j] (fun U => va_P (dC, dI) vwCl [(h, .inr (9, [.ref hPA, .ref hRD, .ref hRB, .ref hPE, .ref hHO, .ref hAG, .ref hLO, .ref hRQ, .ref hEX, .ref aFR])), (hLO, .inr (3, [.ref aLP, .ref aLL, .int (nI ln)]))] U.heap ∧ va_K (dC, dI) vwCl [] U ∧ xkE N0 U ∧ N0 ≤ U.heap.size)) xkN := by
  refine tMet.ofW (cc := k_RR_look) (maxL := 3) (ret := (some .int)) (by decide) rfl ?_
  intro p e s m args below meth c s₁ B hml htab hv
  obtain ⟨rfl, hP, hK, hE, hN⟩ := hv
  have hx := B.exec
  have hb := B.bytes
  have hts := atoms_spec (ws := ws_RR_look) B.pre
  have hown : s.vm.findClass R_RR = some m.cls := findClass_of_methodNamed B.named
  have hlocks := B.notSynchronized
  have hS : va_S (fun _ => False) s.heap s.heap [] := va_S.rf
  have hP : va_P (dC, dI) vwCl [(h, .inr (9, [.ref hPA, .ref hRD, .ref hRB, .ref hPE, .ref hHO, .ref hAG, .ref hLO, .ref hRQ, .ref hEX, .ref aFR])), (hLO, .inr (3, [.ref aLP, .ref aLL, .int (nI ln)]))] s.heap := hP
  have iLO : ∀ w ∈ u_ws R_LO T_LO 3, w ∈ ws_RR_look := fun w h => wb_RR_look w (in_LO w h)
  have iRR : ∀ w ∈ u_ws R_RR T_RR 10, w ∈ ws_RR_look := fun w h => wb_RR_look w (in_RR w h)
  have hl := lv_entry ([.ref h, .int x0, .int j]) (n := 3) (Nat.le_of_ble_eq_true rfl)
  rw [lg_entry_eq]
  generalize (lg_sl ([.ref h, .int x0, .int j]) ++ List.replicate (3 - (lg_sl ([.ref h, .int x0, .int j])).length) Slot.unset).toArray = ls at hl ⊢
  have hl : lv_has ls 3 [(0, .ref h), (1, .int x0), (2, .int j)] := hl
  refine lv_iload_n hx hb d_RR_look_0 rfl (lv_at hl 1 rfl) ?_
  refine lv_if_lt (tgt := 15) hx hb d_RR_look_1 (by decide) (fun c1 => ?_) (fun c1 => ?_)
  · obtain ⟨sa, hsa⟩ := hE.2.2.2 (198, "no such look") (by decide)
    exact xk_throwG (cls := xkN) hx hb hown (hts _ (wb_RR_look _ b_386)) (hts _ (wb_RR_look _ b_16)) (hts _ (wb_RR_look _ b_387)) d_RR_look_15 d_RR_look_18 (Nat.le_of_ble_eq_true rfl) (Nat.le_of_ble_eq_true rfl) (xk_ld hx hb hown hsa d_RR_look_19) (xk_ctN hx hb hst hown (xk_words (fun w h => hts w (wb_RR_look w h)) hE at_NSE) (hl.1.trans hml.symm) d_RR_look_21 d_RR_look_24 htab (Nat.le_of_ble_eq_true rfl) (Nat.le_of_ble_eq_true rfl) hlocks)
  · refine lv_iload_n hx hb d_RR_look_4 rfl (lv_at hl 1 rfl) ?_
    refine lv_aload_n hx hb d_RR_look_5 rfl (lv_at hl 0 rfl) ?_
    refine va_get (D := (dC, dI)) (ci := 9) (v := .ref hLO) (C := R_RR) (T := T_RR) (N := 10) hx hb hts iRR hown hK hP 0 rfl rfl 6 (by decide) (hts _ (wb_RR_look _ b_230)) (fun _ h9 => h9) rfl d_RR_look_6 ?_
    refine va_get (D := (dC, dI)) (ci := 3) (v := .int (nI ln)) (C := R_LO) (T := T_LO) (N := 3) hx hb hts iLO hown hK hP 1 rfl rfl 2 (by decide) (hts _ (wb_RR_look _ b_184)) (fun _ h9 => h9) rfl d_RR_look_9 ?_
    refine lv_icmp_lt (tgt := 25) hx hb d_RR_look_12 (by decide) (fun c12 => ?_) (fun c12 => ?_)
    · exact absurd c12 (Int32.not_lt.mpr (hbad.resolve_left c1))
    · obtain ⟨sa, hsa⟩ := hE.2.2.2 (198, "no such look") (by decide)
      exact xk_throwG (cls := xkN) hx hb hown (hts _ (wb_RR_look _ b_386)) (hts _ (wb_RR_look _ b_16)) (hts _ (wb_RR_look _ b_387)) d_RR_look_15 d_RR_look_18 (Nat.le_of_ble_eq_true rfl) (Nat.le_of_ble_eq_true rfl) (xk_ld hx hb hown hsa d_RR_look_19) (xk_ctN hx hb hst hown (xk_words (fun w h => hts w (wb_RR_look w h)) hE at_NSE) (hl.1.trans hml.symm) d_RR_look_21 d_RR_look_24 htab (Nat.le_of_ble_eq_true rfl) (Nat.le_of_ble_eq_true rfl) hlocks)

set_option maxHeartbeats 4000000 in
set_option maxRecDepth 100000 in
theorem t_RR_look2 (l : Launch) (hst : l.stackTraces = false) (dC : Nat → ClassId) (dI : Nat → Nat → Nat) (N0 : Nat) (h hPA hRD hRB hPE hHO hAG hLO hRQ hEX aFR : Nat) (aLP aLL : Nat) (ln : Nat) (hln : ln ≤ 100) (k : Nat) (hk : k < ln) (x0 : Int32) (hbad : x0 < 0 ∨ 6 ≤ x0) : tMet l y_RR_look ws_RR_look ({ frames := 6, cells := 1, slots := 6, locals := 90 }) (va_Pc [.ref h, .int (nI k), .int x0] (fun U => va_P (dC, dI) vwCl [(h, .inr (9, [.ref hPA, .ref hRD, .ref hRB, .ref hPE, .ref hHO, .ref hAG, .ref hLO, .ref hRQ, .ref hEX, .ref aFR])), (hLO, .inr (3, [.ref aLP, .ref aLL, .int (nI ln)]))] U.heap ∧ va_K (dC, dI) vwCl [] U ∧ xkE N0 U ∧ N0 ≤ U.heap.size)) xkN := by
  refine tMet.ofW (cc := k_RR_look) (maxL := 3) (ret := (some .int)) (by decide) rfl ?_
  intro p e s m args below meth c s₁ B hml htab hv
  obtain ⟨rfl, hP, hK, hE, hN⟩ := hv
  have hx := B.exec
  have hb := B.bytes
  have hts := atoms_spec (ws := ws_RR_look) B.pre
  have hown : s.vm.findClass R_RR = some m.cls := findClass_of_methodNamed B.named
  have hlocks := B.notSynchronized
  have hS : va_S (fun _ => False) s.heap s.heap [] := va_S.rf
  have hP : va_P (dC, dI) vwCl [(h, .inr (9, [.ref hPA, .ref hRD, .ref hRB, .ref hPE, .ref hHO, .ref hAG, .ref hLO, .ref hRQ, .ref hEX, .ref aFR])), (hLO, .inr (3, [.ref aLP, .ref aLL, .int (nI ln)]))] s.heap := hP
  have iLO : ∀ w ∈ u_ws R_LO T_LO 3, w ∈ ws_RR_look := fun w h => wb_RR_look w (in_LO w h)
  have iRR : ∀ w ∈ u_ws R_RR T_RR 10, w ∈ ws_RR_look := fun w h => wb_RR_look w (in_RR w h)
  have hl := lv_entry ([.ref h, .int (nI k), .int x0]) (n := 3) (Nat.le_of_ble_eq_true rfl)
  rw [lg_entry_eq]
  generalize (lg_sl ([.ref h, .int (nI k), .int x0]) ++ List.replicate (3 - (lg_sl ([.ref h, .int (nI k), .int x0])).length) Slot.unset).toArray = ls at hl ⊢
  have hl : lv_has ls 3 [(0, .ref h), (1, .int (nI k)), (2, .int x0)] := hl
  refine lv_iload_n hx hb d_RR_look_0 rfl (lv_at hl 1 rfl) ?_
  refine lv_if_lt (tgt := 15) hx hb d_RR_look_1 (by decide) (fun c1 => ?_) (fun c1 => ?_)
  · exact absurd c1 (nI_pos (by omega))
  · refine lv_iload_n hx hb d_RR_look_4 rfl (lv_at hl 1 rfl) ?_
    refine lv_aload_n hx hb d_RR_look_5 rfl (lv_at hl 0 rfl) ?_
    refine va_get (D := (dC, dI)) (ci := 9) (v := .ref hLO) (C := R_RR) (T := T_RR) (N := 10) hx hb hts iRR hown hK hP 0 rfl rfl 6 (by decide) (hts _ (wb_RR_look _ b_230)) (fun _ h9 => h9) rfl d_RR_look_6 ?_
    refine va_get (D := (dC, dI)) (ci := 3) (v := .int (nI ln)) (C := R_LO) (T := T_LO) (N := 3) hx hb hts iLO hown hK hP 1 rfl rfl 2 (by decide) (hts _ (wb_RR_look _ b_184)) (fun _ h9 => h9) rfl d_RR_look_9 ?_
    refine lv_icmp_lt (tgt := 25) hx hb d_RR_look_12 (by decide) (fun c12 => ?_) (fun c12 => ?_)
    · refine lv_iload_n hx hb d_RR_look_25 rfl (lv_at hl 2 rfl) ?_
      refine lv_if_lt (tgt := 35) hx hb d_RR_look_26 (by decide) (fun c26 => ?_) (fun c26 => ?_)
      · obtain ⟨sa, hsa⟩ := hE.2.2.2 (200, "a look has no such part") (by decide)
        exact xk_throwG (cls := xkN) hx hb hown (hts _ (wb_RR_look _ b_386)) (hts _ (wb_RR_look _ b_16)) (hts _ (wb_RR_look _ b_387)) d_RR_look_35 d_RR_look_38 (Nat.le_of_ble_eq_true rfl) (Nat.le_of_ble_eq_true rfl) (xk_ld hx hb hown hsa d_RR_look_39) (xk_ctN hx hb hst hown (xk_words (fun w h => hts w (wb_RR_look w h)) hE at_NSE) (hl.1.trans hml.symm) d_RR_look_41 d_RR_look_44 htab (Nat.le_of_ble_eq_true rfl) (Nat.le_of_ble_eq_true rfl) hlocks)
      · refine lv_iload_n hx hb d_RR_look_29 rfl (lv_at hl 2 rfl) ?_
        refine lv_bipush (v := 6) hx hb d_RR_look_30 (by decide) ?_
        refine lv_icmp_lt (tgt := 45) hx hb d_RR_look_32 (by decide) (fun c32 => ?_) (fun c32 => ?_)
        · exact absurd c32 (Int32.not_lt.mpr (hbad.resolve_left c26))
        · obtain ⟨sa, hsa⟩ := hE.2.2.2 (200, "a look has no such part") (by decide)
          exact xk_throwG (cls := xkN) hx hb hown (hts _ (wb_RR_look _ b_386)) (hts _ (wb_RR_look _ b_16)) (hts _ (wb_RR_look _ b_387)) d_RR_look_35 d_RR_look_38 (Nat.le_of_ble_eq_true rfl) (Nat.le_of_ble_eq_true rfl) (xk_ld hx hb hown hsa d_RR_look_39) (xk_ctN hx hb hst hown (xk_words (fun w h => hts w (wb_RR_look w h)) hE at_NSE) (hl.1.trans hml.symm) d_RR_look_41 d_RR_look_44 htab (Nat.le_of_ble_eq_true rfl) (Nat.le_of_ble_eq_true rfl) hlocks)
    · exact absurd ((nI_ltI (by omega) (by omega)).mpr hk) c12

set_option maxHeartbeats 4000000 in
set_option maxRecDepth 100000 in
theorem t_RR_looked1 (l : Launch) (hst : l.stackTraces = false) (dC : Nat → ClassId) (dI : Nat → Nat → Nat) (N0 : Nat) (h hPA hRD hRB hPE hHO hAG hLO hRQ hEX aFR : Nat) (aFa aEm aVa : Nat) (hn : Nat) (x0 : Int32) (hbad : x0 < 0 ∨ nI hn ≤ x0) (k : Int32) : tMet l y_RR_looked ws_RR_looked ({ frames := 7, cells := 1, slots := 6, locals := 111 }) (va_Pc [.ref h, .int x0, .int k] (fun U => va_P (dC, dI) vwCl [(h, .inr (9, [.ref hPA, .ref hRD, .ref hRB, .ref hPE, .ref hHO, .ref hAG, .ref hLO, .ref hRQ, .ref hEX, .ref aFR])), (hHO, .inr (2, [.ref aFa, .ref aEm, .ref aVa, .int (nI hn)]))] U.heap ∧ va_K (dC, dI) vwCl [] U ∧ xkE N0 U ∧ N0 ≤ U.heap.size)) xkN := by
  refine tMet.ofW (cc := k_RR_looked) (maxL := 3) (ret := (some .int)) (by decide) rfl ?_
  intro p e s m args below meth c s₁ B hml htab hv
  obtain ⟨rfl, hP, hK, hE, hN⟩ := hv
  have hx := B.exec
  have hb := B.bytes
  have hts := atoms_spec (ws := ws_RR_looked) B.pre
  have hown : s.vm.findClass R_RR = some m.cls := findClass_of_methodNamed B.named
  have hlocks := B.notSynchronized
  have hS : va_S (fun _ => False) s.heap s.heap [] := va_S.rf
  have hP : va_P (dC, dI) vwCl [(h, .inr (9, [.ref hPA, .ref hRD, .ref hRB, .ref hPE, .ref hHO, .ref hAG, .ref hLO, .ref hRQ, .ref hEX, .ref aFR])), (hHO, .inr (2, [.ref aFa, .ref aEm, .ref aVa, .int (nI hn)]))] s.heap := hP
  have iHO : ∀ w ∈ u_ws R_HO T_HO 4, w ∈ ws_RR_looked := fun w h => wb_RR_looked w (in_HO w h)
  have iRR : ∀ w ∈ u_ws R_RR T_RR 10, w ∈ ws_RR_looked := fun w h => wb_RR_looked w (in_RR w h)
  have hl := lv_entry ([.ref h, .int x0, .int k]) (n := 3) (Nat.le_of_ble_eq_true rfl)
  rw [lg_entry_eq]
  generalize (lg_sl ([.ref h, .int x0, .int k]) ++ List.replicate (3 - (lg_sl ([.ref h, .int x0, .int k])).length) Slot.unset).toArray = ls at hl ⊢
  have hl : lv_has ls 3 [(0, .ref h), (1, .int x0), (2, .int k)] := hl
  refine lv_aload_n hx hb d_RR_looked_0 rfl (lv_at hl 0 rfl) ?_
  refine lv_iload_n hx hb d_RR_looked_1 rfl (lv_at hl 1 rfl) ?_
  have hPc := hP.sub (ws' := [(h, .inr (9, [.ref hPA, .ref hRD, .ref hRB, .ref hPE, .ref hHO, .ref hAG, .ref hLO, .ref hRQ, .ref hEX, .ref aFR])), (hHO, .inr (2, [.ref aFa, .ref aEm, .ref aVa, .int (nI hn)]))]) [0, 1] rfl
  have hKc := hK.sub (tys' := []) [] rfl
  refine xk_callV (As := [.int x0]) (rest := []) ⟨hx, hb, hml, hown, hts⟩ (t_RR_requireRecord l hst dC dI N0 h hPA hRD hRB hPE hHO hAG hLO hRQ hEX aFR aFa aEm aVa hn x0 (by first | assumption | omega)) (cwV 1 hts (vz_gV wb_RR_looked b_456 b_458 bs_7 b_1 wc_RR_requireRecord) rfl rfl rfl (by decide +kernel) ⟨Nat.le_of_ble_eq_true rfl, Nat.le_of_ble_eq_true rfl⟩) (vz_preVt hPc hKc hE hN hS (ci := 9) (q0 := 0) rfl rfl) rfl rfl hl.1 (Nat.le_of_ble_eq_true rfl) d_RR_looked_2 ⟨Nat.le_of_ble_eq_true rfl, Nat.le_of_ble_eq_true rfl⟩ (fun q9 H9 hnew => ?_)
  exact xk_out htab hlocks hnew

set_option maxHeartbeats 4000000 in
set_option maxRecDepth 100000 in
theorem t_RR_looked2 (l : Launch) (hst : l.stackTraces = false) (dC : Nat → ClassId) (dI : Nat → Nat → Nat) (N0 : Nat) (h hPA hRD hRB hPE hHO hAG hLO hRQ hEX aFR : Nat) (aFa aEm aVa : Nat) (hn : Nat) (hhn : hn ≤ 16) (r : Nat) (hr : r < hn) (k : Int32) (hbad : k < 0) : tMet l y_RR_looked ws_RR_looked ({ frames := 6, cells := 1, slots := 6, locals := 90 }) (va_Pc [.ref h, .int (nI r), .int k] (fun U => va_P (dC, dI) vwCl [(h, .inr (9, [.ref hPA, .ref hRD, .ref hRB, .ref hPE, .ref hHO, .ref hAG, .ref hLO, .ref hRQ, .ref hEX, .ref aFR])), (hHO, .inr (2, [.ref aFa, .ref aEm, .ref aVa, .int (nI hn)]))] U.heap ∧ va_K (dC, dI) vwCl [] U ∧ xkE N0 U ∧ N0 ≤ U.heap.size)) xkN := by
  refine tMet.ofW (cc := k_RR_looked) (maxL := 3) (ret := (some .int)) (by decide) rfl ?_
  intro p e s m args below meth c s₁ B hml htab hv
  obtain ⟨rfl, hP, hK, hE, hN⟩ := hv
  have hx := B.exec
  have hb := B.bytes
  have hts := atoms_spec (ws := ws_RR_looked) B.pre
  have hown : s.vm.findClass R_RR = some m.cls := findClass_of_methodNamed B.named
  have hlocks := B.notSynchronized
  have hS : va_S (fun _ => False) s.heap s.heap [] := va_S.rf
  have hP : va_P (dC, dI) vwCl [(h, .inr (9, [.ref hPA, .ref hRD, .ref hRB, .ref hPE, .ref hHO, .ref hAG, .ref hLO, .ref hRQ, .ref hEX, .ref aFR])), (hHO, .inr (2, [.ref aFa, .ref aEm, .ref aVa, .int (nI hn)]))] s.heap := hP
  have iHO : ∀ w ∈ u_ws R_HO T_HO 4, w ∈ ws_RR_looked := fun w h => wb_RR_looked w (in_HO w h)
  have iRR : ∀ w ∈ u_ws R_RR T_RR 10, w ∈ ws_RR_looked := fun w h => wb_RR_looked w (in_RR w h)
  have hl := lv_entry ([.ref h, .int (nI r), .int k]) (n := 3) (Nat.le_of_ble_eq_true rfl)
  rw [lg_entry_eq]
  generalize (lg_sl ([.ref h, .int (nI r), .int k]) ++ List.replicate (3 - (lg_sl ([.ref h, .int (nI r), .int k])).length) Slot.unset).toArray = ls at hl ⊢
  have hl : lv_has ls 3 [(0, .ref h), (1, .int (nI r)), (2, .int k)] := hl
  refine lv_aload_n hx hb d_RR_looked_0 rfl (lv_at hl 0 rfl) ?_
  refine lv_iload_n hx hb d_RR_looked_1 rfl (lv_at hl 1 rfl) ?_
  have hPc := hP.sub (ws' := [(h, .inr (9, [.ref hPA, .ref hRD, .ref hRB, .ref hPE, .ref hHO, .ref hAG, .ref hLO, .ref hRQ, .ref hEX, .ref aFR])), (hHO, .inr (2, [.ref aFa, .ref aEm, .ref aVa, .int (nI hn)]))]) [0, 1] rfl
  have hKc := hK.sub (tys' := []) [] rfl
  refine va_callv (va_runV (As := [.int (nI r)]) (rest := []) ⟨hx, hb, hml, hown, hts⟩ (c_RR_requireRecord l dC dI h hPA hRD hRB hPE hHO hAG hLO hRQ hEX aFR aFa aEm aVa hn (by first | assumption | omega) r (by first | assumption | omega)) (cwV 1 hts (vz_gV wb_RR_looked b_456 b_458 bs_7 b_1 wc_RR_requireRecord) rfl rfl rfl (by decide +kernel) ⟨Nat.le_of_ble_eq_true rfl, Nat.le_of_ble_eq_true rfl⟩) (vz_preV hPc hKc (ci := 9) (q0 := 0) rfl rfl) rfl rfl hl.1 rfl (lv_room (Nat.le_of_ble_eq_true rfl)) d_RR_looked_2 ⟨Nat.le_of_ble_eq_true rfl, Nat.le_of_ble_eq_true rfl⟩) hS (fun q _ h => False.elim h) (fun q h => False.elim h) (fun u9 t9 H1 locs ht hvm hr2 hB hzx9 hkx9 hS => ?_)
  try dsimp only at hr2
  have hP := vz_kept hP hkx9
  generalize H1 = H at hP hS ⊢
  obtain rfl : locs = [] := List.eq_nil_iff_forall_not_mem.mpr (fun x hx => hS.2.2 x hx)
  refine lv_iload_n hx hb d_RR_looked_5 rfl (lv_at hl 2 rfl) ?_
  refine lv_if_ge (tgt := 19) hx hb d_RR_looked_6 (by decide) (fun c6 => ?_) (fun c6 => ?_)
  · exact absurd hbad (Int32.not_lt.mpr c6)
  · obtain ⟨sa, hsa⟩ := hE.2.2.2 (205, "no such place") (by decide)
    exact xk_throwG (cls := xkN) hx hb hown (hts _ (wb_RR_looked _ b_386)) (hts _ (wb_RR_looked _ b_16)) (hts _ (wb_RR_looked _ b_387)) d_RR_looked_9 d_RR_looked_12 (Nat.le_of_ble_eq_true rfl) (Nat.le_of_ble_eq_true rfl) (xk_ld hx hb hown hsa d_RR_looked_13) (xk_ctN hx hb hst hown (xk_words (fun w h => hts w (wb_RR_looked w h)) hE at_NSE) (hl.1.trans hml.symm) d_RR_looked_15 d_RR_looked_18 htab (Nat.le_of_ble_eq_true rfl) (Nat.le_of_ble_eq_true rfl) hlocks)

set_option maxHeartbeats 4000000 in
set_option maxRecDepth 100000 in
theorem t_RR_export1 (l : Launch) (hst : l.stackTraces = false) (dC : Nat → ClassId) (dI : Nat → Nat → Nat) (N0 : Nat) (h hPA hRD hRB hPE hHO hAG hLO hRQ hEX aFR : Nat) (aRo aLi : Nat) (en : Nat) (x0 : Int32) (hbad : x0 < 0 ∨ nI en ≤ x0) (d : Int32) : tMet l y_RR_export ws_RR_export ({ frames := 7, cells := 1, slots := 6, locals := 111 }) (va_Pc [.ref h, .int x0, .int d] (fun U => va_P (dC, dI) vwCl [(h, .inr (9, [.ref hPA, .ref hRD, .ref hRB, .ref hPE, .ref hHO, .ref hAG, .ref hLO, .ref hRQ, .ref hEX, .ref aFR])), (hPE, .inr (5, [.ref aRo, .ref aLi, .int (nI en)]))] U.heap ∧ va_K (dC, dI) vwCl [] U ∧ xkE N0 U ∧ N0 ≤ U.heap.size)) xkN := by
  refine tMet.ofW (cc := k_RR_export) (maxL := 4) (ret := (some .int)) (by decide) rfl ?_
  intro p e s m args below meth c s₁ B hml htab hv
  obtain ⟨rfl, hP, hK, hE, hN⟩ := hv
  have hx := B.exec
  have hb := B.bytes
  have hts := atoms_spec (ws := ws_RR_export) B.pre
  have hown : s.vm.findClass R_RR = some m.cls := findClass_of_methodNamed B.named
  have hlocks := B.notSynchronized
  have hS : va_S (fun _ => False) s.heap s.heap [] := va_S.rf
  have hP : va_P (dC, dI) vwCl [(h, .inr (9, [.ref hPA, .ref hRD, .ref hRB, .ref hPE, .ref hHO, .ref hAG, .ref hLO, .ref hRQ, .ref hEX, .ref aFR])), (hPE, .inr (5, [.ref aRo, .ref aLi, .int (nI en)]))] s.heap := hP
  have iPE : ∀ w ∈ u_ws R_PE T_PE 3, w ∈ ws_RR_export := fun w h => wb_RR_export w (in_PE w h)
  have iRR : ∀ w ∈ u_ws R_RR T_RR 10, w ∈ ws_RR_export := fun w h => wb_RR_export w (in_RR w h)
  have hl := lv_entry ([.ref h, .int x0, .int d]) (n := 4) (Nat.le_of_ble_eq_true rfl)
  rw [lg_entry_eq]
  generalize (lg_sl ([.ref h, .int x0, .int d]) ++ List.replicate (4 - (lg_sl ([.ref h, .int x0, .int d])).length) Slot.unset).toArray = ls at hl ⊢
  have hl : lv_has ls 4 [(0, .ref h), (1, .int x0), (2, .int d)] := hl
  refine lv_aload_n hx hb d_RR_export_0 rfl (lv_at hl 0 rfl) ?_
  refine lv_iload_n hx hb d_RR_export_1 rfl (lv_at hl 1 rfl) ?_
  have hPc := hP.sub (ws' := [(h, .inr (9, [.ref hPA, .ref hRD, .ref hRB, .ref hPE, .ref hHO, .ref hAG, .ref hLO, .ref hRQ, .ref hEX, .ref aFR])), (hPE, .inr (5, [.ref aRo, .ref aLi, .int (nI en)]))]) [0, 1] rfl
  have hKc := hK.sub (tys' := []) [] rfl
  refine xk_callV (As := [.int x0]) (rest := []) ⟨hx, hb, hml, hown, hts⟩ (t_RR_requirePerson l hst dC dI N0 h hPA hRD hRB hPE hHO hAG hLO hRQ hEX aFR aRo aLi en x0 (by first | assumption | omega)) (cwV 1 hts (vz_gV wb_RR_export b_492 b_494 bs_8 b_1 wc_RR_requirePerson) rfl rfl rfl (by decide +kernel) ⟨Nat.le_of_ble_eq_true rfl, Nat.le_of_ble_eq_true rfl⟩) (vz_preVt hPc hKc hE hN hS (ci := 9) (q0 := 0) rfl rfl) rfl rfl hl.1 (Nat.le_of_ble_eq_true rfl) d_RR_export_2 ⟨Nat.le_of_ble_eq_true rfl, Nat.le_of_ble_eq_true rfl⟩ (fun q9 H9 hnew => ?_)
  exact xk_out htab hlocks hnew

set_option maxHeartbeats 4000000 in
set_option maxRecDepth 100000 in
theorem t_RR_export2 (l : Launch) (hst : l.stackTraces = false) (dC : Nat → ClassId) (dI : Nat → Nat → Nat) (N0 : Nat) (h hPA hRD hRB hPE hHO hAG hLO hRQ hEX aFR : Nat) (aRo aLi : Nat) (en : Nat) (hen : en ≤ 12) (u : Nat) (hu : u < en) (x0 : Int32) (hbad : x0 < 0 ∨ 100000 < x0) : tMet l y_RR_export ws_RR_export ({ frames := 7, cells := 1, slots := 6, locals := 110 }) (va_Pc [.ref h, .int (nI u), .int x0] (fun U => va_P (dC, dI) vwCl [(h, .inr (9, [.ref hPA, .ref hRD, .ref hRB, .ref hPE, .ref hHO, .ref hAG, .ref hLO, .ref hRQ, .ref hEX, .ref aFR])), (hPE, .inr (5, [.ref aRo, .ref aLi, .int (nI en)]))] U.heap ∧ va_K (dC, dI) vwCl [] U ∧ xkE N0 U ∧ N0 ≤ U.heap.size)) "java/lang/IllegalArgumentException" := by
  refine tMet.ofW (cc := k_RR_export) (maxL := 4) (ret := (some .int)) (by decide) rfl ?_
  intro p e s m args below meth c s₁ B hml htab hv
  obtain ⟨rfl, hP, hK, hE, hN⟩ := hv
  have hx := B.exec
  have hb := B.bytes
  have hts := atoms_spec (ws := ws_RR_export) B.pre
  have hown : s.vm.findClass R_RR = some m.cls := findClass_of_methodNamed B.named
  have hlocks := B.notSynchronized
  have hS : va_S (fun _ => False) s.heap s.heap [] := va_S.rf
  have hP : va_P (dC, dI) vwCl [(h, .inr (9, [.ref hPA, .ref hRD, .ref hRB, .ref hPE, .ref hHO, .ref hAG, .ref hLO, .ref hRQ, .ref hEX, .ref aFR])), (hPE, .inr (5, [.ref aRo, .ref aLi, .int (nI en)]))] s.heap := hP
  have iPE : ∀ w ∈ u_ws R_PE T_PE 3, w ∈ ws_RR_export := fun w h => wb_RR_export w (in_PE w h)
  have iRR : ∀ w ∈ u_ws R_RR T_RR 10, w ∈ ws_RR_export := fun w h => wb_RR_export w (in_RR w h)
  have hl := lv_entry ([.ref h, .int (nI u), .int x0]) (n := 4) (Nat.le_of_ble_eq_true rfl)
  rw [lg_entry_eq]
  generalize (lg_sl ([.ref h, .int (nI u), .int x0]) ++ List.replicate (4 - (lg_sl ([.ref h, .int (nI u), .int x0])).length) Slot.unset).toArray = ls at hl ⊢
  have hl : lv_has ls 4 [(0, .ref h), (1, .int (nI u)), (2, .int x0)] := hl
  refine lv_aload_n hx hb d_RR_export_0 rfl (lv_at hl 0 rfl) ?_
  refine lv_iload_n hx hb d_RR_export_1 rfl (lv_at hl 1 rfl) ?_
  have hPc := hP.sub (ws' := [(h, .inr (9, [.ref hPA, .ref hRD, .ref hRB, .ref hPE, .ref hHO, .ref hAG, .ref hLO, .ref hRQ, .ref hEX, .ref aFR])), (hPE, .inr (5, [.ref aRo, .ref aLi, .int (nI en)]))]) [0, 1] rfl
  have hKc := hK.sub (tys' := []) [] rfl
  refine va_callv (va_runV (As := [.int (nI u)]) (rest := []) ⟨hx, hb, hml, hown, hts⟩ (c_RR_requirePerson l dC dI h hPA hRD hRB hPE hHO hAG hLO hRQ hEX aFR aRo aLi en (by first | assumption | omega) u (by first | assumption | omega)) (cwV 1 hts (vz_gV wb_RR_export b_492 b_494 bs_8 b_1 wc_RR_requirePerson) rfl rfl rfl (by decide +kernel) ⟨Nat.le_of_ble_eq_true rfl, Nat.le_of_ble_eq_true rfl⟩) (vz_preV hPc hKc (ci := 9) (q0 := 0) rfl rfl) rfl rfl hl.1 rfl (lv_room (Nat.le_of_ble_eq_true rfl)) d_RR_export_2 ⟨Nat.le_of_ble_eq_true rfl, Nat.le_of_ble_eq_true rfl⟩) hS (fun q _ h => False.elim h) (fun q h => False.elim h) (fun u9 t9 H1 locs ht hvm hr2 hB hzx9 hkx9 hS => ?_)
  try dsimp only at hr2
  have hP := vz_kept hP hkx9
  generalize H1 = H at hP hS ⊢
  obtain rfl : locs = [] := List.eq_nil_iff_forall_not_mem.mpr (fun x hx => hS.2.2 x hx)
  refine lv_iload_n hx hb d_RR_export_5 rfl (lv_at hl 2 rfl) ?_
  have hPc := hP.sub (ws' := []) [] rfl
  have hKc := hK.sub (tys' := []) [] rfl
  refine xk_callS (As := [.int x0]) (rest := []) ⟨hx, hb, hml, hown, hts⟩ (t_RR_requireDay l hst dC dI N0 x0 (by first | assumption | omega)) (va_cwS 1 hts (vz_gS wb_RR_export b_480 b_481 b_1 wc_RR_requireDay) rfl rfl rfl (by decide +kernel) ⟨Nat.le_of_ble_eq_true rfl, Nat.le_of_ble_eq_true rfl⟩) (vz_preSt hPc hKc hE hN hS) rfl rfl hl.1 (Nat.le_of_ble_eq_true rfl) d_RR_export_6 ⟨Nat.le_of_ble_eq_true rfl, Nat.le_of_ble_eq_true rfl⟩ (fun q9 H9 hnew => ?_)
  exact xk_out htab hlocks hnew

set_option maxHeartbeats 4000000 in
set_option maxRecDepth 100000 in
theorem t_RR_exported (l : Launch) (hst : l.stackTraces = false) (dC : Nat → ClassId) (dI : Nat → Nat → Nat) (N0 : Nat) (h hPA hRD hRB hPE hHO hAG hLO hRQ hEX aFR : Nat) (aER : Nat) (xn : Nat) (x0 : Int32) (hbad : x0 < 0 ∨ nI xn ≤ x0) : tMet l y_RR_exported ws_RR_exported ({ frames := 6, cells := 1, slots := 6, locals := 90 }) (va_Pc [.ref h, .int x0] (fun U => va_P (dC, dI) vwCl [(h, .inr (9, [.ref hPA, .ref hRD, .ref hRB, .ref hPE, .ref hHO, .ref hAG, .ref hLO, .ref hRQ, .ref hEX, .ref aFR])), (hEX, .inr (1, [.ref aER, .int (nI xn)]))] U.heap ∧ va_K (dC, dI) vwCl [] U ∧ xkE N0 U ∧ N0 ≤ U.heap.size)) xkN := by
  refine tMet.ofW (cc := k_RR_exported) (maxL := 2) (ret := (some .int)) (by decide) rfl ?_
  intro p e s m args below meth c s₁ B hml htab hv
  obtain ⟨rfl, hP, hK, hE, hN⟩ := hv
  have hx := B.exec
  have hb := B.bytes
  have hts := atoms_spec (ws := ws_RR_exported) B.pre
  have hown : s.vm.findClass R_RR = some m.cls := findClass_of_methodNamed B.named
  have hlocks := B.notSynchronized
  have hS : va_S (fun _ => False) s.heap s.heap [] := va_S.rf
  have hP : va_P (dC, dI) vwCl [(h, .inr (9, [.ref hPA, .ref hRD, .ref hRB, .ref hPE, .ref hHO, .ref hAG, .ref hLO, .ref hRQ, .ref hEX, .ref aFR])), (hEX, .inr (1, [.ref aER, .int (nI xn)]))] s.heap := hP
  have iEX : ∀ w ∈ u_ws R_EX T_EX 2, w ∈ ws_RR_exported := fun w h => wb_RR_exported w (in_EX w h)
  have iRR : ∀ w ∈ u_ws R_RR T_RR 10, w ∈ ws_RR_exported := fun w h => wb_RR_exported w (in_RR w h)
  have hl := lv_entry ([.ref h, .int x0]) (n := 2) (Nat.le_of_ble_eq_true rfl)
  rw [lg_entry_eq]
  generalize (lg_sl ([.ref h, .int x0]) ++ List.replicate (2 - (lg_sl ([.ref h, .int x0])).length) Slot.unset).toArray = ls at hl ⊢
  have hl : lv_has ls 2 [(0, .ref h), (1, .int x0)] := hl
  refine lv_iload_n hx hb d_RR_exported_0 rfl (lv_at hl 1 rfl) ?_
  refine lv_if_lt (tgt := 15) hx hb d_RR_exported_1 (by decide) (fun c1 => ?_) (fun c1 => ?_)
  · obtain ⟨sa, hsa⟩ := hE.2.2.2 (216, "no such place in the latest export") (by decide)
    exact xk_throwG (cls := xkN) hx hb hown (hts _ (wb_RR_exported _ b_386)) (hts _ (wb_RR_exported _ b_16)) (hts _ (wb_RR_exported _ b_387)) d_RR_exported_15 d_RR_exported_18 (Nat.le_of_ble_eq_true rfl) (Nat.le_of_ble_eq_true rfl) (xk_ld hx hb hown hsa d_RR_exported_19) (xk_ctN hx hb hst hown (xk_words (fun w h => hts w (wb_RR_exported w h)) hE at_NSE) (hl.1.trans hml.symm) d_RR_exported_21 d_RR_exported_24 htab (Nat.le_of_ble_eq_true rfl) (Nat.le_of_ble_eq_true rfl) hlocks)
  · refine lv_iload_n hx hb d_RR_exported_4 rfl (lv_at hl 1 rfl) ?_
    refine lv_aload_n hx hb d_RR_exported_5 rfl (lv_at hl 0 rfl) ?_
    refine va_get (D := (dC, dI)) (ci := 9) (v := .ref hEX) (C := R_RR) (T := T_RR) (N := 10) hx hb hts iRR hown hK hP 0 rfl rfl 8 (by decide) (hts _ (wb_RR_exported _ b_232)) (fun _ h9 => h9) rfl d_RR_exported_6 ?_
    refine va_get (D := (dC, dI)) (ci := 1) (v := .int (nI xn)) (C := R_EX) (T := T_EX) (N := 2) hx hb hts iEX hown hK hP 1 rfl rfl 1 (by decide) (hts _ (wb_RR_exported _ b_218)) (fun _ h9 => h9) rfl d_RR_exported_9 ?_
    refine lv_icmp_lt (tgt := 25) hx hb d_RR_exported_12 (by decide) (fun c12 => ?_) (fun c12 => ?_)
    · exact absurd c12 (Int32.not_lt.mpr (hbad.resolve_left c1))
    · obtain ⟨sa, hsa⟩ := hE.2.2.2 (216, "no such place in the latest export") (by decide)
      exact xk_throwG (cls := xkN) hx hb hown (hts _ (wb_RR_exported _ b_386)) (hts _ (wb_RR_exported _ b_16)) (hts _ (wb_RR_exported _ b_387)) d_RR_exported_15 d_RR_exported_18 (Nat.le_of_ble_eq_true rfl) (Nat.le_of_ble_eq_true rfl) (xk_ld hx hb hown hsa d_RR_exported_19) (xk_ctN hx hb hst hown (xk_words (fun w h => hts w (wb_RR_exported w h)) hE at_NSE) (hl.1.trans hml.symm) d_RR_exported_21 d_RR_exported_24 htab (Nat.le_of_ble_eq_true rfl) (Nat.le_of_ble_eq_true rfl) hlocks)

set_option maxHeartbeats 4000000 in
set_option maxRecDepth 100000 in
theorem t_RR_request1 (l : Launch) (hst : l.stackTraces = false) (dC : Nat → ClassId) (dI : Nat → Nat → Nat) (N0 : Nat) (h hPA hRD hRB hPE hHO hAG hLO hRQ hEX aFR : Nat) (aRo aLi : Nat) (en : Nat) (aFa aEm aVa : Nat) (hn : Nat) (x0 : Int32) (hbad : x0 < 0 ∨ nI en ≤ x0) (r d : Int32) : tMet l y_RR_request ws_RR_request ({ frames := 7, cells := 1, slots := 6, locals := 111 }) (va_Pc [.ref h, .int x0, .int r, .int d] (fun U => va_P (dC, dI) vwCl [(h, .inr (9, [.ref hPA, .ref hRD, .ref hRB, .ref hPE, .ref hHO, .ref hAG, .ref hLO, .ref hRQ, .ref hEX, .ref aFR])), (hPE, .inr (5, [.ref aRo, .ref aLi, .int (nI en)])), (hHO, .inr (2, [.ref aFa, .ref aEm, .ref aVa, .int (nI hn)]))] U.heap ∧ va_K (dC, dI) vwCl [] U ∧ xkE N0 U ∧ N0 ≤ U.heap.size)) xkN := by
  refine tMet.ofW (cc := k_RR_request) (maxL := 5) (ret := (some .int)) (by decide) rfl ?_
  intro p e s m args below meth c s₁ B hml htab hv
  obtain ⟨rfl, hP, hK, hE, hN⟩ := hv
  have hx := B.exec
  have hb := B.bytes
  have hts := atoms_spec (ws := ws_RR_request) B.pre
  have hown : s.vm.findClass R_RR = some m.cls := findClass_of_methodNamed B.named
  have hlocks := B.notSynchronized
  have hS : va_S (fun _ => False) s.heap s.heap [] := va_S.rf
  have hP : va_P (dC, dI) vwCl [(h, .inr (9, [.ref hPA, .ref hRD, .ref hRB, .ref hPE, .ref hHO, .ref hAG, .ref hLO, .ref hRQ, .ref hEX, .ref aFR])), (hPE, .inr (5, [.ref aRo, .ref aLi, .int (nI en)])), (hHO, .inr (2, [.ref aFa, .ref aEm, .ref aVa, .int (nI hn)]))] s.heap := hP
  have iHO : ∀ w ∈ u_ws R_HO T_HO 4, w ∈ ws_RR_request := fun w h => wb_RR_request w (in_HO w h)
  have iPE : ∀ w ∈ u_ws R_PE T_PE 3, w ∈ ws_RR_request := fun w h => wb_RR_request w (in_PE w h)
  have iRR : ∀ w ∈ u_ws R_RR T_RR 10, w ∈ ws_RR_request := fun w h => wb_RR_request w (in_RR w h)
  have hl := lv_entry ([.ref h, .int x0, .int r, .int d]) (n := 5) (Nat.le_of_ble_eq_true rfl)
  rw [lg_entry_eq]
  generalize (lg_sl ([.ref h, .int x0, .int r, .int d]) ++ List.replicate (5 - (lg_sl ([.ref h, .int x0, .int r, .int d])).length) Slot.unset).toArray = ls at hl ⊢
  have hl : lv_has ls 5 [(0, .ref h), (1, .int x0), (2, .int r), (3, .int d)] := hl
  refine lv_aload_n hx hb d_RR_request_0 rfl (lv_at hl 0 rfl) ?_
  refine lv_iload_n hx hb d_RR_request_1 rfl (lv_at hl 1 rfl) ?_
  have hPc := hP.sub (ws' := [(h, .inr (9, [.ref hPA, .ref hRD, .ref hRB, .ref hPE, .ref hHO, .ref hAG, .ref hLO, .ref hRQ, .ref hEX, .ref aFR])), (hPE, .inr (5, [.ref aRo, .ref aLi, .int (nI en)]))]) [0, 1] rfl
  have hKc := hK.sub (tys' := []) [] rfl
  refine xk_callV (As := [.int x0]) (rest := []) ⟨hx, hb, hml, hown, hts⟩ (t_RR_requirePerson l hst dC dI N0 h hPA hRD hRB hPE hHO hAG hLO hRQ hEX aFR aRo aLi en x0 (by first | assumption | omega)) (cwV 1 hts (vz_gV wb_RR_request b_492 b_494 bs_8 b_1 wc_RR_requirePerson) rfl rfl rfl (by decide +kernel) ⟨Nat.le_of_ble_eq_true rfl, Nat.le_of_ble_eq_true rfl⟩) (vz_preVt hPc hKc hE hN hS (ci := 9) (q0 := 0) rfl rfl) rfl rfl hl.1 (Nat.le_of_ble_eq_true rfl) d_RR_request_2 ⟨Nat.le_of_ble_eq_true rfl, Nat.le_of_ble_eq_true rfl⟩ (fun q9 H9 hnew => ?_)
  exact xk_out htab hlocks hnew

set_option maxHeartbeats 4000000 in
set_option maxRecDepth 100000 in
theorem t_RR_request2 (l : Launch) (hst : l.stackTraces = false) (dC : Nat → ClassId) (dI : Nat → Nat → Nat) (N0 : Nat) (h hPA hRD hRB hPE hHO hAG hLO hRQ hEX aFR : Nat) (aRo aLi : Nat) (en : Nat) (aFa aEm aVa : Nat) (hn : Nat) (hen : en ≤ 12) (u : Nat) (hu : u < en) (x0 : Int32) (hbad : x0 < 0 ∨ nI hn ≤ x0) (d : Int32) : tMet l y_RR_request ws_RR_request ({ frames := 7, cells := 1, slots := 6, locals := 111 }) (va_Pc [.ref h, .int (nI u), .int x0, .int d] (fun U => va_P (dC, dI) vwCl [(h, .inr (9, [.ref hPA, .ref hRD, .ref hRB, .ref hPE, .ref hHO, .ref hAG, .ref hLO, .ref hRQ, .ref hEX, .ref aFR])), (hPE, .inr (5, [.ref aRo, .ref aLi, .int (nI en)])), (hHO, .inr (2, [.ref aFa, .ref aEm, .ref aVa, .int (nI hn)]))] U.heap ∧ va_K (dC, dI) vwCl [] U ∧ xkE N0 U ∧ N0 ≤ U.heap.size)) xkN := by
  refine tMet.ofW (cc := k_RR_request) (maxL := 5) (ret := (some .int)) (by decide) rfl ?_
  intro p e s m args below meth c s₁ B hml htab hv
  obtain ⟨rfl, hP, hK, hE, hN⟩ := hv
  have hx := B.exec
  have hb := B.bytes
  have hts := atoms_spec (ws := ws_RR_request) B.pre
  have hown : s.vm.findClass R_RR = some m.cls := findClass_of_methodNamed B.named
  have hlocks := B.notSynchronized
  have hS : va_S (fun _ => False) s.heap s.heap [] := va_S.rf
  have hP : va_P (dC, dI) vwCl [(h, .inr (9, [.ref hPA, .ref hRD, .ref hRB, .ref hPE, .ref hHO, .ref hAG, .ref hLO, .ref hRQ, .ref hEX, .ref aFR])), (hPE, .inr (5, [.ref aRo, .ref aLi, .int (nI en)])), (hHO, .inr (2, [.ref aFa, .ref aEm, .ref aVa, .int (nI hn)]))] s.heap := hP
  have iHO : ∀ w ∈ u_ws R_HO T_HO 4, w ∈ ws_RR_request := fun w h => wb_RR_request w (in_HO w h)
  have iPE : ∀ w ∈ u_ws R_PE T_PE 3, w ∈ ws_RR_request := fun w h => wb_RR_request w (in_PE w h)
  have iRR : ∀ w ∈ u_ws R_RR T_RR 10, w ∈ ws_RR_request := fun w h => wb_RR_request w (in_RR w h)
  have hl := lv_entry ([.ref h, .int (nI u), .int x0, .int d]) (n := 5) (Nat.le_of_ble_eq_true rfl)
  rw [lg_entry_eq]
  generalize (lg_sl ([.ref h, .int (nI u), .int x0, .int d]) ++ List.replicate (5 - (lg_sl ([.ref h, .int (nI u), .int x0, .int d])).length) Slot.unset).toArray = ls at hl ⊢
  have hl : lv_has ls 5 [(0, .ref h), (1, .int (nI u)), (2, .int x0), (3, .int d)] := hl
  refine lv_aload_n hx hb d_RR_request_0 rfl (lv_at hl 0 rfl) ?_
  refine lv_iload_n hx hb d_RR_request_1 rfl (lv_at hl 1 rfl) ?_
  have hPc := hP.sub (ws' := [(h, .inr (9, [.ref hPA, .ref hRD, .ref hRB, .ref hPE, .ref hHO, .ref hAG, .ref hLO, .ref hRQ, .ref hEX, .ref aFR])), (hPE, .inr (5, [.ref aRo, .ref aLi, .int (nI en)]))]) [0, 1] rfl
  have hKc := hK.sub (tys' := []) [] rfl
  refine va_callv (va_runV (As := [.int (nI u)]) (rest := []) ⟨hx, hb, hml, hown, hts⟩ (c_RR_requirePerson l dC dI h hPA hRD hRB hPE hHO hAG hLO hRQ hEX aFR aRo aLi en (by first | assumption | omega) u (by first | assumption | omega)) (cwV 1 hts (vz_gV wb_RR_request b_492 b_494 bs_8 b_1 wc_RR_requirePerson) rfl rfl rfl (by decide +kernel) ⟨Nat.le_of_ble_eq_true rfl, Nat.le_of_ble_eq_true rfl⟩) (vz_preV hPc hKc (ci := 9) (q0 := 0) rfl rfl) rfl rfl hl.1 rfl (lv_room (Nat.le_of_ble_eq_true rfl)) d_RR_request_2 ⟨Nat.le_of_ble_eq_true rfl, Nat.le_of_ble_eq_true rfl⟩) hS (fun q _ h => False.elim h) (fun q h => False.elim h) (fun u9 t9 H1 locs ht hvm hr2 hB hzx9 hkx9 hS => ?_)
  try dsimp only at hr2
  have hP := vz_kept hP hkx9
  generalize H1 = H at hP hS ⊢
  obtain rfl : locs = [] := List.eq_nil_iff_forall_not_mem.mpr (fun x hx => hS.2.2 x hx)
  refine lv_aload_n hx hb d_RR_request_5 rfl (lv_at hl 0 rfl) ?_
  refine lv_iload_n hx hb d_RR_request_6 rfl (lv_at hl 2 rfl) ?_
  have hPc := hP.sub (ws' := [(h, .inr (9, [.ref hPA, .ref hRD, .ref hRB, .ref hPE, .ref hHO, .ref hAG, .ref hLO, .ref hRQ, .ref hEX, .ref aFR])), (hHO, .inr (2, [.ref aFa, .ref aEm, .ref aVa, .int (nI hn)]))]) [0, 2] rfl
  have hKc := hK.sub (tys' := []) [] rfl
  refine xk_callV (As := [.int x0]) (rest := []) ⟨hx, hb, hml, hown, hts⟩ (t_RR_requireRecord l hst dC dI N0 h hPA hRD hRB hPE hHO hAG hLO hRQ hEX aFR aFa aEm aVa hn x0 (by first | assumption | omega)) (cwV 1 hts (vz_gV wb_RR_request b_456 b_458 bs_7 b_1 wc_RR_requireRecord) rfl rfl rfl (by decide +kernel) ⟨Nat.le_of_ble_eq_true rfl, Nat.le_of_ble_eq_true rfl⟩) (vz_preVt hPc hKc hE hN hS (ci := 9) (q0 := 0) rfl rfl) rfl rfl hl.1 (Nat.le_of_ble_eq_true rfl) d_RR_request_7 ⟨Nat.le_of_ble_eq_true rfl, Nat.le_of_ble_eq_true rfl⟩ (fun q9 H9 hnew => ?_)
  exact xk_out htab hlocks hnew

set_option maxHeartbeats 4000000 in
set_option maxRecDepth 100000 in
theorem t_RR_request3 (l : Launch) (hst : l.stackTraces = false) (dC : Nat → ClassId) (dI : Nat → Nat → Nat) (N0 : Nat) (h hPA hRD hRB hPE hHO hAG hLO hRQ hEX aFR : Nat) (aRo aLi : Nat) (en : Nat) (aFa aEm aVa : Nat) (hn : Nat) (hen : en ≤ 12) (u : Nat) (hu : u < en) (hhn : hn ≤ 16) (r : Nat) (hr : r < hn) (x0 : Int32) (hbad : x0 < 0 ∨ 100000 < x0) : tMet l y_RR_request ws_RR_request ({ frames := 7, cells := 1, slots := 6, locals := 110 }) (va_Pc [.ref h, .int (nI u), .int (nI r), .int x0] (fun U => va_P (dC, dI) vwCl [(h, .inr (9, [.ref hPA, .ref hRD, .ref hRB, .ref hPE, .ref hHO, .ref hAG, .ref hLO, .ref hRQ, .ref hEX, .ref aFR])), (hPE, .inr (5, [.ref aRo, .ref aLi, .int (nI en)])), (hHO, .inr (2, [.ref aFa, .ref aEm, .ref aVa, .int (nI hn)]))] U.heap ∧ va_K (dC, dI) vwCl [] U ∧ xkE N0 U ∧ N0 ≤ U.heap.size)) "java/lang/IllegalArgumentException" := by
  refine tMet.ofW (cc := k_RR_request) (maxL := 5) (ret := (some .int)) (by decide) rfl ?_
  intro p e s m args below meth c s₁ B hml htab hv
  obtain ⟨rfl, hP, hK, hE, hN⟩ := hv
  have hx := B.exec
  have hb := B.bytes
  have hts := atoms_spec (ws := ws_RR_request) B.pre
  have hown : s.vm.findClass R_RR = some m.cls := findClass_of_methodNamed B.named
  have hlocks := B.notSynchronized
  have hS : va_S (fun _ => False) s.heap s.heap [] := va_S.rf
  have hP : va_P (dC, dI) vwCl [(h, .inr (9, [.ref hPA, .ref hRD, .ref hRB, .ref hPE, .ref hHO, .ref hAG, .ref hLO, .ref hRQ, .ref hEX, .ref aFR])), (hPE, .inr (5, [.ref aRo, .ref aLi, .int (nI en)])), (hHO, .inr (2, [.ref aFa, .ref aEm, .ref aVa, .int (nI hn)]))] s.heap := hP
  have iHO : ∀ w ∈ u_ws R_HO T_HO 4, w ∈ ws_RR_request := fun w h => wb_RR_request w (in_HO w h)
  have iPE : ∀ w ∈ u_ws R_PE T_PE 3, w ∈ ws_RR_request := fun w h => wb_RR_request w (in_PE w h)
  have iRR : ∀ w ∈ u_ws R_RR T_RR 10, w ∈ ws_RR_request := fun w h => wb_RR_request w (in_RR w h)
  have hl := lv_entry ([.ref h, .int (nI u), .int (nI r), .int x0]) (n := 5) (Nat.le_of_ble_eq_true rfl)
  rw [lg_entry_eq]
  generalize (lg_sl ([.ref h, .int (nI u), .int (nI r), .int x0]) ++ List.replicate (5 - (lg_sl ([.ref h, .int (nI u), .int (nI r), .int x0])).length) Slot.unset).toArray = ls at hl ⊢
  have hl : lv_has ls 5 [(0, .ref h), (1, .int (nI u)), (2, .int (nI r)), (3, .int x0)] := hl
  refine lv_aload_n hx hb d_RR_request_0 rfl (lv_at hl 0 rfl) ?_
  refine lv_iload_n hx hb d_RR_request_1 rfl (lv_at hl 1 rfl) ?_
  have hPc := hP.sub (ws' := [(h, .inr (9, [.ref hPA, .ref hRD, .ref hRB, .ref hPE, .ref hHO, .ref hAG, .ref hLO, .ref hRQ, .ref hEX, .ref aFR])), (hPE, .inr (5, [.ref aRo, .ref aLi, .int (nI en)]))]) [0, 1] rfl
  have hKc := hK.sub (tys' := []) [] rfl
  refine va_callv (va_runV (As := [.int (nI u)]) (rest := []) ⟨hx, hb, hml, hown, hts⟩ (c_RR_requirePerson l dC dI h hPA hRD hRB hPE hHO hAG hLO hRQ hEX aFR aRo aLi en (by first | assumption | omega) u (by first | assumption | omega)) (cwV 1 hts (vz_gV wb_RR_request b_492 b_494 bs_8 b_1 wc_RR_requirePerson) rfl rfl rfl (by decide +kernel) ⟨Nat.le_of_ble_eq_true rfl, Nat.le_of_ble_eq_true rfl⟩) (vz_preV hPc hKc (ci := 9) (q0 := 0) rfl rfl) rfl rfl hl.1 rfl (lv_room (Nat.le_of_ble_eq_true rfl)) d_RR_request_2 ⟨Nat.le_of_ble_eq_true rfl, Nat.le_of_ble_eq_true rfl⟩) hS (fun q _ h => False.elim h) (fun q h => False.elim h) (fun u9 t9 H1 locs ht hvm hr2 hB hzx9 hkx9 hS => ?_)
  try dsimp only at hr2
  have hP := vz_kept hP hkx9
  generalize H1 = H at hP hS ⊢
  obtain rfl : locs = [] := List.eq_nil_iff_forall_not_mem.mpr (fun x hx => hS.2.2 x hx)
  refine lv_aload_n hx hb d_RR_request_5 rfl (lv_at hl 0 rfl) ?_
  refine lv_iload_n hx hb d_RR_request_6 rfl (lv_at hl 2 rfl) ?_
  have hPc := hP.sub (ws' := [(h, .inr (9, [.ref hPA, .ref hRD, .ref hRB, .ref hPE, .ref hHO, .ref hAG, .ref hLO, .ref hRQ, .ref hEX, .ref aFR])), (hHO, .inr (2, [.ref aFa, .ref aEm, .ref aVa, .int (nI hn)]))]) [0, 2] rfl
  have hKc := hK.sub (tys' := []) [] rfl
  refine va_callv (va_runV (As := [.int (nI r)]) (rest := []) ⟨hx, hb, hml, hown, hts⟩ (c_RR_requireRecord l dC dI h hPA hRD hRB hPE hHO hAG hLO hRQ hEX aFR aFa aEm aVa hn (by first | assumption | omega) r (by first | assumption | omega)) (cwV 1 hts (vz_gV wb_RR_request b_456 b_458 bs_7 b_1 wc_RR_requireRecord) rfl rfl rfl (by decide +kernel) ⟨Nat.le_of_ble_eq_true rfl, Nat.le_of_ble_eq_true rfl⟩) (vz_preV hPc hKc (ci := 9) (q0 := 0) rfl rfl) rfl rfl hl.1 rfl (lv_room (Nat.le_of_ble_eq_true rfl)) d_RR_request_7 ⟨Nat.le_of_ble_eq_true rfl, Nat.le_of_ble_eq_true rfl⟩) hS (fun q _ h => False.elim h) (fun q h => False.elim h) (fun u9 t9 H1 locs ht hvm hr7 hB hzx9 hkx9 hS => ?_)
  try dsimp only at hr7
  have hP := vz_kept hP hkx9
  generalize H1 = H at hP hS ⊢
  obtain rfl : locs = [] := List.eq_nil_iff_forall_not_mem.mpr (fun x hx => hS.2.2 x hx)
  refine lv_iload_n hx hb d_RR_request_10 rfl (lv_at hl 3 rfl) ?_
  have hPc := hP.sub (ws' := []) [] rfl
  have hKc := hK.sub (tys' := []) [] rfl
  refine xk_callS (As := [.int x0]) (rest := []) ⟨hx, hb, hml, hown, hts⟩ (t_RR_requireDay l hst dC dI N0 x0 (by first | assumption | omega)) (va_cwS 1 hts (vz_gS wb_RR_request b_480 b_481 b_1 wc_RR_requireDay) rfl rfl rfl (by decide +kernel) ⟨Nat.le_of_ble_eq_true rfl, Nat.le_of_ble_eq_true rfl⟩) (vz_preSt hPc hKc hE hN hS) rfl rfl hl.1 (Nat.le_of_ble_eq_true rfl) d_RR_request_11 ⟨Nat.le_of_ble_eq_true rfl, Nat.le_of_ble_eq_true rfl⟩ (fun q9 H9 hnew => ?_)
  exact xk_out htab hlocks hnew

set_option maxHeartbeats 4000000 in
set_option maxRecDepth 100000 in
theorem t_RR_request4 (l : Launch) (hst : l.stackTraces = false) (dC : Nat → ClassId) (dI : Nat → Nat → Nat) (N0 : Nat) (h hPA hRD hRB hPE hHO hAG hLO hRQ hEX aFR : Nat) (aRo aLi : Nat) (en : Nat) (aFa aEm aVa : Nat) (hn : Nat) (aQP aQD : Nat) (qn : Nat) (hen : en ≤ 12) (u : Nat) (hu : u < en) (hhn : hn ≤ 16) (r : Nat) (hr : r < hn) (d : Int32) (hd0 : ¬ d < 0) (hd1 : d ≤ 100000) (hqn : qn ≤ 60) (hbad : 60 ≤ qn) : tMet l y_RR_request ws_RR_request ({ frames := 6, cells := 1, slots := 6, locals := 90 }) (va_Pc [.ref h, .int (nI u), .int (nI r), .int d] (fun U => va_P (dC, dI) vwCl [(h, .inr (9, [.ref hPA, .ref hRD, .ref hRB, .ref hPE, .ref hHO, .ref hAG, .ref hLO, .ref hRQ, .ref hEX, .ref aFR])), (hPE, .inr (5, [.ref aRo, .ref aLi, .int (nI en)])), (hHO, .inr (2, [.ref aFa, .ref aEm, .ref aVa, .int (nI hn)])), (hRQ, .inr (6, [.ref aQP, .ref aQD, .int (nI qn)]))] U.heap ∧ va_K (dC, dI) vwCl [] U ∧ xkE N0 U ∧ N0 ≤ U.heap.size)) "java/lang/IllegalStateException" := by
  refine tMet.ofW (cc := k_RR_request) (maxL := 5) (ret := (some .int)) (by decide) rfl ?_
  intro p e s m args below meth c s₁ B hml htab hv
  obtain ⟨rfl, hP, hK, hE, hN⟩ := hv
  have hx := B.exec
  have hb := B.bytes
  have hts := atoms_spec (ws := ws_RR_request) B.pre
  have hown : s.vm.findClass R_RR = some m.cls := findClass_of_methodNamed B.named
  have hlocks := B.notSynchronized
  have hS : va_S (fun _ => False) s.heap s.heap [] := va_S.rf
  have hP : va_P (dC, dI) vwCl [(h, .inr (9, [.ref hPA, .ref hRD, .ref hRB, .ref hPE, .ref hHO, .ref hAG, .ref hLO, .ref hRQ, .ref hEX, .ref aFR])), (hPE, .inr (5, [.ref aRo, .ref aLi, .int (nI en)])), (hHO, .inr (2, [.ref aFa, .ref aEm, .ref aVa, .int (nI hn)])), (hRQ, .inr (6, [.ref aQP, .ref aQD, .int (nI qn)]))] s.heap := hP
  have iHO : ∀ w ∈ u_ws R_HO T_HO 4, w ∈ ws_RR_request := fun w h => wb_RR_request w (in_HO w h)
  have iPE : ∀ w ∈ u_ws R_PE T_PE 3, w ∈ ws_RR_request := fun w h => wb_RR_request w (in_PE w h)
  have iRQ : ∀ w ∈ u_ws R_RQ T_RQ 3, w ∈ ws_RR_request := fun w h => wb_RR_request w (in_RQ w h)
  have iRR : ∀ w ∈ u_ws R_RR T_RR 10, w ∈ ws_RR_request := fun w h => wb_RR_request w (in_RR w h)
  have hl := lv_entry ([.ref h, .int (nI u), .int (nI r), .int d]) (n := 5) (Nat.le_of_ble_eq_true rfl)
  rw [lg_entry_eq]
  generalize (lg_sl ([.ref h, .int (nI u), .int (nI r), .int d]) ++ List.replicate (5 - (lg_sl ([.ref h, .int (nI u), .int (nI r), .int d])).length) Slot.unset).toArray = ls at hl ⊢
  have hl : lv_has ls 5 [(0, .ref h), (1, .int (nI u)), (2, .int (nI r)), (3, .int d)] := hl
  refine lv_aload_n hx hb d_RR_request_0 rfl (lv_at hl 0 rfl) ?_
  refine lv_iload_n hx hb d_RR_request_1 rfl (lv_at hl 1 rfl) ?_
  have hPc := hP.sub (ws' := [(h, .inr (9, [.ref hPA, .ref hRD, .ref hRB, .ref hPE, .ref hHO, .ref hAG, .ref hLO, .ref hRQ, .ref hEX, .ref aFR])), (hPE, .inr (5, [.ref aRo, .ref aLi, .int (nI en)]))]) [0, 1] rfl
  have hKc := hK.sub (tys' := []) [] rfl
  refine va_callv (va_runV (As := [.int (nI u)]) (rest := []) ⟨hx, hb, hml, hown, hts⟩ (c_RR_requirePerson l dC dI h hPA hRD hRB hPE hHO hAG hLO hRQ hEX aFR aRo aLi en (by first | assumption | omega) u (by first | assumption | omega)) (cwV 1 hts (vz_gV wb_RR_request b_492 b_494 bs_8 b_1 wc_RR_requirePerson) rfl rfl rfl (by decide +kernel) ⟨Nat.le_of_ble_eq_true rfl, Nat.le_of_ble_eq_true rfl⟩) (vz_preV hPc hKc (ci := 9) (q0 := 0) rfl rfl) rfl rfl hl.1 rfl (lv_room (Nat.le_of_ble_eq_true rfl)) d_RR_request_2 ⟨Nat.le_of_ble_eq_true rfl, Nat.le_of_ble_eq_true rfl⟩) hS (fun q _ h => False.elim h) (fun q h => False.elim h) (fun u9 t9 H1 locs ht hvm hr2 hB hzx9 hkx9 hS => ?_)
  try dsimp only at hr2
  have hP := vz_kept hP hkx9
  generalize H1 = H at hP hS ⊢
  obtain rfl : locs = [] := List.eq_nil_iff_forall_not_mem.mpr (fun x hx => hS.2.2 x hx)
  refine lv_aload_n hx hb d_RR_request_5 rfl (lv_at hl 0 rfl) ?_
  refine lv_iload_n hx hb d_RR_request_6 rfl (lv_at hl 2 rfl) ?_
  have hPc := hP.sub (ws' := [(h, .inr (9, [.ref hPA, .ref hRD, .ref hRB, .ref hPE, .ref hHO, .ref hAG, .ref hLO, .ref hRQ, .ref hEX, .ref aFR])), (hHO, .inr (2, [.ref aFa, .ref aEm, .ref aVa, .int (nI hn)]))]) [0, 2] rfl
  have hKc := hK.sub (tys' := []) [] rfl
  refine va_callv (va_runV (As := [.int (nI r)]) (rest := []) ⟨hx, hb, hml, hown, hts⟩ (c_RR_requireRecord l dC dI h hPA hRD hRB hPE hHO hAG hLO hRQ hEX aFR aFa aEm aVa hn (by first | assumption | omega) r (by first | assumption | omega)) (cwV 1 hts (vz_gV wb_RR_request b_456 b_458 bs_7 b_1 wc_RR_requireRecord) rfl rfl rfl (by decide +kernel) ⟨Nat.le_of_ble_eq_true rfl, Nat.le_of_ble_eq_true rfl⟩) (vz_preV hPc hKc (ci := 9) (q0 := 0) rfl rfl) rfl rfl hl.1 rfl (lv_room (Nat.le_of_ble_eq_true rfl)) d_RR_request_7 ⟨Nat.le_of_ble_eq_true rfl, Nat.le_of_ble_eq_true rfl⟩) hS (fun q _ h => False.elim h) (fun q h => False.elim h) (fun u9 t9 H1 locs ht hvm hr7 hB hzx9 hkx9 hS => ?_)
  try dsimp only at hr7
  have hP := vz_kept hP hkx9
  generalize H1 = H at hP hS ⊢
  obtain rfl : locs = [] := List.eq_nil_iff_forall_not_mem.mpr (fun x hx => hS.2.2 x hx)
  refine lv_iload_n hx hb d_RR_request_10 rfl (lv_at hl 3 rfl) ?_
  have hPc := hP.sub (ws' := []) [] rfl
  have hKc := hK.sub (tys' := []) [] rfl
  refine va_callv (va_runS (As := [.int d]) (rest := []) ⟨hx, hb, hml, hown, hts⟩ (c_RR_requireDay l dC dI d (by first | assumption | omega) (by first | assumption | omega)) (va_cwS 1 hts (vz_gS wb_RR_request b_480 b_481 b_1 wc_RR_requireDay) rfl rfl rfl (by decide +kernel) ⟨Nat.le_of_ble_eq_true rfl, Nat.le_of_ble_eq_true rfl⟩) (vz_preS hPc hKc) rfl rfl hl.1 rfl (lv_room (Nat.le_of_ble_eq_true rfl)) d_RR_request_11 ⟨Nat.le_of_ble_eq_true rfl, Nat.le_of_ble_eq_true rfl⟩) hS (fun q _ h => False.elim h) (fun q h => False.elim h) (fun u9 t9 H1 locs ht hvm hr11 hB hzx9 hkx9 hS => ?_)
  try dsimp only at hr11
  have hP := vz_kept hP hkx9
  generalize H1 = H at hP hS ⊢
  obtain rfl : locs = [] := List.eq_nil_iff_forall_not_mem.mpr (fun x hx => hS.2.2 x hx)
  refine lv_aload_n hx hb d_RR_request_14 rfl (lv_at hl 0 rfl) ?_
  refine va_get (D := (dC, dI)) (ci := 9) (v := .ref hRQ) (C := R_RR) (T := T_RR) (N := 10) hx hb hts iRR hown hK hP 0 rfl rfl 7 (by decide) (hts _ (wb_RR_request _ b_231)) (fun _ h9 => h9) rfl d_RR_request_15 ?_
  refine va_get (D := (dC, dI)) (ci := 6) (v := .int (nI qn)) (C := R_RQ) (T := T_RQ) (N := 3) hx hb hts iRQ hown hK hP 3 rfl rfl 2 (by decide) (hts _ (wb_RR_request _ b_201)) (fun _ h9 => h9) rfl d_RR_request_18 ?_
  refine lv_bipush (v := 60) hx hb d_RR_request_21 (by decide) ?_
  refine lv_icmp_lt (tgt := 36) hx hb d_RR_request_23 (by decide) (fun c23 => ?_) (fun c23 => ?_)
  · exact absurd ((nI_ltI (show qn < 2147483648 by omega) (show 60 < 2147483648 by omega)).mp c23) (by omega)
  · obtain ⟨sa, hsa⟩ := hE.2.2.2 (222, "60 requests are kept") (by decide)
    exact xk_throwG (cls := "java/lang/IllegalStateException") hx hb hown (hts _ (wb_RR_request _ b_266)) (hts _ (wb_RR_request _ b_15)) (hts _ (wb_RR_request _ b_267)) d_RR_request_26 d_RR_request_29 (Nat.le_of_ble_eq_true rfl) (Nat.le_of_ble_eq_true rfl) (xk_ld hx hb hown hsa d_RR_request_30) (xk_ct hx hb hst hown (by decide) (xk_words (fun w h => hts w (wb_RR_request w h)) hE at_ISE) (hl.1.trans hml.symm) d_RR_request_32 d_RR_request_35 htab (Nat.le_of_ble_eq_true rfl) (Nat.le_of_ble_eq_true rfl) hlocks)

set_option maxHeartbeats 4000000 in
set_option maxRecDepth 100000 in
theorem t_RR_limit1 (l : Launch) (hst : l.stackTraces = false) (dC : Nat → ClassId) (dI : Nat → Nat → Nat) (N0 : Nat) (h hPA hRD hRB hPE hHO hAG hLO hRQ hEX aFR : Nat) (aRo aLi : Nat) (en : Nat) (x0 : Int32) (hbad : x0 < 0 ∨ nI en ≤ x0) (z : Int32) : tMet l y_RR_limit ws_RR_limit ({ frames := 7, cells := 1, slots := 6, locals := 111 }) (va_Pc [.ref h, .int x0, .int z] (fun U => va_P (dC, dI) vwCl [(h, .inr (9, [.ref hPA, .ref hRD, .ref hRB, .ref hPE, .ref hHO, .ref hAG, .ref hLO, .ref hRQ, .ref hEX, .ref aFR])), (hPE, .inr (5, [.ref aRo, .ref aLi, .int (nI en)]))] U.heap ∧ va_K (dC, dI) vwCl [] U ∧ xkE N0 U ∧ N0 ≤ U.heap.size)) xkN := by
  refine tMet.ofW (cc := k_RR_limit) (maxL := 4) (ret := (some .int)) (by decide) rfl ?_
  intro p e s m args below meth c s₁ B hml htab hv
  obtain ⟨rfl, hP, hK, hE, hN⟩ := hv
  have hx := B.exec
  have hb := B.bytes
  have hts := atoms_spec (ws := ws_RR_limit) B.pre
  have hown : s.vm.findClass R_RR = some m.cls := findClass_of_methodNamed B.named
  have hlocks := B.notSynchronized
  have hS : va_S (fun _ => False) s.heap s.heap [] := va_S.rf
  have hP : va_P (dC, dI) vwCl [(h, .inr (9, [.ref hPA, .ref hRD, .ref hRB, .ref hPE, .ref hHO, .ref hAG, .ref hLO, .ref hRQ, .ref hEX, .ref aFR])), (hPE, .inr (5, [.ref aRo, .ref aLi, .int (nI en)]))] s.heap := hP
  have iPE : ∀ w ∈ u_ws R_PE T_PE 3, w ∈ ws_RR_limit := fun w h => wb_RR_limit w (in_PE w h)
  have iRR : ∀ w ∈ u_ws R_RR T_RR 10, w ∈ ws_RR_limit := fun w h => wb_RR_limit w (in_RR w h)
  have hl := lv_entry ([.ref h, .int x0, .int z]) (n := 4) (Nat.le_of_ble_eq_true rfl)
  rw [lg_entry_eq]
  generalize (lg_sl ([.ref h, .int x0, .int z]) ++ List.replicate (4 - (lg_sl ([.ref h, .int x0, .int z])).length) Slot.unset).toArray = ls at hl ⊢
  have hl : lv_has ls 4 [(0, .ref h), (1, .int x0), (2, .int z)] := hl
  refine lv_aload_n hx hb d_RR_limit_0 rfl (lv_at hl 0 rfl) ?_
  refine lv_iload_n hx hb d_RR_limit_1 rfl (lv_at hl 1 rfl) ?_
  have hPc := hP.sub (ws' := [(h, .inr (9, [.ref hPA, .ref hRD, .ref hRB, .ref hPE, .ref hHO, .ref hAG, .ref hLO, .ref hRQ, .ref hEX, .ref aFR])), (hPE, .inr (5, [.ref aRo, .ref aLi, .int (nI en)]))]) [0, 1] rfl
  have hKc := hK.sub (tys' := []) [] rfl
  refine xk_callV (As := [.int x0]) (rest := []) ⟨hx, hb, hml, hown, hts⟩ (t_RR_requirePerson l hst dC dI N0 h hPA hRD hRB hPE hHO hAG hLO hRQ hEX aFR aRo aLi en x0 (by first | assumption | omega)) (cwV 1 hts (vz_gV wb_RR_limit b_492 b_494 bs_8 b_1 wc_RR_requirePerson) rfl rfl rfl (by decide +kernel) ⟨Nat.le_of_ble_eq_true rfl, Nat.le_of_ble_eq_true rfl⟩) (vz_preVt hPc hKc hE hN hS (ci := 9) (q0 := 0) rfl rfl) rfl rfl hl.1 (Nat.le_of_ble_eq_true rfl) d_RR_limit_2 ⟨Nat.le_of_ble_eq_true rfl, Nat.le_of_ble_eq_true rfl⟩ (fun q9 H9 hnew => ?_)
  exact xk_out htab hlocks hnew

set_option maxHeartbeats 4000000 in
set_option maxRecDepth 100000 in
theorem t_RR_limit2 (l : Launch) (hst : l.stackTraces = false) (dC : Nat → ClassId) (dI : Nat → Nat → Nat) (N0 : Nat) (h hPA hRD hRB hPE hHO hAG hLO hRQ hEX aFR : Nat) (aRo aLi : Nat) (en : Nat) (hen : en ≤ 12) (u : Nat) (hu : u < en) (x0 : Int32) (hbad : x0 < 0 ∨ 60 < x0) : tMet l y_RR_limit ws_RR_limit ({ frames := 6, cells := 1, slots := 6, locals := 90 }) (va_Pc [.ref h, .int (nI u), .int x0] (fun U => va_P (dC, dI) vwCl [(h, .inr (9, [.ref hPA, .ref hRD, .ref hRB, .ref hPE, .ref hHO, .ref hAG, .ref hLO, .ref hRQ, .ref hEX, .ref aFR])), (hPE, .inr (5, [.ref aRo, .ref aLi, .int (nI en)]))] U.heap ∧ va_K (dC, dI) vwCl [] U ∧ xkE N0 U ∧ N0 ≤ U.heap.size)) "java/lang/IllegalArgumentException" := by
  refine tMet.ofW (cc := k_RR_limit) (maxL := 4) (ret := (some .int)) (by decide) rfl ?_
  intro p e s m args below meth c s₁ B hml htab hv
  obtain ⟨rfl, hP, hK, hE, hN⟩ := hv
  have hx := B.exec
  have hb := B.bytes
  have hts := atoms_spec (ws := ws_RR_limit) B.pre
  have hown : s.vm.findClass R_RR = some m.cls := findClass_of_methodNamed B.named
  have hlocks := B.notSynchronized
  have hS : va_S (fun _ => False) s.heap s.heap [] := va_S.rf
  have hP : va_P (dC, dI) vwCl [(h, .inr (9, [.ref hPA, .ref hRD, .ref hRB, .ref hPE, .ref hHO, .ref hAG, .ref hLO, .ref hRQ, .ref hEX, .ref aFR])), (hPE, .inr (5, [.ref aRo, .ref aLi, .int (nI en)]))] s.heap := hP
  have iPE : ∀ w ∈ u_ws R_PE T_PE 3, w ∈ ws_RR_limit := fun w h => wb_RR_limit w (in_PE w h)
  have iRR : ∀ w ∈ u_ws R_RR T_RR 10, w ∈ ws_RR_limit := fun w h => wb_RR_limit w (in_RR w h)
  have hl := lv_entry ([.ref h, .int (nI u), .int x0]) (n := 4) (Nat.le_of_ble_eq_true rfl)
  rw [lg_entry_eq]
  generalize (lg_sl ([.ref h, .int (nI u), .int x0]) ++ List.replicate (4 - (lg_sl ([.ref h, .int (nI u), .int x0])).length) Slot.unset).toArray = ls at hl ⊢
  have hl : lv_has ls 4 [(0, .ref h), (1, .int (nI u)), (2, .int x0)] := hl
  refine lv_aload_n hx hb d_RR_limit_0 rfl (lv_at hl 0 rfl) ?_
  refine lv_iload_n hx hb d_RR_limit_1 rfl (lv_at hl 1 rfl) ?_
  have hPc := hP.sub (ws' := [(h, .inr (9, [.ref hPA, .ref hRD, .ref hRB, .ref hPE, .ref hHO, .ref hAG, .ref hLO, .ref hRQ, .ref hEX, .ref aFR])), (hPE, .inr (5, [.ref aRo, .ref aLi, .int (nI en)]))]) [0, 1] rfl
  have hKc := hK.sub (tys' := []) [] rfl
  refine va_callv (va_runV (As := [.int (nI u)]) (rest := []) ⟨hx, hb, hml, hown, hts⟩ (c_RR_requirePerson l dC dI h hPA hRD hRB hPE hHO hAG hLO hRQ hEX aFR aRo aLi en (by first | assumption | omega) u (by first | assumption | omega)) (cwV 1 hts (vz_gV wb_RR_limit b_492 b_494 bs_8 b_1 wc_RR_requirePerson) rfl rfl rfl (by decide +kernel) ⟨Nat.le_of_ble_eq_true rfl, Nat.le_of_ble_eq_true rfl⟩) (vz_preV hPc hKc (ci := 9) (q0 := 0) rfl rfl) rfl rfl hl.1 rfl (lv_room (Nat.le_of_ble_eq_true rfl)) d_RR_limit_2 ⟨Nat.le_of_ble_eq_true rfl, Nat.le_of_ble_eq_true rfl⟩) hS (fun q _ h => False.elim h) (fun q h => False.elim h) (fun u9 t9 H1 locs ht hvm hr2 hB hzx9 hkx9 hS => ?_)
  try dsimp only at hr2
  have hP := vz_kept hP hkx9
  generalize H1 = H at hP hS ⊢
  obtain rfl : locs = [] := List.eq_nil_iff_forall_not_mem.mpr (fun x hx => hS.2.2 x hx)
  refine lv_iload_n hx hb d_RR_limit_5 rfl (lv_at hl 2 rfl) ?_
  refine lv_if_lt (tgt := 15) hx hb d_RR_limit_6 (by decide) (fun c6 => ?_) (fun c6 => ?_)
  · obtain ⟨sa, hsa⟩ := hE.2.2.2 (233, "a limit is 0 .. 60") (by decide)
    exact xk_throwG (cls := "java/lang/IllegalArgumentException") hx hb hown (hts _ (wb_RR_limit _ b_414)) (hts _ (wb_RR_limit _ b_17)) (hts _ (wb_RR_limit _ b_415)) d_RR_limit_15 d_RR_limit_18 (Nat.le_of_ble_eq_true rfl) (Nat.le_of_ble_eq_true rfl) (xk_ld hx hb hown hsa d_RR_limit_19) (xk_ct hx hb hst hown (by decide) (xk_words (fun w h => hts w (wb_RR_limit w h)) hE at_IAE) (hl.1.trans hml.symm) d_RR_limit_21 d_RR_limit_24 htab (Nat.le_of_ble_eq_true rfl) (Nat.le_of_ble_eq_true rfl) hlocks)
  · refine lv_iload_n hx hb d_RR_limit_9 rfl (lv_at hl 2 rfl) ?_
    refine lv_bipush (v := 60) hx hb d_RR_limit_10 (by decide) ?_
    refine lv_icmp_le (tgt := 25) hx hb d_RR_limit_12 (by decide) (fun c12 => ?_) (fun c12 => ?_)
    · exact absurd c12 (Int32.not_le.mpr (hbad.resolve_left c6))
    · obtain ⟨sa, hsa⟩ := hE.2.2.2 (233, "a limit is 0 .. 60") (by decide)
      exact xk_throwG (cls := "java/lang/IllegalArgumentException") hx hb hown (hts _ (wb_RR_limit _ b_414)) (hts _ (wb_RR_limit _ b_17)) (hts _ (wb_RR_limit _ b_415)) d_RR_limit_15 d_RR_limit_18 (Nat.le_of_ble_eq_true rfl) (Nat.le_of_ble_eq_true rfl) (xk_ld hx hb hown hsa d_RR_limit_19) (xk_ct hx hb hst hown (by decide) (xk_words (fun w h => hts w (wb_RR_limit w h)) hE at_IAE) (hl.1.trans hml.symm) d_RR_limit_21 d_RR_limit_24 htab (Nat.le_of_ble_eq_true rfl) (Nat.le_of_ble_eq_true rfl) hlocks)

set_option maxHeartbeats 4000000 in
set_option maxRecDepth 100000 in
theorem t_RR_idle (l : Launch) (hst : l.stackTraces = false) (dC : Nat → ClassId) (dI : Nat → Nat → Nat) (N0 : Nat) (h hPA hRD hRB hPE hHO hAG hLO hRQ hEX aFR : Nat) (x0 : Int32) (hbad : x0 < 0 ∨ 100000 < x0) : tMet l y_RR_idle ws_RR_idle ({ frames := 7, cells := 1, slots := 6, locals := 110 }) (va_Pc [.ref h, .int x0] (fun U => va_P (dC, dI) vwCl [(h, .inr (9, [.ref hPA, .ref hRD, .ref hRB, .ref hPE, .ref hHO, .ref hAG, .ref hLO, .ref hRQ, .ref hEX, .ref aFR]))] U.heap ∧ va_K (dC, dI) vwCl [] U ∧ xkE N0 U ∧ N0 ≤ U.heap.size)) "java/lang/IllegalArgumentException" := by
  refine tMet.ofW (cc := k_RR_idle) (maxL := 5) (ret := (some .int)) (by decide) rfl ?_
  intro p e s m args below meth c s₁ B hml htab hv
  obtain ⟨rfl, hP, hK, hE, hN⟩ := hv
  have hx := B.exec
  have hb := B.bytes
  have hts := atoms_spec (ws := ws_RR_idle) B.pre
  have hown : s.vm.findClass R_RR = some m.cls := findClass_of_methodNamed B.named
  have hlocks := B.notSynchronized
  have hS : va_S (fun _ => False) s.heap s.heap [] := va_S.rf
  have hP : va_P (dC, dI) vwCl [(h, .inr (9, [.ref hPA, .ref hRD, .ref hRB, .ref hPE, .ref hHO, .ref hAG, .ref hLO, .ref hRQ, .ref hEX, .ref aFR]))] s.heap := hP
  have iRR : ∀ w ∈ u_ws R_RR T_RR 10, w ∈ ws_RR_idle := fun w h => wb_RR_idle w (in_RR w h)
  have hl := lv_entry ([.ref h, .int x0]) (n := 5) (Nat.le_of_ble_eq_true rfl)
  rw [lg_entry_eq]
  generalize (lg_sl ([.ref h, .int x0]) ++ List.replicate (5 - (lg_sl ([.ref h, .int x0])).length) Slot.unset).toArray = ls at hl ⊢
  have hl : lv_has ls 5 [(0, .ref h), (1, .int x0)] := hl
  refine lv_iload_n hx hb d_RR_idle_0 rfl (lv_at hl 1 rfl) ?_
  have hPc := hP.sub (ws' := []) [] rfl
  have hKc := hK.sub (tys' := []) [] rfl
  refine xk_callS (As := [.int x0]) (rest := []) ⟨hx, hb, hml, hown, hts⟩ (t_RR_requireDay l hst dC dI N0 x0 (by first | assumption | omega)) (va_cwS 1 hts (vz_gS wb_RR_idle b_480 b_481 b_1 wc_RR_requireDay) rfl rfl rfl (by decide +kernel) ⟨Nat.le_of_ble_eq_true rfl, Nat.le_of_ble_eq_true rfl⟩) (vz_preSt hPc hKc hE hN hS) rfl rfl hl.1 (Nat.le_of_ble_eq_true rfl) d_RR_idle_1 ⟨Nat.le_of_ble_eq_true rfl, Nat.le_of_ble_eq_true rfl⟩ (fun q9 H9 hnew => ?_)
  exact xk_out htab hlocks hnew

set_option maxHeartbeats 4000000 in
set_option maxRecDepth 100000 in
theorem t_RR_count (l : Launch) (hst : l.stackTraces = false) (dC : Nat → ClassId) (dI : Nat → Nat → Nat) (N0 : Nat) (h hPA hRD hRB hPE hHO hAG hLO hRQ hEX aFR : Nat) (x0 : Int32) (hbad : x0 < 0 ∨ 7 ≤ x0) : tMet l y_RR_count ws_RR_count ({ frames := 6, cells := 1, slots := 6, locals := 90 }) (va_Pc [.ref h, .int x0] (fun U => va_P (dC, dI) vwCl [(h, .inr (9, [.ref hPA, .ref hRD, .ref hRB, .ref hPE, .ref hHO, .ref hAG, .ref hLO, .ref hRQ, .ref hEX, .ref aFR]))] U.heap ∧ va_K (dC, dI) vwCl [] U ∧ xkE N0 U ∧ N0 ≤ U.heap.size)) "java/lang/IllegalArgumentException" := by
  refine tMet.ofW (cc := k_RR_count) (maxL := 2) (ret := (some .int)) (by decide) rfl ?_
  intro p e s m args below meth c s₁ B hml htab hv
  obtain ⟨rfl, hP, hK, hE, hN⟩ := hv
  have hx := B.exec
  have hb := B.bytes
  have hts := atoms_spec (ws := ws_RR_count) B.pre
  have hown : s.vm.findClass R_RR = some m.cls := findClass_of_methodNamed B.named
  have hlocks := B.notSynchronized
  have hS : va_S (fun _ => False) s.heap s.heap [] := va_S.rf
  have hP : va_P (dC, dI) vwCl [(h, .inr (9, [.ref hPA, .ref hRD, .ref hRB, .ref hPE, .ref hHO, .ref hAG, .ref hLO, .ref hRQ, .ref hEX, .ref aFR]))] s.heap := hP
  have iRR : ∀ w ∈ u_ws R_RR T_RR 10, w ∈ ws_RR_count := fun w h => wb_RR_count w (in_RR w h)
  have hl := lv_entry ([.ref h, .int x0]) (n := 2) (Nat.le_of_ble_eq_true rfl)
  rw [lg_entry_eq]
  generalize (lg_sl ([.ref h, .int x0]) ++ List.replicate (2 - (lg_sl ([.ref h, .int x0])).length) Slot.unset).toArray = ls at hl ⊢
  have hl : lv_has ls 2 [(0, .ref h), (1, .int x0)] := hl
  refine lv_iload_n hx hb d_RR_count_0 rfl (lv_at hl 1 rfl) ?_
  by_cases e1_0 : x0 = 0
  · refine vz_top (y := 0) e1_0 ?_
    refine lv_tableIn (off := 43) (tgt := 44) hx hb d_RR_count_1 (by decide) (by decide) (by decide) (by decide) ?_
    exact absurd hbad (by rw [e1_0]; decide)
  by_cases e1_1 : x0 = 1
  · refine vz_top (y := 1) e1_1 ?_
    refine lv_tableIn (off := 51) (tgt := 52) hx hb d_RR_count_1 (by decide) (by decide) (by decide) (by decide) ?_
    exact absurd hbad (by rw [e1_1]; decide)
  by_cases e1_2 : x0 = 2
  · refine vz_top (y := 2) e1_2 ?_
    refine lv_tableIn (off := 59) (tgt := 60) hx hb d_RR_count_1 (by decide) (by decide) (by decide) (by decide) ?_
    exact absurd hbad (by rw [e1_2]; decide)
  by_cases e1_3 : x0 = 3
  · refine vz_top (y := 3) e1_3 ?_
    refine lv_tableIn (off := 70) (tgt := 71) hx hb d_RR_count_1 (by decide) (by decide) (by decide) (by decide) ?_
    exact absurd hbad (by rw [e1_3]; decide)
  by_cases e1_4 : x0 = 4
  · refine vz_top (y := 4) e1_4 ?_
    refine lv_tableIn (off := 78) (tgt := 79) hx hb d_RR_count_1 (by decide) (by decide) (by decide) (by decide) ?_
    exact absurd hbad (by rw [e1_4]; decide)
  by_cases e1_5 : x0 = 5
  · refine vz_top (y := 5) e1_5 ?_
    refine lv_tableIn (off := 86) (tgt := 87) hx hb d_RR_count_1 (by decide) (by decide) (by decide) (by decide) ?_
    exact absurd hbad (by rw [e1_5]; decide)
  by_cases e1_6 : x0 = 6
  · refine vz_top (y := 6) e1_6 ?_
    refine lv_tableIn (off := 94) (tgt := 95) hx hb d_RR_count_1 (by decide) (by decide) (by decide) (by decide) ?_
    exact absurd hbad (by rw [e1_6]; decide)
  refine lv_tableOut (tgt := 103) hx hb d_RR_count_1 (by have z0 := lv_neT e1_0 (show (0 : Int32).toInt = 0 by decide); have z1 := lv_neT e1_1 (show (1 : Int32).toInt = 1 by decide); have z2 := lv_neT e1_2 (show (2 : Int32).toInt = 2 by decide); have z3 := lv_neT e1_3 (show (3 : Int32).toInt = 3 by decide); have z4 := lv_neT e1_4 (show (4 : Int32).toInt = 4 by decide); have z5 := lv_neT e1_5 (show (5 : Int32).toInt = 5 by decide); have z6 := lv_neT e1_6 (show (6 : Int32).toInt = 6 by decide); omega) (by decide) ?_
  obtain ⟨sa, hsa⟩ := hE.2.2.2 (252, "nothing is counted by this number") (by decide)
  exact xk_throwG (cls := "java/lang/IllegalArgumentException") hx hb hown (hts _ (wb_RR_count _ b_414)) (hts _ (wb_RR_count _ b_17)) (hts _ (wb_RR_count _ b_415)) d_RR_count_103 d_RR_count_106 (Nat.le_of_ble_eq_true rfl) (Nat.le_of_ble_eq_true rfl) (xk_ld hx hb hown hsa d_RR_count_107) (xk_ct hx hb hst hown (by decide) (xk_words (fun w h => hts w (wb_RR_count w h)) hE at_IAE) (hl.1.trans hml.symm) d_RR_count_109 d_RR_count_112 htab (Nat.le_of_ble_eq_true rfl) (Nat.le_of_ble_eq_true rfl) hlocks)
