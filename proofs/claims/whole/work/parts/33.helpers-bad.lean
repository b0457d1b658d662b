set_option maxHeartbeats 4000000 in
set_option maxRecDepth 100000 in
theorem c_LW_unitB (l : Launch) (hst : l.stackTraces = false) (dC : Nat → ClassId) (dI : Nat → Nat → Nat) (N0 : Nat) (h hPA hRD hRB hPE hHO hAG hLO hRQ hEX aFR : Nat) (aS : Nat) (pn : Nat) (a b c0 d : Int32) (hpn : pn ≤ 40) (hbad : 40 < pn + sgn4 a b c0 d) (aO : Nat) : Met l y_LW_unit ws_LW_unit ({ frames := 7, cells := 1, slots := 6, locals := 115 }) (va_Pc [.ref h, .int a, .int b, .int c0, .int d, .ref aO] (fun U => va_P (dC, dI) vwCl [(h, .inr (9, [.ref hPA, .ref hRD, .ref hRB, .ref hPE, .ref hHO, .ref hAG, .ref hLO, .ref hRQ, .ref hEX, .ref aFR])), (hPA, .inr (4, [.ref aS, .int (nI pn)]))] U.heap ∧ va_K (dC, dI) vwCl [] U ∧ xkE N0 U ∧ N0 ≤ U.heap.size ∧ xkNos U)) (va_Qi (fun (res : Int32) (_ : Unit) => res = 1) (fun _ _ => True) (fun _ => False)) 1 6 (fun _ => False) := by
  refine xk_MetW (cc := k_LW_unit) (maxL := 7) (ret := (some .int)) (by decide) rfl ?_
  intro p e s m args below meth c s₁ B hml htb hv
  obtain ⟨rfl, hP, hK, hE, hN, hNo⟩ := hv
  have hx := B.exec
  have hb := B.bytes
  have hr := B.returns
  have hts := atoms_spec (ws := ws_LW_unit) B.pre
  have hown : s.vm.findClass R_LW = some m.cls := findClass_of_methodNamed B.named
  have hlocks := B.notSynchronized
  have hS : va_S (fun _ => False) s.heap s.heap [] := va_S.rf
  have hP : va_P (dC, dI) vwCl [(h, .inr (9, [.ref hPA, .ref hRD, .ref hRB, .ref hPE, .ref hHO, .ref hAG, .ref hLO, .ref hRQ, .ref hEX, .ref aFR])), (hPA, .inr (4, [.ref aS, .int (nI pn)]))] s.heap := hP
  have hl := lv_entry ([.ref h, .int a, .int b, .int c0, .int d, .ref aO]) (n := 7) (Nat.le_of_ble_eq_true rfl)
  rw [lg_entry_eq]
  generalize (lg_sl ([.ref h, .int a, .int b, .int c0, .int d, .ref aO]) ++ List.replicate (7 - (lg_sl ([.ref h, .int a, .int b, .int c0, .int d, .ref aO])).length) Slot.unset).toArray = ls at hl ⊢
  have hl : lv_has ls 7 [(0, .ref h), (1, .int a), (2, .int b), (3, .int c0), (4, .int d), (5, .ref aO)] := hl
  refine lv_aload hx hb d_LW_unit_0 (lv_at hl 5 rfl) ?_
  refine lv_iconst (v := 0) hx hb d_LW_unit_2 (by decide) ?_
  refine lv_aload_n hx hb d_LW_unit_3 rfl (lv_at hl 0 rfl) ?_
  refine lv_iload_n hx hb d_LW_unit_4 rfl (lv_at hl 1 rfl) ?_
  refine lv_iload_n hx hb d_LW_unit_5 rfl (lv_at hl 2 rfl) ?_
  refine lv_iload_n hx hb d_LW_unit_6 rfl (lv_at hl 3 rfl) ?_
  refine lv_iload hx hb d_LW_unit_7 (lv_at hl 4 rfl) ?_
  have hPc := hP.sub (ws' := [(h, .inr (9, [.ref hPA, .ref hRD, .ref hRB, .ref hPE, .ref hHO, .ref hAG, .ref hLO, .ref hRQ, .ref hEX, .ref aFR])), (hPA, .inr (4, [.ref aS, .int (nI pn)]))]) [0, 1] rfl
  have hKc := hK.sub (tys' := []) [] rfl
  refine xk_callV (As := [.int a, .int b, .int c0, .int d]) (rest := [.int 0, .ref aO]) ⟨hx, hb, hml, hown, hts⟩ (t_RR_unit l hst dC dI N0 h hPA hRD hRB hPE hHO hAG hLO hRQ hEX aFR aS pn a b c0 d (hpn) (hbad)) (cwV 4 hts (vz_gV wb_LW_unit b_259 b_260 b_261 b_1 wc_RR_unit) rfl rfl rfl (by decide +kernel) ⟨Nat.le_of_ble_eq_true rfl, Nat.le_of_ble_eq_true rfl⟩) (vz_preVt hPc hKc hE hN hS (ci := 9) (q0 := 0) rfl rfl) rfl rfl hl.1 (Nat.le_of_ble_eq_true rfl) d_LW_unit_9 ⟨Nat.le_of_ble_eq_true rfl, Nat.le_of_ble_eq_true rfl⟩ (fun q9 H9 hnew => ?_)
  obtain ⟨z1, hL9, hz1⟩ := xk_tab1 htb
  refine xk_catchN (hp := 17) (k := 13) hown [] z1 [] hL9 (fun z hz => nomatch hz) (xkRow.of hz1 (by decide) (by decide)) (by decide) (hts _ (wb_LW_unit _ b_258)) (va_Nw.use rfl (hE.1 _ (by simp [xkBad]))) hnew ?_
  have hS : va_S (fun _ => False) s.heap H9 [] := ⟨hnew.1, fun q hq _ => hnew.2.1 q hq, fun _ h => nomatch h⟩
  refine lv_astore (lv' := [(6, .ref q9), (0, .ref h), (1, .int a), (2, .int b), (3, .int c0), (4, .int d), (5, .ref aO)]) hx hb d_LW_unit_17 hl (by decide) rfl (fun ls hl => ?_)
  refine lv_iconst (v := 1) hx hb d_LW_unit_19 (by decide) ?_
  exact W.iret (v := 1) hx hb hr (fun t ht hW => ⟨⟨1, (), rfl, rfl, trivial⟩, hS.F ht⟩) hS.2.2 d_LW_unit_20

set_option maxHeartbeats 4000000 in
set_option maxRecDepth 100000 in
theorem c_LW_ruleB (l : Launch) (hst : l.stackTraces = false) (dC : Nat → ClassId) (dI : Nat → Nat → Nat) (N0 : Nat) (h hPA hRD hRB hPE hHO hAG hLO hRQ hEX aFR : Nat) (aN aB : Nat) (bn : Nat) (tl ab mk sh : Int32) (hb1 : bn ≤ 20) (hbad : 20 ≤ bn) (aO : Nat) : Met l y_LW_rule ws_LW_rule ({ frames := 7, cells := 1, slots := 6, locals := 111 }) (va_Pc [.ref h, .ref aO] (fun U => va_P (dC, dI) vwCl [(h, .inr (9, [.ref hPA, .ref hRD, .ref hRB, .ref hPE, .ref hHO, .ref hAG, .ref hLO, .ref hRQ, .ref hEX, .ref aFR])), (hRB, .inr (7, [.ref aN, .ref aB, .int (nI bn), .int tl, .int ab, .int mk, .int sh]))] U.heap ∧ va_K (dC, dI) vwCl [] U ∧ xkE N0 U ∧ N0 ≤ U.heap.size ∧ xkNos U)) (va_Qi (fun (res : Int32) (_ : Unit) => res = 1) (fun _ _ => True) (fun _ => False)) 1 6 (fun _ => False) := by
  refine xk_MetW (cc := k_LW_rule) (maxL := 3) (ret := (some .int)) (by decide) rfl ?_
  intro p e s m args below meth c s₁ B hml htb hv
  obtain ⟨rfl, hP, hK, hE, hN, hNo⟩ := hv
  have hx := B.exec
  have hb := B.bytes
  have hr := B.returns
  have hts := atoms_spec (ws := ws_LW_rule) B.pre
  have hown : s.vm.findClass R_LW = some m.cls := findClass_of_methodNamed B.named
  have hlocks := B.notSynchronized
  have hS : va_S (fun _ => False) s.heap s.heap [] := va_S.rf
  have hP : va_P (dC, dI) vwCl [(h, .inr (9, [.ref hPA, .ref hRD, .ref hRB, .ref hPE, .ref hHO, .ref hAG, .ref hLO, .ref hRQ, .ref hEX, .ref aFR])), (hRB, .inr (7, [.ref aN, .ref aB, .int (nI bn), .int tl, .int ab, .int mk, .int sh]))] s.heap := hP
  have hl := lv_entry ([.ref h, .ref aO]) (n := 3) (Nat.le_of_ble_eq_true rfl)
  rw [lg_entry_eq]
  generalize (lg_sl ([.ref h, .ref aO]) ++ List.replicate (3 - (lg_sl ([.ref h, .ref aO])).length) Slot.unset).toArray = ls at hl ⊢
  have hl : lv_has ls 3 [(0, .ref h), (1, .ref aO)] := hl
  refine lv_aload_n hx hb d_LW_rule_0 rfl (lv_at hl 1 rfl) ?_
  refine lv_iconst (v := 0) hx hb d_LW_rule_1 (by decide) ?_
  refine lv_aload_n hx hb d_LW_rule_2 rfl (lv_at hl 0 rfl) ?_
  have hPc := hP.sub (ws' := [(h, .inr (9, [.ref hPA, .ref hRD, .ref hRB, .ref hPE, .ref hHO, .ref hAG, .ref hLO, .ref hRQ, .ref hEX, .ref aFR])), (hRB, .inr (7, [.ref aN, .ref aB, .int (nI bn), .int tl, .int ab, .int mk, .int sh]))]) [0, 1] rfl
  have hKc := hK.sub (tys' := []) [] rfl
  refine xk_callV (As := []) (rest := [.int 0, .ref aO]) ⟨hx, hb, hml, hown, hts⟩ (t_RR_rule l hst dC dI N0 h hPA hRD hRB hPE hHO hAG hLO hRQ hEX aFR aN aB bn tl ab mk sh (hb1) (hbad)) (cwV 0 hts (vz_gV wb_LW_rule b_341 b_342 b_343 b_1 wc_RR_rule) rfl rfl rfl (by decide +kernel) ⟨Nat.le_of_ble_eq_true rfl, Nat.le_of_ble_eq_true rfl⟩) (vz_preVt hPc hKc hE hN hS (ci := 9) (q0 := 0) rfl rfl) rfl rfl hl.1 (Nat.le_of_ble_eq_true rfl) d_LW_rule_3 ⟨Nat.le_of_ble_eq_true rfl, Nat.le_of_ble_eq_true rfl⟩ (fun q9 H9 hnew => ?_)
  obtain ⟨z1, hL9, hz1⟩ := xk_tab1 htb
  refine xk_catchN (hp := 11) (k := 13) hown [] z1 [] hL9 (fun z hz => nomatch hz) (xkRow.of hz1 (by decide) (by decide)) (by decide) (hts _ (wb_LW_rule _ b_258)) (va_Nw.use rfl (hE.1 _ (by simp [xkBad]))) hnew ?_
  have hS : va_S (fun _ => False) s.heap H9 [] := ⟨hnew.1, fun q hq _ => hnew.2.1 q hq, fun _ h => nomatch h⟩
  refine lv_astore_n (lv' := [(2, .ref q9), (0, .ref h), (1, .ref aO)]) hx hb d_LW_rule_11 rfl hl (by decide) rfl (fun ls hl => ?_)
  refine lv_iconst (v := 1) hx hb d_LW_rule_12 (by decide) ?_
  exact W.iret (v := 1) hx hb hr (fun t ht hW => ⟨⟨1, (), rfl, rfl, trivial⟩, hS.F ht⟩) hS.2.2 d_LW_rule_13

set_option maxHeartbeats 4000000 in
set_option maxRecDepth 100000 in
theorem c_LW_dropB (l : Launch) (hst : l.stackTraces = false) (dC : Nat → ClassId) (dI : Nat → Nat → Nat) (N0 : Nat) (h hPA hRD hRB hPE hHO hAG hLO hRQ hEX aFR : Nat) (aN aB : Nat) (bn : Nat) (tl ab mk sh : Int32) (x0 : Int32) (hbad : x0 < 0 ∨ nI bn ≤ x0) (aO : Nat) : Met l y_LW_drop ws_LW_drop ({ frames := 7, cells := 1, slots := 6, locals := 111 }) (va_Pc [.ref h, .int x0, .ref aO] (fun U => va_P (dC, dI) vwCl [(h, .inr (9, [.ref hPA, .ref hRD, .ref hRB, .ref hPE, .ref hHO, .ref hAG, .ref hLO, .ref hRQ, .ref hEX, .ref aFR])), (hRB, .inr (7, [.ref aN, .ref aB, .int (nI bn), .int tl, .int ab, .int mk, .int sh]))] U.heap ∧ va_K (dC, dI) vwCl [] U ∧ xkE N0 U ∧ N0 ≤ U.heap.size ∧ xkNos U)) (va_Qi (fun (res : Int32) (_ : Unit) => res = 1) (fun _ _ => True) (fun _ => False)) 1 6 (fun _ => False) := by
  refine xk_MetW (cc := k_LW_drop) (maxL := 4) (ret := (some .int)) (by decide) rfl ?_
  intro p e s m args below meth c s₁ B hml htb hv
  obtain ⟨rfl, hP, hK, hE, hN, hNo⟩ := hv
  have hx := B.exec
  have hb := B.bytes
  have hr := B.returns
  have hts := atoms_spec (ws := ws_LW_drop) B.pre
  have hown : s.vm.findClass R_LW = some m.cls := findClass_of_methodNamed B.named
  have hlocks := B.notSynchronized
  have hS : va_S (fun _ => False) s.heap s.heap [] := va_S.rf
  have hP : va_P (dC, dI) vwCl [(h, .inr (9, [.ref hPA, .ref hRD, .ref hRB, .ref hPE, .ref hHO, .ref hAG, .ref hLO, .ref hRQ, .ref hEX, .ref aFR])), (hRB, .inr (7, [.ref aN, .ref aB, .int (nI bn), .int tl, .int ab, .int mk, .int sh]))] s.heap := hP
  have hl := lv_entry ([.ref h, .int x0, .ref aO]) (n := 4) (Nat.le_of_ble_eq_true rfl)
  rw [lg_entry_eq]
  generalize (lg_sl ([.ref h, .int x0, .ref aO]) ++ List.replicate (4 - (lg_sl ([.ref h, .int x0, .ref aO])).length) Slot.unset).toArray = ls at hl ⊢
  have hl : lv_has ls 4 [(0, .ref h), (1, .int x0), (2, .ref aO)] := hl
  refine lv_aload_n hx hb d_LW_drop_0 rfl (lv_at hl 2 rfl) ?_
  refine lv_iconst (v := 0) hx hb d_LW_drop_1 (by decide) ?_
  refine lv_aload_n hx hb d_LW_drop_2 rfl (lv_at hl 0 rfl) ?_
  refine lv_iload_n hx hb d_LW_drop_3 rfl (lv_at hl 1 rfl) ?_
  have hPc := hP.sub (ws' := [(h, .inr (9, [.ref hPA, .ref hRD, .ref hRB, .ref hPE, .ref hHO, .ref hAG, .ref hLO, .ref hRQ, .ref hEX, .ref aFR])), (hRB, .inr (7, [.ref aN, .ref aB, .int (nI bn), .int tl, .int ab, .int mk, .int sh]))]) [0, 1] rfl
  have hKc := hK.sub (tys' := []) [] rfl
  refine xk_callV (As := [.int x0]) (rest := [.int 0, .ref aO]) ⟨hx, hb, hml, hown, hts⟩ (t_RR_drop l hst dC dI N0 h hPA hRD hRB hPE hHO hAG hLO hRQ hEX aFR aN aB bn tl ab mk sh x0 (hbad)) (cwV 1 hts (vz_gV wb_LW_drop b_382 b_383 b_384 b_1 wc_RR_drop) rfl rfl rfl (by decide +kernel) ⟨Nat.le_of_ble_eq_true rfl, Nat.le_of_ble_eq_true rfl⟩) (vz_preVt hPc hKc hE hN hS (ci := 9) (q0 := 0) rfl rfl) rfl rfl hl.1 (Nat.le_of_ble_eq_true rfl) d_LW_drop_4 ⟨Nat.le_of_ble_eq_true rfl, Nat.le_of_ble_eq_true rfl⟩ (fun q9 H9 hnew => ?_)
  obtain ⟨z1, hL9, hz1⟩ := xk_tab1 htb
  refine xk_catchN (hp := 19) (k := 23) hown [] z1 [] hL9 (fun z hz => nomatch hz) (xkRow.of hz1 (by decide) (by decide)) (by decide) (hts _ (wb_LW_drop _ b_381)) (va_Nw.use rfl (hE.1 _ (by simp [xkBad]))) hnew ?_
  have hS : va_S (fun _ => False) s.heap H9 [] := ⟨hnew.1, fun q hq _ => hnew.2.1 q hq, fun _ h => nomatch h⟩
  refine lv_astore_n (lv' := [(3, .ref q9), (0, .ref h), (1, .int x0), (2, .ref aO)]) hx hb d_LW_drop_19 rfl hl (by decide) rfl (fun ls hl => ?_)
  refine lv_iconst (v := 1) hx hb d_LW_drop_20 (by decide) ?_
  exact W.iret (v := 1) hx hb hr (fun t ht hW => ⟨⟨1, (), rfl, rfl, trivial⟩, hS.F ht⟩) hS.2.2 d_LW_drop_21

set_option maxHeartbeats 4000000 in
set_option maxRecDepth 100000 in
theorem c_LW_personB1 (l : Launch) (hst : l.stackTraces = false) (dC : Nat → ClassId) (dI : Nat → Nat → Nat) (N0 : Nat) (h hPA hRD hRB hPE hHO hAG hLO hRQ hEX aFR : Nat) (x0 : Int32) (hbad : x0 < 0 ∨ 256 ≤ x0) (aO : Nat) : Met l y_LW_person ws_LW_person ({ frames := 7, cells := 1, slots := 6, locals := 111 }) (va_Pc [.ref h, .int x0, .ref aO] (fun U => va_P (dC, dI) vwCl [(h, .inr (9, [.ref hPA, .ref hRD, .ref hRB, .ref hPE, .ref hHO, .ref hAG, .ref hLO, .ref hRQ, .ref hEX, .ref aFR]))] U.heap ∧ va_K (dC, dI) vwCl [] U ∧ xkE N0 U ∧ N0 ≤ U.heap.size ∧ xkNos U)) (va_Qi (fun (res : Int32) (_ : Unit) => res = 1) (fun _ _ => True) (fun _ => False)) 1 6 (fun _ => False) := by
  refine xk_MetW (cc := k_LW_person) (maxL := 4) (ret := (some .int)) (by decide) rfl ?_
  intro p e s m args below meth c s₁ B hml htb hv
  obtain ⟨rfl, hP, hK, hE, hN, hNo⟩ := hv
  have hx := B.exec
  have hb := B.bytes
  have hr := B.returns
  have hts := atoms_spec (ws := ws_LW_person) B.pre
  have hown : s.vm.findClass R_LW = some m.cls := findClass_of_methodNamed B.named
  have hlocks := B.notSynchronized
  have hS : va_S (fun _ => False) s.heap s.heap [] := va_S.rf
  have hP : va_P (dC, dI) vwCl [(h, .inr (9, [.ref hPA, .ref hRD, .ref hRB, .ref hPE, .ref hHO, .ref hAG, .ref hLO, .ref hRQ, .ref hEX, .ref aFR]))] s.heap := hP
  have hl := lv_entry ([.ref h, .int x0, .ref aO]) (n := 4) (Nat.le_of_ble_eq_true rfl)
  rw [lg_entry_eq]
  generalize (lg_sl ([.ref h, .int x0, .ref aO]) ++ List.replicate (4 - (lg_sl ([.ref h, .int x0, .ref aO])).length) Slot.unset).toArray = ls at hl ⊢
  have hl : lv_has ls 4 [(0, .ref h), (1, .int x0), (2, .ref aO)] := hl
  refine lv_aload_n hx hb d_LW_person_0 rfl (lv_at hl 2 rfl) ?_
  refine lv_iconst (v := 0) hx hb d_LW_person_1 (by decide) ?_
  refine lv_aload_n hx hb d_LW_person_2 rfl (lv_at hl 0 rfl) ?_
  refine lv_iload_n hx hb d_LW_person_3 rfl (lv_at hl 1 rfl) ?_
  have hPc := hP.sub (ws' := [(h, .inr (9, [.ref hPA, .ref hRD, .ref hRB, .ref hPE, .ref hHO, .ref hAG, .ref hLO, .ref hRQ, .ref hEX, .ref aFR]))]) [0] rfl
  have hKc := hK.sub (tys' := []) [] rfl
  refine xk_callV (As := [.int x0]) (rest := [.int 0, .ref aO]) ⟨hx, hb, hml, hown, hts⟩ (t_RR_person1 l hst dC dI N0 h hPA hRD hRB hPE hHO hAG hLO hRQ hEX aFR x0 (hbad)) (cwV 1 hts (vz_gV wb_LW_person b_410 b_411 b_412 b_1 wc_RR_person) rfl rfl rfl (by decide +kernel) ⟨Nat.le_of_ble_eq_true rfl, Nat.le_of_ble_eq_true rfl⟩) (vz_preVt hPc hKc hE hN hS (ci := 9) (q0 := 0) rfl rfl) rfl rfl hl.1 (Nat.le_of_ble_eq_true rfl) d_LW_person_4 ⟨Nat.le_of_ble_eq_true rfl, Nat.le_of_ble_eq_true rfl⟩ (fun q9 H9 hnew => ?_)
  obtain ⟨z1, z2, hL9, hz1, hz2⟩ := xk_tab2 htb
  refine xk_catchN (hp := 12) (k := 29) hown [] z1 [z2] hL9 (fun z hz => nomatch hz) (xkRow.of hz1 (by decide) (by decide)) (by decide) (hts _ (wb_LW_person _ b_409)) (va_Nw.use rfl (hE.1 _ (by simp [xkBad]))) hnew ?_
  have hS : va_S (fun _ => False) s.heap H9 [] := ⟨hnew.1, fun q hq _ => hnew.2.1 q hq, fun _ h => nomatch h⟩
  refine lv_astore_n (lv' := [(3, .ref q9), (0, .ref h), (1, .int x0), (2, .ref aO)]) hx hb d_LW_person_12 rfl hl (by decide) rfl (fun ls hl => ?_)
  refine lv_iconst (v := 1) hx hb d_LW_person_13 (by decide) ?_
  exact W.iret (v := 1) hx hb hr (fun t ht hW => ⟨⟨1, (), rfl, rfl, trivial⟩, hS.F ht⟩) hS.2.2 d_LW_person_14

set_option maxHeartbeats 4000000 in
set_option maxRecDepth 100000 in
theorem c_LW_personB2 (l : Launch) (hst : l.stackTraces = false) (dC : Nat → ClassId) (dI : Nat → Nat → Nat) (N0 : Nat) (h hPA hRD hRB hPE hHO hAG hLO hRQ hEX aFR : Nat) (aRo aLi : Nat) (en : Nat) (z : Int32) (hz0 : ¬ z < 0) (hz1 : z < 256) (he1 : en ≤ 12) (hbad : 12 ≤ en) (aO : Nat) : Met l y_LW_person ws_LW_person ({ frames := 7, cells := 1, slots := 6, locals := 111 }) (va_Pc [.ref h, .int z, .ref aO] (fun U => va_P (dC, dI) vwCl [(h, .inr (9, [.ref hPA, .ref hRD, .ref hRB, .ref hPE, .ref hHO, .ref hAG, .ref hLO, .ref hRQ, .ref hEX, .ref aFR])), (hPE, .inr (5, [.ref aRo, .ref aLi, .int (nI en)]))] U.heap ∧ va_K (dC, dI) vwCl [] U ∧ xkE N0 U ∧ N0 ≤ U.heap.size ∧ xkNos U)) (va_Qi (fun (res : Int32) (_ : Unit) => res = 2) (fun _ _ => True) (fun _ => False)) 1 6 (fun _ => False) := by
  refine xk_MetW (cc := k_LW_person) (maxL := 4) (ret := (some .int)) (by decide) rfl ?_
  intro p e s m args below meth c s₁ B hml htb hv
  obtain ⟨rfl, hP, hK, hE, hN, hNo⟩ := hv
  have hx := B.exec
  have hb := B.bytes
  have hr := B.returns
  have hts := atoms_spec (ws := ws_LW_person) B.pre
  have hown : s.vm.findClass R_LW = some m.cls := findClass_of_methodNamed B.named
  have hlocks := B.notSynchronized
  have hS : va_S (fun _ => False) s.heap s.heap [] := va_S.rf
  have hP : va_P (dC, dI) vwCl [(h, .inr (9, [.ref hPA, .ref hRD, .ref hRB, .ref hPE, .ref hHO, .ref hAG, .ref hLO, .ref hRQ, .ref hEX, .ref aFR])), (hPE, .inr (5, [.ref aRo, .ref aLi, .int (nI en)]))] s.heap := hP
  have hl := lv_entry ([.ref h, .int z, .ref aO]) (n := 4) (Nat.le_of_ble_eq_true rfl)
  rw [lg_entry_eq]
  generalize (lg_sl ([.ref h, .int z, .ref aO]) ++ List.replicate (4 - (lg_sl ([.ref h, .int z, .ref aO])).length) Slot.unset).toArray = ls at hl ⊢
  have hl : lv_has ls 4 [(0, .ref h), (1, .int z), (2, .ref aO)] := hl
  refine lv_aload_n hx hb d_LW_person_0 rfl (lv_at hl 2 rfl) ?_
  refine lv_iconst (v := 0) hx hb d_LW_person_1 (by decide) ?_
  refine lv_aload_n hx hb d_LW_person_2 rfl (lv_at hl 0 rfl) ?_
  refine lv_iload_n hx hb d_LW_person_3 rfl (lv_at hl 1 rfl) ?_
  have hPc := hP.sub (ws' := [(h, .inr (9, [.ref hPA, .ref hRD, .ref hRB, .ref hPE, .ref hHO, .ref hAG, .ref hLO, .ref hRQ, .ref hEX, .ref aFR])), (hPE, .inr (5, [.ref aRo, .ref aLi, .int (nI en)]))]) [0, 1] rfl
  have hKc := hK.sub (tys' := []) [] rfl
  refine xk_callV (As := [.int z]) (rest := [.int 0, .ref aO]) ⟨hx, hb, hml, hown, hts⟩ (t_RR_person2 l hst dC dI N0 h hPA hRD hRB hPE hHO hAG hLO hRQ hEX aFR aRo aLi en z (hz0) (hz1) (he1) (hbad)) (cwV 1 hts (vz_gV wb_LW_person b_410 b_411 b_412 b_1 wc_RR_person) rfl rfl rfl (by decide +kernel) ⟨Nat.le_of_ble_eq_true rfl, Nat.le_of_ble_eq_true rfl⟩) (vz_preVt hPc hKc hE hN hS (ci := 9) (q0 := 0) rfl rfl) rfl rfl hl.1 (Nat.le_of_ble_eq_true rfl) d_LW_person_4 ⟨Nat.le_of_ble_eq_true rfl, Nat.le_of_ble_eq_true rfl⟩ (fun q9 H9 hnew => ?_)
  obtain ⟨z1, z2, hL9, hz1, hz2⟩ := xk_tab2 htb
  refine xk_catchN (hp := 15) (k := 13) hown [z1] z2 [] hL9 (fun z hz => by
    simp only [List.mem_cons, List.not_mem_nil, or_false] at hz
    subst hz
    exact ⟨_, _, "java/lang/IllegalArgumentException", xkRow.of hz1 (by decide) (by decide), by decide, (hts _ (wb_LW_person _ b_409)), hNo.1⟩) (xkRow.of hz2 (by decide) (by decide)) (by decide) (hts _ (wb_LW_person _ b_258)) (va_Nw.use rfl (hE.1 _ (by simp [xkBad]))) hnew ?_
  have hS : va_S (fun _ => False) s.heap H9 [] := ⟨hnew.1, fun q hq _ => hnew.2.1 q hq, fun _ h => nomatch h⟩
  refine lv_astore_n (lv' := [(3, .ref q9), (0, .ref h), (1, .int z), (2, .ref aO)]) hx hb d_LW_person_15 rfl hl (by decide) rfl (fun ls hl => ?_)
  refine lv_iconst (v := 2) hx hb d_LW_person_16 (by decide) ?_
  exact W.iret (v := 2) hx hb hr (fun t ht hW => ⟨⟨2, (), rfl, rfl, trivial⟩, hS.F ht⟩) hS.2.2 d_LW_person_17

set_option maxHeartbeats 4000000 in
set_option maxRecDepth 100000 in
theorem c_LW_recordB1 (l : Launch) (hst : l.stackTraces = false) (dC : Nat → ClassId) (dI : Nat → Nat → Nat) (N0 : Nat) (h hPA hRD hRB hPE hHO hAG hLO hRQ hEX aFR : Nat) (x0 : Int32) (hbad : x0 < 0 ∨ 4 ≤ x0) (z : Int32) (aO : Nat) : Met l y_LW_record ws_LW_record ({ frames := 7, cells := 1, slots := 6, locals := 113 }) (va_Pc [.ref h, .int x0, .int z, .ref aO] (fun U => va_P (dC, dI) vwCl [(h, .inr (9, [.ref hPA, .ref hRD, .ref hRB, .ref hPE, .ref hHO, .ref hAG, .ref hLO, .ref hRQ, .ref hEX, .ref aFR]))] U.heap ∧ va_K (dC, dI) vwCl [] U ∧ xkE N0 U ∧ N0 ≤ U.heap.size ∧ xkNos U)) (va_Qi (fun (res : Int32) (_ : Unit) => res = 1) (fun _ _ => True) (fun _ => False)) 1 6 (fun _ => False) := by
  refine xk_MetW (cc := k_LW_record) (maxL := 5) (ret := (some .int)) (by decide) rfl ?_
  intro p e s m args below meth c s₁ B hml htb hv
  obtain ⟨rfl, hP, hK, hE, hN, hNo⟩ := hv
  have hx := B.exec
  have hb := B.bytes
  have hr := B.returns
  have hts := atoms_spec (ws := ws_LW_record) B.pre
  have hown : s.vm.findClass R_LW = some m.cls := findClass_of_methodNamed B.named
  have hlocks := B.notSynchronized
  have hS : va_S (fun _ => False) s.heap s.heap [] := va_S.rf
  have hP : va_P (dC, dI) vwCl [(h, .inr (9, [.ref hPA, .ref hRD, .ref hRB, .ref hPE, .ref hHO, .ref hAG, .ref hLO, .ref hRQ, .ref hEX, .ref aFR]))] s.heap := hP
  have hl := lv_entry ([.ref h, .int x0, .int z, .ref aO]) (n := 5) (Nat.le_of_ble_eq_true rfl)
  rw [lg_entry_eq]
  generalize (lg_sl ([.ref h, .int x0, .int z, .ref aO]) ++ List.replicate (5 - (lg_sl ([.ref h, .int x0, .int z, .ref aO])).length) Slot.unset).toArray = ls at hl ⊢
  have hl : lv_has ls 5 [(0, .ref h), (1, .int x0), (2, .int z), (3, .ref aO)] := hl
  refine lv_aload_n hx hb d_LW_record_0 rfl (lv_at hl 3 rfl) ?_
  refine lv_iconst (v := 0) hx hb d_LW_record_1 (by decide) ?_
  refine lv_aload_n hx hb d_LW_record_2 rfl (lv_at hl 0 rfl) ?_
  refine lv_iload_n hx hb d_LW_record_3 rfl (lv_at hl 1 rfl) ?_
  refine lv_iload_n hx hb d_LW_record_4 rfl (lv_at hl 2 rfl) ?_
  have hPc := hP.sub (ws' := [(h, .inr (9, [.ref hPA, .ref hRD, .ref hRB, .ref hPE, .ref hHO, .ref hAG, .ref hLO, .ref hRQ, .ref hEX, .ref aFR]))]) [0] rfl
  have hKc := hK.sub (tys' := []) [] rfl
  refine xk_callV (As := [.int x0, .int z]) (rest := [.int 0, .ref aO]) ⟨hx, hb, hml, hown, hts⟩ (t_RR_record1 l hst dC dI N0 h hPA hRD hRB hPE hHO hAG hLO hRQ hEX aFR x0 (hbad) z) (cwV 2 hts (vz_gV wb_LW_record b_438 b_439 b_440 b_1 wc_RR_record) rfl rfl rfl (by decide +kernel) ⟨Nat.le_of_ble_eq_true rfl, Nat.le_of_ble_eq_true rfl⟩) (vz_preVt hPc hKc hE hN hS (ci := 9) (q0 := 0) rfl rfl) rfl rfl hl.1 (Nat.le_of_ble_eq_true rfl) d_LW_record_5 ⟨Nat.le_of_ble_eq_true rfl, Nat.le_of_ble_eq_true rfl⟩ (fun q9 H9 hnew => ?_)
  obtain ⟨z1, z2, hL9, hz1, hz2⟩ := xk_tab2 htb
  refine xk_catchN (hp := 13) (k := 29) hown [] z1 [z2] hL9 (fun z hz => nomatch hz) (xkRow.of hz1 (by decide) (by decide)) (by decide) (hts _ (wb_LW_record _ b_409)) (va_Nw.use rfl (hE.1 _ (by simp [xkBad]))) hnew ?_
  have hS : va_S (fun _ => False) s.heap H9 [] := ⟨hnew.1, fun q hq _ => hnew.2.1 q hq, fun _ h => nomatch h⟩
  refine lv_astore (lv' := [(4, .ref q9), (0, .ref h), (1, .int x0), (2, .int z), (3, .ref aO)]) hx hb d_LW_record_13 hl (by decide) rfl (fun ls hl => ?_)
  refine lv_iconst (v := 1) hx hb d_LW_record_15 (by decide) ?_
  exact W.iret (v := 1) hx hb hr (fun t ht hW => ⟨⟨1, (), rfl, rfl, trivial⟩, hS.F ht⟩) hS.2.2 d_LW_record_16

set_option maxHeartbeats 4000000 in
set_option maxRecDepth 100000 in
theorem c_LW_recordB2 (l : Launch) (hst : l.stackTraces = false) (dC : Nat → ClassId) (dI : Nat → Nat → Nat) (N0 : Nat) (h hPA hRD hRB hPE hHO hAG hLO hRQ hEX aFR : Nat) (k : Int32) (hk0 : ¬ k < 0) (hk1 : k < 4) (x0 : Int32) (hbad : x0 < -1 ∨ 8 ≤ x0) (aO : Nat) : Met l y_LW_record ws_LW_record ({ frames := 7, cells := 1, slots := 6, locals := 113 }) (va_Pc [.ref h, .int k, .int x0, .ref aO] (fun U => va_P (dC, dI) vwCl [(h, .inr (9, [.ref hPA, .ref hRD, .ref hRB, .ref hPE, .ref hHO, .ref hAG, .ref hLO, .ref hRQ, .ref hEX, .ref aFR]))] U.heap ∧ va_K (dC, dI) vwCl [] U ∧ xkE N0 U ∧ N0 ≤ U.heap.size ∧ xkNos U)) (va_Qi (fun (res : Int32) (_ : Unit) => res = 1) (fun _ _ => True) (fun _ => False)) 1 6 (fun _ => False) := by
  refine xk_MetW (cc := k_LW_record) (maxL := 5) (ret := (some .int)) (by decide) rfl ?_
  intro p e s m args below meth c s₁ B hml htb hv
  obtain ⟨rfl, hP, hK, hE, hN, hNo⟩ := hv
  have hx := B.exec
  have hb := B.bytes
  have hr := B.returns
  have hts := atoms_spec (ws := ws_LW_record) B.pre
  have hown : s.vm.findClass R_LW = some m.cls := findClass_of_methodNamed B.named
  have hlocks := B.notSynchronized
  have hS : va_S (fun _ => False) s.heap s.heap [] := va_S.rf
  have hP : va_P (dC, dI) vwCl [(h, .inr (9, [.ref hPA, .ref hRD, .ref hRB, .ref hPE, .ref hHO, .ref hAG, .ref hLO, .ref hRQ, .ref hEX, .ref aFR]))] s.heap := hP
  have hl := lv_entry ([.ref h, .int k, .int x0, .ref aO]) (n := 5) (Nat.le_of_ble_eq_true rfl)
  rw [lg_entry_eq]
  generalize (lg_sl ([.ref h, .int k, .int x0, .ref aO]) ++ List.replicate (5 - (lg_sl ([.ref h, .int k, .int x0, .ref aO])).length) Slot.unset).toArray = ls at hl ⊢
  have hl : lv_has ls 5 [(0, .ref h), (1, .int k), (2, .int x0), (3, .ref aO)] := hl
  refine lv_aload_n hx hb d_LW_record_0 rfl (lv_at hl 3 rfl) ?_
  refine lv_iconst (v := 0) hx hb d_LW_record_1 (by decide) ?_
  refine lv_aload_n hx hb d_LW_record_2 rfl (lv_at hl 0 rfl) ?_
  refine lv_iload_n hx hb d_LW_record_3 rfl (lv_at hl 1 rfl) ?_
  refine lv_iload_n hx hb d_LW_record_4 rfl (lv_at hl 2 rfl) ?_
  have hPc := hP.sub (ws' := [(h, .inr (9, [.ref hPA, .ref hRD, .ref hRB, .ref hPE, .ref hHO, .ref hAG, .ref hLO, .ref hRQ, .ref hEX, .ref aFR]))]) [0] rfl
  have hKc := hK.sub (tys' := []) [] rfl
  refine xk_callV (As := [.int k, .int x0]) (rest := [.int 0, .ref aO]) ⟨hx, hb, hml, hown, hts⟩ (t_RR_record2 l hst dC dI N0 h hPA hRD hRB hPE hHO hAG hLO hRQ hEX aFR k (hk0) (hk1) x0 (hbad)) (cwV 2 hts (vz_gV wb_LW_record b_438 b_439 b_440 b_1 wc_RR_record) rfl rfl rfl (by decide +kernel) ⟨Nat.le_of_ble_eq_true rfl, Nat.le_of_ble_eq_true rfl⟩) (vz_preVt hPc hKc hE hN hS (ci := 9) (q0 := 0) rfl rfl) rfl rfl hl.1 (Nat.le_of_ble_eq_true rfl) d_LW_record_5 ⟨Nat.le_of_ble_eq_true rfl, Nat.le_of_ble_eq_true rfl⟩ (fun q9 H9 hnew => ?_)
  obtain ⟨z1, z2, hL9, hz1, hz2⟩ := xk_tab2 htb
  refine xk_catchN (hp := 13) (k := 29) hown [] z1 [z2] hL9 (fun z hz => nomatch hz) (xkRow.of hz1 (by decide) (by decide)) (by decide) (hts _ (wb_LW_record _ b_409)) (va_Nw.use rfl (hE.1 _ (by simp [xkBad]))) hnew ?_
  have hS : va_S (fun _ => False) s.heap H9 [] := ⟨hnew.1, fun q hq _ => hnew.2.1 q hq, fun _ h => nomatch h⟩
  refine lv_astore (lv' := [(4, .ref q9), (0, .ref h), (1, .int k), (2, .int x0), (3, .ref aO)]) hx hb d_LW_record_13 hl (by decide) rfl (fun ls hl => ?_)
  refine lv_iconst (v := 1) hx hb d_LW_record_15 (by decide) ?_
  exact W.iret (v := 1) hx hb hr (fun t ht hW => ⟨⟨1, (), rfl, rfl, trivial⟩, hS.F ht⟩) hS.2.2 d_LW_record_16

set_option maxHeartbeats 4000000 in
set_option maxRecDepth 100000 in
theorem c_LW_recordB3 (l : Launch) (hst : l.stackTraces = false) (dC : Nat → ClassId) (dI : Nat → Nat → Nat) (N0 : Nat) (h hPA hRD hRB hPE hHO hAG hLO hRQ hEX aFR : Nat) (aFa aEm aVa : Nat) (hn : Nat) (k z : Int32) (hk0 : ¬ k < 0) (hk1 : k < 4) (hz0 : ¬ z < -1) (hz1 : z < 8) (hh1 : hn ≤ 16) (hbad : 16 ≤ hn) (aO : Nat) : Met l y_LW_record ws_LW_record ({ frames := 7, cells := 1, slots := 6, locals := 113 }) (va_Pc [.ref h, .int k, .int z, .ref aO] (fun U => va_P (dC, dI) vwCl [(h, .inr (9, [.ref hPA, .ref hRD, .ref hRB, .ref hPE, .ref hHO, .ref hAG, .ref hLO, .ref hRQ, .ref hEX, .ref aFR])), (hHO, .inr (2, [.ref aFa, .ref aEm, .ref aVa, .int (nI hn)]))] U.heap ∧ va_K (dC, dI) vwCl [] U ∧ xkE N0 U ∧ N0 ≤ U.heap.size ∧ xkNos U)) (va_Qi (fun (res : Int32) (_ : Unit) => res = 2) (fun _ _ => True) (fun _ => False)) 1 6 (fun _ => False) := by
  refine xk_MetW (cc := k_LW_record) (maxL := 5) (ret := (some .int)) (by decide) rfl ?_
  intro p e s m args below meth c s₁ B hml htb hv
  obtain ⟨rfl, hP, hK, hE, hN, hNo⟩ := hv
  have hx := B.exec
  have hb := B.bytes
  have hr := B.returns
  have hts := atoms_spec (ws := ws_LW_record) B.pre
  have hown : s.vm.findClass R_LW = some m.cls := findClass_of_methodNamed B.named
  have hlocks := B.notSynchronized
  have hS : va_S (fun _ => False) s.heap s.heap [] := va_S.rf
  have hP : va_P (dC, dI) vwCl [(h, .inr (9, [.ref hPA, .ref hRD, .ref hRB, .ref hPE, .ref hHO, .ref hAG, .ref hLO, .ref hRQ, .ref hEX, .ref aFR])), (hHO, .inr (2, [.ref aFa, .ref aEm, .ref aVa, .int (nI hn)]))] s.heap := hP
  have hl := lv_entry ([.ref h, .int k, .int z, .ref aO]) (n := 5) (Nat.le_of_ble_eq_true rfl)
  rw [lg_entry_eq]
  generalize (lg_sl ([.ref h, .int k, .int z, .ref aO]) ++ List.replicate (5 - (lg_sl ([.ref h, .int k, .int z, .ref aO])).length) Slot.unset).toArray = ls at hl ⊢
  have hl : lv_has ls 5 [(0, .ref h), (1, .int k), (2, .int z), (3, .ref aO)] := hl
  refine lv_aload_n hx hb d_LW_record_0 rfl (lv_at hl 3 rfl) ?_
  refine lv_iconst (v := 0) hx hb d_LW_record_1 (by decide) ?_
  refine lv_aload_n hx hb d_LW_record_2 rfl (lv_at hl 0 rfl) ?_
  refine lv_iload_n hx hb d_LW_record_3 rfl (lv_at hl 1 rfl) ?_
  refine lv_iload_n hx hb d_LW_record_4 rfl (lv_at hl 2 rfl) ?_
  have hPc := hP.sub (ws' := [(h, .inr (9, [.ref hPA, .ref hRD, .ref hRB, .ref hPE, .ref hHO, .ref hAG, .ref hLO, .ref hRQ, .ref hEX, .ref aFR])), (hHO, .inr (2, [.ref aFa, .ref aEm, .ref aVa, .int (nI hn)]))]) [0, 1] rfl
  have hKc := hK.sub (tys' := []) [] rfl
  refine xk_callV (As := [.int k, .int z]) (rest := [.int 0, .ref aO]) ⟨hx, hb, hml, hown, hts⟩ (t_RR_record3 l hst dC dI N0 h hPA hRD hRB hPE hHO hAG hLO hRQ hEX aFR aFa aEm aVa hn k z (hk0) (hk1) (hz0) (hz1) (hh1) (hbad)) (cwV 2 hts (vz_gV wb_LW_record b_438 b_439 b_440 b_1 wc_RR_record) rfl rfl rfl (by decide +kernel) ⟨Nat.le_of_ble_eq_true rfl, Nat.le_of_ble_eq_true rfl⟩) (vz_preVt hPc hKc hE hN hS (ci := 9) (q0 := 0) rfl rfl) rfl rfl hl.1 (Nat.le_of_ble_eq_true rfl) d_LW_record_5 ⟨Nat.le_of_ble_eq_true rfl, Nat.le_of_ble_eq_true rfl⟩ (fun q9 H9 hnew => ?_)
  obtain ⟨z1, z2, hL9, hz1, hz2⟩ := xk_tab2 htb
  refine xk_catchN (hp := 17) (k := 13) hown [z1] z2 [] hL9 (fun z hz => by
    simp only [List.mem_cons, List.not_mem_nil, or_false] at hz
    subst hz
    exact ⟨_, _, "java/lang/IllegalArgumentException", xkRow.of hz1 (by decide) (by decide), by decide, (hts _ (wb_LW_record _ b_409)), hNo.1⟩) (xkRow.of hz2 (by decide) (by decide)) (by decide) (hts _ (wb_LW_record _ b_258)) (va_Nw.use rfl (hE.1 _ (by simp [xkBad]))) hnew ?_
  have hS : va_S (fun _ => False) s.heap H9 [] := ⟨hnew.1, fun q hq _ => hnew.2.1 q hq, fun _ h => nomatch h⟩
  refine lv_astore (lv' := [(4, .ref q9), (0, .ref h), (1, .int k), (2, .int z), (3, .ref aO)]) hx hb d_LW_record_17 hl (by decide) rfl (fun ls hl => ?_)
  refine lv_iconst (v := 2) hx hb d_LW_record_19 (by decide) ?_
  exact W.iret (v := 2) hx hb hr (fun t ht hW => ⟨⟨2, (), rfl, rfl, trivial⟩, hS.F ht⟩) hS.2.2 d_LW_record_20

set_option maxHeartbeats 4000000 in
set_option maxRecDepth 100000 in
theorem c_LW_valueB1 (l : Launch) (hst : l.stackTraces = false) (dC : Nat → ClassId) (dI : Nat → Nat → Nat) (N0 : Nat) (h hPA hRD hRB hPE hHO hAG hLO hRQ hEX aFR : Nat) (aFa aEm aVa : Nat) (hn : Nat) (x0 : Int32) (hbad : x0 < 0 ∨ nI hn ≤ x0) (f : Int32) (v : Int64) (aO : Nat) : Met l y_LW_value ws_LW_value ({ frames := 8, cells := 1, slots := 6, locals := 135 }) (va_Pc [.ref h, .int x0, .int f, .long v, .ref aO] (fun U => va_P (dC, dI) vwCl [(h, .inr (9, [.ref hPA, .ref hRD, .ref hRB, .ref hPE, .ref hHO, .ref hAG, .ref hLO, .ref hRQ, .ref hEX, .ref aFR])), (hHO, .inr (2, [.ref aFa, .ref aEm, .ref aVa, .int (nI hn)]))] U.heap ∧ va_K (dC, dI) vwCl [] U ∧ xkE N0 U ∧ N0 ≤ U.heap.size ∧ xkNos U)) (va_Qi (fun (res : Int32) (_ : Unit) => res = 1) (fun _ _ => True) (fun _ => False)) 1 6 (fun _ => False) := by
  refine xk_MetW (cc := k_LW_value) (maxL := 7) (ret := (some .int)) (by decide) rfl ?_
  intro p e s m args below meth c s₁ B hml htb hv
  obtain ⟨rfl, hP, hK, hE, hN, hNo⟩ := hv
  have hx := B.exec
  have hb := B.bytes
  have hr := B.returns
  have hts := atoms_spec (ws := ws_LW_value) B.pre
  have hown : s.vm.findClass R_LW = some m.cls := findClass_of_methodNamed B.named
  have hlocks := B.notSynchronized
  have hS : va_S (fun _ => False) s.heap s.heap [] := va_S.rf
  have hP : va_P (dC, dI) vwCl [(h, .inr (9, [.ref hPA, .ref hRD, .ref hRB, .ref hPE, .ref hHO, .ref hAG, .ref hLO, .ref hRQ, .ref hEX, .ref aFR])), (hHO, .inr (2, [.ref aFa, .ref aEm, .ref aVa, .int (nI hn)]))] s.heap := hP
  have hl := lv_entry ([.ref h, .int x0, .int f, .long v, .ref aO]) (n := 7) (Nat.le_of_ble_eq_true rfl)
  rw [lg_entry_eq]
  generalize (lg_sl ([.ref h, .int x0, .int f, .long v, .ref aO]) ++ List.replicate (7 - (lg_sl ([.ref h, .int x0, .int f, .long v, .ref aO])).length) Slot.unset).toArray = ls at hl ⊢
  have hl : lv_has ls 7 [(0, .ref h), (1, .int x0), (2, .int f), (3, .long v), (5, .ref aO)] := hl
  refine lv_aload hx hb d_LW_value_0 (lv_at hl 4 rfl) ?_
  refine lv_iconst (v := 0) hx hb d_LW_value_2 (by decide) ?_
  refine lv_aload_n hx hb d_LW_value_3 rfl (lv_at hl 0 rfl) ?_
  refine lv_iload_n hx hb d_LW_value_4 rfl (lv_at hl 1 rfl) ?_
  refine lv_iload_n hx hb d_LW_value_5 rfl (lv_at hl 2 rfl) ?_
  refine lv_lload_n hx hb d_LW_value_6 rfl (lv_at hl 3 rfl) ?_
  have hPc := hP.sub (ws' := [(h, .inr (9, [.ref hPA, .ref hRD, .ref hRB, .ref hPE, .ref hHO, .ref hAG, .ref hLO, .ref hRQ, .ref hEX, .ref aFR])), (hHO, .inr (2, [.ref aFa, .ref aEm, .ref aVa, .int (nI hn)]))]) [0, 1] rfl
  have hKc := hK.sub (tys' := []) [] rfl
  refine xk_callV (As := [.int x0, .int f, .long v]) (rest := [.int 0, .ref aO]) ⟨hx, hb, hml, hown, hts⟩ (t_RR_value1 l hst dC dI N0 h hPA hRD hRB hPE hHO hAG hLO hRQ hEX aFR aFa aEm aVa hn x0 (hbad) f v) (cwV 3 hts (vz_gV wb_LW_value b_452 b_453 b_454 b_1 wc_RR_value) rfl rfl rfl (by decide +kernel) ⟨Nat.le_of_ble_eq_true rfl, Nat.le_of_ble_eq_true rfl⟩) (vz_preVt hPc hKc hE hN hS (ci := 9) (q0 := 0) rfl rfl) rfl rfl hl.1 (Nat.le_of_ble_eq_true rfl) d_LW_value_7 ⟨Nat.le_of_ble_eq_true rfl, Nat.le_of_ble_eq_true rfl⟩ (fun q9 H9 hnew => ?_)
  obtain ⟨z1, hL9, hz1⟩ := xk_tab1 htb
  refine xk_catchN (hp := 14) (k := 23) hown [] z1 [] hL9 (fun z hz => nomatch hz) (xkRow.of hz1 (by decide) (by decide)) (by decide) (hts _ (wb_LW_value _ b_381)) (va_Nw.use rfl (hE.1 _ (by simp [xkBad]))) hnew ?_
  have hS : va_S (fun _ => False) s.heap H9 [] := ⟨hnew.1, fun q hq _ => hnew.2.1 q hq, fun _ h => nomatch h⟩
  refine lv_astore (lv' := [(6, .ref q9), (0, .ref h), (1, .int x0), (2, .int f), (3, .long v), (5, .ref aO)]) hx hb d_LW_value_14 hl (by decide) rfl (fun ls hl => ?_)
  refine lv_iconst (v := 1) hx hb d_LW_value_16 (by decide) ?_
  exact W.iret (v := 1) hx hb hr (fun t ht hW => ⟨⟨1, (), rfl, rfl, trivial⟩, hS.F ht⟩) hS.2.2 d_LW_value_17

set_option maxHeartbeats 4000000 in
set_option maxRecDepth 100000 in
theorem c_LW_valueB2 (l : Launch) (hst : l.stackTraces = false) (dC : Nat → ClassId) (dI : Nat → Nat → Nat) (N0 : Nat) (h hPA hRD hRB hPE hHO hAG hLO hRQ hEX aFR : Nat) (aFa aEm aVa : Nat) (hn : Nat) (hhn : hn ≤ 16) (r : Nat) (hr0 : r < hn) (x0 : Int32) (hbad : x0 < 0 ∨ 6 ≤ x0) (v : Int64) (aO : Nat) : Met l y_LW_value ws_LW_value ({ frames := 8, cells := 1, slots := 6, locals := 134 }) (va_Pc [.ref h, .int (nI r), .int x0, .long v, .ref aO] (fun U => va_P (dC, dI) vwCl [(h, .inr (9, [.ref hPA, .ref hRD, .ref hRB, .ref hPE, .ref hHO, .ref hAG, .ref hLO, .ref hRQ, .ref hEX, .ref aFR])), (hHO, .inr (2, [.ref aFa, .ref aEm, .ref aVa, .int (nI hn)]))] U.heap ∧ va_K (dC, dI) vwCl [] U ∧ xkE N0 U ∧ N0 ≤ U.heap.size ∧ xkNos U)) (va_Qi (fun (res : Int32) (_ : Unit) => res = 1) (fun _ _ => True) (fun _ => False)) 1 6 (fun _ => False) := by
  refine xk_MetW (cc := k_LW_value) (maxL := 7) (ret := (some .int)) (by decide) rfl ?_
  intro p e s m args below meth c s₁ B hml htb hv
  obtain ⟨rfl, hP, hK, hE, hN, hNo⟩ := hv
  have hx := B.exec
  have hb := B.bytes
  have hr := B.returns
  have hts := atoms_spec (ws := ws_LW_value) B.pre
  have hown : s.vm.findClass R_LW = some m.cls := findClass_of_methodNamed B.named
  have hlocks := B.notSynchronized
  have hS : va_S (fun _ => False) s.heap s.heap [] := va_S.rf
  have hP : va_P (dC, dI) vwCl [(h, .inr (9, [.ref hPA, .ref hRD, .ref hRB, .ref hPE, .ref hHO, .ref hAG, .ref hLO, .ref hRQ, .ref hEX, .ref aFR])), (hHO, .inr (2, [.ref aFa, .ref aEm, .ref aVa, .int (nI hn)]))] s.heap := hP
  have hl := lv_entry ([.ref h, .int (nI r), .int x0, .long v, .ref aO]) (n := 7) (Nat.le_of_ble_eq_true rfl)
  rw [lg_entry_eq]
  generalize (lg_sl ([.ref h, .int (nI r), .int x0, .long v, .ref aO]) ++ List.replicate (7 - (lg_sl ([.ref h, .int (nI r), .int x0, .long v, .ref aO])).length) Slot.unset).toArray = ls at hl ⊢
  have hl : lv_has ls 7 [(0, .ref h), (1, .int (nI r)), (2, .int x0), (3, .long v), (5, .ref aO)] := hl
  refine lv_aload hx hb d_LW_value_0 (lv_at hl 4 rfl) ?_
  refine lv_iconst (v := 0) hx hb d_LW_value_2 (by decide) ?_
  refine lv_aload_n hx hb d_LW_value_3 rfl (lv_at hl 0 rfl) ?_
  refine lv_iload_n hx hb d_LW_value_4 rfl (lv_at hl 1 rfl) ?_
  refine lv_iload_n hx hb d_LW_value_5 rfl (lv_at hl 2 rfl) ?_
  refine lv_lload_n hx hb d_LW_value_6 rfl (lv_at hl 3 rfl) ?_
  have hPc := hP.sub (ws' := [(h, .inr (9, [.ref hPA, .ref hRD, .ref hRB, .ref hPE, .ref hHO, .ref hAG, .ref hLO, .ref hRQ, .ref hEX, .ref aFR])), (hHO, .inr (2, [.ref aFa, .ref aEm, .ref aVa, .int (nI hn)]))]) [0, 1] rfl
  have hKc := hK.sub (tys' := []) [] rfl
  refine xk_callV (As := [.int (nI r), .int x0, .long v]) (rest := [.int 0, .ref aO]) ⟨hx, hb, hml, hown, hts⟩ (t_RR_value2 l hst dC dI N0 h hPA hRD hRB hPE hHO hAG hLO hRQ hEX aFR aFa aEm aVa hn (hhn) r (hr0) x0 (hbad) v) (cwV 3 hts (vz_gV wb_LW_value b_452 b_453 b_454 b_1 wc_RR_value) rfl rfl rfl (by decide +kernel) ⟨Nat.le_of_ble_eq_true rfl, Nat.le_of_ble_eq_true rfl⟩) (vz_preVt hPc hKc hE hN hS (ci := 9) (q0 := 0) rfl rfl) rfl rfl hl.1 (Nat.le_of_ble_eq_true rfl) d_LW_value_7 ⟨Nat.le_of_ble_eq_true rfl, Nat.le_of_ble_eq_true rfl⟩ (fun q9 H9 hnew => ?_)
  obtain ⟨z1, hL9, hz1⟩ := xk_tab1 htb
  refine xk_catchN (hp := 14) (k := 23) hown [] z1 [] hL9 (fun z hz => nomatch hz) (xkRow.of hz1 (by decide) (by decide)) (by decide) (hts _ (wb_LW_value _ b_381)) (va_Nw.use rfl (hE.1 _ (by simp [xkBad]))) hnew ?_
  have hS : va_S (fun _ => False) s.heap H9 [] := ⟨hnew.1, fun q hq _ => hnew.2.1 q hq, fun _ h => nomatch h⟩
  refine lv_astore (lv' := [(6, .ref q9), (0, .ref h), (1, .int (nI r)), (2, .int x0), (3, .long v), (5, .ref aO)]) hx hb d_LW_value_14 hl (by decide) rfl (fun ls hl => ?_)
  refine lv_iconst (v := 1) hx hb d_LW_value_16 (by decide) ?_
  exact W.iret (v := 1) hx hb hr (fun t ht hW => ⟨⟨1, (), rfl, rfl, trivial⟩, hS.F ht⟩) hS.2.2 d_LW_value_17

set_option maxHeartbeats 4000000 in
set_option maxRecDepth 100000 in
theorem c_LW_maskedB1 (l : Launch) (hst : l.stackTraces = false) (dC : Nat → ClassId) (dI : Nat → Nat → Nat) (N0 : Nat) (h hPA hRD hRB hPE hHO hAG hLO hRQ hEX aFR : Nat) (aFa aEm aVa : Nat) (hn : Nat) (x0 : Int32) (hbad : x0 < 0 ∨ nI hn ≤ x0) (f : Int32) (aO : Nat) : Met l y_LW_masked ws_LW_masked ({ frames := 8, cells := 1, slots := 6, locals := 135 }) (va_Pc [.ref h, .int x0, .int f, .ref aO] (fun U => va_P (dC, dI) vwCl [(h, .inr (9, [.ref hPA, .ref hRD, .ref hRB, .ref hPE, .ref hHO, .ref hAG, .ref hLO, .ref hRQ, .ref hEX, .ref aFR])), (hHO, .inr (2, [.ref aFa, .ref aEm, .ref aVa, .int (nI hn)]))] U.heap ∧ va_K (dC, dI) vwCl [] U ∧ xkE N0 U ∧ N0 ≤ U.heap.size ∧ xkNos U)) (va_Qi (fun (res : Int32) (_ : Unit) => res = 1) (fun _ _ => True) (fun _ => False)) 1 6 (fun _ => False) := by
  refine xk_MetW (cc := k_LW_masked) (maxL := 5) (ret := (some .int)) (by decide) rfl ?_
  intro p e s m args below meth c s₁ B hml htb hv
  obtain ⟨rfl, hP, hK, hE, hN, hNo⟩ := hv
  have hx := B.exec
  have hb := B.bytes
  have hr := B.returns
  have hts := atoms_spec (ws := ws_LW_masked) B.pre
  have hown : s.vm.findClass R_LW = some m.cls := findClass_of_methodNamed B.named
  have hlocks := B.notSynchronized
  have hS : va_S (fun _ => False) s.heap s.heap [] := va_S.rf
  have hP : va_P (dC, dI) vwCl [(h, .inr (9, [.ref hPA, .ref hRD, .ref hRB, .ref hPE, .ref hHO, .ref hAG, .ref hLO, .ref hRQ, .ref hEX, .ref aFR])), (hHO, .inr (2, [.ref aFa, .ref aEm, .ref aVa, .int (nI hn)]))] s.heap := hP
  have hl := lv_entry ([.ref h, .int x0, .int f, .ref aO]) (n := 5) (Nat.le_of_ble_eq_true rfl)
  rw [lg_entry_eq]
  generalize (lg_sl ([.ref h, .int x0, .int f, .ref aO]) ++ List.replicate (5 - (lg_sl ([.ref h, .int x0, .int f, .ref aO])).length) Slot.unset).toArray = ls at hl ⊢
  have hl : lv_has ls 5 [(0, .ref h), (1, .int x0), (2, .int f), (3, .ref aO)] := hl
  refine lv_aload_n hx hb d_LW_masked_0 rfl (lv_at hl 3 rfl) ?_
  refine lv_iconst (v := 0) hx hb d_LW_masked_1 (by decide) ?_
  refine lv_aload_n hx hb d_LW_masked_2 rfl (lv_at hl 0 rfl) ?_
  refine lv_iload_n hx hb d_LW_masked_3 rfl (lv_at hl 1 rfl) ?_
  refine lv_iload_n hx hb d_LW_masked_4 rfl (lv_at hl 2 rfl) ?_
  have hPc := hP.sub (ws' := [(h, .inr (9, [.ref hPA, .ref hRD, .ref hRB, .ref hPE, .ref hHO, .ref hAG, .ref hLO, .ref hRQ, .ref hEX, .ref aFR])), (hHO, .inr (2, [.ref aFa, .ref aEm, .ref aVa, .int (nI hn)]))]) [0, 1] rfl
  have hKc := hK.sub (tys' := []) [] rfl
  refine xk_callV (As := [.int x0, .int f]) (rest := [.int 0, .ref aO]) ⟨hx, hb, hml, hown, hts⟩ (t_RR_masked1 l hst dC dI N0 h hPA hRD hRB hPE hHO hAG hLO hRQ hEX aFR aFa aEm aVa hn x0 (hbad) f) (cwV 2 hts (vz_gV wb_LW_masked b_541 b_542 b_543 b_1 wc_RR_masked) rfl rfl rfl (by decide +kernel) ⟨Nat.le_of_ble_eq_true rfl, Nat.le_of_ble_eq_true rfl⟩) (vz_preVt hPc hKc hE hN hS (ci := 9) (q0 := 0) rfl rfl) rfl rfl hl.1 (Nat.le_of_ble_eq_true rfl) d_LW_masked_5 ⟨Nat.le_of_ble_eq_true rfl, Nat.le_of_ble_eq_true rfl⟩ (fun q9 H9 hnew => ?_)
  obtain ⟨z1, hL9, hz1⟩ := xk_tab1 htb
  refine xk_catchN (hp := 12) (k := 23) hown [] z1 [] hL9 (fun z hz => nomatch hz) (xkRow.of hz1 (by decide) (by decide)) (by decide) (hts _ (wb_LW_masked _ b_381)) (va_Nw.use rfl (hE.1 _ (by simp [xkBad]))) hnew ?_
  have hS : va_S (fun _ => False) s.heap H9 [] := ⟨hnew.1, fun q hq _ => hnew.2.1 q hq, fun _ h => nomatch h⟩
  refine lv_astore (lv' := [(4, .ref q9), (0, .ref h), (1, .int x0), (2, .int f), (3, .ref aO)]) hx hb d_LW_masked_12 hl (by decide) rfl (fun ls hl => ?_)
  refine lv_iconst (v := 1) hx hb d_LW_masked_14 (by decide) ?_
  exact W.iret (v := 1) hx hb hr (fun t ht hW => ⟨⟨1, (), rfl, rfl, trivial⟩, hS.F ht⟩) hS.2.2 d_LW_masked_15

set_option maxHeartbeats 4000000 in
set_option maxRecDepth 100000 in
theorem c_LW_maskedB2 (l : Launch) (hst : l.stackTraces = false) (dC : Nat → ClassId) (dI : Nat → Nat → Nat) (N0 : Nat) (h hPA hRD hRB hPE hHO hAG hLO hRQ hEX aFR : Nat) (aFa aEm aVa : Nat) (hn : Nat) (hhn : hn ≤ 16) (r : Nat) (hr0 : r < hn) (x0 : Int32) (hbad : x0 < 0 ∨ 6 ≤ x0) (aO : Nat) : Met l y_LW_masked ws_LW_masked ({ frames := 8, cells := 1, slots := 6, locals := 134 }) (va_Pc [.ref h, .int (nI r), .int x0, .ref aO] (fun U => va_P (dC, dI) vwCl [(h, .inr (9, [.ref hPA, .ref hRD, .ref hRB, .ref hPE, .ref hHO, .ref hAG, .ref hLO, .ref hRQ, .ref hEX, .ref aFR])), (hHO, .inr (2, [.ref aFa, .ref aEm, .ref aVa, .int (nI hn)]))] U.heap ∧ va_K (dC, dI) vwCl [] U ∧ xkE N0 U ∧ N0 ≤ U.heap.size ∧ xkNos U)) (va_Qi (fun (res : Int32) (_ : Unit) => res = 1) (fun _ _ => True) (fun _ => False)) 1 6 (fun _ => False) := by
  refine xk_MetW (cc := k_LW_masked) (maxL := 5) (ret := (some .int)) (by decide) rfl ?_
  intro p e s m args below meth c s₁ B hml htb hv
  obtain ⟨rfl, hP, hK, hE, hN, hNo⟩ := hv
  have hx := B.exec
  have hb := B.bytes
  have hr := B.returns
  have hts := atoms_spec (ws := ws_LW_masked) B.pre
  have hown : s.vm.findClass R_LW = some m.cls := findClass_of_methodNamed B.named
  have hlocks := B.notSynchronized
  have hS : va_S (fun _ => False) s.heap s.heap [] := va_S.rf
  have hP : va_P (dC, dI) vwCl [(h, .inr (9, [.ref hPA, .ref hRD, .ref hRB, .ref hPE, .ref hHO, .ref hAG, .ref hLO, .ref hRQ, .ref hEX, .ref aFR])), (hHO, .inr (2, [.ref aFa, .ref aEm, .ref aVa, .int (nI hn)]))] s.heap := hP
  have hl := lv_entry ([.ref h, .int (nI r), .int x0, .ref aO]) (n := 5) (Nat.le_of_ble_eq_true rfl)
  rw [lg_entry_eq]
  generalize (lg_sl ([.ref h, .int (nI r), .int x0, .ref aO]) ++ List.replicate (5 - (lg_sl ([.ref h, .int (nI r), .int x0, .ref aO])).length) Slot.unset).toArray = ls at hl ⊢
  have hl : lv_has ls 5 [(0, .ref h), (1, .int (nI r)), (2, .int x0), (3, .ref aO)] := hl
  refine lv_aload_n hx hb d_LW_masked_0 rfl (lv_at hl 3 rfl) ?_
  refine lv_iconst (v := 0) hx hb d_LW_masked_1 (by decide) ?_
  refine lv_aload_n hx hb d_LW_masked_2 rfl (lv_at hl 0 rfl) ?_
  refine lv_iload_n hx hb d_LW_masked_3 rfl (lv_at hl 1 rfl) ?_
  refine lv_iload_n hx hb d_LW_masked_4 rfl (lv_at hl 2 rfl) ?_
  have hPc := hP.sub (ws' := [(h, .inr (9, [.ref hPA, .ref hRD, .ref hRB, .ref hPE, .ref hHO, .ref hAG, .ref hLO, .ref hRQ, .ref hEX, .ref aFR])), (hHO, .inr (2, [.ref aFa, .ref aEm, .ref aVa, .int (nI hn)]))]) [0, 1] rfl
  have hKc := hK.sub (tys' := []) [] rfl
  refine xk_callV (As := [.int (nI r), .int x0]) (rest := [.int 0, .ref aO]) ⟨hx, hb, hml, hown, hts⟩ (t_RR_masked2 l hst dC dI N0 h hPA hRD hRB hPE hHO hAG hLO hRQ hEX aFR aFa aEm aVa hn (hhn) r (hr0) x0 (hbad)) (cwV 2 hts (vz_gV wb_LW_masked b_541 b_542 b_543 b_1 wc_RR_masked) rfl rfl rfl (by decide +kernel) ⟨Nat.le_of_ble_eq_true rfl, Nat.le_of_ble_eq_true rfl⟩) (vz_preVt hPc hKc hE hN hS (ci := 9) (q0 := 0) rfl rfl) rfl rfl hl.1 (Nat.le_of_ble_eq_true rfl) d_LW_masked_5 ⟨Nat.le_of_ble_eq_true rfl, Nat.le_of_ble_eq_true rfl⟩ (fun q9 H9 hnew => ?_)
  obtain ⟨z1, hL9, hz1⟩ := xk_tab1 htb
  refine xk_catchN (hp := 12) (k := 23) hown [] z1 [] hL9 (fun z hz => nomatch hz) (xkRow.of hz1 (by decide) (by decide)) (by decide) (hts _ (wb_LW_masked _ b_381)) (va_Nw.use rfl (hE.1 _ (by simp [xkBad]))) hnew ?_
  have hS : va_S (fun _ => False) s.heap H9 [] := ⟨hnew.1, fun q hq _ => hnew.2.1 q hq, fun _ h => nomatch h⟩
  refine lv_astore (lv' := [(4, .ref q9), (0, .ref h), (1, .int (nI r)), (2, .int x0), (3, .ref aO)]) hx hb d_LW_masked_12 hl (by decide) rfl (fun ls hl => ?_)
  refine lv_iconst (v := 1) hx hb d_LW_masked_14 (by decide) ?_
  exact W.iret (v := 1) hx hb hr (fun t ht hW => ⟨⟨1, (), rfl, rfl, trivial⟩, hS.F ht⟩) hS.2.2 d_LW_masked_15

set_option maxHeartbeats 4000000 in
set_option maxRecDepth 100000 in
theorem c_LW_embargoB1 (l : Launch) (hst : l.stackTraces = false) (dC : Nat → ClassId) (dI : Nat → Nat → Nat) (N0 : Nat) (h hPA hRD hRB hPE hHO hAG hLO hRQ hEX aFR : Nat) (aFa aEm aVa : Nat) (hn : Nat) (x0 : Int32) (hbad : x0 < 0 ∨ nI hn ≤ x0) (d : Int32) (aO : Nat) : Met l y_LW_embargo ws_LW_embargo ({ frames := 8, cells := 1, slots := 6, locals := 134 }) (va_Pc [.ref h, .int x0, .int d, .ref aO] (fun U => va_P (dC, dI) vwCl [(h, .inr (9, [.ref hPA, .ref hRD, .ref hRB, .ref hPE, .ref hHO, .ref hAG, .ref hLO, .ref hRQ, .ref hEX, .ref aFR])), (hHO, .inr (2, [.ref aFa, .ref aEm, .ref aVa, .int (nI hn)]))] U.heap ∧ va_K (dC, dI) vwCl [] U ∧ xkE N0 U ∧ N0 ≤ U.heap.size ∧ xkNos U)) (va_Qi (fun (res : Int32) (_ : Unit) => res = 1) (fun _ _ => True) (fun _ => False)) 1 6 (fun _ => False) := by
  refine xk_MetW (cc := k_LW_embargo) (maxL := 5) (ret := (some .int)) (by decide) rfl ?_
  intro p e s m args below meth c s₁ B hml htb hv
  obtain ⟨rfl, hP, hK, hE, hN, hNo⟩ := hv
  have hx := B.exec
  have hb := B.bytes
  have hr := B.returns
  have hts := atoms_spec (ws := ws_LW_embargo) B.pre
  have hown : s.vm.findClass R_LW = some m.cls := findClass_of_methodNamed B.named
  have hlocks := B.notSynchronized
  have hS : va_S (fun _ => False) s.heap s.heap [] := va_S.rf
  have hP : va_P (dC, dI) vwCl [(h, .inr (9, [.ref hPA, .ref hRD, .ref hRB, .ref hPE, .ref hHO, .ref hAG, .ref hLO, .ref hRQ, .ref hEX, .ref aFR])), (hHO, .inr (2, [.ref aFa, .ref aEm, .ref aVa, .int (nI hn)]))] s.heap := hP
  have hl := lv_entry ([.ref h, .int x0, .int d, .ref aO]) (n := 5) (Nat.le_of_ble_eq_true rfl)
  rw [lg_entry_eq]
  generalize (lg_sl ([.ref h, .int x0, .int d, .ref aO]) ++ List.replicate (5 - (lg_sl ([.ref h, .int x0, .int d, .ref aO])).length) Slot.unset).toArray = ls at hl ⊢
  have hl : lv_has ls 5 [(0, .ref h), (1, .int x0), (2, .int d), (3, .ref aO)] := hl
  refine lv_aload_n hx hb d_LW_embargo_0 rfl (lv_at hl 3 rfl) ?_
  refine lv_iconst (v := 0) hx hb d_LW_embargo_1 (by decide) ?_
  refine lv_aload_n hx hb d_LW_embargo_2 rfl (lv_at hl 0 rfl) ?_
  refine lv_iload_n hx hb d_LW_embargo_3 rfl (lv_at hl 1 rfl) ?_
  refine lv_iload_n hx hb d_LW_embargo_4 rfl (lv_at hl 2 rfl) ?_
  have hPc := hP.sub (ws' := [(h, .inr (9, [.ref hPA, .ref hRD, .ref hRB, .ref hPE, .ref hHO, .ref hAG, .ref hLO, .ref hRQ, .ref hEX, .ref aFR])), (hHO, .inr (2, [.ref aFa, .ref aEm, .ref aVa, .int (nI hn)]))]) [0, 1] rfl
  have hKc := hK.sub (tys' := []) [] rfl
  refine xk_callV (As := [.int x0, .int d]) (rest := [.int 0, .ref aO]) ⟨hx, hb, hml, hown, hts⟩ (t_RR_embargo1 l hst dC dI N0 h hPA hRD hRB hPE hHO hAG hLO hRQ hEX aFR aFa aEm aVa hn x0 (hbad) d) (cwV 2 hts (vz_gV wb_LW_embargo b_476 b_477 b_478 b_1 wc_RR_embargo) rfl rfl rfl (by decide +kernel) ⟨Nat.le_of_ble_eq_true rfl, Nat.le_of_ble_eq_true rfl⟩) (vz_preVt hPc hKc hE hN hS (ci := 9) (q0 := 0) rfl rfl) rfl rfl hl.1 (Nat.le_of_ble_eq_true rfl) d_LW_embargo_5 ⟨Nat.le_of_ble_eq_true rfl, Nat.le_of_ble_eq_true rfl⟩ (fun q9 H9 hnew => ?_)
  obtain ⟨z1, z2, hL9, hz1, hz2⟩ := xk_tab2 htb
  refine xk_catchN (hp := 13) (k := 23) hown [] z1 [z2] hL9 (fun z hz => nomatch hz) (xkRow.of hz1 (by decide) (by decide)) (by decide) (hts _ (wb_LW_embargo _ b_381)) (va_Nw.use rfl (hE.1 _ (by simp [xkBad]))) hnew ?_
  have hS : va_S (fun _ => False) s.heap H9 [] := ⟨hnew.1, fun q hq _ => hnew.2.1 q hq, fun _ h => nomatch h⟩
  refine lv_astore (lv' := [(4, .ref q9), (0, .ref h), (1, .int x0), (2, .int d), (3, .ref aO)]) hx hb d_LW_embargo_13 hl (by decide) rfl (fun ls hl => ?_)
  refine lv_iconst (v := 1) hx hb d_LW_embargo_15 (by decide) ?_
  exact W.iret (v := 1) hx hb hr (fun t ht hW => ⟨⟨1, (), rfl, rfl, trivial⟩, hS.F ht⟩) hS.2.2 d_LW_embargo_16

set_option maxHeartbeats 4000000 in
set_option maxRecDepth 100000 in
theorem c_LW_embargoB2 (l : Launch) (hst : l.stackTraces = false) (dC : Nat → ClassId) (dI : Nat → Nat → Nat) (N0 : Nat) (h hPA hRD hRB hPE hHO hAG hLO hRQ hEX aFR : Nat) (aFa aEm aVa : Nat) (hn : Nat) (hhn : hn ≤ 16) (r : Nat) (hr0 : r < hn) (x0 : Int32) (hbad : x0 < 0 ∨ 100000 < x0) (hne : ¬ x0 = -1) (aO : Nat) : Met l y_LW_embargo ws_LW_embargo ({ frames := 8, cells := 1, slots := 6, locals := 133 }) (va_Pc [.ref h, .int (nI r), .int x0, .ref aO] (fun U => va_P (dC, dI) vwCl [(h, .inr (9, [.ref hPA, .ref hRD, .ref hRB, .ref hPE, .ref hHO, .ref hAG, .ref hLO, .ref hRQ, .ref hEX, .ref aFR])), (hHO, .inr (2, [.ref aFa, .ref aEm, .ref aVa, .int (nI hn)]))] U.heap ∧ va_K (dC, dI) vwCl [] U ∧ xkE N0 U ∧ N0 ≤ U.heap.size ∧ xkNos U)) (va_Qi (fun (res : Int32) (_ : Unit) => res = 2) (fun _ _ => True) (fun _ => False)) 1 6 (fun _ => False) := by
  refine xk_MetW (cc := k_LW_embargo) (maxL := 5) (ret := (some .int)) (by decide) rfl ?_
  intro p e s m args below meth c s₁ B hml htb hv
  obtain ⟨rfl, hP, hK, hE, hN, hNo⟩ := hv
  have hx := B.exec
  have hb := B.bytes
  have hr := B.returns
  have hts := atoms_spec (ws := ws_LW_embargo) B.pre
  have hown : s.vm.findClass R_LW = some m.cls := findClass_of_methodNamed B.named
  have hlocks := B.notSynchronized
  have hS : va_S (fun _ => False) s.heap s.heap [] := va_S.rf
  have hP : va_P (dC, dI) vwCl [(h, .inr (9, [.ref hPA, .ref hRD, .ref hRB, .ref hPE, .ref hHO, .ref hAG, .ref hLO, .ref hRQ, .ref hEX, .ref aFR])), (hHO, .inr (2, [.ref aFa, .ref aEm, .ref aVa, .int (nI hn)]))] s.heap := hP
  have hl := lv_entry ([.ref h, .int (nI r), .int x0, .ref aO]) (n := 5) (Nat.le_of_ble_eq_true rfl)
  rw [lg_entry_eq]
  generalize (lg_sl ([.ref h, .int (nI r), .int x0, .ref aO]) ++ List.replicate (5 - (lg_sl ([.ref h, .int (nI r), .int x0, .ref aO])).length) Slot.unset).toArray = ls at hl ⊢
  have hl : lv_has ls 5 [(0, .ref h), (1, .int (nI r)), (2, .int x0), (3, .ref aO)] := hl
  refine lv_aload_n hx hb d_LW_embargo_0 rfl (lv_at hl 3 rfl) ?_
  refine lv_iconst (v := 0) hx hb d_LW_embargo_1 (by decide) ?_
  refine lv_aload_n hx hb d_LW_embargo_2 rfl (lv_at hl 0 rfl) ?_
  refine lv_iload_n hx hb d_LW_embargo_3 rfl (lv_at hl 1 rfl) ?_
  refine lv_iload_n hx hb d_LW_embargo_4 rfl (lv_at hl 2 rfl) ?_
  have hPc := hP.sub (ws' := [(h, .inr (9, [.ref hPA, .ref hRD, .ref hRB, .ref hPE, .ref hHO, .ref hAG, .ref hLO, .ref hRQ, .ref hEX, .ref aFR])), (hHO, .inr (2, [.ref aFa, .ref aEm, .ref aVa, .int (nI hn)]))]) [0, 1] rfl
  have hKc := hK.sub (tys' := []) [] rfl
  refine xk_callV (As := [.int (nI r), .int x0]) (rest := [.int 0, .ref aO]) ⟨hx, hb, hml, hown, hts⟩ (t_RR_embargo2 l hst dC dI N0 h hPA hRD hRB hPE hHO hAG hLO hRQ hEX aFR aFa aEm aVa hn (hhn) r (hr0) x0 (hbad) (hne)) (cwV 2 hts (vz_gV wb_LW_embargo b_476 b_477 b_478 b_1 wc_RR_embargo) rfl rfl rfl (by decide +kernel) ⟨Nat.le_of_ble_eq_true rfl, Nat.le_of_ble_eq_true rfl⟩) (vz_preVt hPc hKc hE hN hS (ci := 9) (q0 := 0) rfl rfl) rfl rfl hl.1 (Nat.le_of_ble_eq_true rfl) d_LW_embargo_5 ⟨Nat.le_of_ble_eq_true rfl, Nat.le_of_ble_eq_true rfl⟩ (fun q9 H9 hnew => ?_)
  obtain ⟨z1, z2, hL9, hz1, hz2⟩ := xk_tab2 htb
  refine xk_catchN (hp := 17) (k := 29) hown [z1] z2 [] hL9 (fun z hz => by
    simp only [List.mem_cons, List.not_mem_nil, or_false] at hz
    subst hz
    exact ⟨_, _, "java/util/NoSuchElementException", xkRow.of hz1 (by decide) (by decide), by decide, (hts _ (wb_LW_embargo _ b_381)), hNo.2.1⟩) (xkRow.of hz2 (by decide) (by decide)) (by decide) (hts _ (wb_LW_embargo _ b_409)) (va_Nw.use rfl (hE.1 _ (by simp [xkBad]))) hnew ?_
  have hS : va_S (fun _ => False) s.heap H9 [] := ⟨hnew.1, fun q hq _ => hnew.2.1 q hq, fun _ h => nomatch h⟩
  refine lv_astore (lv' := [(4, .ref q9), (0, .ref h), (1, .int (nI r)), (2, .int x0), (3, .ref aO)]) hx hb d_LW_embargo_17 hl (by decide) rfl (fun ls hl => ?_)
  refine lv_iconst (v := 2) hx hb d_LW_embargo_19 (by decide) ?_
  exact W.iret (v := 2) hx hb hr (fun t ht hW => ⟨⟨2, (), rfl, rfl, trivial⟩, hS.F ht⟩) hS.2.2 d_LW_embargo_20

set_option maxHeartbeats 4000000 in
set_option maxRecDepth 100000 in
theorem c_LW_agreementB1 (l : Launch) (hst : l.stackTraces = false) (dC : Nat → ClassId) (dI : Nat → Nat → Nat) (N0 : Nat) (h hPA hRD hRB hPE hHO hAG hLO hRQ hEX aFR : Nat) (aRo aLi : Nat) (en : Nat) (aFa aEm aVa : Nat) (hn : Nat) (x0 : Int32) (hbad : x0 < 0 ∨ nI en ≤ x0) (r f t1 : Int32) (aO : Nat) : Met l y_LW_agreement ws_LW_agreement ({ frames := 8, cells := 1, slots := 6, locals := 135 }) (va_Pc [.ref h, .int x0, .int r, .int f, .int t1, .ref aO] (fun U => va_P (dC, dI) vwCl [(h, .inr (9, [.ref hPA, .ref hRD, .ref hRB, .ref hPE, .ref hHO, .ref hAG, .ref hLO, .ref hRQ, .ref hEX, .ref aFR])), (hPE, .inr (5, [.ref aRo, .ref aLi, .int (nI en)])), (hHO, .inr (2, [.ref aFa, .ref aEm, .ref aVa, .int (nI hn)]))] U.heap ∧ va_K (dC, dI) vwCl [] U ∧ xkE N0 U ∧ N0 ≤ U.heap.size ∧ xkNos U)) (va_Qi (fun (res : Int32) (_ : Unit) => res = 1) (fun _ _ => True) (fun _ => False)) 1 6 (fun _ => False) := by
  refine xk_MetW (cc := k_LW_agreement) (maxL := 7) (ret := (some .int)) (by decide) rfl ?_
  intro p e s m args below meth c s₁ B hml htb hv
  obtain ⟨rfl, hP, hK, hE, hN, hNo⟩ := hv
  have hx := B.exec
  have hb := B.bytes
  have hr := B.returns
  have hts := atoms_spec (ws := ws_LW_agreement) B.pre
  have hown : s.vm.findClass R_LW = some m.cls := findClass_of_methodNamed B.named
  have hlocks := B.notSynchronized
  have hS : va_S (fun _ => False) s.heap s.heap [] := va_S.rf
  have hP : va_P (dC, dI) vwCl [(h, .inr (9, [.ref hPA, .ref hRD, .ref hRB, .ref hPE, .ref hHO, .ref hAG, .ref hLO, .ref hRQ, .ref hEX, .ref aFR])), (hPE, .inr (5, [.ref aRo, .ref aLi, .int (nI en)])), (hHO, .inr (2, [.ref aFa, .ref aEm, .ref aVa, .int (nI hn)]))] s.heap := hP
  have hl := lv_entry ([.ref h, .int x0, .int r, .int f, .int t1, .ref aO]) (n := 7) (Nat.le_of_ble_eq_true rfl)
  rw [lg_entry_eq]
  generalize (lg_sl ([.ref h, .int x0, .int r, .int f, .int t1, .ref aO]) ++ List.replicate (7 - (lg_sl ([.ref h, .int x0, .int r, .int f, .int t1, .ref aO])).length) Slot.unset).toArray = ls at hl ⊢
  have hl : lv_has ls 7 [(0, .ref h), (1, .int x0), (2, .int r), (3, .int f), (4, .int t1), (5, .ref aO)] := hl
  refine lv_aload hx hb d_LW_agreement_0 (lv_at hl 5 rfl) ?_
  refine lv_iconst (v := 0) hx hb d_LW_agreement_2 (by decide) ?_
  refine lv_aload_n hx hb d_LW_agreement_3 rfl (lv_at hl 0 rfl) ?_
  refine lv_iload_n hx hb d_LW_agreement_4 rfl (lv_at hl 1 rfl) ?_
  refine lv_iload_n hx hb d_LW_agreement_5 rfl (lv_at hl 2 rfl) ?_
  refine lv_iload_n hx hb d_LW_agreement_6 rfl (lv_at hl 3 rfl) ?_
  refine lv_iload hx hb d_LW_agreement_7 (lv_at hl 4 rfl) ?_
  have hPc := hP.sub (ws' := [(h, .inr (9, [.ref hPA, .ref hRD, .ref hRB, .ref hPE, .ref hHO, .ref hAG, .ref hLO, .ref hRQ, .ref hEX, .ref aFR])), (hPE, .inr (5, [.ref aRo, .ref aLi, .int (nI en)])), (hHO, .inr (2, [.ref aFa, .ref aEm, .ref aVa, .int (nI hn)]))]) [0, 1, 2] rfl
  have hKc := hK.sub (tys' := []) [] rfl
  refine xk_callV (As := [.int x0, .int r, .int f, .int t1]) (rest := [.int 0, .ref aO]) ⟨hx, hb, hml, hown, hts⟩ (t_RR_agreement1 l hst dC dI N0 h hPA hRD hRB hPE hHO hAG hLO hRQ hEX aFR aRo aLi en aFa aEm aVa hn x0 (hbad) r f t1) (cwV 4 hts (vz_gV wb_LW_agreement b_488 b_489 b_490 b_1 wc_RR_agreement) rfl rfl rfl (by decide +kernel) ⟨Nat.le_of_ble_eq_true rfl, Nat.le_of_ble_eq_true rfl⟩) (vz_preVt hPc hKc hE hN hS (ci := 9) (q0 := 0) rfl rfl) rfl rfl hl.1 (Nat.le_of_ble_eq_true rfl) d_LW_agreement_9 ⟨Nat.le_of_ble_eq_true rfl, Nat.le_of_ble_eq_true rfl⟩ (fun q9 H9 hnew => ?_)
  obtain ⟨z1, z2, z3, hL9, hz1, hz2, hz3⟩ := xk_tab3 htb
  refine xk_catchN (hp := 17) (k := 23) hown [] z1 [z2, z3] hL9 (fun z hz => nomatch hz) (xkRow.of hz1 (by decide) (by decide)) (by decide) (hts _ (wb_LW_agreement _ b_381)) (va_Nw.use rfl (hE.1 _ (by simp [xkBad]))) hnew ?_
  have hS : va_S (fun _ => False) s.heap H9 [] := ⟨hnew.1, fun q hq _ => hnew.2.1 q hq, fun _ h => nomatch h⟩
  refine lv_astore (lv' := [(6, .ref q9), (0, .ref h), (1, .int x0), (2, .int r), (3, .int f), (4, .int t1), (5, .ref aO)]) hx hb d_LW_agreement_17 hl (by decide) rfl (fun ls hl => ?_)
  refine lv_iconst (v := 1) hx hb d_LW_agreement_19 (by decide) ?_
  exact W.iret (v := 1) hx hb hr (fun t ht hW => ⟨⟨1, (), rfl, rfl, trivial⟩, hS.F ht⟩) hS.2.2 d_LW_agreement_20

set_option maxHeartbeats 4000000 in
set_option maxRecDepth 100000 in
theorem c_LW_agreementB2 (l : Launch) (hst : l.stackTraces = false) (dC : Nat → ClassId) (dI : Nat → Nat → Nat) (N0 : Nat) (h hPA hRD hRB hPE hHO hAG hLO hRQ hEX aFR : Nat) (aRo aLi : Nat) (en : Nat) (aFa aEm aVa : Nat) (hn : Nat) (hen : en ≤ 12) (u : Nat) (hu : u < en) (x0 : Int32) (hbad : x0 < 0 ∨ nI hn ≤ x0) (f t1 : Int32) (aO : Nat) : Met l y_LW_agreement ws_LW_agreement ({ frames := 8, cells := 1, slots := 6, locals := 135 }) (va_Pc [.ref h, .int (nI u), .int x0, .int f, .int t1, .ref aO] (fun U => va_P (dC, dI) vwCl [(h, .inr (9, [.ref hPA, .ref hRD, .ref hRB, .ref hPE, .ref hHO, .ref hAG, .ref hLO, .ref hRQ, .ref hEX, .ref aFR])), (hPE, .inr (5, [.ref aRo, .ref aLi, .int (nI en)])), (hHO, .inr (2, [.ref aFa, .ref aEm, .ref aVa, .int (nI hn)]))] U.heap ∧ va_K (dC, dI) vwCl [] U ∧ xkE N0 U ∧ N0 ≤ U.heap.size ∧ xkNos U)) (va_Qi (fun (res : Int32) (_ : Unit) => res = 1) (fun _ _ => True) (fun _ => False)) 1 6 (fun _ => False) := by
  refine xk_MetW (cc := k_LW_agreement) (maxL := 7) (ret := (some .int)) (by decide) rfl ?_
  intro p e s m args below meth c s₁ B hml htb hv
  obtain ⟨rfl, hP, hK, hE, hN, hNo⟩ := hv
  have hx := B.exec
  have hb := B.bytes
  have hr := B.returns
  have hts := atoms_spec (ws := ws_LW_agreement) B.pre
  have hown : s.vm.findClass R_LW = some m.cls := findClass_of_methodNamed B.named
  have hlocks := B.notSynchronized
  have hS : va_S (fun _ => False) s.heap s.heap [] := va_S.rf
  have hP : va_P (dC, dI) vwCl [(h, .inr (9, [.ref hPA, .ref hRD, .ref hRB, .ref hPE, .ref hHO, .ref hAG, .ref hLO, .ref hRQ, .ref hEX, .ref aFR])), (hPE, .inr (5, [.ref aRo, .ref aLi, .int (nI en)])), (hHO, .inr (2, [.ref aFa, .ref aEm, .ref aVa, .int (nI hn)]))] s.heap := hP
  have hl := lv_entry ([.ref h, .int (nI u), .int x0, .int f, .int t1, .ref aO]) (n := 7) (Nat.le_of_ble_eq_true rfl)
  rw [lg_entry_eq]
  generalize (lg_sl ([.ref h, .int (nI u), .int x0, .int f, .int t1, .ref aO]) ++ List.replicate (7 - (lg_sl ([.ref h, .int (nI u), .int x0, .int f, .int t1, .ref aO])).length) Slot.unset).toArray = ls at hl ⊢
  have hl : lv_has ls 7 [(0, .ref h), (1, .int (nI u)), (2, .int x0), (3, .int f), (4, .int t1), (5, .ref aO)] := hl
  refine lv_aload hx hb d_LW_agreement_0 (lv_at hl 5 rfl) ?_
  refine lv_iconst (v := 0) hx hb d_LW_agreement_2 (by decide) ?_
  refine lv_aload_n hx hb d_LW_agreement_3 rfl (lv_at hl 0 rfl) ?_
  refine lv_iload_n hx hb d_LW_agreement_4 rfl (lv_at hl 1 rfl) ?_
  refine lv_iload_n hx hb d_LW_agreement_5 rfl (lv_at hl 2 rfl) ?_
  refine lv_iload_n hx hb d_LW_agreement_6 rfl (lv_at hl 3 rfl) ?_
  refine lv_iload hx hb d_LW_agreement_7 (lv_at hl 4 rfl) ?_
  have hPc := hP.sub (ws' := [(h, .inr (9, [.ref hPA, .ref hRD, .ref hRB, .ref hPE, .ref hHO, .ref hAG, .ref hLO, .ref hRQ, .ref hEX, .ref aFR])), (hPE, .inr (5, [.ref aRo, .ref aLi, .int (nI en)])), (hHO, .inr (2, [.ref aFa, .ref aEm, .ref aVa, .int (nI hn)]))]) [0, 1, 2] rfl
  have hKc := hK.sub (tys' := []) [] rfl
  refine xk_callV (As := [.int (nI u), .int x0, .int f, .int t1]) (rest := [.int 0, .ref aO]) ⟨hx, hb, hml, hown, hts⟩ (t_RR_agreement2 l hst dC dI N0 h hPA hRD hRB hPE hHO hAG hLO hRQ hEX aFR aRo aLi en aFa aEm aVa hn (hen) u (hu) x0 (hbad) f t1) (cwV 4 hts (vz_gV wb_LW_agreement b_488 b_489 b_490 b_1 wc_RR_agreement) rfl rfl rfl (by decide +kernel) ⟨Nat.le_of_ble_eq_true rfl, Nat.le_of_ble_eq_true rfl⟩) (vz_preVt hPc hKc hE hN hS (ci := 9) (q0 := 0) rfl rfl) rfl rfl hl.1 (Nat.le_of_ble_eq_true rfl) d_LW_agreement_9 ⟨Nat.le_of_ble_eq_true rfl, Nat.le_of_ble_eq_true rfl⟩ (fun q9 H9 hnew => ?_)
  obtain ⟨z1, z2, z3, hL9, hz1, hz2, hz3⟩ := xk_tab3 htb
  refine xk_catchN (hp := 17) (k := 23) hown [] z1 [z2, z3] hL9 (fun z hz => nomatch hz) (xkRow.of hz1 (by decide) (by decide)) (by decide) (hts _ (wb_LW_agreement _ b_381)) (va_Nw.use rfl (hE.1 _ (by simp [xkBad]))) hnew ?_
  have hS : va_S (fun _ => False) s.heap H9 [] := ⟨hnew.1, fun q hq _ => hnew.2.1 q hq, fun _ h => nomatch h⟩
  refine lv_astore (lv' := [(6, .ref q9), (0, .ref h), (1, .int (nI u)), (2, .int x0), (3, .int f), (4, .int t1), (5, .ref aO)]) hx hb d_LW_agreement_17 hl (by decide) rfl (fun ls hl => ?_)
  refine lv_iconst (v := 1) hx hb d_LW_agreement_19 (by decide) ?_
  exact W.iret (v := 1) hx hb hr (fun t ht hW => ⟨⟨1, (), rfl, rfl, trivial⟩, hS.F ht⟩) hS.2.2 d_LW_agreement_20

set_option maxHeartbeats 4000000 in
set_option maxRecDepth 100000 in
theorem c_LW_agreementB3 (l : Launch) (hst : l.stackTraces = false) (dC : Nat → ClassId) (dI : Nat → Nat → Nat) (N0 : Nat) (h hPA hRD hRB hPE hHO hAG hLO hRQ hEX aFR : Nat) (aRo aLi : Nat) (en : Nat) (aFa aEm aVa : Nat) (hn : Nat) (hen : en ≤ 12) (u : Nat) (hu : u < en) (hhn : hn ≤ 16) (r : Nat) (hr0 : r < hn) (x0 : Int32) (hbad : x0 < 0 ∨ 100000 < x0) (t1 : Int32) (aO : Nat) : Met l y_LW_agreement ws_LW_agreement ({ frames := 8, cells := 1, slots := 6, locals := 134 }) (va_Pc [.ref h, .int (nI u), .int (nI r), .int x0, .int t1, .ref aO] (fun U => va_P (dC, dI) vwCl [(h, .inr (9, [.ref hPA, .ref hRD, .ref hRB, .ref hPE, .ref hHO, .ref hAG, .ref hLO, .ref hRQ, .ref hEX, .ref aFR])), (hPE, .inr (5, [.ref aRo, .ref aLi, .int (nI en)])), (hHO, .inr (2, [.ref aFa, .ref aEm, .ref aVa, .int (nI hn)]))] U.heap ∧ va_K (dC, dI) vwCl [] U ∧ xkE N0 U ∧ N0 ≤ U.heap.size ∧ xkNos U)) (va_Qi (fun (res : Int32) (_ : Unit) => res = 2) (fun _ _ => True) (fun _ => False)) 1 6 (fun _ => False) := by
  refine xk_MetW (cc := k_LW_agreement) (maxL := 7) (ret := (some .int)) (by decide) rfl ?_
  intro p e s m args below meth c s₁ B hml htb hv
  obtain ⟨rfl, hP, hK, hE, hN, hNo⟩ := hv
  have hx := B.exec
  have hb := B.bytes
  have hr := B.returns
  have hts := atoms_spec (ws := ws_LW_agreement) B.pre
  have hown : s.vm.findClass R_LW = some m.cls := findClass_of_methodNamed B.named
  have hlocks := B.notSynchronized
  have hS : va_S (fun _ => False) s.heap s.heap [] := va_S.rf
  have hP : va_P (dC, dI) vwCl [(h, .inr (9, [.ref hPA, .ref hRD, .ref hRB, .ref hPE, .ref hHO, .ref hAG, .ref hLO, .ref hRQ, .ref hEX, .ref aFR])), (hPE, .inr (5, [.ref aRo, .ref aLi, .int (nI en)])), (hHO, .inr (2, [.ref aFa, .ref aEm, .ref aVa, .int (nI hn)]))] s.heap := hP
  have hl := lv_entry ([.ref h, .int (nI u), .int (nI r), .int x0, .int t1, .ref aO]) (n := 7) (Nat.le_of_ble_eq_true rfl)
  rw [lg_entry_eq]
  generalize (lg_sl ([.ref h, .int (nI u), .int (nI r), .int x0, .int t1, .ref aO]) ++ List.replicate (7 - (lg_sl ([.ref h, .int (nI u), .int (nI r), .int x0, .int t1, .ref aO])).length) Slot.unset).toArray = ls at hl ⊢
  have hl : lv_has ls 7 [(0, .ref h), (1, .int (nI u)), (2, .int (nI r)), (3, .int x0), (4, .int t1), (5, .ref aO)] := hl
  refine lv_aload hx hb d_LW_agreement_0 (lv_at hl 5 rfl) ?_
  refine lv_iconst (v := 0) hx hb d_LW_agreement_2 (by decide) ?_
  refine lv_aload_n hx hb d_LW_agreement_3 rfl (lv_at hl 0 rfl) ?_
  refine lv_iload_n hx hb d_LW_agreement_4 rfl (lv_at hl 1 rfl) ?_
  refine lv_iload_n hx hb d_LW_agreement_5 rfl (lv_at hl 2 rfl) ?_
  refine lv_iload_n hx hb d_LW_agreement_6 rfl (lv_at hl 3 rfl) ?_
  refine lv_iload hx hb d_LW_agreement_7 (lv_at hl 4 rfl) ?_
  have hPc := hP.sub (ws' := [(h, .inr (9, [.ref hPA, .ref hRD, .ref hRB, .ref hPE, .ref hHO, .ref hAG, .ref hLO, .ref hRQ, .ref hEX, .ref aFR])), (hPE, .inr (5, [.ref aRo, .ref aLi, .int (nI en)])), (hHO, .inr (2, [.ref aFa, .ref aEm, .ref aVa, .int (nI hn)]))]) [0, 1, 2] rfl
  have hKc := hK.sub (tys' := []) [] rfl
  refine xk_callV (As := [.int (nI u), .int (nI r), .int x0, .int t1]) (rest := [.int 0, .ref aO]) ⟨hx, hb, hml, hown, hts⟩ (t_RR_agreement3 l hst dC dI N0 h hPA hRD hRB hPE hHO hAG hLO hRQ hEX aFR aRo aLi en aFa aEm aVa hn (hen) u (hu) (hhn) r (hr0) x0 (hbad) t1) (cwV 4 hts (vz_gV wb_LW_agreement b_488 b_489 b_490 b_1 wc_RR_agreement) rfl rfl rfl (by decide +kernel) ⟨Nat.le_of_ble_eq_true rfl, Nat.le_of_ble_eq_true rfl⟩) (vz_preVt hPc hKc hE hN hS (ci := 9) (q0 := 0) rfl rfl) rfl rfl hl.1 (Nat.le_of_ble_eq_true rfl) d_LW_agreement_9 ⟨Nat.le_of_ble_eq_true rfl, Nat.le_of_ble_eq_true rfl⟩ (fun q9 H9 hnew => ?_)
  obtain ⟨z1, z2, z3, hL9, hz1, hz2, hz3⟩ := xk_tab3 htb
  refine xk_catchN (hp := 21) (k := 29) hown [z1] z2 [z3] hL9 (fun z hz => by
    simp only [List.mem_cons, List.not_mem_nil, or_false] at hz
    subst hz
    exact ⟨_, _, "java/util/NoSuchElementException", xkRow.of hz1 (by decide) (by decide), by decide, (hts _ (wb_LW_agreement _ b_381)), hNo.2.1⟩) (xkRow.of hz2 (by decide) (by decide)) (by decide) (hts _ (wb_LW_agreement _ b_409)) (va_Nw.use rfl (hE.1 _ (by simp [xkBad]))) hnew ?_
  have hS : va_S (fun _ => False) s.heap H9 [] := ⟨hnew.1, fun q hq _ => hnew.2.1 q hq, fun _ h => nomatch h⟩
  refine lv_astore (lv' := [(6, .ref q9), (0, .ref h), (1, .int (nI u)), (2, .int (nI r)), (3, .int x0), (4, .int t1), (5, .ref aO)]) hx hb d_LW_agreement_21 hl (by decide) rfl (fun ls hl => ?_)
  refine lv_iconst (v := 2) hx hb d_LW_agreement_23 (by decide) ?_
  exact W.iret (v := 2) hx hb hr (fun t ht hW => ⟨⟨2, (), rfl, rfl, trivial⟩, hS.F ht⟩) hS.2.2 d_LW_agreement_24

set_option maxHeartbeats 4000000 in
set_option maxRecDepth 100000 in
theorem c_LW_agreementB4 (l : Launch) (hst : l.stackTraces = false) (dC : Nat → ClassId) (dI : Nat → Nat → Nat) (N0 : Nat) (h hPA hRD hRB hPE hHO hAG hLO hRQ hEX aFR : Nat) (aRo aLi : Nat) (en : Nat) (aFa aEm aVa : Nat) (hn : Nat) (hen : en ≤ 12) (u : Nat) (hu : u < en) (hhn : hn ≤ 16) (r : Nat) (hr0 : r < hn) (f : Int32) (hf0 : ¬ f < 0) (hf1 : f ≤ 100000) (x0 : Int32) (hbad : x0 < 0 ∨ 100000 < x0) (aO : Nat) : Met l y_LW_agreement ws_LW_agreement ({ frames := 8, cells := 1, slots := 6, locals := 134 }) (va_Pc [.ref h, .int (nI u), .int (nI r), .int f, .int x0, .ref aO] (fun U => va_P (dC, dI) vwCl [(h, .inr (9, [.ref hPA, .ref hRD, .ref hRB, .ref hPE, .ref hHO, .ref hAG, .ref hLO, .ref hRQ, .ref hEX, .ref aFR])), (hPE, .inr (5, [.ref aRo, .ref aLi, .int (nI en)])), (hHO, .inr (2, [.ref aFa, .ref aEm, .ref aVa, .int (nI hn)]))] U.heap ∧ va_K (dC, dI) vwCl [] U ∧ xkE N0 U ∧ N0 ≤ U.heap.size ∧ xkNos U)) (va_Qi (fun (res : Int32) (_ : Unit) => res = 2) (fun _ _ => True) (fun _ => False)) 1 6 (fun _ => False) := by
  refine xk_MetW (cc := k_LW_agreement) (maxL := 7) (ret := (some .int)) (by decide) rfl ?_
  intro p e s m args below meth c s₁ B hml htb hv
  obtain ⟨rfl, hP, hK, hE, hN, hNo⟩ := hv
  have hx := B.exec
  have hb := B.bytes
  have hr := B.returns
  have hts := atoms_spec (ws := ws_LW_agreement) B.pre
  have hown : s.vm.findClass R_LW = some m.cls := findClass_of_methodNamed B.named
  have hlocks := B.notSynchronized
  have hS : va_S (fun _ => False) s.heap s.heap [] := va_S.rf
  have hP : va_P (dC, dI) vwCl [(h, .inr (9, [.ref hPA, .ref hRD, .ref hRB, .ref hPE, .ref hHO, .ref hAG, .ref hLO, .ref hRQ, .ref hEX, .ref aFR])), (hPE, .inr (5, [.ref aRo, .ref aLi, .int (nI en)])), (hHO, .inr (2, [.ref aFa, .ref aEm, .ref aVa, .int (nI hn)]))] s.heap := hP
  have hl := lv_entry ([.ref h, .int (nI u), .int (nI r), .int f, .int x0, .ref aO]) (n := 7) (Nat.le_of_ble_eq_true rfl)
  rw [lg_entry_eq]
  generalize (lg_sl ([.ref h, .int (nI u), .int (nI r), .int f, .int x0, .ref aO]) ++ List.replicate (7 - (lg_sl ([.ref h, .int (nI u), .int (nI r), .int f, .int x0, .ref aO])).length) Slot.unset).toArray = ls at hl ⊢
  have hl : lv_has ls 7 [(0, .ref h), (1, .int (nI u)), (2, .int (nI r)), (3, .int f), (4, .int x0), (5, .ref aO)] := hl
  refine lv_aload hx hb d_LW_agreement_0 (lv_at hl 5 rfl) ?_
  refine lv_iconst (v := 0) hx hb d_LW_agreement_2 (by decide) ?_
  refine lv_aload_n hx hb d_LW_agreement_3 rfl (lv_at hl 0 rfl) ?_
  refine lv_iload_n hx hb d_LW_agreement_4 rfl (lv_at hl 1 rfl) ?_
  refine lv_iload_n hx hb d_LW_agreement_5 rfl (lv_at hl 2 rfl) ?_
  refine lv_iload_n hx hb d_LW_agreement_6 rfl (lv_at hl 3 rfl) ?_
  refine lv_iload hx hb d_LW_agreement_7 (lv_at hl 4 rfl) ?_
  have hPc := hP.sub (ws' := [(h, .inr (9, [.ref hPA, .ref hRD, .ref hRB, .ref hPE, .ref hHO, .ref hAG, .ref hLO, .ref hRQ, .ref hEX, .ref aFR])), (hPE, .inr (5, [.ref aRo, .ref aLi, .int (nI en)])), (hHO, .inr (2, [.ref aFa, .ref aEm, .ref aVa, .int (nI hn)]))]) [0, 1, 2] rfl
  have hKc := hK.sub (tys' := []) [] rfl
  refine xk_callV (As := [.int (nI u), .int (nI r), .int f, .int x0]) (rest := [.int 0, .ref aO]) ⟨hx, hb, hml, hown, hts⟩ (t_RR_agreement4 l hst dC dI N0 h hPA hRD hRB hPE hHO hAG hLO hRQ hEX aFR aRo aLi en aFa aEm aVa hn (hen) u (hu) (hhn) r (hr0) f (hf0) (hf1) x0 (hbad)) (cwV 4 hts (vz_gV wb_LW_agreement b_488 b_489 b_490 b_1 wc_RR_agreement) rfl rfl rfl (by decide +kernel) ⟨Nat.le_of_ble_eq_true rfl, Nat.le_of_ble_eq_true rfl⟩) (vz_preVt hPc hKc hE hN hS (ci := 9) (q0 := 0) rfl rfl) rfl rfl hl.1 (Nat.le_of_ble_eq_true rfl) d_LW_agreement_9 ⟨Nat.le_of_ble_eq_true rfl, Nat.le_of_ble_eq_true rfl⟩ (fun q9 H9 hnew => ?_)
  obtain ⟨z1, z2, z3, hL9, hz1, hz2, hz3⟩ := xk_tab3 htb
  refine xk_catchN (hp := 21) (k := 29) hown [z1] z2 [z3] hL9 (fun z hz => by
    simp only [List.mem_cons, List.not_mem_nil, or_false] at hz
    subst hz
    exact ⟨_, _, "java/util/NoSuchElementException", xkRow.of hz1 (by decide) (by decide), by decide, (hts _ (wb_LW_agreement _ b_381)), hNo.2.1⟩) (xkRow.of hz2 (by decide) (by decide)) (by decide) (hts _ (wb_LW_agreement _ b_409)) (va_Nw.use rfl (hE.1 _ (by simp [xkBad]))) hnew ?_
  have hS : va_S (fun _ => False) s.heap H9 [] := ⟨hnew.1, fun q hq _ => hnew.2.1 q hq, fun _ h => nomatch h⟩
  refine lv_astore (lv' := [(6, .ref q9), (0, .ref h), (1, .int (nI u)), (2, .int (nI r)), (3, .int f), (4, .int x0), (5, .ref aO)]) hx hb d_LW_agreement_21 hl (by decide) rfl (fun ls hl => ?_)
  refine lv_iconst (v := 2) hx hb d_LW_agreement_23 (by decide) ?_
  exact W.iret (v := 2) hx hb hr (fun t ht hW => ⟨⟨2, (), rfl, rfl, trivial⟩, hS.F ht⟩) hS.2.2 d_LW_agreement_24

set_option maxHeartbeats 4000000 in
set_option maxRecDepth 100000 in
theorem c_LW_agreementB5 (l : Launch) (hst : l.stackTraces = false) (dC : Nat → ClassId) (dI : Nat → Nat → Nat) (N0 : Nat) (h hPA hRD hRB hPE hHO hAG hLO hRQ hEX aFR : Nat) (aRo aLi : Nat) (en : Nat) (aFa aEm aVa : Nat) (hn : Nat) (hen : en ≤ 12) (u : Nat) (hu : u < en) (hhn : hn ≤ 16) (r : Nat) (hr0 : r < hn) (f : Int32) (hf0 : ¬ f < 0) (hf1 : f ≤ 100000) (t1 : Int32) (ht0 : ¬ t1 < 0) (ht1 : t1 ≤ 100000) (hbad : ¬ f ≤ t1) (aO : Nat) : Met l y_LW_agreement ws_LW_agreement ({ frames := 7, cells := 1, slots := 6, locals := 114 }) (va_Pc [.ref h, .int (nI u), .int (nI r), .int f, .int t1, .ref aO] (fun U => va_P (dC, dI) vwCl [(h, .inr (9, [.ref hPA, .ref hRD, .ref hRB, .ref hPE, .ref hHO, .ref hAG, .ref hLO, .ref hRQ, .ref hEX, .ref aFR])), (hPE, .inr (5, [.ref aRo, .ref aLi, .int (nI en)])), (hHO, .inr (2, [.ref aFa, .ref aEm, .ref aVa, .int (nI hn)]))] U.heap ∧ va_K (dC, dI) vwCl [] U ∧ xkE N0 U ∧ N0 ≤ U.heap.size ∧ xkNos U)) (va_Qi (fun (res : Int32) (_ : Unit) => res = 2) (fun _ _ => True) (fun _ => False)) 1 6 (fun _ => False) := by
  refine xk_MetW (cc := k_LW_agreement) (maxL := 7) (ret := (some .int)) (by decide) rfl ?_
  intro p e s m args below meth c s₁ B hml htb hv
  obtain ⟨rfl, hP, hK, hE, hN, hNo⟩ := hv
  have hx := B.exec
  have hb := B.bytes
  have hr := B.returns
  have hts := atoms_spec (ws := ws_LW_agreement) B.pre
  have hown : s.vm.findClass R_LW = some m.cls := findClass_of_methodNamed B.named
  have hlocks := B.notSynchronized
  have hS : va_S (fun _ => False) s.heap s.heap [] := va_S.rf
  have hP : va_P (dC, dI) vwCl [(h, .inr (9, [.ref hPA, .ref hRD, .ref hRB, .ref hPE, .ref hHO, .ref hAG, .ref hLO, .ref hRQ, .ref hEX, .ref aFR])), (hPE, .inr (5, [.ref aRo, .ref aLi, .int (nI en)])), (hHO, .inr (2, [.ref aFa, .ref aEm, .ref aVa, .int (nI hn)]))] s.heap := hP
  have hl := lv_entry ([.ref h, .int (nI u), .int (nI r), .int f, .int t1, .ref aO]) (n := 7) (Nat.le_of_ble_eq_true rfl)
  rw [lg_entry_eq]
  generalize (lg_sl ([.ref h, .int (nI u), .int (nI r), .int f, .int t1, .ref aO]) ++ List.replicate (7 - (lg_sl ([.ref h, .int (nI u), .int (nI r), .int f, .int t1, .ref aO])).length) Slot.unset).toArray = ls at hl ⊢
  have hl : lv_has ls 7 [(0, .ref h), (1, .int (nI u)), (2, .int (nI r)), (3, .int f), (4, .int t1), (5, .ref aO)] := hl
  refine lv_aload hx hb d_LW_agreement_0 (lv_at hl 5 rfl) ?_
  refine lv_iconst (v := 0) hx hb d_LW_agreement_2 (by decide) ?_
  refine lv_aload_n hx hb d_LW_agreement_3 rfl (lv_at hl 0 rfl) ?_
  refine lv_iload_n hx hb d_LW_agreement_4 rfl (lv_at hl 1 rfl) ?_
  refine lv_iload_n hx hb d_LW_agreement_5 rfl (lv_at hl 2 rfl) ?_
  refine lv_iload_n hx hb d_LW_agreement_6 rfl (lv_at hl 3 rfl) ?_
  refine lv_iload hx hb d_LW_agreement_7 (lv_at hl 4 rfl) ?_
  have hPc := hP.sub (ws' := [(h, .inr (9, [.ref hPA, .ref hRD, .ref hRB, .ref hPE, .ref hHO, .ref hAG, .ref hLO, .ref hRQ, .ref hEX, .ref aFR])), (hPE, .inr (5, [.ref aRo, .ref aLi, .int (nI en)])), (hHO, .inr (2, [.ref aFa, .ref aEm, .ref aVa, .int (nI hn)]))]) [0, 1, 2] rfl
  have hKc := hK.sub (tys' := []) [] rfl
  refine xk_callV (As := [.int (nI u), .int (nI r), .int f, .int t1]) (rest := [.int 0, .ref aO]) ⟨hx, hb, hml, hown, hts⟩ (t_RR_agreement5 l hst dC dI N0 h hPA hRD hRB hPE hHO hAG hLO hRQ hEX aFR aRo aLi en aFa aEm aVa hn (hen) u (hu) (hhn) r (hr0) f (hf0) (hf1) t1 (ht0) (ht1) (hbad)) (cwV 4 hts (vz_gV wb_LW_agreement b_488 b_489 b_490 b_1 wc_RR_agreement) rfl rfl rfl (by decide +kernel) ⟨Nat.le_of_ble_eq_true rfl, Nat.le_of_ble_eq_true rfl⟩) (vz_preVt hPc hKc hE hN hS (ci := 9) (q0 := 0) rfl rfl) rfl rfl hl.1 (Nat.le_of_ble_eq_true rfl) d_LW_agreement_9 ⟨Nat.le_of_ble_eq_true rfl, Nat.le_of_ble_eq_true rfl⟩ (fun q9 H9 hnew => ?_)
  obtain ⟨z1, z2, z3, hL9, hz1, hz2, hz3⟩ := xk_tab3 htb
  refine xk_catchN (hp := 21) (k := 29) hown [z1] z2 [z3] hL9 (fun z hz => by
    simp only [List.mem_cons, List.not_mem_nil, or_false] at hz
    subst hz
    exact ⟨_, _, "java/util/NoSuchElementException", xkRow.of hz1 (by decide) (by decide), by decide, (hts _ (wb_LW_agreement _ b_381)), hNo.2.1⟩) (xkRow.of hz2 (by decide) (by decide)) (by decide) (hts _ (wb_LW_agreement _ b_409)) (va_Nw.use rfl (hE.1 _ (by simp [xkBad]))) hnew ?_
  have hS : va_S (fun _ => False) s.heap H9 [] := ⟨hnew.1, fun q hq _ => hnew.2.1 q hq, fun _ h => nomatch h⟩
  refine lv_astore (lv' := [(6, .ref q9), (0, .ref h), (1, .int (nI u)), (2, .int (nI r)), (3, .int f), (4, .int t1), (5, .ref aO)]) hx hb d_LW_agreement_21 hl (by decide) rfl (fun ls hl => ?_)
  refine lv_iconst (v := 2) hx hb d_LW_agreement_23 (by decide) ?_
  exact W.iret (v := 2) hx hb hr (fun t ht hW => ⟨⟨2, (), rfl, rfl, trivial⟩, hS.F ht⟩) hS.2.2 d_LW_agreement_24

set_option maxHeartbeats 4000000 in
set_option maxRecDepth 100000 in
theorem c_LW_agreementB6 (l : Launch) (hst : l.stackTraces = false) (dC : Nat → ClassId) (dI : Nat → Nat → Nat) (N0 : Nat) (h hPA hRD hRB hPE hHO hAG hLO hRQ hEX aFR : Nat) (aRo aLi : Nat) (en : Nat) (aFa aEm aVa : Nat) (hn : Nat) (aAP aAR aAF aAT : Nat) (an : Nat) (hen : en ≤ 12) (u : Nat) (hu : u < en) (hhn : hn ≤ 16) (r : Nat) (hr0 : r < hn) (f : Int32) (hf0 : ¬ f < 0) (hf1 : f ≤ 100000) (t1 : Int32) (ht0 : ¬ t1 < 0) (ht1 : t1 ≤ 100000) (hft : f ≤ t1) (han : an ≤ 40) (hbad : 40 ≤ an) (aO : Nat) : Met l y_LW_agreement ws_LW_agreement ({ frames := 7, cells := 1, slots := 6, locals := 114 }) (va_Pc [.ref h, .int (nI u), .int (nI r), .int f, .int t1, .ref aO] (fun U => va_P (dC, dI) vwCl [(h, .inr (9, [.ref hPA, .ref hRD, .ref hRB, .ref hPE, .ref hHO, .ref hAG, .ref hLO, .ref hRQ, .ref hEX, .ref aFR])), (hPE, .inr (5, [.ref aRo, .ref aLi, .int (nI en)])), (hHO, .inr (2, [.ref aFa, .ref aEm, .ref aVa, .int (nI hn)])), (hAG, .inr (0, [.ref aAP, .ref aAR, .ref aAF, .ref aAT, .int (nI an)]))] U.heap ∧ va_K (dC, dI) vwCl [] U ∧ xkE N0 U ∧ N0 ≤ U.heap.size ∧ xkNos U)) (va_Qi (fun (res : Int32) (_ : Unit) => res = 3) (fun _ _ => True) (fun _ => False)) 1 6 (fun _ => False) := by
  refine xk_MetW (cc := k_LW_agreement) (maxL := 7) (ret := (some .int)) (by decide) rfl ?_
  intro p e s m args below meth c s₁ B hml htb hv
  obtain ⟨rfl, hP, hK, hE, hN, hNo⟩ := hv
  have hx := B.exec
  have hb := B.bytes
  have hr := B.returns
  have hts := atoms_spec (ws := ws_LW_agreement) B.pre
  have hown : s.vm.findClass R_LW = some m.cls := findClass_of_methodNamed B.named
  have hlocks := B.notSynchronized
  have hS : va_S (fun _ => False) s.heap s.heap [] := va_S.rf
  have hP : va_P (dC, dI) vwCl [(h, .inr (9, [.ref hPA, .ref hRD, .ref hRB, .ref hPE, .ref hHO, .ref hAG, .ref hLO, .ref hRQ, .ref hEX, .ref aFR])), (hPE, .inr (5, [.ref aRo, .ref aLi, .int (nI en)])), (hHO, .inr (2, [.ref aFa, .ref aEm, .ref aVa, .int (nI hn)])), (hAG, .inr (0, [.ref aAP, .ref aAR, .ref aAF, .ref aAT, .int (nI an)]))] s.heap := hP
  have hl := lv_entry ([.ref h, .int (nI u), .int (nI r), .int f, .int t1, .ref aO]) (n := 7) (Nat.le_of_ble_eq_true rfl)
  rw [lg_entry_eq]
  generalize (lg_sl ([.ref h, .int (nI u), .int (nI r), .int f, .int t1, .ref aO]) ++ List.replicate (7 - (lg_sl ([.ref h, .int (nI u), .int (nI r), .int f, .int t1, .ref aO])).length) Slot.unset).toArray = ls at hl ⊢
  have hl : lv_has ls 7 [(0, .ref h), (1, .int (nI u)), (2, .int (nI r)), (3, .int f), (4, .int t1), (5, .ref aO)] := hl
  refine lv_aload hx hb d_LW_agreement_0 (lv_at hl 5 rfl) ?_
  refine lv_iconst (v := 0) hx hb d_LW_agreement_2 (by decide) ?_
  refine lv_aload_n hx hb d_LW_agreement_3 rfl (lv_at hl 0 rfl) ?_
  refine lv_iload_n hx hb d_LW_agreement_4 rfl (lv_at hl 1 rfl) ?_
  refine lv_iload_n hx hb d_LW_agreement_5 rfl (lv_at hl 2 rfl) ?_
  refine lv_iload_n hx hb d_LW_agreement_6 rfl (lv_at hl 3 rfl) ?_
  refine lv_iload hx hb d_LW_agreement_7 (lv_at hl 4 rfl) ?_
  have hPc := hP.sub (ws' := [(h, .inr (9, [.ref hPA, .ref hRD, .ref hRB, .ref hPE, .ref hHO, .ref hAG, .ref hLO, .ref hRQ, .ref hEX, .ref aFR])), (hPE, .inr (5, [.ref aRo, .ref aLi, .int (nI en)])), (hHO, .inr (2, [.ref aFa, .ref aEm, .ref aVa, .int (nI hn)])), (hAG, .inr (0, [.ref aAP, .ref aAR, .ref aAF, .ref aAT, .int (nI an)]))]) [0, 1, 2, 3] rfl
  have hKc := hK.sub (tys' := []) [] rfl
  refine xk_callV (As := [.int (nI u), .int (nI r), .int f, .int t1]) (rest := [.int 0, .ref aO]) ⟨hx, hb, hml, hown, hts⟩ (t_RR_agreement6 l hst dC dI N0 h hPA hRD hRB hPE hHO hAG hLO hRQ hEX aFR aRo aLi en aFa aEm aVa hn aAP aAR aAF aAT an (hen) u (hu) (hhn) r (hr0) f (hf0) (hf1) t1 (ht0) (ht1) (hft) (han) (hbad)) (cwV 4 hts (vz_gV wb_LW_agreement b_488 b_489 b_490 b_1 wc_RR_agreement) rfl rfl rfl (by decide +kernel) ⟨Nat.le_of_ble_eq_true rfl, Nat.le_of_ble_eq_true rfl⟩) (vz_preVt hPc hKc hE hN hS (ci := 9) (q0 := 0) rfl rfl) rfl rfl hl.1 (Nat.le_of_ble_eq_true rfl) d_LW_agreement_9 ⟨Nat.le_of_ble_eq_true rfl, Nat.le_of_ble_eq_true rfl⟩ (fun q9 H9 hnew => ?_)
  obtain ⟨z1, z2, z3, hL9, hz1, hz2, hz3⟩ := xk_tab3 htb
  refine xk_catchN (hp := 25) (k := 13) hown [z1, z2] z3 [] hL9 (fun z hz => by
    simp only [List.mem_cons, List.not_mem_nil, or_false] at hz
    rcases hz with rfl | rfl
    · exact ⟨_, _, "java/util/NoSuchElementException", xkRow.of hz1 (by decide) (by decide), by decide, (hts _ (wb_LW_agreement _ b_381)), hNo.2.2⟩
    · exact ⟨_, _, "java/lang/IllegalArgumentException", xkRow.of hz2 (by decide) (by decide), by decide, (hts _ (wb_LW_agreement _ b_409)), hNo.1⟩) (xkRow.of hz3 (by decide) (by decide)) (by decide) (hts _ (wb_LW_agreement _ b_258)) (va_Nw.use rfl (hE.1 _ (by simp [xkBad]))) hnew ?_
  have hS : va_S (fun _ => False) s.heap H9 [] := ⟨hnew.1, fun q hq _ => hnew.2.1 q hq, fun _ h => nomatch h⟩
  refine lv_astore (lv' := [(6, .ref q9), (0, .ref h), (1, .int (nI u)), (2, .int (nI r)), (3, .int f), (4, .int t1), (5, .ref aO)]) hx hb d_LW_agreement_25 hl (by decide) rfl (fun ls hl => ?_)
  refine lv_iconst (v := 3) hx hb d_LW_agreement_27 (by decide) ?_
  exact W.iret (v := 3) hx hb hr (fun t ht hW => ⟨⟨3, (), rfl, rfl, trivial⟩, hS.F ht⟩) hS.2.2 d_LW_agreement_28

set_option maxHeartbeats 4000000 in
set_option maxRecDepth 100000 in
theorem c_LW_asksB1 (l : Launch) (hst : l.stackTraces = false) (dC : Nat → ClassId) (dI : Nat → Nat → Nat) (N0 : Nat) (h hPA hRD hRB hPE hHO hAG hLO hRQ hEX aFR : Nat) (aRo aLi : Nat) (en : Nat) (aFa aEm aVa : Nat) (hn : Nat) (x0 : Int32) (hbad : x0 < 0 ∨ nI en ≤ x0) (r f q d : Int32) (aO : Nat) : Met l y_LW_asks ws_LW_asks ({ frames := 8, cells := 1, slots := 6, locals := 137 }) (va_Pc [.ref h, .int x0, .int r, .int f, .int q, .int d, .ref aO] (fun U => va_P (dC, dI) vwCl [(h, .inr (9, [.ref hPA, .ref hRD, .ref hRB, .ref hPE, .ref hHO, .ref hAG, .ref hLO, .ref hRQ, .ref hEX, .ref aFR])), (hPE, .inr (5, [.ref aRo, .ref aLi, .int (nI en)])), (hHO, .inr (2, [.ref aFa, .ref aEm, .ref aVa, .int (nI hn)]))] U.heap ∧ va_K (dC, dI) vwCl [] U ∧ xkE N0 U ∧ N0 ≤ U.heap.size ∧ xkNos U)) (va_Qi (fun (res : Int32) (_ : Unit) => res = 1) (fun _ _ => True) (fun _ => False)) 1 6 (fun _ => False) := by
  refine xk_MetW (cc := k_LW_asks) (maxL := 8) (ret := (some .int)) (by decide) rfl ?_
  intro p e s m args below meth c s₁ B hml htb hv
  obtain ⟨rfl, hP, hK, hE, hN, hNo⟩ := hv
  have hx := B.exec
  have hb := B.bytes
  have hr := B.returns
  have hts := atoms_spec (ws := ws_LW_asks) B.pre
  have hown : s.vm.findClass R_LW = some m.cls := findClass_of_methodNamed B.named
  have hlocks := B.notSynchronized
  have hS : va_S (fun _ => False) s.heap s.heap [] := va_S.rf
  have hP : va_P (dC, dI) vwCl [(h, .inr (9, [.ref hPA, .ref hRD, .ref hRB, .ref hPE, .ref hHO, .ref hAG, .ref hLO, .ref hRQ, .ref hEX, .ref aFR])), (hPE, .inr (5, [.ref aRo, .ref aLi, .int (nI en)])), (hHO, .inr (2, [.ref aFa, .ref aEm, .ref aVa, .int (nI hn)]))] s.heap := hP
  have hl := lv_entry ([.ref h, .int x0, .int r, .int f, .int q, .int d, .ref aO]) (n := 8) (Nat.le_of_ble_eq_true rfl)
  rw [lg_entry_eq]
  generalize (lg_sl ([.ref h, .int x0, .int r, .int f, .int q, .int d, .ref aO]) ++ List.replicate (8 - (lg_sl ([.ref h, .int x0, .int r, .int f, .int q, .int d, .ref aO])).length) Slot.unset).toArray = ls at hl ⊢
  have hl : lv_has ls 8 [(0, .ref h), (1, .int x0), (2, .int r), (3, .int f), (4, .int q), (5, .int d), (6, .ref aO)] := hl
  refine lv_aload hx hb d_LW_asks_0 (lv_at hl 6 rfl) ?_
  refine lv_iconst (v := 0) hx hb d_LW_asks_2 (by decide) ?_
  refine lv_aload_n hx hb d_LW_asks_3 rfl (lv_at hl 0 rfl) ?_
  refine lv_iload_n hx hb d_LW_asks_4 rfl (lv_at hl 1 rfl) ?_
  refine lv_iload_n hx hb d_LW_asks_5 rfl (lv_at hl 2 rfl) ?_
  refine lv_iload_n hx hb d_LW_asks_6 rfl (lv_at hl 3 rfl) ?_
  refine lv_iload hx hb d_LW_asks_7 (lv_at hl 4 rfl) ?_
  refine lv_iload hx hb d_LW_asks_9 (lv_at hl 5 rfl) ?_
  have hPc := hP.sub (ws' := [(h, .inr (9, [.ref hPA, .ref hRD, .ref hRB, .ref hPE, .ref hHO, .ref hAG, .ref hLO, .ref hRQ, .ref hEX, .ref aFR])), (hPE, .inr (5, [.ref aRo, .ref aLi, .int (nI en)])), (hHO, .inr (2, [.ref aFa, .ref aEm, .ref aVa, .int (nI hn)]))]) [0, 1, 2] rfl
  have hKc := hK.sub (tys' := []) [] rfl
  refine xk_callV (As := [.int x0, .int r, .int f, .int q, .int d]) (rest := [.int 0, .ref aO]) ⟨hx, hb, hml, hown, hts⟩ (t_RR_asks1 l hst dC dI N0 h hPA hRD hRB hPE hHO hAG hLO hRQ hEX aFR aRo aLi en aFa aEm aVa hn x0 (hbad) r f q d) (cwV 5 hts (vz_gV wb_LW_asks b_506 b_507 b_508 b_1 wc_RR_asks) rfl rfl rfl (by decide +kernel) ⟨Nat.le_of_ble_eq_true rfl, Nat.le_of_ble_eq_true rfl⟩) (vz_preVt hPc hKc hE hN hS (ci := 9) (q0 := 0) rfl rfl) rfl rfl hl.1 (Nat.le_of_ble_eq_true rfl) d_LW_asks_11 ⟨Nat.le_of_ble_eq_true rfl, Nat.le_of_ble_eq_true rfl⟩ (fun q9 H9 hnew => ?_)
  obtain ⟨z1, z2, hL9, hz1, hz2⟩ := xk_tab2 htb
  refine xk_catchN (hp := 19) (k := 23) hown [] z1 [z2] hL9 (fun z hz => nomatch hz) (xkRow.of hz1 (by decide) (by decide)) (by decide) (hts _ (wb_LW_asks _ b_381)) (va_Nw.use rfl (hE.1 _ (by simp [xkBad]))) hnew ?_
  have hS : va_S (fun _ => False) s.heap H9 [] := ⟨hnew.1, fun q hq _ => hnew.2.1 q hq, fun _ h => nomatch h⟩
  refine lv_astore (lv' := [(7, .ref q9), (0, .ref h), (1, .int x0), (2, .int r), (3, .int f), (4, .int q), (5, .int d), (6, .ref aO)]) hx hb d_LW_asks_19 hl (by decide) rfl (fun ls hl => ?_)
  refine lv_iconst (v := 1) hx hb d_LW_asks_21 (by decide) ?_
  exact W.iret (v := 1) hx hb hr (fun t ht hW => ⟨⟨1, (), rfl, rfl, trivial⟩, hS.F ht⟩) hS.2.2 d_LW_asks_22

set_option maxHeartbeats 4000000 in
set_option maxRecDepth 100000 in
theorem c_LW_asksB2 (l : Launch) (hst : l.stackTraces = false) (dC : Nat → ClassId) (dI : Nat → Nat → Nat) (N0 : Nat) (h hPA hRD hRB hPE hHO hAG hLO hRQ hEX aFR : Nat) (aRo aLi : Nat) (en : Nat) (aFa aEm aVa : Nat) (hn : Nat) (hen : en ≤ 12) (u : Nat) (hu : u < en) (x0 : Int32) (hbad : x0 < 0 ∨ nI hn ≤ x0) (f q d : Int32) (aO : Nat) : Met l y_LW_asks ws_LW_asks ({ frames := 8, cells := 1, slots := 6, locals := 137 }) (va_Pc [.ref h, .int (nI u), .int x0, .int f, .int q, .int d, .ref aO] (fun U => va_P (dC, dI) vwCl [(h, .inr (9, [.ref hPA, .ref hRD, .ref hRB, .ref hPE, .ref hHO, .ref hAG, .ref hLO, .ref hRQ, .ref hEX, .ref aFR])), (hPE, .inr (5, [.ref aRo, .ref aLi, .int (nI en)])), (hHO, .inr (2, [.ref aFa, .ref aEm, .ref aVa, .int (nI hn)]))] U.heap ∧ va_K (dC, dI) vwCl [] U ∧ xkE N0 U ∧ N0 ≤ U.heap.size ∧ xkNos U)) (va_Qi (fun (res : Int32) (_ : Unit) => res = 1) (fun _ _ => True) (fun _ => False)) 1 6 (fun _ => False) := by
  refine xk_MetW (cc := k_LW_asks) (maxL := 8) (ret := (some .int)) (by decide) rfl ?_
  intro p e s m args below meth c s₁ B hml htb hv
  obtain ⟨rfl, hP, hK, hE, hN, hNo⟩ := hv
  have hx := B.exec
  have hb := B.bytes
  have hr := B.returns
  have hts := atoms_spec (ws := ws_LW_asks) B.pre
  have hown : s.vm.findClass R_LW = some m.cls := findClass_of_methodNamed B.named
  have hlocks := B.notSynchronized
  have hS : va_S (fun _ => False) s.heap s.heap [] := va_S.rf
  have hP : va_P (dC, dI) vwCl [(h, .inr (9, [.ref hPA, .ref hRD, .ref hRB, .ref hPE, .ref hHO, .ref hAG, .ref hLO, .ref hRQ, .ref hEX, .ref aFR])), (hPE, .inr (5, [.ref aRo, .ref aLi, .int (nI en)])), (hHO, .inr (2, [.ref aFa, .ref aEm, .ref aVa, .int (nI hn)]))] s.heap := hP
  have hl := lv_entry ([.ref h, .int (nI u), .int x0, .int f, .int q, .int d, .ref aO]) (n := 8) (Nat.le_of_ble_eq_true rfl)
  rw [lg_entry_eq]
  generalize (lg_sl ([.ref h, .int (nI u), .int x0, .int f, .int q, .int d, .ref aO]) ++ List.replicate (8 - (lg_sl ([.ref h, .int (nI u), .int x0, .int f, .int q, .int d, .ref aO])).length) Slot.unset).toArray = ls at hl ⊢
  have hl : lv_has ls 8 [(0, .ref h), (1, .int (nI u)), (2, .int x0), (3, .int f), (4, .int q), (5, .int d), (6, .ref aO)] := hl
  refine lv_aload hx hb d_LW_asks_0 (lv_at hl 6 rfl) ?_
  refine lv_iconst (v := 0) hx hb d_LW_asks_2 (by decide) ?_
  refine lv_aload_n hx hb d_LW_asks_3 rfl (lv_at hl 0 rfl) ?_
  refine lv_iload_n hx hb d_LW_asks_4 rfl (lv_at hl 1 rfl) ?_
  refine lv_iload_n hx hb d_LW_asks_5 rfl (lv_at hl 2 rfl) ?_
  refine lv_iload_n hx hb d_LW_asks_6 rfl (lv_at hl 3 rfl) ?_
  refine lv_iload hx hb d_LW_asks_7 (lv_at hl 4 rfl) ?_
  refine lv_iload hx hb d_LW_asks_9 (lv_at hl 5 rfl) ?_
  have hPc := hP.sub (ws' := [(h, .inr (9, [.ref hPA, .ref hRD, .ref hRB, .ref hPE, .ref hHO, .ref hAG, .ref hLO, .ref hRQ, .ref hEX, .ref aFR])), (hPE, .inr (5, [.ref aRo, .ref aLi, .int (nI en)])), (hHO, .inr (2, [.ref aFa, .ref aEm, .ref aVa, .int (nI hn)]))]) [0, 1, 2] rfl
  have hKc := hK.sub (tys' := []) [] rfl
  refine xk_callV (As := [.int (nI u), .int x0, .int f, .int q, .int d]) (rest := [.int 0, .ref aO]) ⟨hx, hb, hml, hown, hts⟩ (t_RR_asks2 l hst dC dI N0 h hPA hRD hRB hPE hHO hAG hLO hRQ hEX aFR aRo aLi en aFa aEm aVa hn (hen) u (hu) x0 (hbad) f q d) (cwV 5 hts (vz_gV wb_LW_asks b_506 b_507 b_508 b_1 wc_RR_asks) rfl rfl rfl (by decide +kernel) ⟨Nat.le_of_ble_eq_true rfl, Nat.le_of_ble_eq_true rfl⟩) (vz_preVt hPc hKc hE hN hS (ci := 9) (q0 := 0) rfl rfl) rfl rfl hl.1 (Nat.le_of_ble_eq_true rfl) d_LW_asks_11 ⟨Nat.le_of_ble_eq_true rfl, Nat.le_of_ble_eq_true rfl⟩ (fun q9 H9 hnew => ?_)
  obtain ⟨z1, z2, hL9, hz1, hz2⟩ := xk_tab2 htb
  refine xk_catchN (hp := 19) (k := 23) hown [] z1 [z2] hL9 (fun z hz => nomatch hz) (xkRow.of hz1 (by decide) (by decide)) (by decide) (hts _ (wb_LW_asks _ b_381)) (va_Nw.use rfl (hE.1 _ (by simp [xkBad]))) hnew ?_
  have hS : va_S (fun _ => False) s.heap H9 [] := ⟨hnew.1, fun q hq _ => hnew.2.1 q hq, fun _ h => nomatch h⟩
  refine lv_astore (lv' := [(7, .ref q9), (0, .ref h), (1, .int (nI u)), (2, .int x0), (3, .int f), (4, .int q), (5, .int d), (6, .ref aO)]) hx hb d_LW_asks_19 hl (by decide) rfl (fun ls hl => ?_)
  refine lv_iconst (v := 1) hx hb d_LW_asks_21 (by decide) ?_
  exact W.iret (v := 1) hx hb hr (fun t ht hW => ⟨⟨1, (), rfl, rfl, trivial⟩, hS.F ht⟩) hS.2.2 d_LW_asks_22

set_option maxHeartbeats 4000000 in
set_option maxRecDepth 100000 in
theorem c_LW_asksB3 (l : Launch) (hst : l.stackTraces = false) (dC : Nat → ClassId) (dI : Nat → Nat → Nat) (N0 : Nat) (h hPA hRD hRB hPE hHO hAG hLO hRQ hEX aFR : Nat) (aRo aLi : Nat) (en : Nat) (aFa aEm aVa : Nat) (hn : Nat) (hen : en ≤ 12) (u : Nat) (hu : u < en) (hhn : hn ≤ 16) (r : Nat) (hr0 : r < hn) (x0 : Int32) (hbad : x0 < 0 ∨ 6 ≤ x0) (q d : Int32) (aO : Nat) : Met l y_LW_asks ws_LW_asks ({ frames := 8, cells := 1, slots := 6, locals := 136 }) (va_Pc [.ref h, .int (nI u), .int (nI r), .int x0, .int q, .int d, .ref aO] (fun U => va_P (dC, dI) vwCl [(h, .inr (9, [.ref hPA, .ref hRD, .ref hRB, .ref hPE, .ref hHO, .ref hAG, .ref hLO, .ref hRQ, .ref hEX, .ref aFR])), (hPE, .inr (5, [.ref aRo, .ref aLi, .int (nI en)])), (hHO, .inr (2, [.ref aFa, .ref aEm, .ref aVa, .int (nI hn)]))] U.heap ∧ va_K (dC, dI) vwCl [] U ∧ xkE N0 U ∧ N0 ≤ U.heap.size ∧ xkNos U)) (va_Qi (fun (res : Int32) (_ : Unit) => res = 1) (fun _ _ => True) (fun _ => False)) 1 6 (fun _ => False) := by
  refine xk_MetW (cc := k_LW_asks) (maxL := 8) (ret := (some .int)) (by decide) rfl ?_
  intro p e s m args below meth c s₁ B hml htb hv
  obtain ⟨rfl, hP, hK, hE, hN, hNo⟩ := hv
  have hx := B.exec
  have hb := B.bytes
  have hr := B.returns
  have hts := atoms_spec (ws := ws_LW_asks) B.pre
  have hown : s.vm.findClass R_LW = some m.cls := findClass_of_methodNamed B.named
  have hlocks := B.notSynchronized
  have hS : va_S (fun _ => False) s.heap s.heap [] := va_S.rf
  have hP : va_P (dC, dI) vwCl [(h, .inr (9, [.ref hPA, .ref hRD, .ref hRB, .ref hPE, .ref hHO, .ref hAG, .ref hLO, .ref hRQ, .ref hEX, .ref aFR])), (hPE, .inr (5, [.ref aRo, .ref aLi, .int (nI en)])), (hHO, .inr (2, [.ref aFa, .ref aEm, .ref aVa, .int (nI hn)]))] s.heap := hP
  have hl := lv_entry ([.ref h, .int (nI u), .int (nI r), .int x0, .int q, .int d, .ref aO]) (n := 8) (Nat.le_of_ble_eq_true rfl)
  rw [lg_entry_eq]
  generalize (lg_sl ([.ref h, .int (nI u), .int (nI r), .int x0, .int q, .int d, .ref aO]) ++ List.replicate (8 - (lg_sl ([.ref h, .int (nI u), .int (nI r), .int x0, .int q, .int d, .ref aO])).length) Slot.unset).toArray = ls at hl ⊢
  have hl : lv_has ls 8 [(0, .ref h), (1, .int (nI u)), (2, .int (nI r)), (3, .int x0), (4, .int q), (5, .int d), (6, .ref aO)] := hl
  refine lv_aload hx hb d_LW_asks_0 (lv_at hl 6 rfl) ?_
  refine lv_iconst (v := 0) hx hb d_LW_asks_2 (by decide) ?_
  refine lv_aload_n hx hb d_LW_asks_3 rfl (lv_at hl 0 rfl) ?_
  refine lv_iload_n hx hb d_LW_asks_4 rfl (lv_at hl 1 rfl) ?_
  refine lv_iload_n hx hb d_LW_asks_5 rfl (lv_at hl 2 rfl) ?_
  refine lv_iload_n hx hb d_LW_asks_6 rfl (lv_at hl 3 rfl) ?_
  refine lv_iload hx hb d_LW_asks_7 (lv_at hl 4 rfl) ?_
  refine lv_iload hx hb d_LW_asks_9 (lv_at hl 5 rfl) ?_
  have hPc := hP.sub (ws' := [(h, .inr (9, [.ref hPA, .ref hRD, .ref hRB, .ref hPE, .ref hHO, .ref hAG, .ref hLO, .ref hRQ, .ref hEX, .ref aFR])), (hPE, .inr (5, [.ref aRo, .ref aLi, .int (nI en)])), (hHO, .inr (2, [.ref aFa, .ref aEm, .ref aVa, .int (nI hn)]))]) [0, 1, 2] rfl
  have hKc := hK.sub (tys' := []) [] rfl
  refine xk_callV (As := [.int (nI u), .int (nI r), .int x0, .int q, .int d]) (rest := [.int 0, .ref aO]) ⟨hx, hb, hml, hown, hts⟩ (t_RR_asks3 l hst dC dI N0 h hPA hRD hRB hPE hHO hAG hLO hRQ hEX aFR aRo aLi en aFa aEm aVa hn (hen) u (hu) (hhn) r (hr0) x0 (hbad) q d) (cwV 5 hts (vz_gV wb_LW_asks b_506 b_507 b_508 b_1 wc_RR_asks) rfl rfl rfl (by decide +kernel) ⟨Nat.le_of_ble_eq_true rfl, Nat.le_of_ble_eq_true rfl⟩) (vz_preVt hPc hKc hE hN hS (ci := 9) (q0 := 0) rfl rfl) rfl rfl hl.1 (Nat.le_of_ble_eq_true rfl) d_LW_asks_11 ⟨Nat.le_of_ble_eq_true rfl, Nat.le_of_ble_eq_true rfl⟩ (fun q9 H9 hnew => ?_)
  obtain ⟨z1, z2, hL9, hz1, hz2⟩ := xk_tab2 htb
  refine xk_catchN (hp := 19) (k := 23) hown [] z1 [z2] hL9 (fun z hz => nomatch hz) (xkRow.of hz1 (by decide) (by decide)) (by decide) (hts _ (wb_LW_asks _ b_381)) (va_Nw.use rfl (hE.1 _ (by simp [xkBad]))) hnew ?_
  have hS : va_S (fun _ => False) s.heap H9 [] := ⟨hnew.1, fun q hq _ => hnew.2.1 q hq, fun _ h => nomatch h⟩
  refine lv_astore (lv' := [(7, .ref q9), (0, .ref h), (1, .int (nI u)), (2, .int (nI r)), (3, .int x0), (4, .int q), (5, .int d), (6, .ref aO)]) hx hb d_LW_asks_19 hl (by decide) rfl (fun ls hl => ?_)
  refine lv_iconst (v := 1) hx hb d_LW_asks_21 (by decide) ?_
  exact W.iret (v := 1) hx hb hr (fun t ht hW => ⟨⟨1, (), rfl, rfl, trivial⟩, hS.F ht⟩) hS.2.2 d_LW_asks_22

set_option maxHeartbeats 4000000 in
set_option maxRecDepth 100000 in
theorem c_LW_asksB4 (l : Launch) (hst : l.stackTraces = false) (dC : Nat → ClassId) (dI : Nat → Nat → Nat) (N0 : Nat) (h hPA hRD hRB hPE hHO hAG hLO hRQ hEX aFR : Nat) (aRo aLi : Nat) (en : Nat) (aFa aEm aVa : Nat) (hn : Nat) (hen : en ≤ 12) (u : Nat) (hu : u < en) (hhn : hn ≤ 16) (r : Nat) (hr0 : r < hn) (f : Nat) (hf : f < 6) (x0 : Int32) (hbad : x0 < 0 ∨ 4 ≤ x0) (d : Int32) (aO : Nat) : Met l y_LW_asks ws_LW_asks ({ frames := 7, cells := 1, slots := 6, locals := 116 }) (va_Pc [.ref h, .int (nI u), .int (nI r), .int (nI f), .int x0, .int d, .ref aO] (fun U => va_P (dC, dI) vwCl [(h, .inr (9, [.ref hPA, .ref hRD, .ref hRB, .ref hPE, .ref hHO, .ref hAG, .ref hLO, .ref hRQ, .ref hEX, .ref aFR])), (hPE, .inr (5, [.ref aRo, .ref aLi, .int (nI en)])), (hHO, .inr (2, [.ref aFa, .ref aEm, .ref aVa, .int (nI hn)]))] U.heap ∧ va_K (dC, dI) vwCl [] U ∧ xkE N0 U ∧ N0 ≤ U.heap.size ∧ xkNos U)) (va_Qi (fun (res : Int32) (_ : Unit) => res = 1) (fun _ _ => True) (fun _ => False)) 1 6 (fun _ => False) := by
  refine xk_MetW (cc := k_LW_asks) (maxL := 8) (ret := (some .int)) (by decide) rfl ?_
  intro p e s m args below meth c s₁ B hml htb hv
  obtain ⟨rfl, hP, hK, hE, hN, hNo⟩ := hv
  have hx := B.exec
  have hb := B.bytes
  have hr := B.returns
  have hts := atoms_spec (ws := ws_LW_asks) B.pre
  have hown : s.vm.findClass R_LW = some m.cls := findClass_of_methodNamed B.named
  have hlocks := B.notSynchronized
  have hS : va_S (fun _ => False) s.heap s.heap [] := va_S.rf
  have hP : va_P (dC, dI) vwCl [(h, .inr (9, [.ref hPA, .ref hRD, .ref hRB, .ref hPE, .ref hHO, .ref hAG, .ref hLO, .ref hRQ, .ref hEX, .ref aFR])), (hPE, .inr (5, [.ref aRo, .ref aLi, .int (nI en)])), (hHO, .inr (2, [.ref aFa, .ref aEm, .ref aVa, .int (nI hn)]))] s.heap := hP
  have hl := lv_entry ([.ref h, .int (nI u), .int (nI r), .int (nI f), .int x0, .int d, .ref aO]) (n := 8) (Nat.le_of_ble_eq_true rfl)
  rw [lg_entry_eq]
  generalize (lg_sl ([.ref h, .int (nI u), .int (nI r), .int (nI f), .int x0, .int d, .ref aO]) ++ List.replicate (8 - (lg_sl ([.ref h, .int (nI u), .int (nI r), .int (nI f), .int x0, .int d, .ref aO])).length) Slot.unset).toArray = ls at hl ⊢
  have hl : lv_has ls 8 [(0, .ref h), (1, .int (nI u)), (2, .int (nI r)), (3, .int (nI f)), (4, .int x0), (5, .int d), (6, .ref aO)] := hl
  refine lv_aload hx hb d_LW_asks_0 (lv_at hl 6 rfl) ?_
  refine lv_iconst (v := 0) hx hb d_LW_asks_2 (by decide) ?_
  refine lv_aload_n hx hb d_LW_asks_3 rfl (lv_at hl 0 rfl) ?_
  refine lv_iload_n hx hb d_LW_asks_4 rfl (lv_at hl 1 rfl) ?_
  refine lv_iload_n hx hb d_LW_asks_5 rfl (lv_at hl 2 rfl) ?_
  refine lv_iload_n hx hb d_LW_asks_6 rfl (lv_at hl 3 rfl) ?_
  refine lv_iload hx hb d_LW_asks_7 (lv_at hl 4 rfl) ?_
  refine lv_iload hx hb d_LW_asks_9 (lv_at hl 5 rfl) ?_
  have hPc := hP.sub (ws' := [(h, .inr (9, [.ref hPA, .ref hRD, .ref hRB, .ref hPE, .ref hHO, .ref hAG, .ref hLO, .ref hRQ, .ref hEX, .ref aFR])), (hPE, .inr (5, [.ref aRo, .ref aLi, .int (nI en)])), (hHO, .inr (2, [.ref aFa, .ref aEm, .ref aVa, .int (nI hn)]))]) [0, 1, 2] rfl
  have hKc := hK.sub (tys' := []) [] rfl
  refine xk_callV (As := [.int (nI u), .int (nI r), .int (nI f), .int x0, .int d]) (rest := [.int 0, .ref aO]) ⟨hx, hb, hml, hown, hts⟩ (t_RR_asks4 l hst dC dI N0 h hPA hRD hRB hPE hHO hAG hLO hRQ hEX aFR aRo aLi en aFa aEm aVa hn (hen) u (hu) (hhn) r (hr0) f (hf) x0 (hbad) d) (cwV 5 hts (vz_gV wb_LW_asks b_506 b_507 b_508 b_1 wc_RR_asks) rfl rfl rfl (by decide +kernel) ⟨Nat.le_of_ble_eq_true rfl, Nat.le_of_ble_eq_true rfl⟩) (vz_preVt hPc hKc hE hN hS (ci := 9) (q0 := 0) rfl rfl) rfl rfl hl.1 (Nat.le_of_ble_eq_true rfl) d_LW_asks_11 ⟨Nat.le_of_ble_eq_true rfl, Nat.le_of_ble_eq_true rfl⟩ (fun q9 H9 hnew => ?_)
  obtain ⟨z1, z2, hL9, hz1, hz2⟩ := xk_tab2 htb
  refine xk_catchN (hp := 19) (k := 23) hown [] z1 [z2] hL9 (fun z hz => nomatch hz) (xkRow.of hz1 (by decide) (by decide)) (by decide) (hts _ (wb_LW_asks _ b_381)) (va_Nw.use rfl (hE.1 _ (by simp [xkBad]))) hnew ?_
  have hS : va_S (fun _ => False) s.heap H9 [] := ⟨hnew.1, fun q hq _ => hnew.2.1 q hq, fun _ h => nomatch h⟩
  refine lv_astore (lv' := [(7, .ref q9), (0, .ref h), (1, .int (nI u)), (2, .int (nI r)), (3, .int (nI f)), (4, .int x0), (5, .int d), (6, .ref aO)]) hx hb d_LW_asks_19 hl (by decide) rfl (fun ls hl => ?_)
  refine lv_iconst (v := 1) hx hb d_LW_asks_21 (by decide) ?_
  exact W.iret (v := 1) hx hb hr (fun t ht hW => ⟨⟨1, (), rfl, rfl, trivial⟩, hS.F ht⟩) hS.2.2 d_LW_asks_22

set_option maxHeartbeats 4000000 in
set_option maxRecDepth 100000 in
theorem c_LW_asksB5 (l : Launch) (hst : l.stackTraces = false) (dC : Nat → ClassId) (dI : Nat → Nat → Nat) (N0 : Nat) (h hPA hRD hRB hPE hHO hAG hLO hRQ hEX aFR : Nat) (aRo aLi : Nat) (en : Nat) (aFa aEm aVa : Nat) (hn : Nat) (hen : en ≤ 12) (u : Nat) (hu : u < en) (hhn : hn ≤ 16) (r : Nat) (hr0 : r < hn) (f q : Nat) (hf : f < 6) (hq : q < 4) (x0 : Int32) (hbad : x0 < 0 ∨ 100000 < x0) (aO : Nat) : Met l y_LW_asks ws_LW_asks ({ frames := 8, cells := 1, slots := 6, locals := 136 }) (va_Pc [.ref h, .int (nI u), .int (nI r), .int (nI f), .int (nI q), .int x0, .ref aO] (fun U => va_P (dC, dI) vwCl [(h, .inr (9, [.ref hPA, .ref hRD, .ref hRB, .ref hPE, .ref hHO, .ref hAG, .ref hLO, .ref hRQ, .ref hEX, .ref aFR])), (hPE, .inr (5, [.ref aRo, .ref aLi, .int (nI en)])), (hHO, .inr (2, [.ref aFa, .ref aEm, .ref aVa, .int (nI hn)]))] U.heap ∧ va_K (dC, dI) vwCl [] U ∧ xkE N0 U ∧ N0 ≤ U.heap.size ∧ xkNos U)) (va_Qi (fun (res : Int32) (_ : Unit) => res = 2) (fun _ _ => True) (fun _ => False)) 1 6 (fun _ => False) := by
  refine xk_MetW (cc := k_LW_asks) (maxL := 8) (ret := (some .int)) (by decide) rfl ?_
  intro p e s m args below meth c s₁ B hml htb hv
  obtain ⟨rfl, hP, hK, hE, hN, hNo⟩ := hv
  have hx := B.exec
  have hb := B.bytes
  have hr := B.returns
  have hts := atoms_spec (ws := ws_LW_asks) B.pre
  have hown : s.vm.findClass R_LW = some m.cls := findClass_of_methodNamed B.named
  have hlocks := B.notSynchronized
  have hS : va_S (fun _ => False) s.heap s.heap [] := va_S.rf
  have hP : va_P (dC, dI) vwCl [(h, .inr (9, [.ref hPA, .ref hRD, .ref hRB, .ref hPE, .ref hHO, .ref hAG, .ref hLO, .ref hRQ, .ref hEX, .ref aFR])), (hPE, .inr (5, [.ref aRo, .ref aLi, .int (nI en)])), (hHO, .inr (2, [.ref aFa, .ref aEm, .ref aVa, .int (nI hn)]))] s.heap := hP
  have hl := lv_entry ([.ref h, .int (nI u), .int (nI r), .int (nI f), .int (nI q), .int x0, .ref aO]) (n := 8) (Nat.le_of_ble_eq_true rfl)
  rw [lg_entry_eq]
  generalize (lg_sl ([.ref h, .int (nI u), .int (nI r), .int (nI f), .int (nI q), .int x0, .ref aO]) ++ List.replicate (8 - (lg_sl ([.ref h, .int (nI u), .int (nI r), .int (nI f), .int (nI q), .int x0, .ref aO])).length) Slot.unset).toArray = ls at hl ⊢
  have hl : lv_has ls 8 [(0, .ref h), (1, .int (nI u)), (2, .int (nI r)), (3, .int (nI f)), (4, .int (nI q)), (5, .int x0), (6, .ref aO)] := hl
  refine lv_aload hx hb d_LW_asks_0 (lv_at hl 6 rfl) ?_
  refine lv_iconst (v := 0) hx hb d_LW_asks_2 (by decide) ?_
  refine lv_aload_n hx hb d_LW_asks_3 rfl (lv_at hl 0 rfl) ?_
  refine lv_iload_n hx hb d_LW_asks_4 rfl (lv_at hl 1 rfl) ?_
  refine lv_iload_n hx hb d_LW_asks_5 rfl (lv_at hl 2 rfl) ?_
  refine lv_iload_n hx hb d_LW_asks_6 rfl (lv_at hl 3 rfl) ?_
  refine lv_iload hx hb d_LW_asks_7 (lv_at hl 4 rfl) ?_
  refine lv_iload hx hb d_LW_asks_9 (lv_at hl 5 rfl) ?_
  have hPc := hP.sub (ws' := [(h, .inr (9, [.ref hPA, .ref hRD, .ref hRB, .ref hPE, .ref hHO, .ref hAG, .ref hLO, .ref hRQ, .ref hEX, .ref aFR])), (hPE, .inr (5, [.ref aRo, .ref aLi, .int (nI en)])), (hHO, .inr (2, [.ref aFa, .ref aEm, .ref aVa, .int (nI hn)]))]) [0, 1, 2] rfl
  have hKc := hK.sub (tys' := []) [] rfl
  refine xk_callV (As := [.int (nI u), .int (nI r), .int (nI f), .int (nI q), .int x0]) (rest := [.int 0, .ref aO]) ⟨hx, hb, hml, hown, hts⟩ (t_RR_asks5 l hst dC dI N0 h hPA hRD hRB hPE hHO hAG hLO hRQ hEX aFR aRo aLi en aFa aEm aVa hn (hen) u (hu) (hhn) r (hr0) f q (hf) (hq) x0 (hbad)) (cwV 5 hts (vz_gV wb_LW_asks b_506 b_507 b_508 b_1 wc_RR_asks) rfl rfl rfl (by decide +kernel) ⟨Nat.le_of_ble_eq_true rfl, Nat.le_of_ble_eq_true rfl⟩) (vz_preVt hPc hKc hE hN hS (ci := 9) (q0 := 0) rfl rfl) rfl rfl hl.1 (Nat.le_of_ble_eq_true rfl) d_LW_asks_11 ⟨Nat.le_of_ble_eq_true rfl, Nat.le_of_ble_eq_true rfl⟩ (fun q9 H9 hnew => ?_)
  obtain ⟨z1, z2, hL9, hz1, hz2⟩ := xk_tab2 htb
  refine xk_catchN (hp := 23) (k := 29) hown [z1] z2 [] hL9 (fun z hz => by
    simp only [List.mem_cons, List.not_mem_nil, or_false] at hz
    subst hz
    exact ⟨_, _, "java/util/NoSuchElementException", xkRow.of hz1 (by decide) (by decide), by decide, (hts _ (wb_LW_asks _ b_381)), hNo.2.1⟩) (xkRow.of hz2 (by decide) (by decide)) (by decide) (hts _ (wb_LW_asks _ b_409)) (va_Nw.use rfl (hE.1 _ (by simp [xkBad]))) hnew ?_
  have hS : va_S (fun _ => False) s.heap H9 [] := ⟨hnew.1, fun q hq _ => hnew.2.1 q hq, fun _ h => nomatch h⟩
  refine lv_astore (lv' := [(7, .ref q9), (0, .ref h), (1, .int (nI u)), (2, .int (nI r)), (3, .int (nI f)), (4, .int (nI q)), (5, .int x0), (6, .ref aO)]) hx hb d_LW_asks_23 hl (by decide) rfl (fun ls hl => ?_)
  refine lv_iconst (v := 2) hx hb d_LW_asks_25 (by decide) ?_
  exact W.iret (v := 2) hx hb hr (fun t ht hW => ⟨⟨2, (), rfl, rfl, trivial⟩, hS.F ht⟩) hS.2.2 d_LW_asks_26

set_option maxHeartbeats 4000000 in
set_option maxRecDepth 100000 in
theorem c_LW_lookB1 (l : Launch) (hst : l.stackTraces = false) (dC : Nat → ClassId) (dI : Nat → Nat → Nat) (N0 : Nat) (h hPA hRD hRB hPE hHO hAG hLO hRQ hEX aFR : Nat) (aLP aLL : Nat) (ln : Nat) (x0 : Int32) (hbad : x0 < 0 ∨ nI ln ≤ x0) (j : Int32) (aO : Nat) : Met l y_LW_look ws_LW_look ({ frames := 7, cells := 1, slots := 6, locals := 112 }) (va_Pc [.ref h, .int x0, .int j, .ref aO] (fun U => va_P (dC, dI) vwCl [(h, .inr (9, [.ref hPA, .ref hRD, .ref hRB, .ref hPE, .ref hHO, .ref hAG, .ref hLO, .ref hRQ, .ref hEX, .ref aFR])), (hLO, .inr (3, [.ref aLP, .ref aLL, .int (nI ln)]))] U.heap ∧ va_K (dC, dI) vwCl [] U ∧ xkE N0 U ∧ N0 ≤ U.heap.size ∧ xkNos U)) (va_Qi (fun (res : Int32) (_ : Unit) => res = 1) (fun _ _ => True) (fun _ => False)) 1 6 (fun _ => False) := by
  refine xk_MetW (cc := k_LW_look) (maxL := 5) (ret := (some .int)) (by decide) rfl ?_
  intro p e s m args below meth c s₁ B hml htb hv
  obtain ⟨rfl, hP, hK, hE, hN, hNo⟩ := hv
  have hx := B.exec
  have hb := B.bytes
  have hr := B.returns
  have hts := atoms_spec (ws := ws_LW_look) B.pre
  have hown : s.vm.findClass R_LW = some m.cls := findClass_of_methodNamed B.named
  have hlocks := B.notSynchronized
  have hS : va_S (fun _ => False) s.heap s.heap [] := va_S.rf
  have hP : va_P (dC, dI) vwCl [(h, .inr (9, [.ref hPA, .ref hRD, .ref hRB, .ref hPE, .ref hHO, .ref hAG, .ref hLO, .ref hRQ, .ref hEX, .ref aFR])), (hLO, .inr (3, [.ref aLP, .ref aLL, .int (nI ln)]))] s.heap := hP
  have hl := lv_entry ([.ref h, .int x0, .int j, .ref aO]) (n := 5) (Nat.le_of_ble_eq_true rfl)
  rw [lg_entry_eq]
  generalize (lg_sl ([.ref h, .int x0, .int j, .ref aO]) ++ List.replicate (5 - (lg_sl ([.ref h, .int x0, .int j, .ref aO])).length) Slot.unset).toArray = ls at hl ⊢
  have hl : lv_has ls 5 [(0, .ref h), (1, .int x0), (2, .int j), (3, .ref aO)] := hl
  refine lv_aload_n hx hb d_LW_look_0 rfl (lv_at hl 3 rfl) ?_
  refine lv_iconst (v := 0) hx hb d_LW_look_1 (by decide) ?_
  refine lv_aload_n hx hb d_LW_look_2 rfl (lv_at hl 0 rfl) ?_
  refine lv_iload_n hx hb d_LW_look_3 rfl (lv_at hl 1 rfl) ?_
  refine lv_iload_n hx hb d_LW_look_4 rfl (lv_at hl 2 rfl) ?_
  have hPc := hP.sub (ws' := [(h, .inr (9, [.ref hPA, .ref hRD, .ref hRB, .ref hPE, .ref hHO, .ref hAG, .ref hLO, .ref hRQ, .ref hEX, .ref aFR])), (hLO, .inr (3, [.ref aLP, .ref aLL, .int (nI ln)]))]) [0, 1] rfl
  have hKc := hK.sub (tys' := []) [] rfl
  refine xk_callV (As := [.int x0, .int j]) (rest := [.int 0, .ref aO]) ⟨hx, hb, hml, hown, hts⟩ (t_RR_look1 l hst dC dI N0 h hPA hRD hRB hPE hHO hAG hLO hRQ hEX aFR aLP aLL ln x0 (hbad) j) (cwV 2 hts (vz_gV wb_LW_look b_550 b_551 b_552 b_1 wc_RR_look) rfl rfl rfl (by decide +kernel) ⟨Nat.le_of_ble_eq_true rfl, Nat.le_of_ble_eq_true rfl⟩) (vz_preVt hPc hKc hE hN hS (ci := 9) (q0 := 0) rfl rfl) rfl rfl hl.1 (Nat.le_of_ble_eq_true rfl) d_LW_look_5 ⟨Nat.le_of_ble_eq_true rfl, Nat.le_of_ble_eq_true rfl⟩ (fun q9 H9 hnew => ?_)
  obtain ⟨z1, hL9, hz1⟩ := xk_tab1 htb
  refine xk_catchN (hp := 13) (k := 23) hown [] z1 [] hL9 (fun z hz => nomatch hz) (xkRow.of hz1 (by decide) (by decide)) (by decide) (hts _ (wb_LW_look _ b_381)) (va_Nw.use rfl (hE.1 _ (by simp [xkBad]))) hnew ?_
  have hS : va_S (fun _ => False) s.heap H9 [] := ⟨hnew.1, fun q hq _ => hnew.2.1 q hq, fun _ h => nomatch h⟩
  refine lv_astore (lv' := [(4, .ref q9), (0, .ref h), (1, .int x0), (2, .int j), (3, .ref aO)]) hx hb d_LW_look_13 hl (by decide) rfl (fun ls hl => ?_)
  refine lv_iconst (v := 1) hx hb d_LW_look_15 (by decide) ?_
  exact W.iret (v := 1) hx hb hr (fun t ht hW => ⟨⟨1, (), rfl, rfl, trivial⟩, hS.F ht⟩) hS.2.2 d_LW_look_16

set_option maxHeartbeats 4000000 in
set_option maxRecDepth 100000 in
theorem c_LW_lookB2 (l : Launch) (hst : l.stackTraces = false) (dC : Nat → ClassId) (dI : Nat → Nat → Nat) (N0 : Nat) (h hPA hRD hRB hPE hHO hAG hLO hRQ hEX aFR : Nat) (aLP aLL : Nat) (ln : Nat) (hln : ln ≤ 100) (k : Nat) (hk : k < ln) (x0 : Int32) (hbad : x0 < 0 ∨ 6 ≤ x0) (aO : Nat) : Met l y_LW_look ws_LW_look ({ frames := 7, cells := 1, slots := 6, locals := 112 }) (va_Pc [.ref h, .int (nI k), .int x0, .ref aO] (fun U => va_P (dC, dI) vwCl [(h, .inr (9, [.ref hPA, .ref hRD, .ref hRB, .ref hPE, .ref hHO, .ref hAG, .ref hLO, .ref hRQ, .ref hEX, .ref aFR])), (hLO, .inr (3, [.ref aLP, .ref aLL, .int (nI ln)]))] U.heap ∧ va_K (dC, dI) vwCl [] U ∧ xkE N0 U ∧ N0 ≤ U.heap.size ∧ xkNos U)) (va_Qi (fun (res : Int32) (_ : Unit) => res = 1) (fun _ _ => True) (fun _ => False)) 1 6 (fun _ => False) := by
  refine xk_MetW (cc := k_LW_look) (maxL := 5) (ret := (some .int)) (by decide) rfl ?_
  intro p e s m args below meth c s₁ B hml htb hv
  obtain ⟨rfl, hP, hK, hE, hN, hNo⟩ := hv
  have hx := B.exec
  have hb := B.bytes
  have hr := B.returns
  have hts := atoms_spec (ws := ws_LW_look) B.pre
  have hown : s.vm.findClass R_LW = some m.cls := findClass_of_methodNamed B.named
  have hlocks := B.notSynchronized
  have hS : va_S (fun _ => False) s.heap s.heap [] := va_S.rf
  have hP : va_P (dC, dI) vwCl [(h, .inr (9, [.ref hPA, .ref hRD, .ref hRB, .ref hPE, .ref hHO, .ref hAG, .ref hLO, .ref hRQ, .ref hEX, .ref aFR])), (hLO, .inr (3, [.ref aLP, .ref aLL, .int (nI ln)]))] s.heap := hP
  have hl := lv_entry ([.ref h, .int (nI k), .int x0, .ref aO]) (n := 5) (Nat.le_of_ble_eq_true rfl)
  rw [lg_entry_eq]
  generalize (lg_sl ([.ref h, .int (nI k), .int x0, .ref aO]) ++ List.replicate (5 - (lg_sl ([.ref h, .int (nI k), .int x0, .ref aO])).length) Slot.unset).toArray = ls at hl ⊢
  have hl : lv_has ls 5 [(0, .ref h), (1, .int (nI k)), (2, .int x0), (3, .ref aO)] := hl
  refine lv_aload_n hx hb d_LW_look_0 rfl (lv_at hl 3 rfl) ?_
  refine lv_iconst (v := 0) hx hb d_LW_look_1 (by decide) ?_
  refine lv_aload_n hx hb d_LW_look_2 rfl (lv_at hl 0 rfl) ?_
  refine lv_iload_n hx hb d_LW_look_3 rfl (lv_at hl 1 rfl) ?_
  refine lv_iload_n hx hb d_LW_look_4 rfl (lv_at hl 2 rfl) ?_
  have hPc := hP.sub (ws' := [(h, .inr (9, [.ref hPA, .ref hRD, .ref hRB, .ref hPE, .ref hHO, .ref hAG, .ref hLO, .ref hRQ, .ref hEX, .ref aFR])), (hLO, .inr (3, [.ref aLP, .ref aLL, .int (nI ln)]))]) [0, 1] rfl
  have hKc := hK.sub (tys' := []) [] rfl
  refine xk_callV (As := [.int (nI k), .int x0]) (rest := [.int 0, .ref aO]) ⟨hx, hb, hml, hown, hts⟩ (t_RR_look2 l hst dC dI N0 h hPA hRD hRB hPE hHO hAG hLO hRQ hEX aFR aLP aLL ln (hln) k (hk) x0 (hbad)) (cwV 2 hts (vz_gV wb_LW_look b_550 b_551 b_552 b_1 wc_RR_look) rfl rfl rfl (by decide +kernel) ⟨Nat.le_of_ble_eq_true rfl, Nat.le_of_ble_eq_true rfl⟩) (vz_preVt hPc hKc hE hN hS (ci := 9) (q0 := 0) rfl rfl) rfl rfl hl.1 (Nat.le_of_ble_eq_true rfl) d_LW_look_5 ⟨Nat.le_of_ble_eq_true rfl, Nat.le_of_ble_eq_true rfl⟩ (fun q9 H9 hnew => ?_)
  obtain ⟨z1, hL9, hz1⟩ := xk_tab1 htb
  refine xk_catchN (hp := 13) (k := 23) hown [] z1 [] hL9 (fun z hz => nomatch hz) (xkRow.of hz1 (by decide) (by decide)) (by decide) (hts _ (wb_LW_look _ b_381)) (va_Nw.use rfl (hE.1 _ (by simp [xkBad]))) hnew ?_
  have hS : va_S (fun _ => False) s.heap H9 [] := ⟨hnew.1, fun q hq _ => hnew.2.1 q hq, fun _ h => nomatch h⟩
  refine lv_astore (lv' := [(4, .ref q9), (0, .ref h), (1, .int (nI k)), (2, .int x0), (3, .ref aO)]) hx hb d_LW_look_13 hl (by decide) rfl (fun ls hl => ?_)
  refine lv_iconst (v := 1) hx hb d_LW_look_15 (by decide) ?_
  exact W.iret (v := 1) hx hb hr (fun t ht hW => ⟨⟨1, (), rfl, rfl, trivial⟩, hS.F ht⟩) hS.2.2 d_LW_look_16

set_option maxHeartbeats 4000000 in
set_option maxRecDepth 100000 in
theorem c_LW_lookedB1 (l : Launch) (hst : l.stackTraces = false) (dC : Nat → ClassId) (dI : Nat → Nat → Nat) (N0 : Nat) (h hPA hRD hRB hPE hHO hAG hLO hRQ hEX aFR : Nat) (aFa aEm aVa : Nat) (hn : Nat) (x0 : Int32) (hbad : x0 < 0 ∨ nI hn ≤ x0) (k : Int32) (aO : Nat) : Met l y_LW_looked ws_LW_looked ({ frames := 8, cells := 1, slots := 6, locals := 133 }) (va_Pc [.ref h, .int x0, .int k, .ref aO] (fun U => va_P (dC, dI) vwCl [(h, .inr (9, [.ref hPA, .ref hRD, .ref hRB, .ref hPE, .ref hHO, .ref hAG, .ref hLO, .ref hRQ, .ref hEX, .ref aFR])), (hHO, .inr (2, [.ref aFa, .ref aEm, .ref aVa, .int (nI hn)]))] U.heap ∧ va_K (dC, dI) vwCl [] U ∧ xkE N0 U ∧ N0 ≤ U.heap.size ∧ xkNos U)) (va_Qi (fun (res : Int32) (_ : Unit) => res = 1) (fun _ _ => True) (fun _ => False)) 1 6 (fun _ => False) := by
  refine xk_MetW (cc := k_LW_looked) (maxL := 5) (ret := (some .int)) (by decide) rfl ?_
  intro p e s m args below meth c s₁ B hml htb hv
  obtain ⟨rfl, hP, hK, hE, hN, hNo⟩ := hv
  have hx := B.exec
  have hb := B.bytes
  have hr := B.returns
  have hts := atoms_spec (ws := ws_LW_looked) B.pre
  have hown : s.vm.findClass R_LW = some m.cls := findClass_of_methodNamed B.named
  have hlocks := B.notSynchronized
  have hS : va_S (fun _ => False) s.heap s.heap [] := va_S.rf
  have hP : va_P (dC, dI) vwCl [(h, .inr (9, [.ref hPA, .ref hRD, .ref hRB, .ref hPE, .ref hHO, .ref hAG, .ref hLO, .ref hRQ, .ref hEX, .ref aFR])), (hHO, .inr (2, [.ref aFa, .ref aEm, .ref aVa, .int (nI hn)]))] s.heap := hP
  have hl := lv_entry ([.ref h, .int x0, .int k, .ref aO]) (n := 5) (Nat.le_of_ble_eq_true rfl)
  rw [lg_entry_eq]
  generalize (lg_sl ([.ref h, .int x0, .int k, .ref aO]) ++ List.replicate (5 - (lg_sl ([.ref h, .int x0, .int k, .ref aO])).length) Slot.unset).toArray = ls at hl ⊢
  have hl : lv_has ls 5 [(0, .ref h), (1, .int x0), (2, .int k), (3, .ref aO)] := hl
  refine lv_aload_n hx hb d_LW_looked_0 rfl (lv_at hl 3 rfl) ?_
  refine lv_iconst (v := 0) hx hb d_LW_looked_1 (by decide) ?_
  refine lv_aload_n hx hb d_LW_looked_2 rfl (lv_at hl 0 rfl) ?_
  refine lv_iload_n hx hb d_LW_looked_3 rfl (lv_at hl 1 rfl) ?_
  refine lv_iload_n hx hb d_LW_looked_4 rfl (lv_at hl 2 rfl) ?_
  have hPc := hP.sub (ws' := [(h, .inr (9, [.ref hPA, .ref hRD, .ref hRB, .ref hPE, .ref hHO, .ref hAG, .ref hLO, .ref hRQ, .ref hEX, .ref aFR])), (hHO, .inr (2, [.ref aFa, .ref aEm, .ref aVa, .int (nI hn)]))]) [0, 1] rfl
  have hKc := hK.sub (tys' := []) [] rfl
  refine xk_callV (As := [.int x0, .int k]) (rest := [.int 0, .ref aO]) ⟨hx, hb, hml, hown, hts⟩ (t_RR_looked1 l hst dC dI N0 h hPA hRD hRB hPE hHO hAG hLO hRQ hEX aFR aFa aEm aVa hn x0 (hbad) k) (cwV 2 hts (vz_gV wb_LW_looked b_563 b_564 b_565 b_1 wc_RR_looked) rfl rfl rfl (by decide +kernel) ⟨Nat.le_of_ble_eq_true rfl, Nat.le_of_ble_eq_true rfl⟩) (vz_preVt hPc hKc hE hN hS (ci := 9) (q0 := 0) rfl rfl) rfl rfl hl.1 (Nat.le_of_ble_eq_true rfl) d_LW_looked_5 ⟨Nat.le_of_ble_eq_true rfl, Nat.le_of_ble_eq_true rfl⟩ (fun q9 H9 hnew => ?_)
  obtain ⟨z1, hL9, hz1⟩ := xk_tab1 htb
  refine xk_catchN (hp := 13) (k := 23) hown [] z1 [] hL9 (fun z hz => nomatch hz) (xkRow.of hz1 (by decide) (by decide)) (by decide) (hts _ (wb_LW_looked _ b_381)) (va_Nw.use rfl (hE.1 _ (by simp [xkBad]))) hnew ?_
  have hS : va_S (fun _ => False) s.heap H9 [] := ⟨hnew.1, fun q hq _ => hnew.2.1 q hq, fun _ h => nomatch h⟩
  refine lv_astore (lv' := [(4, .ref q9), (0, .ref h), (1, .int x0), (2, .int k), (3, .ref aO)]) hx hb d_LW_looked_13 hl (by decide) rfl (fun ls hl => ?_)
  refine lv_iconst (v := 1) hx hb d_LW_looked_15 (by decide) ?_
  exact W.iret (v := 1) hx hb hr (fun t ht hW => ⟨⟨1, (), rfl, rfl, trivial⟩, hS.F ht⟩) hS.2.2 d_LW_looked_16

set_option maxHeartbeats 4000000 in
set_option maxRecDepth 100000 in
theorem c_LW_lookedB2 (l : Launch) (hst : l.stackTraces = false) (dC : Nat → ClassId) (dI : Nat → Nat → Nat) (N0 : Nat) (h hPA hRD hRB hPE hHO hAG hLO hRQ hEX aFR : Nat) (aFa aEm aVa : Nat) (hn : Nat) (hhn : hn ≤ 16) (r : Nat) (hr0 : r < hn) (k : Int32) (hbad : k < 0) (aO : Nat) : Met l y_LW_looked ws_LW_looked ({ frames := 7, cells := 1, slots := 6, locals := 112 }) (va_Pc [.ref h, .int (nI r), .int k, .ref aO] (fun U => va_P (dC, dI) vwCl [(h, .inr (9, [.ref hPA, .ref hRD, .ref hRB, .ref hPE, .ref hHO, .ref hAG, .ref hLO, .ref hRQ, .ref hEX, .ref aFR])), (hHO, .inr (2, [.ref aFa, .ref aEm, .ref aVa, .int (nI hn)]))] U.heap ∧ va_K (dC, dI) vwCl [] U ∧ xkE N0 U ∧ N0 ≤ U.heap.size ∧ xkNos U)) (va_Qi (fun (res : Int32) (_ : Unit) => res = 1) (fun _ _ => True) (fun _ => False)) 1 6 (fun _ => False) := by
  refine xk_MetW (cc := k_LW_looked) (maxL := 5) (ret := (some .int)) (by decide) rfl ?_
  intro p e s m args below meth c s₁ B hml htb hv
  obtain ⟨rfl, hP, hK, hE, hN, hNo⟩ := hv
  have hx := B.exec
  have hb := B.bytes
  have hr := B.returns
  have hts := atoms_spec (ws := ws_LW_looked) B.pre
  have hown : s.vm.findClass R_LW = some m.cls := findClass_of_methodNamed B.named
  have hlocks := B.notSynchronized
  have hS : va_S (fun _ => False) s.heap s.heap [] := va_S.rf
  have hP : va_P (dC, dI) vwCl [(h, .inr (9, [.ref hPA, .ref hRD, .ref hRB, .ref hPE, .ref hHO, .ref hAG, .ref hLO, .ref hRQ, .ref hEX, .ref aFR])), (hHO, .inr (2, [.ref aFa, .ref aEm, .ref aVa, .int (nI hn)]))] s.heap := hP
  have hl := lv_entry ([.ref h, .int (nI r), .int k, .ref aO]) (n := 5) (Nat.le_of_ble_eq_true rfl)
  rw [lg_entry_eq]
  generalize (lg_sl ([.ref h, .int (nI r), .int k, .ref aO]) ++ List.replicate (5 - (lg_sl ([.ref h, .int (nI r), .int k, .ref aO])).length) Slot.unset).toArray = ls at hl ⊢
  have hl : lv_has ls 5 [(0, .ref h), (1, .int (nI r)), (2, .int k), (3, .ref aO)] := hl
  refine lv_aload_n hx hb d_LW_looked_0 rfl (lv_at hl 3 rfl) ?_
  refine lv_iconst (v := 0) hx hb d_LW_looked_1 (by decide) ?_
  refine lv_aload_n hx hb d_LW_looked_2 rfl (lv_at hl 0 rfl) ?_
  refine lv_iload_n hx hb d_LW_looked_3 rfl (lv_at hl 1 rfl) ?_
  refine lv_iload_n hx hb d_LW_looked_4 rfl (lv_at hl 2 rfl) ?_
  have hPc := hP.sub (ws' := [(h, .inr (9, [.ref hPA, .ref hRD, .ref hRB, .ref hPE, .ref hHO, .ref hAG, .ref hLO, .ref hRQ, .ref hEX, .ref aFR])), (hHO, .inr (2, [.ref aFa, .ref aEm, .ref aVa, .int (nI hn)]))]) [0, 1] rfl
  have hKc := hK.sub (tys' := []) [] rfl
  refine xk_callV (As := [.int (nI r), .int k]) (rest := [.int 0, .ref aO]) ⟨hx, hb, hml, hown, hts⟩ (t_RR_looked2 l hst dC dI N0 h hPA hRD hRB hPE hHO hAG hLO hRQ hEX aFR aFa aEm aVa hn (hhn) r (hr0) k (hbad)) (cwV 2 hts (vz_gV wb_LW_looked b_563 b_564 b_565 b_1 wc_RR_looked) rfl rfl rfl (by decide +kernel) ⟨Nat.le_of_ble_eq_true rfl, Nat.le_of_ble_eq_true rfl⟩) (vz_preVt hPc hKc hE hN hS (ci := 9) (q0 := 0) rfl rfl) rfl rfl hl.1 (Nat.le_of_ble_eq_true rfl) d_LW_looked_5 ⟨Nat.le_of_ble_eq_true rfl, Nat.le_of_ble_eq_true rfl⟩ (fun q9 H9 hnew => ?_)
  obtain ⟨z1, hL9, hz1⟩ := xk_tab1 htb
  refine xk_catchN (hp := 13) (k := 23) hown [] z1 [] hL9 (fun z hz => nomatch hz) (xkRow.of hz1 (by decide) (by decide)) (by decide) (hts _ (wb_LW_looked _ b_381)) (va_Nw.use rfl (hE.1 _ (by simp [xkBad]))) hnew ?_
  have hS : va_S (fun _ => False) s.heap H9 [] := ⟨hnew.1, fun q hq _ => hnew.2.1 q hq, fun _ h => nomatch h⟩
  refine lv_astore (lv' := [(4, .ref q9), (0, .ref h), (1, .int (nI r)), (2, .int k), (3, .ref aO)]) hx hb d_LW_looked_13 hl (by decide) rfl (fun ls hl => ?_)
  refine lv_iconst (v := 1) hx hb d_LW_looked_15 (by decide) ?_
  exact W.iret (v := 1) hx hb hr (fun t ht hW => ⟨⟨1, (), rfl, rfl, trivial⟩, hS.F ht⟩) hS.2.2 d_LW_looked_16

set_option maxHeartbeats 4000000 in
set_option maxRecDepth 100000 in
theorem c_LW_exportB1 (l : Launch) (hst : l.stackTraces = false) (dC : Nat → ClassId) (dI : Nat → Nat → Nat) (N0 : Nat) (h hPA hRD hRB hPE hHO hAG hLO hRQ hEX aFR : Nat) (aRo aLi : Nat) (en : Nat) (x0 : Int32) (hbad : x0 < 0 ∨ nI en ≤ x0) (d : Int32) (aO : Nat) : Met l y_LW_export ws_LW_export ({ frames := 8, cells := 1, slots := 6, locals := 134 }) (va_Pc [.ref h, .int x0, .int d, .ref aO] (fun U => va_P (dC, dI) vwCl [(h, .inr (9, [.ref hPA, .ref hRD, .ref hRB, .ref hPE, .ref hHO, .ref hAG, .ref hLO, .ref hRQ, .ref hEX, .ref aFR])), (hPE, .inr (5, [.ref aRo, .ref aLi, .int (nI en)]))] U.heap ∧ va_K (dC, dI) vwCl [] U ∧ xkE N0 U ∧ N0 ≤ U.heap.size ∧ xkNos U)) (va_Qi (fun (res : Int32) (_ : Unit) => res = 1) (fun _ _ => True) (fun _ => False)) 1 6 (fun _ => False) := by
  refine xk_MetW (cc := k_LW_export) (maxL := 5) (ret := (some .int)) (by decide) rfl ?_
  intro p e s m args below meth c s₁ B hml htb hv
  obtain ⟨rfl, hP, hK, hE, hN, hNo⟩ := hv
  have hx := B.exec
  have hb := B.bytes
  have hr := B.returns
  have hts := atoms_spec (ws := ws_LW_export) B.pre
  have hown : s.vm.findClass R_LW = some m.cls := findClass_of_methodNamed B.named
  have hlocks := B.notSynchronized
  have hS : va_S (fun _ => False) s.heap s.heap [] := va_S.rf
  have hP : va_P (dC, dI) vwCl [(h, .inr (9, [.ref hPA, .ref hRD, .ref hRB, .ref hPE, .ref hHO, .ref hAG, .ref hLO, .ref hRQ, .ref hEX, .ref aFR])), (hPE, .inr (5, [.ref aRo, .ref aLi, .int (nI en)]))] s.heap := hP
  have hl := lv_entry ([.ref h, .int x0, .int d, .ref aO]) (n := 5) (Nat.le_of_ble_eq_true rfl)
  rw [lg_entry_eq]
  generalize (lg_sl ([.ref h, .int x0, .int d, .ref aO]) ++ List.replicate (5 - (lg_sl ([.ref h, .int x0, .int d, .ref aO])).length) Slot.unset).toArray = ls at hl ⊢
  have hl : lv_has ls 5 [(0, .ref h), (1, .int x0), (2, .int d), (3, .ref aO)] := hl
  refine lv_aload_n hx hb d_LW_export_0 rfl (lv_at hl 3 rfl) ?_
  refine lv_iconst (v := 0) hx hb d_LW_export_1 (by decide) ?_
  refine lv_aload_n hx hb d_LW_export_2 rfl (lv_at hl 0 rfl) ?_
  refine lv_iload_n hx hb d_LW_export_3 rfl (lv_at hl 1 rfl) ?_
  refine lv_iload_n hx hb d_LW_export_4 rfl (lv_at hl 2 rfl) ?_
  have hPc := hP.sub (ws' := [(h, .inr (9, [.ref hPA, .ref hRD, .ref hRB, .ref hPE, .ref hHO, .ref hAG, .ref hLO, .ref hRQ, .ref hEX, .ref aFR])), (hPE, .inr (5, [.ref aRo, .ref aLi, .int (nI en)]))]) [0, 1] rfl
  have hKc := hK.sub (tys' := []) [] rfl
  refine xk_callV (As := [.int x0, .int d]) (rest := [.int 0, .ref aO]) ⟨hx, hb, hml, hown, hts⟩ (t_RR_export1 l hst dC dI N0 h hPA hRD hRB hPE hHO hAG hLO hRQ hEX aFR aRo aLi en x0 (hbad) d) (cwV 2 hts (vz_gV wb_LW_export b_575 b_576 b_577 b_1 wc_RR_export) rfl rfl rfl (by decide +kernel) ⟨Nat.le_of_ble_eq_true rfl, Nat.le_of_ble_eq_true rfl⟩) (vz_preVt hPc hKc hE hN hS (ci := 9) (q0 := 0) rfl rfl) rfl rfl hl.1 (Nat.le_of_ble_eq_true rfl) d_LW_export_5 ⟨Nat.le_of_ble_eq_true rfl, Nat.le_of_ble_eq_true rfl⟩ (fun q9 H9 hnew => ?_)
  obtain ⟨z1, z2, hL9, hz1, hz2⟩ := xk_tab2 htb
  refine xk_catchN (hp := 13) (k := 23) hown [] z1 [z2] hL9 (fun z hz => nomatch hz) (xkRow.of hz1 (by decide) (by decide)) (by decide) (hts _ (wb_LW_export _ b_381)) (va_Nw.use rfl (hE.1 _ (by simp [xkBad]))) hnew ?_
  have hS : va_S (fun _ => False) s.heap H9 [] := ⟨hnew.1, fun q hq _ => hnew.2.1 q hq, fun _ h => nomatch h⟩
  refine lv_astore (lv' := [(4, .ref q9), (0, .ref h), (1, .int x0), (2, .int d), (3, .ref aO)]) hx hb d_LW_export_13 hl (by decide) rfl (fun ls hl => ?_)
  refine lv_iconst (v := 1) hx hb d_LW_export_15 (by decide) ?_
  exact W.iret (v := 1) hx hb hr (fun t ht hW => ⟨⟨1, (), rfl, rfl, trivial⟩, hS.F ht⟩) hS.2.2 d_LW_export_16

set_option maxHeartbeats 4000000 in
set_option maxRecDepth 100000 in
theorem c_LW_exportB2 (l : Launch) (hst : l.stackTraces = false) (dC : Nat → ClassId) (dI : Nat → Nat → Nat) (N0 : Nat) (h hPA hRD hRB hPE hHO hAG hLO hRQ hEX aFR : Nat) (aRo aLi : Nat) (en : Nat) (hen : en ≤ 12) (u : Nat) (hu : u < en) (x0 : Int32) (hbad : x0 < 0 ∨ 100000 < x0) (aO : Nat) : Met l y_LW_export ws_LW_export ({ frames := 8, cells := 1, slots := 6, locals := 133 }) (va_Pc [.ref h, .int (nI u), .int x0, .ref aO] (fun U => va_P (dC, dI) vwCl [(h, .inr (9, [.ref hPA, .ref hRD, .ref hRB, .ref hPE, .ref hHO, .ref hAG, .ref hLO, .ref hRQ, .ref hEX, .ref aFR])), (hPE, .inr (5, [.ref aRo, .ref aLi, .int (nI en)]))] U.heap ∧ va_K (dC, dI) vwCl [] U ∧ xkE N0 U ∧ N0 ≤ U.heap.size ∧ xkNos U)) (va_Qi (fun (res : Int32) (_ : Unit) => res = 2) (fun _ _ => True) (fun _ => False)) 1 6 (fun _ => False) := by
  refine xk_MetW (cc := k_LW_export) (maxL := 5) (ret := (some .int)) (by decide) rfl ?_
  intro p e s m args below meth c s₁ B hml htb hv
  obtain ⟨rfl, hP, hK, hE, hN, hNo⟩ := hv
  have hx := B.exec
  have hb := B.bytes
  have hr := B.returns
  have hts := atoms_spec (ws := ws_LW_export) B.pre
  have hown : s.vm.findClass R_LW = some m.cls := findClass_of_methodNamed B.named
  have hlocks := B.notSynchronized
  have hS : va_S (fun _ => False) s.heap s.heap [] := va_S.rf
  have hP : va_P (dC, dI) vwCl [(h, .inr (9, [.ref hPA, .ref hRD, .ref hRB, .ref hPE, .ref hHO, .ref hAG, .ref hLO, .ref hRQ, .ref hEX, .ref aFR])), (hPE, .inr (5, [.ref aRo, .ref aLi, .int (nI en)]))] s.heap := hP
  have hl := lv_entry ([.ref h, .int (nI u), .int x0, .ref aO]) (n := 5) (Nat.le_of_ble_eq_true rfl)
  rw [lg_entry_eq]
  generalize (lg_sl ([.ref h, .int (nI u), .int x0, .ref aO]) ++ List.replicate (5 - (lg_sl ([.ref h, .int (nI u), .int x0, .ref aO])).length) Slot.unset).toArray = ls at hl ⊢
  have hl : lv_has ls 5 [(0, .ref h), (1, .int (nI u)), (2, .int x0), (3, .ref aO)] := hl
  refine lv_aload_n hx hb d_LW_export_0 rfl (lv_at hl 3 rfl) ?_
  refine lv_iconst (v := 0) hx hb d_LW_export_1 (by decide) ?_
  refine lv_aload_n hx hb d_LW_export_2 rfl (lv_at hl 0 rfl) ?_
  refine lv_iload_n hx hb d_LW_export_3 rfl (lv_at hl 1 rfl) ?_
  refine lv_iload_n hx hb d_LW_export_4 rfl (lv_at hl 2 rfl) ?_
  have hPc := hP.sub (ws' := [(h, .inr (9, [.ref hPA, .ref hRD, .ref hRB, .ref hPE, .ref hHO, .ref hAG, .ref hLO, .ref hRQ, .ref hEX, .ref aFR])), (hPE, .inr (5, [.ref aRo, .ref aLi, .int (nI en)]))]) [0, 1] rfl
  have hKc := hK.sub (tys' := []) [] rfl
  refine xk_callV (As := [.int (nI u), .int x0]) (rest := [.int 0, .ref aO]) ⟨hx, hb, hml, hown, hts⟩ (t_RR_export2 l hst dC dI N0 h hPA hRD hRB hPE hHO hAG hLO hRQ hEX aFR aRo aLi en (hen) u (hu) x0 (hbad)) (cwV 2 hts (vz_gV wb_LW_export b_575 b_576 b_577 b_1 wc_RR_export) rfl rfl rfl (by decide +kernel) ⟨Nat.le_of_ble_eq_true rfl, Nat.le_of_ble_eq_true rfl⟩) (vz_preVt hPc hKc hE hN hS (ci := 9) (q0 := 0) rfl rfl) rfl rfl hl.1 (Nat.le_of_ble_eq_true rfl) d_LW_export_5 ⟨Nat.le_of_ble_eq_true rfl, Nat.le_of_ble_eq_true rfl⟩ (fun q9 H9 hnew => ?_)
  obtain ⟨z1, z2, hL9, hz1, hz2⟩ := xk_tab2 htb
  refine xk_catchN (hp := 17) (k := 29) hown [z1] z2 [] hL9 (fun z hz => by
    simp only [List.mem_cons, List.not_mem_nil, or_false] at hz
    subst hz
    exact ⟨_, _, "java/util/NoSuchElementException", xkRow.of hz1 (by decide) (by decide), by decide, (hts _ (wb_LW_export _ b_381)), hNo.2.1⟩) (xkRow.of hz2 (by decide) (by decide)) (by decide) (hts _ (wb_LW_export _ b_409)) (va_Nw.use rfl (hE.1 _ (by simp [xkBad]))) hnew ?_
  have hS : va_S (fun _ => False) s.heap H9 [] := ⟨hnew.1, fun q hq _ => hnew.2.1 q hq, fun _ h => nomatch h⟩
  refine lv_astore (lv' := [(4, .ref q9), (0, .ref h), (1, .int (nI u)), (2, .int x0), (3, .ref aO)]) hx hb d_LW_export_17 hl (by decide) rfl (fun ls hl => ?_)
  refine lv_iconst (v := 2) hx hb d_LW_export_19 (by decide) ?_
  exact W.iret (v := 2) hx hb hr (fun t ht hW => ⟨⟨2, (), rfl, rfl, trivial⟩, hS.F ht⟩) hS.2.2 d_LW_export_20

set_option maxHeartbeats 4000000 in
set_option maxRecDepth 100000 in
theorem c_LW_exportedB (l : Launch) (hst : l.stackTraces = false) (dC : Nat → ClassId) (dI : Nat → Nat → Nat) (N0 : Nat) (h hPA hRD hRB hPE hHO hAG hLO hRQ hEX aFR : Nat) (aER : Nat) (xn : Nat) (x0 : Int32) (hbad : x0 < 0 ∨ nI xn ≤ x0) (aO : Nat) : Met l y_LW_exported ws_LW_exported ({ frames := 7, cells := 1, slots := 6, locals := 111 }) (va_Pc [.ref h, .int x0, .ref aO] (fun U => va_P (dC, dI) vwCl [(h, .inr (9, [.ref hPA, .ref hRD, .ref hRB, .ref hPE, .ref hHO, .ref hAG, .ref hLO, .ref hRQ, .ref hEX, .ref aFR])), (hEX, .inr (1, [.ref aER, .int (nI xn)]))] U.heap ∧ va_K (dC, dI) vwCl [] U ∧ xkE N0 U ∧ N0 ≤ U.heap.size ∧ xkNos U)) (va_Qi (fun (res : Int32) (_ : Unit) => res = 1) (fun _ _ => True) (fun _ => False)) 1 6 (fun _ => False) := by
  refine xk_MetW (cc := k_LW_exported) (maxL := 4) (ret := (some .int)) (by decide) rfl ?_
  intro p e s m args below meth c s₁ B hml htb hv
  obtain ⟨rfl, hP, hK, hE, hN, hNo⟩ := hv
  have hx := B.exec
  have hb := B.bytes
  have hr := B.returns
  have hts := atoms_spec (ws := ws_LW_exported) B.pre
  have hown : s.vm.findClass R_LW = some m.cls := findClass_of_methodNamed B.named
  have hlocks := B.notSynchronized
  have hS : va_S (fun _ => False) s.heap s.heap [] := va_S.rf
  have hP : va_P (dC, dI) vwCl [(h, .inr (9, [.ref hPA, .ref hRD, .ref hRB, .ref hPE, .ref hHO, .ref hAG, .ref hLO, .ref hRQ, .ref hEX, .ref aFR])), (hEX, .inr (1, [.ref aER, .int (nI xn)]))] s.heap := hP
  have hl := lv_entry ([.ref h, .int x0, .ref aO]) (n := 4) (Nat.le_of_ble_eq_true rfl)
  rw [lg_entry_eq]
  generalize (lg_sl ([.ref h, .int x0, .ref aO]) ++ List.replicate (4 - (lg_sl ([.ref h, .int x0, .ref aO])).length) Slot.unset).toArray = ls at hl ⊢
  have hl : lv_has ls 4 [(0, .ref h), (1, .int x0), (2, .ref aO)] := hl
  refine lv_aload_n hx hb d_LW_exported_0 rfl (lv_at hl 2 rfl) ?_
  refine lv_iconst (v := 0) hx hb d_LW_exported_1 (by decide) ?_
  refine lv_aload_n hx hb d_LW_exported_2 rfl (lv_at hl 0 rfl) ?_
  refine lv_iload_n hx hb d_LW_exported_3 rfl (lv_at hl 1 rfl) ?_
  have hPc := hP.sub (ws' := [(h, .inr (9, [.ref hPA, .ref hRD, .ref hRB, .ref hPE, .ref hHO, .ref hAG, .ref hLO, .ref hRQ, .ref hEX, .ref aFR])), (hEX, .inr (1, [.ref aER, .int (nI xn)]))]) [0, 1] rfl
  have hKc := hK.sub (tys' := []) [] rfl
  refine xk_callV (As := [.int x0]) (rest := [.int 0, .ref aO]) ⟨hx, hb, hml, hown, hts⟩ (t_RR_exported l hst dC dI N0 h hPA hRD hRB hPE hHO hAG hLO hRQ hEX aFR aER xn x0 (hbad)) (cwV 1 hts (vz_gV wb_LW_exported b_590 b_591 b_592 b_1 wc_RR_exported) rfl rfl rfl (by decide +kernel) ⟨Nat.le_of_ble_eq_true rfl, Nat.le_of_ble_eq_true rfl⟩) (vz_preVt hPc hKc hE hN hS (ci := 9) (q0 := 0) rfl rfl) rfl rfl hl.1 (Nat.le_of_ble_eq_true rfl) d_LW_exported_4 ⟨Nat.le_of_ble_eq_true rfl, Nat.le_of_ble_eq_true rfl⟩ (fun q9 H9 hnew => ?_)
  obtain ⟨z1, hL9, hz1⟩ := xk_tab1 htb
  refine xk_catchN (hp := 12) (k := 23) hown [] z1 [] hL9 (fun z hz => nomatch hz) (xkRow.of hz1 (by decide) (by decide)) (by decide) (hts _ (wb_LW_exported _ b_381)) (va_Nw.use rfl (hE.1 _ (by simp [xkBad]))) hnew ?_
  have hS : va_S (fun _ => False) s.heap H9 [] := ⟨hnew.1, fun q hq _ => hnew.2.1 q hq, fun _ h => nomatch h⟩
  refine lv_astore_n (lv' := [(3, .ref q9), (0, .ref h), (1, .int x0), (2, .ref aO)]) hx hb d_LW_exported_12 rfl hl (by decide) rfl (fun ls hl => ?_)
  refine lv_iconst (v := 1) hx hb d_LW_exported_13 (by decide) ?_
  exact W.iret (v := 1) hx hb hr (fun t ht hW => ⟨⟨1, (), rfl, rfl, trivial⟩, hS.F ht⟩) hS.2.2 d_LW_exported_14

set_option maxHeartbeats 4000000 in
set_option maxRecDepth 100000 in
theorem c_LW_requestB1 (l : Launch) (hst : l.stackTraces = false) (dC : Nat → ClassId) (dI : Nat → Nat → Nat) (N0 : Nat) (h hPA hRD hRB hPE hHO hAG hLO hRQ hEX aFR : Nat) (aRo aLi : Nat) (en : Nat) (aFa aEm aVa : Nat) (hn : Nat) (x0 : Int32) (hbad : x0 < 0 ∨ nI en ≤ x0) (r d : Int32) (aO : Nat) : Met l y_LW_request ws_LW_request ({ frames := 8, cells := 1, slots := 6, locals := 135 }) (va_Pc [.ref h, .int x0, .int r, .int d, .ref aO] (fun U => va_P (dC, dI) vwCl [(h, .inr (9, [.ref hPA, .ref hRD, .ref hRB, .ref hPE, .ref hHO, .ref hAG, .ref hLO, .ref hRQ, .ref hEX, .ref aFR])), (hPE, .inr (5, [.ref aRo, .ref aLi, .int (nI en)])), (hHO, .inr (2, [.ref aFa, .ref aEm, .ref aVa, .int (nI hn)]))] U.heap ∧ va_K (dC, dI) vwCl [] U ∧ xkE N0 U ∧ N0 ≤ U.heap.size ∧ xkNos U)) (va_Qi (fun (res : Int32) (_ : Unit) => res = 1) (fun _ _ => True) (fun _ => False)) 1 6 (fun _ => False) := by
  refine xk_MetW (cc := k_LW_request) (maxL := 6) (ret := (some .int)) (by decide) rfl ?_
  intro p e s m args below meth c s₁ B hml htb hv
  obtain ⟨rfl, hP, hK, hE, hN, hNo⟩ := hv
  have hx := B.exec
  have hb := B.bytes
  have hr := B.returns
  have hts := atoms_spec (ws := ws_LW_request) B.pre
  have hown : s.vm.findClass R_LW = some m.cls := findClass_of_methodNamed B.named
  have hlocks := B.notSynchronized
  have hS : va_S (fun _ => False) s.heap s.heap [] := va_S.rf
  have hP : va_P (dC, dI) vwCl [(h, .inr (9, [.ref hPA, .ref hRD, .ref hRB, .ref hPE, .ref hHO, .ref hAG, .ref hLO, .ref hRQ, .ref hEX, .ref aFR])), (hPE, .inr (5, [.ref aRo, .ref aLi, .int (nI en)])), (hHO, .inr (2, [.ref aFa, .ref aEm, .ref aVa, .int (nI hn)]))] s.heap := hP
  have hl := lv_entry ([.ref h, .int x0, .int r, .int d, .ref aO]) (n := 6) (Nat.le_of_ble_eq_true rfl)
  rw [lg_entry_eq]
  generalize (lg_sl ([.ref h, .int x0, .int r, .int d, .ref aO]) ++ List.replicate (6 - (lg_sl ([.ref h, .int x0, .int r, .int d, .ref aO])).length) Slot.unset).toArray = ls at hl ⊢
  have hl : lv_has ls 6 [(0, .ref h), (1, .int x0), (2, .int r), (3, .int d), (4, .ref aO)] := hl
  refine lv_aload hx hb d_LW_request_0 (lv_at hl 4 rfl) ?_
  refine lv_iconst (v := 0) hx hb d_LW_request_2 (by decide) ?_
  refine lv_aload_n hx hb d_LW_request_3 rfl (lv_at hl 0 rfl) ?_
  refine lv_iload_n hx hb d_LW_request_4 rfl (lv_at hl 1 rfl) ?_
  refine lv_iload_n hx hb d_LW_request_5 rfl (lv_at hl 2 rfl) ?_
  refine lv_iload_n hx hb d_LW_request_6 rfl (lv_at hl 3 rfl) ?_
  have hPc := hP.sub (ws' := [(h, .inr (9, [.ref hPA, .ref hRD, .ref hRB, .ref hPE, .ref hHO, .ref hAG, .ref hLO, .ref hRQ, .ref hEX, .ref aFR])), (hPE, .inr (5, [.ref aRo, .ref aLi, .int (nI en)])), (hHO, .inr (2, [.ref aFa, .ref aEm, .ref aVa, .int (nI hn)]))]) [0, 1, 2] rfl
  have hKc := hK.sub (tys' := []) [] rfl
  refine xk_callV (As := [.int x0, .int r, .int d]) (rest := [.int 0, .ref aO]) ⟨hx, hb, hml, hown, hts⟩ (t_RR_request1 l hst dC dI N0 h hPA hRD hRB hPE hHO hAG hLO hRQ hEX aFR aRo aLi en aFa aEm aVa hn x0 (hbad) r d) (cwV 3 hts (vz_gV wb_LW_request b_598 b_599 b_600 b_1 wc_RR_request) rfl rfl rfl (by decide +kernel) ⟨Nat.le_of_ble_eq_true rfl, Nat.le_of_ble_eq_true rfl⟩) (vz_preVt hPc hKc hE hN hS (ci := 9) (q0 := 0) rfl rfl) rfl rfl hl.1 (Nat.le_of_ble_eq_true rfl) d_LW_request_7 ⟨Nat.le_of_ble_eq_true rfl, Nat.le_of_ble_eq_true rfl⟩ (fun q9 H9 hnew => ?_)
  obtain ⟨z1, z2, z3, hL9, hz1, hz2, hz3⟩ := xk_tab3 htb
  refine xk_catchN (hp := 15) (k := 23) hown [] z1 [z2, z3] hL9 (fun z hz => nomatch hz) (xkRow.of hz1 (by decide) (by decide)) (by decide) (hts _ (wb_LW_request _ b_381)) (va_Nw.use rfl (hE.1 _ (by simp [xkBad]))) hnew ?_
  have hS : va_S (fun _ => False) s.heap H9 [] := ⟨hnew.1, fun q hq _ => hnew.2.1 q hq, fun _ h => nomatch h⟩
  refine lv_astore (lv' := [(5, .ref q9), (0, .ref h), (1, .int x0), (2, .int r), (3, .int d), (4, .ref aO)]) hx hb d_LW_request_15 hl (by decide) rfl (fun ls hl => ?_)
  refine lv_iconst (v := 1) hx hb d_LW_request_17 (by decide) ?_
  exact W.iret (v := 1) hx hb hr (fun t ht hW => ⟨⟨1, (), rfl, rfl, trivial⟩, hS.F ht⟩) hS.2.2 d_LW_request_18

set_option maxHeartbeats 4000000 in
set_option maxRecDepth 100000 in
theorem c_LW_requestB2 (l : Launch) (hst : l.stackTraces = false) (dC : Nat → ClassId) (dI : Nat → Nat → Nat) (N0 : Nat) (h hPA hRD hRB hPE hHO hAG hLO hRQ hEX aFR : Nat) (aRo aLi : Nat) (en : Nat) (aFa aEm aVa : Nat) (hn : Nat) (hen : en ≤ 12) (u : Nat) (hu : u < en) (x0 : Int32) (hbad : x0 < 0 ∨ nI hn ≤ x0) (d : Int32) (aO : Nat) : Met l y_LW_request ws_LW_request ({ frames := 8, cells := 1, slots := 6, locals := 135 }) (va_Pc [.ref h, .int (nI u), .int x0, .int d, .ref aO] (fun U => va_P (dC, dI) vwCl [(h, .inr (9, [.ref hPA, .ref hRD, .ref hRB, .ref hPE, .ref hHO, .ref hAG, .ref hLO, .ref hRQ, .ref hEX, .ref aFR])), (hPE, .inr (5, [.ref aRo, .ref aLi, .int (nI en)])), (hHO, .inr (2, [.ref aFa, .ref aEm, .ref aVa, .int (nI hn)]))] U.heap ∧ va_K (dC, dI) vwCl [] U ∧ xkE N0 U ∧ N0 ≤ U.heap.size ∧ xkNos U)) (va_Qi (fun (res : Int32) (_ : Unit) => res = 1) (fun _ _ => True) (fun _ => False)) 1 6 (fun _ => False) := by
  refine xk_MetW (cc := k_LW_request) (maxL := 6) (ret := (some .int)) (by decide) rfl ?_
  intro p e s m args below meth c s₁ B hml htb hv
  obtain ⟨rfl, hP, hK, hE, hN, hNo⟩ := hv
  have hx := B.exec
  have hb := B.bytes
  have hr := B.returns
  have hts := atoms_spec (ws := ws_LW_request) B.pre
  have hown : s.vm.findClass R_LW = some m.cls := findClass_of_methodNamed B.named
  have hlocks := B.notSynchronized
  have hS : va_S (fun _ => False) s.heap s.heap [] := va_S.rf
  have hP : va_P (dC, dI) vwCl [(h, .inr (9, [.ref hPA, .ref hRD, .ref hRB, .ref hPE, .ref hHO, .ref hAG, .ref hLO, .ref hRQ, .ref hEX, .ref aFR])), (hPE, .inr (5, [.ref aRo, .ref aLi, .int (nI en)])), (hHO, .inr (2, [.ref aFa, .ref aEm, .ref aVa, .int (nI hn)]))] s.heap := hP
  have hl := lv_entry ([.ref h, .int (nI u), .int x0, .int d, .ref aO]) (n := 6) (Nat.le_of_ble_eq_true rfl)
  rw [lg_entry_eq]
  generalize (lg_sl ([.ref h, .int (nI u), .int x0, .int d, .ref aO]) ++ List.replicate (6 - (lg_sl ([.ref h, .int (nI u), .int x0, .int d, .ref aO])).length) Slot.unset).toArray = ls at hl ⊢
  have hl : lv_has ls 6 [(0, .ref h), (1, .int (nI u)), (2, .int x0), (3, .int d), (4, .ref aO)] := hl
  refine lv_aload hx hb d_LW_request_0 (lv_at hl 4 rfl) ?_
  refine lv_iconst (v := 0) hx hb d_LW_request_2 (by decide) ?_
  refine lv_aload_n hx hb d_LW_request_3 rfl (lv_at hl 0 rfl) ?_
  refine lv_iload_n hx hb d_LW_request_4 rfl (lv_at hl 1 rfl) ?_
  refine lv_iload_n hx hb d_LW_request_5 rfl (lv_at hl 2 rfl) ?_
  refine lv_iload_n hx hb d_LW_request_6 rfl (lv_at hl 3 rfl) ?_
  have hPc := hP.sub (ws' := [(h, .inr (9, [.ref hPA, .ref hRD, .ref hRB, .ref hPE, .ref hHO, .ref hAG, .ref hLO, .ref hRQ, .ref hEX, .ref aFR])), (hPE, .inr (5, [.ref aRo, .ref aLi, .int (nI en)])), (hHO, .inr (2, [.ref aFa, .ref aEm, .ref aVa, .int (nI hn)]))]) [0, 1, 2] rfl
  have hKc := hK.sub (tys' := []) [] rfl
  refine xk_callV (As := [.int (nI u), .int x0, .int d]) (rest := [.int 0, .ref aO]) ⟨hx, hb, hml, hown, hts⟩ (t_RR_request2 l hst dC dI N0 h hPA hRD hRB hPE hHO hAG hLO hRQ hEX aFR aRo aLi en aFa aEm aVa hn (hen) u (hu) x0 (hbad) d) (cwV 3 hts (vz_gV wb_LW_request b_598 b_599 b_600 b_1 wc_RR_request) rfl rfl rfl (by decide +kernel) ⟨Nat.le_of_ble_eq_true rfl, Nat.le_of_ble_eq_true rfl⟩) (vz_preVt hPc hKc hE hN hS (ci := 9) (q0 := 0) rfl rfl) rfl rfl hl.1 (Nat.le_of_ble_eq_true rfl) d_LW_request_7 ⟨Nat.le_of_ble_eq_true rfl, Nat.le_of_ble_eq_true rfl⟩ (fun q9 H9 hnew => ?_)
  obtain ⟨z1, z2, z3, hL9, hz1, hz2, hz3⟩ := xk_tab3 htb
  refine xk_catchN (hp := 15) (k := 23) hown [] z1 [z2, z3] hL9 (fun z hz => nomatch hz) (xkRow.of hz1 (by decide) (by decide)) (by decide) (hts _ (wb_LW_request _ b_381)) (va_Nw.use rfl (hE.1 _ (by simp [xkBad]))) hnew ?_
  have hS : va_S (fun _ => False) s.heap H9 [] := ⟨hnew.1, fun q hq _ => hnew.2.1 q hq, fun _ h => nomatch h⟩
  refine lv_astore (lv' := [(5, .ref q9), (0, .ref h), (1, .int (nI u)), (2, .int x0), (3, .int d), (4, .ref aO)]) hx hb d_LW_request_15 hl (by decide) rfl (fun ls hl => ?_)
  refine lv_iconst (v := 1) hx hb d_LW_request_17 (by decide) ?_
  exact W.iret (v := 1) hx hb hr (fun t ht hW => ⟨⟨1, (), rfl, rfl, trivial⟩, hS.F ht⟩) hS.2.2 d_LW_request_18

set_option maxHeartbeats 4000000 in
set_option maxRecDepth 100000 in
theorem c_LW_requestB3 (l : Launch) (hst : l.stackTraces = false) (dC : Nat → ClassId) (dI : Nat → Nat → Nat) (N0 : Nat) (h hPA hRD hRB hPE hHO hAG hLO hRQ hEX aFR : Nat) (aRo aLi : Nat) (en : Nat) (aFa aEm aVa : Nat) (hn : Nat) (hen : en ≤ 12) (u : Nat) (hu : u < en) (hhn : hn ≤ 16) (r : Nat) (hr0 : r < hn) (x0 : Int32) (hbad : x0 < 0 ∨ 100000 < x0) (aO : Nat) : Met l y_LW_request ws_LW_request ({ frames := 8, cells := 1, slots := 6, locals := 134 }) (va_Pc [.ref h, .int (nI u), .int (nI r), .int x0, .ref aO] (fun U => va_P (dC, dI) vwCl [(h, .inr (9, [.ref hPA, .ref hRD, .ref hRB, .ref hPE, .ref hHO, .ref hAG, .ref hLO, .ref hRQ, .ref hEX, .ref aFR])), (hPE, .inr (5, [.ref aRo, .ref aLi, .int (nI en)])), (hHO, .inr (2, [.ref aFa, .ref aEm, .ref aVa, .int (nI hn)]))] U.heap ∧ va_K (dC, dI) vwCl [] U ∧ xkE N0 U ∧ N0 ≤ U.heap.size ∧ xkNos U)) (va_Qi (fun (res : Int32) (_ : Unit) => res = 2) (fun _ _ => True) (fun _ => False)) 1 6 (fun _ => False) := by
  refine xk_MetW (cc := k_LW_request) (maxL := 6) (ret := (some .int)) (by decide) rfl ?_
  intro p e s m args below meth c s₁ B hml htb hv
  obtain ⟨rfl, hP, hK, hE, hN, hNo⟩ := hv
  have hx := B.exec
  have hb := B.bytes
  have hr := B.returns
  have hts := atoms_spec (ws := ws_LW_request) B.pre
  have hown : s.vm.findClass R_LW = some m.cls := findClass_of_methodNamed B.named
  have hlocks := B.notSynchronized
  have hS : va_S (fun _ => False) s.heap s.heap [] := va_S.rf
  have hP : va_P (dC, dI) vwCl [(h, .inr (9, [.ref hPA, .ref hRD, .ref hRB, .ref hPE, .ref hHO, .ref hAG, .ref hLO, .ref hRQ, .ref hEX, .ref aFR])), (hPE, .inr (5, [.ref aRo, .ref aLi, .int (nI en)])), (hHO, .inr (2, [.ref aFa, .ref aEm, .ref aVa, .int (nI hn)]))] s.heap := hP
  have hl := lv_entry ([.ref h, .int (nI u), .int (nI r), .int x0, .ref aO]) (n := 6) (Nat.le_of_ble_eq_true rfl)
  rw [lg_entry_eq]
  generalize (lg_sl ([.ref h, .int (nI u), .int (nI r), .int x0, .ref aO]) ++ List.replicate (6 - (lg_sl ([.ref h, .int (nI u), .int (nI r), .int x0, .ref aO])).length) Slot.unset).toArray = ls at hl ⊢
  have hl : lv_has ls 6 [(0, .ref h), (1, .int (nI u)), (2, .int (nI r)), (3, .int x0), (4, .ref aO)] := hl
  refine lv_aload hx hb d_LW_request_0 (lv_at hl 4 rfl) ?_
  refine lv_iconst (v := 0) hx hb d_LW_request_2 (by decide) ?_
  refine lv_aload_n hx hb d_LW_request_3 rfl (lv_at hl 0 rfl) ?_
  refine lv_iload_n hx hb d_LW_request_4 rfl (lv_at hl 1 rfl) ?_
  refine lv_iload_n hx hb d_LW_request_5 rfl (lv_at hl 2 rfl) ?_
  refine lv_iload_n hx hb d_LW_request_6 rfl (lv_at hl 3 rfl) ?_
  have hPc := hP.sub (ws' := [(h, .inr (9, [.ref hPA, .ref hRD, .ref hRB, .ref hPE, .ref hHO, .ref hAG, .ref hLO, .ref hRQ, .ref hEX, .ref aFR])), (hPE, .inr (5, [.ref aRo, .ref aLi, .int (nI en)])), (hHO, .inr (2, [.ref aFa, .ref aEm, .ref aVa, .int (nI hn)]))]) [0, 1, 2] rfl
  have hKc := hK.sub (tys' := []) [] rfl
  refine xk_callV (As := [.int (nI u), .int (nI r), .int x0]) (rest := [.int 0, .ref aO]) ⟨hx, hb, hml, hown, hts⟩ (t_RR_request3 l hst dC dI N0 h hPA hRD hRB hPE hHO hAG hLO hRQ hEX aFR aRo aLi en aFa aEm aVa hn (hen) u (hu) (hhn) r (hr0) x0 (hbad)) (cwV 3 hts (vz_gV wb_LW_request b_598 b_599 b_600 b_1 wc_RR_request) rfl rfl rfl (by decide +kernel) ⟨Nat.le_of_ble_eq_true rfl, Nat.le_of_ble_eq_true rfl⟩) (vz_preVt hPc hKc hE hN hS (ci := 9) (q0 := 0) rfl rfl) rfl rfl hl.1 (Nat.le_of_ble_eq_true rfl) d_LW_request_7 ⟨Nat.le_of_ble_eq_true rfl, Nat.le_of_ble_eq_true rfl⟩ (fun q9 H9 hnew => ?_)
  obtain ⟨z1, z2, z3, hL9, hz1, hz2, hz3⟩ := xk_tab3 htb
  refine xk_catchN (hp := 19) (k := 29) hown [z1] z2 [z3] hL9 (fun z hz => by
    simp only [List.mem_cons, List.not_mem_nil, or_false] at hz
    subst hz
    exact ⟨_, _, "java/util/NoSuchElementException", xkRow.of hz1 (by decide) (by decide), by decide, (hts _ (wb_LW_request _ b_381)), hNo.2.1⟩) (xkRow.of hz2 (by decide) (by decide)) (by decide) (hts _ (wb_LW_request _ b_409)) (va_Nw.use rfl (hE.1 _ (by simp [xkBad]))) hnew ?_
  have hS : va_S (fun _ => False) s.heap H9 [] := ⟨hnew.1, fun q hq _ => hnew.2.1 q hq, fun _ h => nomatch h⟩
  refine lv_astore (lv' := [(5, .ref q9), (0, .ref h), (1, .int (nI u)), (2, .int (nI r)), (3, .int x0), (4, .ref aO)]) hx hb d_LW_request_19 hl (by decide) rfl (fun ls hl => ?_)
  refine lv_iconst (v := 2) hx hb d_LW_request_21 (by decide) ?_
  exact W.iret (v := 2) hx hb hr (fun t ht hW => ⟨⟨2, (), rfl, rfl, trivial⟩, hS.F ht⟩) hS.2.2 d_LW_request_22

set_option maxHeartbeats 4000000 in
set_option maxRecDepth 100000 in
theorem c_LW_requestB4 (l : Launch) (hst : l.stackTraces = false) (dC : Nat → ClassId) (dI : Nat → Nat → Nat) (N0 : Nat) (h hPA hRD hRB hPE hHO hAG hLO hRQ hEX aFR : Nat) (aRo aLi : Nat) (en : Nat) (aFa aEm aVa : Nat) (hn : Nat) (aQP aQD : Nat) (qn : Nat) (hen : en ≤ 12) (u : Nat) (hu : u < en) (hhn : hn ≤ 16) (r : Nat) (hr0 : r < hn) (d : Int32) (hd0 : ¬ d < 0) (hd1 : d ≤ 100000) (hqn : qn ≤ 60) (hbad : 60 ≤ qn) (aO : Nat) : Met l y_LW_request ws_LW_request ({ frames := 7, cells := 1, slots := 6, locals := 114 }) (va_Pc [.ref h, .int (nI u), .int (nI r), .int d, .ref aO] (fun U => va_P (dC, dI) vwCl [(h, .inr (9, [.ref hPA, .ref hRD, .ref hRB, .ref hPE, .ref hHO, .ref hAG, .ref hLO, .ref hRQ, .ref hEX, .ref aFR])), (hPE, .inr (5, [.ref aRo, .ref aLi, .int (nI en)])), (hHO, .inr (2, [.ref aFa, .ref aEm, .ref aVa, .int (nI hn)])), (hRQ, .inr (6, [.ref aQP, .ref aQD, .int (nI qn)]))] U.heap ∧ va_K (dC, dI) vwCl [] U ∧ xkE N0 U ∧ N0 ≤ U.heap.size ∧ xkNos U)) (va_Qi (fun (res : Int32) (_ : Unit) => res = 3) (fun _ _ => True) (fun _ => False)) 1 6 (fun _ => False) := by
  refine xk_MetW (cc := k_LW_request) (maxL := 6) (ret := (some .int)) (by decide) rfl ?_
  intro p e s m args below meth c s₁ B hml htb hv
  obtain ⟨rfl, hP, hK, hE, hN, hNo⟩ := hv
  have hx := B.exec
  have hb := B.bytes
  have hr := B.returns
  have hts := atoms_spec (ws := ws_LW_request) B.pre
  have hown : s.vm.findClass R_LW = some m.cls := findClass_of_methodNamed B.named
  have hlocks := B.notSynchronized
  have hS : va_S (fun _ => False) s.heap s.heap [] := va_S.rf
  have hP : va_P (dC, dI) vwCl [(h, .inr (9, [.ref hPA, .ref hRD, .ref hRB, .ref hPE, .ref hHO, .ref hAG, .ref hLO, .ref hRQ, .ref hEX, .ref aFR])), (hPE, .inr (5, [.ref aRo, .ref aLi, .int (nI en)])), (hHO, .inr (2, [.ref aFa, .ref aEm, .ref aVa, .int (nI hn)])), (hRQ, .inr (6, [.ref aQP, .ref aQD, .int (nI qn)]))] s.heap := hP
  have hl := lv_entry ([.ref h, .int (nI u), .int (nI r), .int d, .ref aO]) (n := 6) (Nat.le_of_ble_eq_true rfl)
  rw [lg_entry_eq]
  generalize (lg_sl ([.ref h, .int (nI u), .int (nI r), .int d, .ref aO]) ++ List.replicate (6 - (lg_sl ([.ref h, .int (nI u), .int (nI r), .int d, .ref aO])).length) Slot.unset).toArray = ls at hl ⊢
  have hl : lv_has ls 6 [(0, .ref h), (1, .int (nI u)), (2, .int (nI r)), (3, .int d), (4, .ref aO)] := hl
  refine lv_aload hx hb d_LW_request_0 (lv_at hl 4 rfl) ?_
  refine lv_iconst (v := 0) hx hb d_LW_request_2 (by decide) ?_
  refine lv_aload_n hx hb d_LW_request_3 rfl (lv_at hl 0 rfl) ?_
  refine lv_iload_n hx hb d_LW_request_4 rfl (lv_at hl 1 rfl) ?_
  refine lv_iload_n hx hb d_LW_request_5 rfl (lv_at hl 2 rfl) ?_
  refine lv_iload_n hx hb d_LW_request_6 rfl (lv_at hl 3 rfl) ?_
  have hPc := hP.sub (ws' := [(h, .inr (9, [.ref hPA, .ref hRD, .ref hRB, .ref hPE, .ref hHO, .ref hAG, .ref hLO, .ref hRQ, .ref hEX, .ref aFR])), (hPE, .inr (5, [.ref aRo, .ref aLi, .int (nI en)])), (hHO, .inr (2, [.ref aFa, .ref aEm, .ref aVa, .int (nI hn)])), (hRQ, .inr (6, [.ref aQP, .ref aQD, .int (nI qn)]))]) [0, 1, 2, 3] rfl
  have hKc := hK.sub (tys' := []) [] rfl
  refine xk_callV (As := [.int (nI u), .int (nI r), .int d]) (rest := [.int 0, .ref aO]) ⟨hx, hb, hml, hown, hts⟩ (t_RR_request4 l hst dC dI N0 h hPA hRD hRB hPE hHO hAG hLO hRQ hEX aFR aRo aLi en aFa aEm aVa hn aQP aQD qn (hen) u (hu) (hhn) r (hr0) d (hd0) (hd1) (hqn) (hbad)) (cwV 3 hts (vz_gV wb_LW_request b_598 b_599 b_600 b_1 wc_RR_request) rfl rfl rfl (by decide +kernel) ⟨Nat.le_of_ble_eq_true rfl, Nat.le_of_ble_eq_true rfl⟩) (vz_preVt hPc hKc hE hN hS (ci := 9) (q0 := 0) rfl rfl) rfl rfl hl.1 (Nat.le_of_ble_eq_true rfl) d_LW_request_7 ⟨Nat.le_of_ble_eq_true rfl, Nat.le_of_ble_eq_true rfl⟩ (fun q9 H9 hnew => ?_)
  obtain ⟨z1, z2, z3, hL9, hz1, hz2, hz3⟩ := xk_tab3 htb
  refine xk_catchN (hp := 23) (k := 13) hown [z1, z2] z3 [] hL9 (fun z hz => by
    simp only [List.mem_cons, List.not_mem_nil, or_false] at hz
    rcases hz with rfl | rfl
    · exact ⟨_, _, "java/util/NoSuchElementException", xkRow.of hz1 (by decide) (by decide), by decide, (hts _ (wb_LW_request _ b_381)), hNo.2.2⟩
    · exact ⟨_, _, "java/lang/IllegalArgumentException", xkRow.of hz2 (by decide) (by decide), by decide, (hts _ (wb_LW_request _ b_409)), hNo.1⟩) (xkRow.of hz3 (by decide) (by decide)) (by decide) (hts _ (wb_LW_request _ b_258)) (va_Nw.use rfl (hE.1 _ (by simp [xkBad]))) hnew ?_
  have hS : va_S (fun _ => False) s.heap H9 [] := ⟨hnew.1, fun q hq _ => hnew.2.1 q hq, fun _ h => nomatch h⟩
  refine lv_astore (lv' := [(5, .ref q9), (0, .ref h), (1, .int (nI u)), (2, .int (nI r)), (3, .int d), (4, .ref aO)]) hx hb d_LW_request_23 hl (by decide) rfl (fun ls hl => ?_)
  refine lv_iconst (v := 3) hx hb d_LW_request_25 (by decide) ?_
  exact W.iret (v := 3) hx hb hr (fun t ht hW => ⟨⟨3, (), rfl, rfl, trivial⟩, hS.F ht⟩) hS.2.2 d_LW_request_26

set_option maxHeartbeats 4000000 in
set_option maxRecDepth 100000 in
theorem c_LW_limitB1 (l : Launch) (hst : l.stackTraces = false) (dC : Nat → ClassId) (dI : Nat → Nat → Nat) (N0 : Nat) (h hPA hRD hRB hPE hHO hAG hLO hRQ hEX aFR : Nat) (aRo aLi : Nat) (en : Nat) (x0 : Int32) (hbad : x0 < 0 ∨ nI en ≤ x0) (z : Int32) (aO : Nat) : Met l y_LW_limit ws_LW_limit ({ frames := 8, cells := 1, slots := 6, locals := 134 }) (va_Pc [.ref h, .int x0, .int z, .ref aO] (fun U => va_P (dC, dI) vwCl [(h, .inr (9, [.ref hPA, .ref hRD, .ref hRB, .ref hPE, .ref hHO, .ref hAG, .ref hLO, .ref hRQ, .ref hEX, .ref aFR])), (hPE, .inr (5, [.ref aRo, .ref aLi, .int (nI en)]))] U.heap ∧ va_K (dC, dI) vwCl [] U ∧ xkE N0 U ∧ N0 ≤ U.heap.size ∧ xkNos U)) (va_Qi (fun (res : Int32) (_ : Unit) => res = 1) (fun _ _ => True) (fun _ => False)) 1 6 (fun _ => False) := by
  refine xk_MetW (cc := k_LW_limit) (maxL := 5) (ret := (some .int)) (by decide) rfl ?_
  intro p e s m args below meth c s₁ B hml htb hv
  obtain ⟨rfl, hP, hK, hE, hN, hNo⟩ := hv
  have hx := B.exec
  have hb := B.bytes
  have hr := B.returns
  have hts := atoms_spec (ws := ws_LW_limit) B.pre
  have hown : s.vm.findClass R_LW = some m.cls := findClass_of_methodNamed B.named
  have hlocks := B.notSynchronized
  have hS : va_S (fun _ => False) s.heap s.heap [] := va_S.rf
  have hP : va_P (dC, dI) vwCl [(h, .inr (9, [.ref hPA, .ref hRD, .ref hRB, .ref hPE, .ref hHO, .ref hAG, .ref hLO, .ref hRQ, .ref hEX, .ref aFR])), (hPE, .inr (5, [.ref aRo, .ref aLi, .int (nI en)]))] s.heap := hP
  have hl := lv_entry ([.ref h, .int x0, .int z, .ref aO]) (n := 5) (Nat.le_of_ble_eq_true rfl)
  rw [lg_entry_eq]
  generalize (lg_sl ([.ref h, .int x0, .int z, .ref aO]) ++ List.replicate (5 - (lg_sl ([.ref h, .int x0, .int z, .ref aO])).length) Slot.unset).toArray = ls at hl ⊢
  have hl : lv_has ls 5 [(0, .ref h), (1, .int x0), (2, .int z), (3, .ref aO)] := hl
  refine lv_aload_n hx hb d_LW_limit_0 rfl (lv_at hl 3 rfl) ?_
  refine lv_iconst (v := 0) hx hb d_LW_limit_1 (by decide) ?_
  refine lv_aload_n hx hb d_LW_limit_2 rfl (lv_at hl 0 rfl) ?_
  refine lv_iload_n hx hb d_LW_limit_3 rfl (lv_at hl 1 rfl) ?_
  refine lv_iload_n hx hb d_LW_limit_4 rfl (lv_at hl 2 rfl) ?_
  have hPc := hP.sub (ws' := [(h, .inr (9, [.ref hPA, .ref hRD, .ref hRB, .ref hPE, .ref hHO, .ref hAG, .ref hLO, .ref hRQ, .ref hEX, .ref aFR])), (hPE, .inr (5, [.ref aRo, .ref aLi, .int (nI en)]))]) [0, 1] rfl
  have hKc := hK.sub (tys' := []) [] rfl
  refine xk_callV (As := [.int x0, .int z]) (rest := [.int 0, .ref aO]) ⟨hx, hb, hml, hown, hts⟩ (t_RR_limit1 l hst dC dI N0 h hPA hRD hRB hPE hHO hAG hLO hRQ hEX aFR aRo aLi en x0 (hbad) z) (cwV 2 hts (vz_gV wb_LW_limit b_614 b_615 b_616 b_1 wc_RR_limit) rfl rfl rfl (by decide +kernel) ⟨Nat.le_of_ble_eq_true rfl, Nat.le_of_ble_eq_true rfl⟩) (vz_preVt hPc hKc hE hN hS (ci := 9) (q0 := 0) rfl rfl) rfl rfl hl.1 (Nat.le_of_ble_eq_true rfl) d_LW_limit_5 ⟨Nat.le_of_ble_eq_true rfl, Nat.le_of_ble_eq_true rfl⟩ (fun q9 H9 hnew => ?_)
  obtain ⟨z1, z2, hL9, hz1, hz2⟩ := xk_tab2 htb
  refine xk_catchN (hp := 13) (k := 23) hown [] z1 [z2] hL9 (fun z hz => nomatch hz) (xkRow.of hz1 (by decide) (by decide)) (by decide) (hts _ (wb_LW_limit _ b_381)) (va_Nw.use rfl (hE.1 _ (by simp [xkBad]))) hnew ?_
  have hS : va_S (fun _ => False) s.heap H9 [] := ⟨hnew.1, fun q hq _ => hnew.2.1 q hq, fun _ h => nomatch h⟩
  refine lv_astore (lv' := [(4, .ref q9), (0, .ref h), (1, .int x0), (2, .int z), (3, .ref aO)]) hx hb d_LW_limit_13 hl (by decide) rfl (fun ls hl => ?_)
  refine lv_iconst (v := 1) hx hb d_LW_limit_15 (by decide) ?_
  exact W.iret (v := 1) hx hb hr (fun t ht hW => ⟨⟨1, (), rfl, rfl, trivial⟩, hS.F ht⟩) hS.2.2 d_LW_limit_16

set_option maxHeartbeats 4000000 in
set_option maxRecDepth 100000 in
theorem c_LW_limitB2 (l : Launch) (hst : l.stackTraces = false) (dC : Nat → ClassId) (dI : Nat → Nat → Nat) (N0 : Nat) (h hPA hRD hRB hPE hHO hAG hLO hRQ hEX aFR : Nat) (aRo aLi : Nat) (en : Nat) (hen : en ≤ 12) (u : Nat) (hu : u < en) (x0 : Int32) (hbad : x0 < 0 ∨ 60 < x0) (aO : Nat) : Met l y_LW_limit ws_LW_limit ({ frames := 7, cells := 1, slots := 6, locals := 113 }) (va_Pc [.ref h, .int (nI u), .int x0, .ref aO] (fun U => va_P (dC, dI) vwCl [(h, .inr (9, [.ref hPA, .ref hRD, .ref hRB, .ref hPE, .ref hHO, .ref hAG, .ref hLO, .ref hRQ, .ref hEX, .ref aFR])), (hPE, .inr (5, [.ref aRo, .ref aLi, .int (nI en)]))] U.heap ∧ va_K (dC, dI) vwCl [] U ∧ xkE N0 U ∧ N0 ≤ U.heap.size ∧ xkNos U)) (va_Qi (fun (res : Int32) (_ : Unit) => res = 2) (fun _ _ => True) (fun _ => False)) 1 6 (fun _ => False) := by
  refine xk_MetW (cc := k_LW_limit) (maxL := 5) (ret := (some .int)) (by decide) rfl ?_
  intro p e s m args below meth c s₁ B hml htb hv
  obtain ⟨rfl, hP, hK, hE, hN, hNo⟩ := hv
  have hx := B.exec
  have hb := B.bytes
  have hr := B.returns
  have hts := atoms_spec (ws := ws_LW_limit) B.pre
  have hown : s.vm.findClass R_LW = some m.cls := findClass_of_methodNamed B.named
  have hlocks := B.notSynchronized
  have hS : va_S (fun _ => False) s.heap s.heap [] := va_S.rf
  have hP : va_P (dC, dI) vwCl [(h, .inr (9, [.ref hPA, .ref hRD, .ref hRB, .ref hPE, .ref hHO, .ref hAG, .ref hLO, .ref hRQ, .ref hEX, .ref aFR])), (hPE, .inr (5, [.ref aRo, .ref aLi, .int (nI en)]))] s.heap := hP
  have hl := lv_entry ([.ref h, .int (nI u), .int x0, .ref aO]) (n := 5) (Nat.le_of_ble_eq_true rfl)
  rw [lg_entry_eq]
  generalize (lg_sl ([.ref h, .int (nI u), .int x0, .ref aO]) ++ List.replicate (5 - (lg_sl ([.ref h, .int (nI u), .int x0, .ref aO])).length) Slot.unset).toArray = ls at hl ⊢
  have hl : lv_has ls 5 [(0, .ref h), (1, .int (nI u)), (2, .int x0), (3, .ref aO)] := hl
  refine lv_aload_n hx hb d_LW_limit_0 rfl (lv_at hl 3 rfl) ?_
  refine lv_iconst (v := 0) hx hb d_LW_limit_1 (by decide) ?_
  refine lv_aload_n hx hb d_LW_limit_2 rfl (lv_at hl 0 rfl) ?_
  refine lv_iload_n hx hb d_LW_limit_3 rfl (lv_at hl 1 rfl) ?_
  refine lv_iload_n hx hb d_LW_limit_4 rfl (lv_at hl 2 rfl) ?_
  have hPc := hP.sub (ws' := [(h, .inr (9, [.ref hPA, .ref hRD, .ref hRB, .ref hPE, .ref hHO, .ref hAG, .ref hLO, .ref hRQ, .ref hEX, .ref aFR])), (hPE, .inr (5, [.ref aRo, .ref aLi, .int (nI en)]))]) [0, 1] rfl
  have hKc := hK.sub (tys' := []) [] rfl
  refine xk_callV (As := [.int (nI u), .int x0]) (rest := [.int 0, .ref aO]) ⟨hx, hb, hml, hown, hts⟩ (t_RR_limit2 l hst dC dI N0 h hPA hRD hRB hPE hHO hAG hLO hRQ hEX aFR aRo aLi en (hen) u (hu) x0 (hbad)) (cwV 2 hts (vz_gV wb_LW_limit b_614 b_615 b_616 b_1 wc_RR_limit) rfl rfl rfl (by decide +kernel) ⟨Nat.le_of_ble_eq_true rfl, Nat.le_of_ble_eq_true rfl⟩) (vz_preVt hPc hKc hE hN hS (ci := 9) (q0 := 0) rfl rfl) rfl rfl hl.1 (Nat.le_of_ble_eq_true rfl) d_LW_limit_5 ⟨Nat.le_of_ble_eq_true rfl, Nat.le_of_ble_eq_true rfl⟩ (fun q9 H9 hnew => ?_)
  obtain ⟨z1, z2, hL9, hz1, hz2⟩ := xk_tab2 htb
  refine xk_catchN (hp := 17) (k := 29) hown [z1] z2 [] hL9 (fun z hz => by
    simp only [List.mem_cons, List.not_mem_nil, or_false] at hz
    subst hz
    exact ⟨_, _, "java/util/NoSuchElementException", xkRow.of hz1 (by decide) (by decide), by decide, (hts _ (wb_LW_limit _ b_381)), hNo.2.1⟩) (xkRow.of hz2 (by decide) (by decide)) (by decide) (hts _ (wb_LW_limit _ b_409)) (va_Nw.use rfl (hE.1 _ (by simp [xkBad]))) hnew ?_
  have hS : va_S (fun _ => False) s.heap H9 [] := ⟨hnew.1, fun q hq _ => hnew.2.1 q hq, fun _ h => nomatch h⟩
  refine lv_astore (lv' := [(4, .ref q9), (0, .ref h), (1, .int (nI u)), (2, .int x0), (3, .ref aO)]) hx hb d_LW_limit_17 hl (by decide) rfl (fun ls hl => ?_)
  refine lv_iconst (v := 2) hx hb d_LW_limit_19 (by decide) ?_
  exact W.iret (v := 2) hx hb hr (fun t ht hW => ⟨⟨2, (), rfl, rfl, trivial⟩, hS.F ht⟩) hS.2.2 d_LW_limit_20

set_option maxHeartbeats 4000000 in
set_option maxRecDepth 100000 in
theorem c_LW_idleB (l : Launch) (hst : l.stackTraces = false) (dC : Nat → ClassId) (dI : Nat → Nat → Nat) (N0 : Nat) (h hPA hRD hRB hPE hHO hAG hLO hRQ hEX aFR : Nat) (x0 : Int32) (hbad : x0 < 0 ∨ 100000 < x0) (aO : Nat) : Met l y_LW_idle ws_LW_idle ({ frames := 8, cells := 1, slots := 6, locals := 134 }) (va_Pc [.ref h, .int x0, .ref aO] (fun U => va_P (dC, dI) vwCl [(h, .inr (9, [.ref hPA, .ref hRD, .ref hRB, .ref hPE, .ref hHO, .ref hAG, .ref hLO, .ref hRQ, .ref hEX, .ref aFR]))] U.heap ∧ va_K (dC, dI) vwCl [] U ∧ xkE N0 U ∧ N0 ≤ U.heap.size ∧ xkNos U)) (va_Qi (fun (res : Int32) (_ : Unit) => res = 1) (fun _ _ => True) (fun _ => False)) 1 6 (fun _ => False) := by
  refine xk_MetW (cc := k_LW_idle) (maxL := 4) (ret := (some .int)) (by decide) rfl ?_
  intro p e s m args below meth c s₁ B hml htb hv
  obtain ⟨rfl, hP, hK, hE, hN, hNo⟩ := hv
  have hx := B.exec
  have hb := B.bytes
  have hr := B.returns
  have hts := atoms_spec (ws := ws_LW_idle) B.pre
  have hown : s.vm.findClass R_LW = some m.cls := findClass_of_methodNamed B.named
  have hlocks := B.notSynchronized
  have hS : va_S (fun _ => False) s.heap s.heap [] := va_S.rf
  have hP : va_P (dC, dI) vwCl [(h, .inr (9, [.ref hPA, .ref hRD, .ref hRB, .ref hPE, .ref hHO, .ref hAG, .ref hLO, .ref hRQ, .ref hEX, .ref aFR]))] s.heap := hP
  have hl := lv_entry ([.ref h, .int x0, .ref aO]) (n := 4) (Nat.le_of_ble_eq_true rfl)
  rw [lg_entry_eq]
  generalize (lg_sl ([.ref h, .int x0, .ref aO]) ++ List.replicate (4 - (lg_sl ([.ref h, .int x0, .ref aO])).length) Slot.unset).toArray = ls at hl ⊢
  have hl : lv_has ls 4 [(0, .ref h), (1, .int x0), (2, .ref aO)] := hl
  refine lv_aload_n hx hb d_LW_idle_0 rfl (lv_at hl 2 rfl) ?_
  refine lv_iconst (v := 0) hx hb d_LW_idle_1 (by decide) ?_
  refine lv_aload_n hx hb d_LW_idle_2 rfl (lv_at hl 0 rfl) ?_
  refine lv_iload_n hx hb d_LW_idle_3 rfl (lv_at hl 1 rfl) ?_
  have hPc := hP.sub (ws' := [(h, .inr (9, [.ref hPA, .ref hRD, .ref hRB, .ref hPE, .ref hHO, .ref hAG, .ref hLO, .ref hRQ, .ref hEX, .ref aFR]))]) [0] rfl
  have hKc := hK.sub (tys' := []) [] rfl
  refine xk_callV (As := [.int x0]) (rest := [.int 0, .ref aO]) ⟨hx, hb, hml, hown, hts⟩ (t_RR_idle l hst dC dI N0 h hPA hRD hRB hPE hHO hAG hLO hRQ hEX aFR x0 (hbad)) (cwV 1 hts (vz_gV wb_LW_idle b_622 b_623 b_624 b_1 wc_RR_idle) rfl rfl rfl (by decide +kernel) ⟨Nat.le_of_ble_eq_true rfl, Nat.le_of_ble_eq_true rfl⟩) (vz_preVt hPc hKc hE hN hS (ci := 9) (q0 := 0) rfl rfl) rfl rfl hl.1 (Nat.le_of_ble_eq_true rfl) d_LW_idle_4 ⟨Nat.le_of_ble_eq_true rfl, Nat.le_of_ble_eq_true rfl⟩ (fun q9 H9 hnew => ?_)
  obtain ⟨z1, hL9, hz1⟩ := xk_tab1 htb
  refine xk_catchN (hp := 12) (k := 29) hown [] z1 [] hL9 (fun z hz => nomatch hz) (xkRow.of hz1 (by decide) (by decide)) (by decide) (hts _ (wb_LW_idle _ b_409)) (va_Nw.use rfl (hE.1 _ (by simp [xkBad]))) hnew ?_
  have hS : va_S (fun _ => False) s.heap H9 [] := ⟨hnew.1, fun q hq _ => hnew.2.1 q hq, fun _ h => nomatch h⟩
  refine lv_astore_n (lv' := [(3, .ref q9), (0, .ref h), (1, .int x0), (2, .ref aO)]) hx hb d_LW_idle_12 rfl hl (by decide) rfl (fun ls hl => ?_)
  refine lv_iconst (v := 1) hx hb d_LW_idle_13 (by decide) ?_
  exact W.iret (v := 1) hx hb hr (fun t ht hW => ⟨⟨1, (), rfl, rfl, trivial⟩, hS.F ht⟩) hS.2.2 d_LW_idle_14

set_option maxHeartbeats 4000000 in
set_option maxRecDepth 100000 in
theorem c_LW_countB (l : Launch) (hst : l.stackTraces = false) (dC : Nat → ClassId) (dI : Nat → Nat → Nat) (N0 : Nat) (h hPA hRD hRB hPE hHO hAG hLO hRQ hEX aFR : Nat) (x0 : Int32) (hbad : x0 < 0 ∨ 7 ≤ x0) (aO : Nat) : Met l y_LW_count ws_LW_count ({ frames := 7, cells := 1, slots := 6, locals := 111 }) (va_Pc [.ref h, .int x0, .ref aO] (fun U => va_P (dC, dI) vwCl [(h, .inr (9, [.ref hPA, .ref hRD, .ref hRB, .ref hPE, .ref hHO, .ref hAG, .ref hLO, .ref hRQ, .ref hEX, .ref aFR]))] U.heap ∧ va_K (dC, dI) vwCl [] U ∧ xkE N0 U ∧ N0 ≤ U.heap.size ∧ xkNos U)) (va_Qi (fun (res : Int32) (_ : Unit) => res = 1) (fun _ _ => True) (fun _ => False)) 1 6 (fun _ => False) := by
  refine xk_MetW (cc := k_LW_count) (maxL := 4) (ret := (some .int)) (by decide) rfl ?_
  intro p e s m args below meth c s₁ B hml htb hv
  obtain ⟨rfl, hP, hK, hE, hN, hNo⟩ := hv
  have hx := B.exec
  have hb := B.bytes
  have hr := B.returns
  have hts := atoms_spec (ws := ws_LW_count) B.pre
  have hown : s.vm.findClass R_LW = some m.cls := findClass_of_methodNamed B.named
  have hlocks := B.notSynchronized
  have hS : va_S (fun _ => False) s.heap s.heap [] := va_S.rf
  have hP : va_P (dC, dI) vwCl [(h, .inr (9, [.ref hPA, .ref hRD, .ref hRB, .ref hPE, .ref hHO, .ref hAG, .ref hLO, .ref hRQ, .ref hEX, .ref aFR]))] s.heap := hP
  have hl := lv_entry ([.ref h, .int x0, .ref aO]) (n := 4) (Nat.le_of_ble_eq_true rfl)
  rw [lg_entry_eq]
  generalize (lg_sl ([.ref h, .int x0, .ref aO]) ++ List.replicate (4 - (lg_sl ([.ref h, .int x0, .ref aO])).length) Slot.unset).toArray = ls at hl ⊢
  have hl : lv_has ls 4 [(0, .ref h), (1, .int x0), (2, .ref aO)] := hl
  refine lv_aload_n hx hb d_LW_count_0 rfl (lv_at hl 2 rfl) ?_
  refine lv_iconst (v := 0) hx hb d_LW_count_1 (by decide) ?_
  refine lv_aload_n hx hb d_LW_count_2 rfl (lv_at hl 0 rfl) ?_
  refine lv_iload_n hx hb d_LW_count_3 rfl (lv_at hl 1 rfl) ?_
  have hPc := hP.sub (ws' := [(h, .inr (9, [.ref hPA, .ref hRD, .ref hRB, .ref hPE, .ref hHO, .ref hAG, .ref hLO, .ref hRQ, .ref hEX, .ref aFR]))]) [0] rfl
  have hKc := hK.sub (tys' := []) [] rfl
  refine xk_callV (As := [.int x0]) (rest := [.int 0, .ref aO]) ⟨hx, hb, hml, hown, hts⟩ (t_RR_count l hst dC dI N0 h hPA hRD hRB hPE hHO hAG hLO hRQ hEX aFR x0 (hbad)) (cwV 1 hts (vz_gV wb_LW_count b_656 b_657 b_658 b_1 wc_RR_count) rfl rfl rfl (by decide +kernel) ⟨Nat.le_of_ble_eq_true rfl, Nat.le_of_ble_eq_true rfl⟩) (vz_preVt hPc hKc hE hN hS (ci := 9) (q0 := 0) rfl rfl) rfl rfl hl.1 (Nat.le_of_ble_eq_true rfl) d_LW_count_4 ⟨Nat.le_of_ble_eq_true rfl, Nat.le_of_ble_eq_true rfl⟩ (fun q9 H9 hnew => ?_)
  obtain ⟨z1, hL9, hz1⟩ := xk_tab1 htb
  refine xk_catchN (hp := 12) (k := 29) hown [] z1 [] hL9 (fun z hz => nomatch hz) (xkRow.of hz1 (by decide) (by decide)) (by decide) (hts _ (wb_LW_count _ b_409)) (va_Nw.use rfl (hE.1 _ (by simp [xkBad]))) hnew ?_
  have hS : va_S (fun _ => False) s.heap H9 [] := ⟨hnew.1, fun q hq _ => hnew.2.1 q hq, fun _ h => nomatch h⟩
  refine lv_astore_n (lv' := [(3, .ref q9), (0, .ref h), (1, .int x0), (2, .ref aO)]) hx hb d_LW_count_12 rfl hl (by decide) rfl (fun ls hl => ?_)
  refine lv_iconst (v := 1) hx hb d_LW_count_13 (by decide) ?_
  exact W.iret (v := 1) hx hb hr (fun t ht hW => ⟨⟨1, (), rfl, rfl, trivial⟩, hS.F ht⟩) hS.2.2 d_LW_count_14
