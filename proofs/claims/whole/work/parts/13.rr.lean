set_option maxHeartbeats 4000000 in
set_option maxRecDepth 100000 in
/-- RecordRights.requirePerson, where there is one -/
theorem c_RR_requirePerson (l : Launch) (dC : Nat → ClassId) (dI : Nat → Nat → Nat) (h hPA hRD hRB hPE hHO hAG hLO hRQ hEX aFR : Nat) (aRo aLi : Nat) (en : Nat) (henm : en ≤ 12) (k : Nat) (hk : k < en) : Met l y_RR_requirePerson ws_RR_requirePerson ({ frames := 0, cells := 0, slots := 0, locals := 0 }) (va_Pc [.ref h, .int (nI k)] (fun U => va_P (dC, dI) vwCl [(h, .inr (9, [.ref hPA, .ref hRD, .ref hRB, .ref hPE, .ref hHO, .ref hAG, .ref hLO, .ref hRQ, .ref hEX, .ref aFR])), (hPE, .inr (5, [.ref aRo, .ref aLi, .int (nI en)]))] U.heap ∧ va_K (dC, dI) vwCl [] U)) (va_Qv (fun (_ : Unit) => True) (fun _ _ => True) (fun _ => False)) 0 0 (fun _ => False) := by
  refine Met.ofW (cc := k_RR_requirePerson) (maxL := 2) (ret := none) (by decide) rfl ?_
  intro p e s m args below meth c s₁ B hml hv
  obtain ⟨rfl, hP, hK⟩ := hv
  have hx := B.exec
  have hb := B.bytes
  have hr := B.returns
  have hts := atoms_spec (ws := ws_RR_requirePerson) B.pre
  have hown : s.vm.findClass R_RR = some m.cls := findClass_of_methodNamed B.named
  have hlocks := B.notSynchronized
  have hS : va_S (fun _ => False) s.heap s.heap [] := va_S.rf
  have hP : va_P (dC, dI) vwCl [(h, .inr (9, [.ref hPA, .ref hRD, .ref hRB, .ref hPE, .ref hHO, .ref hAG, .ref hLO, .ref hRQ, .ref hEX, .ref aFR])), (hPE, .inr (5, [.ref aRo, .ref aLi, .int (nI en)]))] s.heap := hP
  have iPE : ∀ w ∈ u_ws R_PE T_PE 3, w ∈ ws_RR_requirePerson := fun w h => wb_RR_requirePerson w (in_PE w h)
  have iRR : ∀ w ∈ u_ws R_RR T_RR 10, w ∈ ws_RR_requirePerson := fun w h => wb_RR_requirePerson w (in_RR w h)
  have hl := lv_entry ([.ref h, .int (nI k)]) (n := 2) (Nat.le_of_ble_eq_true rfl)
  rw [lg_entry_eq]
  generalize (lg_sl ([.ref h, .int (nI k)]) ++ List.replicate (2 - (lg_sl ([.ref h, .int (nI k)])).length) Slot.unset).toArray = ls at hl ⊢
  have hl : lv_has ls 2 [(0, .ref h), (1, .int (nI k))] := hl
  refine lv_iload_n hx hb d_RR_requirePerson_0 rfl (lv_at hl 1 rfl) ?_
  refine lv_if_lt (tgt := 15) hx hb d_RR_requirePerson_1 (by decide) (fun c1 => ?_) (fun c1 => ?_)
  · exact absurd c1 (nI_pos (by omega))
  · refine lv_iload_n hx hb d_RR_requirePerson_4 rfl (lv_at hl 1 rfl) ?_
    refine lv_aload_n hx hb d_RR_requirePerson_5 rfl (lv_at hl 0 rfl) ?_
    refine va_get (D := (dC, dI)) (ci := 9) (v := .ref hPE) (C := R_RR) (T := T_RR) (N := 10) hx hb hts iRR hown hK hP 0 rfl rfl 3 (by decide) (hts _ (wb_RR_requirePerson _ b_227)) (fun _ h9 => h9) rfl d_RR_requirePerson_6 ?_
    refine va_get (D := (dC, dI)) (ci := 5) (v := .int (nI en)) (C := R_PE) (T := T_PE) (N := 3) hx hb hts iPE hown hK hP 1 rfl rfl 2 (by decide) (hts _ (wb_RR_requirePerson _ b_121)) (fun _ h9 => h9) rfl d_RR_requirePerson_9 ?_
    refine lv_icmp_lt (tgt := 25) hx hb d_RR_requirePerson_12 (by decide) (fun c12 => ?_) (fun c12 => ?_)
    · exact W.vret hx hb hr (fun t ht hW => ⟨⟨(), rfl, trivial, trivial⟩, hS.F ht⟩) hS.2.2 d_RR_requirePerson_25
    · exact absurd ((nI_ltI (by omega) (by omega)).mpr hk) c12

set_option maxHeartbeats 4000000 in
set_option maxRecDepth 100000 in
/-- RecordRights.requireRecord, where there is one -/
theorem c_RR_requireRecord (l : Launch) (dC : Nat → ClassId) (dI : Nat → Nat → Nat) (h hPA hRD hRB hPE hHO hAG hLO hRQ hEX aFR : Nat) (aFa aEm aVa : Nat) (hn : Nat) (hhnm : hn ≤ 16) (k : Nat) (hk : k < hn) : Met l y_RR_requireRecord ws_RR_requireRecord ({ frames := 0, cells := 0, slots := 0, locals := 0 }) (va_Pc [.ref h, .int (nI k)] (fun U => va_P (dC, dI) vwCl [(h, .inr (9, [.ref hPA, .ref hRD, .ref hRB, .ref hPE, .ref hHO, .ref hAG, .ref hLO, .ref hRQ, .ref hEX, .ref aFR])), (hHO, .inr (2, [.ref aFa, .ref aEm, .ref aVa, .int (nI hn)]))] U.heap ∧ va_K (dC, dI) vwCl [] U)) (va_Qv (fun (_ : Unit) => True) (fun _ _ => True) (fun _ => False)) 0 0 (fun _ => False) := by
  refine Met.ofW (cc := k_RR_requireRecord) (maxL := 2) (ret := none) (by decide) rfl ?_
  intro p e s m args below meth c s₁ B hml hv
  obtain ⟨rfl, hP, hK⟩ := hv
  have hx := B.exec
  have hb := B.bytes
  have hr := B.returns
  have hts := atoms_spec (ws := ws_RR_requireRecord) B.pre
  have hown : s.vm.findClass R_RR = some m.cls := findClass_of_methodNamed B.named
  have hlocks := B.notSynchronized
  have hS : va_S (fun _ => False) s.heap s.heap [] := va_S.rf
  have hP : va_P (dC, dI) vwCl [(h, .inr (9, [.ref hPA, .ref hRD, .ref hRB, .ref hPE, .ref hHO, .ref hAG, .ref hLO, .ref hRQ, .ref hEX, .ref aFR])), (hHO, .inr (2, [.ref aFa, .ref aEm, .ref aVa, .int (nI hn)]))] s.heap := hP
  have iHO : ∀ w ∈ u_ws R_HO T_HO 4, w ∈ ws_RR_requireRecord := fun w h => wb_RR_requireRecord w (in_HO w h)
  have iRR : ∀ w ∈ u_ws R_RR T_RR 10, w ∈ ws_RR_requireRecord := fun w h => wb_RR_requireRecord w (in_RR w h)
  have hl := lv_entry ([.ref h, .int (nI k)]) (n := 2) (Nat.le_of_ble_eq_true rfl)
  rw [lg_entry_eq]
  generalize (lg_sl ([.ref h, .int (nI k)]) ++ List.replicate (2 - (lg_sl ([.ref h, .int (nI k)])).length) Slot.unset).toArray = ls at hl ⊢
  have hl : lv_has ls 2 [(0, .ref h), (1, .int (nI k))] := hl
  refine lv_iload_n hx hb d_RR_requireRecord_0 rfl (lv_at hl 1 rfl) ?_
  refine lv_if_lt (tgt := 15) hx hb d_RR_requireRecord_1 (by decide) (fun c1 => ?_) (fun c1 => ?_)
  · exact absurd c1 (nI_pos (by omega))
  · refine lv_iload_n hx hb d_RR_requireRecord_4 rfl (lv_at hl 1 rfl) ?_
    refine lv_aload_n hx hb d_RR_requireRecord_5 rfl (lv_at hl 0 rfl) ?_
    refine va_get (D := (dC, dI)) (ci := 9) (v := .ref hHO) (C := R_RR) (T := T_RR) (N := 10) hx hb hts iRR hown hK hP 0 rfl rfl 4 (by decide) (hts _ (wb_RR_requireRecord _ b_228)) (fun _ h9 => h9) rfl d_RR_requireRecord_6 ?_
    refine va_get (D := (dC, dI)) (ci := 2) (v := .int (nI hn)) (C := R_HO) (T := T_HO) (N := 4) hx hb hts iHO hown hK hP 1 rfl rfl 3 (by decide) (hts _ (wb_RR_requireRecord _ b_141)) (fun _ h9 => h9) rfl d_RR_requireRecord_9 ?_
    refine lv_icmp_lt (tgt := 26) hx hb d_RR_requireRecord_12 (by decide) (fun c12 => ?_) (fun c12 => ?_)
    · exact W.vret hx hb hr (fun t ht hW => ⟨⟨(), rfl, trivial, trivial⟩, hS.F ht⟩) hS.2.2 d_RR_requireRecord_26
    · exact absurd ((nI_ltI (by omega) (by omega)).mpr hk) c12

set_option maxHeartbeats 4000000 in
set_option maxRecDepth 100000 in
/-- RecordRights.requireField, where there is one -/
theorem c_RR_requireField (l : Launch) (dC : Nat → ClassId) (dI : Nat → Nat → Nat) (k : Nat) (hk : k < 6) : Met l y_RR_requireField ws_RR_requireField ({ frames := 0, cells := 0, slots := 0, locals := 0 }) (va_Pc [.int (nI k)] (fun U => va_P (dC, dI) vwCl [] U.heap ∧ va_K (dC, dI) vwCl [] U)) (va_Qv (fun (_ : Unit) => True) (fun _ _ => True) (fun _ => False)) 0 0 (fun _ => False) := by
  refine Met.ofW (cc := k_RR_requireField) (maxL := 1) (ret := none) (by decide) rfl ?_
  intro p e s m args below meth c s₁ B hml hv
  obtain ⟨rfl, hP, hK⟩ := hv
  have hx := B.exec
  have hb := B.bytes
  have hr := B.returns
  have hts := atoms_spec (ws := ws_RR_requireField) B.pre
  have hown : s.vm.findClass R_RR = some m.cls := findClass_of_methodNamed B.named
  have hlocks := B.notSynchronized
  have hS : va_S (fun _ => False) s.heap s.heap [] := va_S.rf
  have hP : va_P (dC, dI) vwCl [] s.heap := hP
  have hl := lv_entry ([.int (nI k)]) (n := 1) (Nat.le_of_ble_eq_true rfl)
  rw [lg_entry_eq]
  generalize (lg_sl ([.int (nI k)]) ++ List.replicate (1 - (lg_sl ([.int (nI k)])).length) Slot.unset).toArray = ls at hl ⊢
  have hl : lv_has ls 1 [(0, .int (nI k))] := hl
  refine lv_iload_n hx hb d_RR_requireField_0 rfl (lv_at hl 0 rfl) ?_
  refine lv_if_lt (tgt := 10) hx hb d_RR_requireField_1 (by decide) (fun c1 => ?_) (fun c1 => ?_)
  · exact absurd c1 (nI_pos (by omega))
  · refine lv_iload_n hx hb d_RR_requireField_4 rfl (lv_at hl 0 rfl) ?_
    refine lv_bipush (v := 6) hx hb d_RR_requireField_5 (by decide) ?_
    refine lv_icmp_lt (tgt := 21) hx hb d_RR_requireField_7 (by decide) (fun c7 => ?_) (fun c7 => ?_)
    · exact W.vret hx hb hr (fun t ht hW => ⟨⟨(), rfl, trivial, trivial⟩, hS.F ht⟩) hS.2.2 d_RR_requireField_21
    · exact absurd ((nI_ltI (by omega) (show 6 < 2147483648 by omega)).mpr hk) c7

set_option maxHeartbeats 4000000 in
set_option maxRecDepth 100000 in
/-- RecordRights.requireDay, where it is a day -/
theorem c_RR_requireDay (l : Launch) (dC : Nat → ClassId) (dI : Nat → Nat → Nat) (d : Int32) (hd0 : ¬ d < 0) (hd1 : d ≤ 100000) : Met l y_RR_requireDay ws_RR_requireDay ({ frames := 0, cells := 0, slots := 0, locals := 0 }) (va_Pc [.int d] (fun U => va_P (dC, dI) vwCl [] U.heap ∧ va_K (dC, dI) vwCl [] U)) (va_Qv (fun (_ : Unit) => True) (fun _ _ => True) (fun _ => False)) 0 0 (fun _ => False) := by
  refine Met.ofW (cc := k_RR_requireDay) (maxL := 1) (ret := none) (by decide) rfl ?_
  intro p e s m args below meth c s₁ B hml hv
  obtain ⟨rfl, hP, hK⟩ := hv
  have hx := B.exec
  have hb := B.bytes
  have hr := B.returns
  have hts := atoms_spec (ws := ws_RR_requireDay) B.pre
  have hown : s.vm.findClass R_RR = some m.cls := findClass_of_methodNamed B.named
  have hlocks := B.notSynchronized
  have hS : va_S (fun _ => False) s.heap s.heap [] := va_S.rf
  have hP : va_P (dC, dI) vwCl [] s.heap := hP
  have hl := lv_entry ([.int d]) (n := 1) (Nat.le_of_ble_eq_true rfl)
  rw [lg_entry_eq]
  generalize (lg_sl ([.int d]) ++ List.replicate (1 - (lg_sl ([.int d])).length) Slot.unset).toArray = ls at hl ⊢
  have hl : lv_has ls 1 [(0, .int d)] := hl
  refine lv_iload_n hx hb d_RR_requireDay_0 rfl (lv_at hl 0 rfl) ?_
  refine lv_if_lt (tgt := 11) hx hb d_RR_requireDay_1 (by decide) (fun c1 => ?_) (fun c1 => ?_)
  · exact absurd c1 hd0
  · refine lv_iload_n hx hb d_RR_requireDay_4 rfl (lv_at hl 0 rfl) ?_
    refine lv_ldcw (v := 100000) hx hb hown (hts _ (wb_RR_requireDay _ b_483)) d_RR_requireDay_5 ?_
    refine lv_icmp_le (tgt := 22) hx hb d_RR_requireDay_8 (by decide) (fun c8 => ?_) (fun c8 => ?_)
    · exact W.vret hx hb hr (fun t ht hW => ⟨⟨(), rfl, trivial, trivial⟩, hS.F ht⟩) hS.2.2 d_RR_requireDay_22
    · exact absurd hd1 c8

/-- the facts of a field and a purpose, of a person and a record -/
def ffacts (f q : Int32) : Int32 := ((1 : Int32) <<< ((12 + f) &&& 31)) ||| ((1 : Int32) <<< ((18 + q) &&& 31))
def ruleFF (nd br : Nat → Int32) (tl : Int32) (n : Nat) (f q : Int32) : Int32 := suitN nd br (4190208 &&& (ffacts f q ^^^ (-1))) (ffacts f q) n &&& tl
def pfacts (ro fa ag : Int32) : Int32 := (ro <<< ((0 : Int32) &&& 31)) ||| fa ||| ag
def rulePF (nd br : Nat → Int32) (tl : Int32) (n : Nat) (pf : Int32) : Int32 := suitN nd br ((-4190209) &&& (pf ^^^ (-1))) pf n &&& tl

set_option maxHeartbeats 4000000 in
set_option maxRecDepth 100000 in
/-- RecordRights.rulesForField -/
theorem c_RR_rulesForField (l : Launch) (dC : Nat → ClassId) (dI : Nat → Nat → Nat) (h hPA hRD hRB hPE hHO hAG hLO hRQ hEX aFR : Nat) (cI : ClassId) (aN aB : Nat) (nd br : Nat → Int32) (bn : Nat) (tl ab mk sh : Int32) (hbn : bn ≤ 20) (f q : Int32) : Met l y_RR_rulesForField ws_RR_rulesForField ({ frames := 1, cells := 0, slots := 0, locals := 25 }) (va_Pc [.ref h, .int f, .int q] (fun U => va_P (dC, dI) vwCl [(h, .inr (9, [.ref hPA, .ref hRD, .ref hRB, .ref hPE, .ref hHO, .ref hAG, .ref hLO, .ref hRQ, .ref hEX, .ref aFR])), (hRB, .inr (7, [.ref aN, .ref aB, .int (nI bn), .int tl, .int ab, .int mk, .int sh])), (aN, .inl (cI, 20, .inl nd)), (aB, .inl (cI, 20, .inl br))] U.heap ∧ va_K (dC, dI) vwCl [(cI, .int)] U)) (va_Qi (fun (res : Int32) (_ : Unit) => res = ruleFF nd br tl bn f q) (fun _ _ => True) (fun _ => False)) 0 0 (fun _ => False) := by
  refine Met.ofW (cc := k_RR_rulesForField) (maxL := 4) (ret := (some .int)) (by decide) rfl ?_
  intro p e s m args below meth c s₁ B hml hv
  obtain ⟨rfl, hP, hK⟩ := hv
  have hx := B.exec
  have hb := B.bytes
  have hr := B.returns
  have hts := atoms_spec (ws := ws_RR_rulesForField) B.pre
  have hown : s.vm.findClass R_RR = some m.cls := findClass_of_methodNamed B.named
  have hlocks := B.notSynchronized
  have hS : va_S (fun _ => False) s.heap s.heap [] := va_S.rf
  have hP : va_P (dC, dI) vwCl [(h, .inr (9, [.ref hPA, .ref hRD, .ref hRB, .ref hPE, .ref hHO, .ref hAG, .ref hLO, .ref hRQ, .ref hEX, .ref aFR])), (hRB, .inr (7, [.ref aN, .ref aB, .int (nI bn), .int tl, .int ab, .int mk, .int sh])), (aN, .inl (cI, 20, .inl nd)), (aB, .inl (cI, 20, .inl br))] s.heap := hP
  have iRB : ∀ w ∈ u_ws R_RB T_RB 7, w ∈ ws_RR_rulesForField := fun w h => wb_RR_rulesForField w (in_RB w h)
  have iRR : ∀ w ∈ u_ws R_RR T_RR 10, w ∈ ws_RR_rulesForField := fun w h => wb_RR_rulesForField w (in_RR w h)
  have hl := lv_entry ([.ref h, .int f, .int q]) (n := 4) (Nat.le_of_ble_eq_true rfl)
  rw [lg_entry_eq]
  generalize (lg_sl ([.ref h, .int f, .int q]) ++ List.replicate (4 - (lg_sl ([.ref h, .int f, .int q])).length) Slot.unset).toArray = ls at hl ⊢
  have hl : lv_has ls 4 [(0, .ref h), (1, .int f), (2, .int q)] := hl
  refine lv_iconst (v := 1) hx hb d_RR_rulesForField_0 (by decide) ?_
  refine lv_bipush (v := 12) hx hb d_RR_rulesForField_1 (by decide) ?_
  refine lv_iload_n hx hb d_RR_rulesForField_3 rfl (lv_at hl 1 rfl) ?_
  refine lv_iadd hx hb d_RR_rulesForField_4 ?_
  refine lv_ishl hx hb d_RR_rulesForField_5 ?_
  refine lv_iconst (v := 1) hx hb d_RR_rulesForField_6 (by decide) ?_
  refine lv_bipush (v := 18) hx hb d_RR_rulesForField_7 (by decide) ?_
  refine lv_iload_n hx hb d_RR_rulesForField_9 rfl (lv_at hl 2 rfl) ?_
  refine lv_iadd hx hb d_RR_rulesForField_10 ?_
  refine lv_ishl hx hb d_RR_rulesForField_11 ?_
  refine lv_ior hx hb d_RR_rulesForField_12 ?_
  refine lv_topi (fun ff eff => ?_)
  refine lv_istore_n (lv' := [(3, .int ff), (0, .ref h), (1, .int f), (2, .int q)]) hx hb d_RR_rulesForField_13 rfl hl (by decide) rfl (fun ls hl => ?_)
  refine lv_aload_n hx hb d_RR_rulesForField_14 rfl (lv_at hl 1 rfl) ?_
  refine va_get (D := (dC, dI)) (ci := 9) (v := .ref hRB) (C := R_RR) (T := T_RR) (N := 10) hx hb hts iRR hown hK hP 0 rfl rfl 2 (by decide) (hts _ (wb_RR_rulesForField _ b_226)) (fun _ h9 => h9) rfl d_RR_rulesForField_15 ?_
  refine lv_iload_n hx hb d_RR_rulesForField_18 rfl (lv_at hl 0 rfl) ?_
  refine lv_ldcw (v := 4190208) hx hb hown (hts _ (wb_RR_rulesForField _ b_529)) d_RR_rulesForField_19 ?_
  have hPc := hP.sub (ws' := [(hRB, .inr (7, [.ref aN, .ref aB, .int (nI bn), .int tl, .int ab, .int mk, .int sh])), (aN, .inl (cI, 20, .inl nd)), (aB, .inl (cI, 20, .inl br))]) [1, 2, 3] rfl
  have hKc := hK.sub (tys' := [(cI, .int)]) [0] rfl
  refine va_calli (va_runV (As := [.int ff, .int 4190208]) (rest := []) ⟨hx, hb, hml, hown, hts⟩ (c_RB_suiting l dC dI cI hRB aN aB nd br bn (by first | assumption | omega) tl ab mk sh ff 4190208) (cwV 2 hts (vz_gV wb_RR_rulesForField b_521 b_522 b_523 b_4 wc_RB_suiting) rfl rfl rfl (by decide +kernel) ⟨Nat.le_of_ble_eq_true rfl, Nat.le_of_ble_eq_true rfl⟩) (vz_preV hPc hKc (ci := 7) (q0 := 0) rfl rfl) rfl rfl hl.1 rfl (lv_room (Nat.le_of_ble_eq_true rfl)) d_RR_rulesForField_22 ⟨Nat.le_of_ble_eq_true rfl, Nat.le_of_ble_eq_true rfl⟩) hS (fun q _ h => False.elim h) (fun q h => False.elim h) (fun r22 u9 t9 H1 locs ht hvm hr22 hB hzx9 hkx9 hS => ?_)
  try dsimp only at hr22
  have hP := vz_kept hP hkx9
  generalize H1 = H at hP hS ⊢
  exact W.iret (v := r22) hx hb hr (fun t ht hW => ⟨⟨r22, (), rfl, by rw [hr22, eff]; rfl, trivial⟩, hS.F ht⟩) hS.2.2 d_RR_rulesForField_25

/-- whether some agreement holds -/
def hasAg (ap ar af at_ : Nat → Int32) (n : Nat) (w r d : Int32) : Bool := (List.range n).any fun k => decide (ap k = w) && decide (ar k = r) && decide (af k ≤ d) && decide (d ≤ at_ k)
theorem hasAg_iff (ap ar af at_ : Nat → Int32) (n : Nat) (w r d : Int32) : hasAg ap ar af at_ n w r d = true ↔ ∃ k, k < n ∧ agM ap ar af at_ w r d k := by
  simp [hasAg, agM, and_assoc]
/-- the rules open to a person for a record on a day: none under an embargo that holds for the person -/
def openF (nd br : Nat → Int32) (tl : Int32) (n : Nat) (ro em fa d : Int32) (ag : Bool) : Int32 := if d ≤ em ∧ ro &&& 128 = 0 then 0 else rulePF nd br tl n (pfacts ro fa (if ag then 1073741824 else 0))

set_option maxHeartbeats 4000000 in
set_option maxRecDepth 100000 in
/-- RecordRights.openRules -/
theorem c_RR_openRules (l : Launch) (dC : Nat → ClassId) (dI : Nat → Nat → Nat) (h hPA hRD hRB hPE hHO hAG hLO hRQ hEX aFR : Nat) (cI cL : ClassId) (aN aB : Nat) (nd br : Nat → Int32) (bn : Nat) (tl ab mk sh : Int32) (aRo aLi : Nat) (ro li : Nat → Int32) (en : Nat) (aFa aEm aVa : Nat) (fa em : Nat → Int32) (va : Nat → Int64) (hn : Nat) (aAP aAR aAF aAT : Nat) (ap ar af at_ : Nat → Int32) (an : Nat) (hbn : bn ≤ 20) (han : an ≤ 40) (u r : Nat) (hu : u < 12) (hr16 : r < 16) (d : Int32) : Met l y_RR_openRules ws_RR_openRules ({ frames := 1, cells := 0, slots := 0, locals := 25 }) (va_Pc [.ref h, .int (nI u), .int (nI r), .int d] (fun U => va_P (dC, dI) vwCl [(h, .inr (9, [.ref hPA, .ref hRD, .ref hRB, .ref hPE, .ref hHO, .ref hAG, .ref hLO, .ref hRQ, .ref hEX, .ref aFR])), (hRB, .inr (7, [.ref aN, .ref aB, .int (nI bn), .int tl, .int ab, .int mk, .int sh])), (aN, .inl (cI, 20, .inl nd)), (aB, .inl (cI, 20, .inl br)), (hPE, .inr (5, [.ref aRo, .ref aLi, .int (nI en)])), (aRo, .inl (cI, 12, .inl ro)), (aLi, .inl (cI, 12, .inl li)), (hHO, .inr (2, [.ref aFa, .ref aEm, .ref aVa, .int (nI hn)])), (aFa, .inl (cI, 16, .inl fa)), (aEm, .inl (cI, 16, .inl em)), (aVa, .inl (cL, 96, .inr (.inl va))), (hAG, .inr (0, [.ref aAP, .ref aAR, .ref aAF, .ref aAT, .int (nI an)])), (aAP, .inl (cI, 40, .inl ap)), (aAR, .inl (cI, 40, .inl ar)), (aAF, .inl (cI, 40, .inl af)), (aAT, .inl (cI, 40, .inl at_))] U.heap ∧ va_K (dC, dI) vwCl [(cI, .int), (cL, .long)] U)) (va_Qi (fun (res : Int32) (_ : Unit) => res = openF nd br tl bn (ro u) (em r) (fa r) d (hasAg ap ar af at_ an (nI u) (nI r) d)) (fun _ _ => True) (fun _ => False)) 0 0 (fun _ => False) := by
  refine Met.ofW (cc := k_RR_openRules) (maxL := 6) (ret := (some .int)) (by decide) rfl ?_
  intro p e s m args below meth c s₁ B hml hv
  obtain ⟨rfl, hP, hK⟩ := hv
  have hx := B.exec
  have hb := B.bytes
  have hr := B.returns
  have hts := atoms_spec (ws := ws_RR_openRules) B.pre
  have hown : s.vm.findClass R_RR = some m.cls := findClass_of_methodNamed B.named
  have hlocks := B.notSynchronized
  have hS : va_S (fun _ => False) s.heap s.heap [] := va_S.rf
  have hP : va_P (dC, dI) vwCl [(h, .inr (9, [.ref hPA, .ref hRD, .ref hRB, .ref hPE, .ref hHO, .ref hAG, .ref hLO, .ref hRQ, .ref hEX, .ref aFR])), (hRB, .inr (7, [.ref aN, .ref aB, .int (nI bn), .int tl, .int ab, .int mk, .int sh])), (aN, .inl (cI, 20, .inl nd)), (aB, .inl (cI, 20, .inl br)), (hPE, .inr (5, [.ref aRo, .ref aLi, .int (nI en)])), (aRo, .inl (cI, 12, .inl ro)), (aLi, .inl (cI, 12, .inl li)), (hHO, .inr (2, [.ref aFa, .ref aEm, .ref aVa, .int (nI hn)])), (aFa, .inl (cI, 16, .inl fa)), (aEm, .inl (cI, 16, .inl em)), (aVa, .inl (cL, 96, .inr (.inl va))), (hAG, .inr (0, [.ref aAP, .ref aAR, .ref aAF, .ref aAT, .int (nI an)])), (aAP, .inl (cI, 40, .inl ap)), (aAR, .inl (cI, 40, .inl ar)), (aAF, .inl (cI, 40, .inl af)), (aAT, .inl (cI, 40, .inl at_))] s.heap := hP
  have iAG : ∀ w ∈ u_ws R_AG T_AG 5, w ∈ ws_RR_openRules := fun w h => wb_RR_openRules w (in_AG w h)
  have iHO : ∀ w ∈ u_ws R_HO T_HO 4, w ∈ ws_RR_openRules := fun w h => wb_RR_openRules w (in_HO w h)
  have iPE : ∀ w ∈ u_ws R_PE T_PE 3, w ∈ ws_RR_openRules := fun w h => wb_RR_openRules w (in_PE w h)
  have iRB : ∀ w ∈ u_ws R_RB T_RB 7, w ∈ ws_RR_openRules := fun w h => wb_RR_openRules w (in_RB w h)
  have iRR : ∀ w ∈ u_ws R_RR T_RR 10, w ∈ ws_RR_openRules := fun w h => wb_RR_openRules w (in_RR w h)
  have hl := lv_entry ([.ref h, .int (nI u), .int (nI r), .int d]) (n := 6) (Nat.le_of_ble_eq_true rfl)
  rw [lg_entry_eq]
  generalize (lg_sl ([.ref h, .int (nI u), .int (nI r), .int d]) ++ List.replicate (6 - (lg_sl ([.ref h, .int (nI u), .int (nI r), .int d])).length) Slot.unset).toArray = ls at hl ⊢
  have hl : lv_has ls 6 [(0, .ref h), (1, .int (nI u)), (2, .int (nI r)), (3, .int d)] := hl
  refine lv_aload_n hx hb d_RR_openRules_0 rfl (lv_at hl 0 rfl) ?_
  refine va_get (D := (dC, dI)) (ci := 9) (v := .ref hPE) (C := R_RR) (T := T_RR) (N := 10) hx hb hts iRR hown hK hP 0 rfl rfl 3 (by decide) (hts _ (wb_RR_openRules _ b_227)) (fun _ h9 => h9) rfl d_RR_openRules_1 ?_
  refine va_get (D := (dC, dI)) (ci := 5) (v := .ref aRo) (C := R_PE) (T := T_PE) (N := 3) hx hb hts iPE hown hK hP 4 rfl rfl 0 (by decide) (hts _ (wb_RR_openRules _ b_117)) (fun _ h9 => h9) rfl d_RR_openRules_4 ?_
  refine lv_iload_n hx hb d_RR_openRules_7 rfl (lv_at hl 1 rfl) ?_
  refine vz_iald (k := u) hx hb hK hP 5 0 rfl rfl (by omega) (by decide) d_RR_openRules_8 ?_
  refine lv_istore (lv' := [(4, .int (ro u)), (0, .ref h), (1, .int (nI u)), (2, .int (nI r)), (3, .int d)]) hx hb d_RR_openRules_9 hl (by decide) rfl (fun ls hl => ?_)
  refine lv_iload_n hx hb d_RR_openRules_11 rfl (lv_at hl 4 rfl) ?_
  refine lv_aload_n hx hb d_RR_openRules_12 rfl (lv_at hl 1 rfl) ?_
  refine va_get (D := (dC, dI)) (ci := 9) (v := .ref hHO) (C := R_RR) (T := T_RR) (N := 10) hx hb hts iRR hown hK hP 0 rfl rfl 4 (by decide) (hts _ (wb_RR_openRules _ b_228)) (fun _ h9 => h9) rfl d_RR_openRules_13 ?_
  refine va_get (D := (dC, dI)) (ci := 2) (v := .ref aEm) (C := R_HO) (T := T_HO) (N := 4) hx hb hts iHO hown hK hP 7 rfl rfl 1 (by decide) (hts _ (wb_RR_openRules _ b_138)) (fun _ h9 => h9) rfl d_RR_openRules_16 ?_
  refine lv_iload_n hx hb d_RR_openRules_19 rfl (lv_at hl 3 rfl) ?_
  refine vz_iald (k := r) hx hb hK hP 9 0 rfl rfl (by omega) (by decide) d_RR_openRules_20 ?_
  refine lv_icmp_gt (tgt := 35) hx hb d_RR_openRules_21 (by decide) (fun c21 => ?_) (fun c21 => ?_)
  · refine lv_aload_n hx hb d_RR_openRules_35 rfl (lv_at hl 1 rfl) ?_
    refine va_get (D := (dC, dI)) (ci := 9) (v := .ref hAG) (C := R_RR) (T := T_RR) (N := 10) hx hb hts iRR hown hK hP 0 rfl rfl 5 (by decide) (hts _ (wb_RR_openRules _ b_229)) (fun _ h9 => h9) rfl d_RR_openRules_36 ?_
    refine lv_iload_n hx hb d_RR_openRules_39 rfl (lv_at hl 2 rfl) ?_
    refine lv_iload_n hx hb d_RR_openRules_40 rfl (lv_at hl 3 rfl) ?_
    refine lv_iload_n hx hb d_RR_openRules_41 rfl (lv_at hl 4 rfl) ?_
    have hPc := hP.sub (ws' := [(hAG, .inr (0, [.ref aAP, .ref aAR, .ref aAF, .ref aAT, .int (nI an)])), (aAP, .inl (cI, 40, .inl ap)), (aAR, .inl (cI, 40, .inl ar)), (aAF, .inl (cI, 40, .inl af)), (aAT, .inl (cI, 40, .inl at_))]) [11, 12, 13, 14, 15] rfl
    have hKc := hK.sub (tys' := [(cI, .int)]) [0] rfl
    refine va_calli (va_runV (As := [.int (nI u), .int (nI r), .int d]) (rest := []) ⟨hx, hb, hml, hown, hts⟩ (c_AG_hold l dC dI cI hAG aAP aAR aAF aAT ap ar af at_ an (by first | assumption | omega) (nI u) (nI r) d) (cwV 3 hts (vz_gV wb_RR_openRules b_515 b_516 b_517 b_7 wc_AG_hold) rfl rfl rfl (by decide +kernel) ⟨Nat.le_of_ble_eq_true rfl, Nat.le_of_ble_eq_true rfl⟩) (vz_preV hPc hKc (ci := 0) (q0 := 0) rfl rfl) rfl rfl hl.1 rfl (lv_room (Nat.le_of_ble_eq_true rfl)) d_RR_openRules_42 ⟨Nat.le_of_ble_eq_true rfl, Nat.le_of_ble_eq_true rfl⟩) hS (fun q _ h => False.elim h) (fun q h => False.elim h) (fun r42 u9 t9 H1 locs ht hvm hr42 hB hzx9 hkx9 hS => ?_)
    try dsimp only at hr42
    have hP := vz_kept hP hkx9
    generalize H1 = H at hP hS ⊢
    refine lv_if_eq (tgt := 54) hx hb d_RR_openRules_45 (by decide) (fun c45 => ?_) (fun c45 => ?_)
    · refine lv_iconst (v := 0) hx hb d_RR_openRules_54 (by decide) ?_
      refine lv_istore (lv' := [(5, .int 0), (4, .int (ro u)), (0, .ref h), (1, .int (nI u)), (2, .int (nI r)), (3, .int d)]) hx hb d_RR_openRules_55 hl (by decide) rfl (fun ls hl => ?_)
      refine lv_aload_n hx hb d_RR_openRules_57 rfl (lv_at hl 2 rfl) ?_
      refine va_get (D := (dC, dI)) (ci := 9) (v := .ref hRB) (C := R_RR) (T := T_RR) (N := 10) hx hb hts iRR hown hK hP 0 rfl rfl 2 (by decide) (hts _ (wb_RR_openRules _ b_226)) (fun _ h9 => h9) rfl d_RR_openRules_58 ?_
      refine lv_iload hx hb d_RR_openRules_61 (lv_at hl 1 rfl) ?_
      refine lv_iconst (v := 0) hx hb d_RR_openRules_63 (by decide) ?_
      refine lv_ishl hx hb d_RR_openRules_64 ?_
      refine lv_aload_n hx hb d_RR_openRules_65 rfl (lv_at hl 2 rfl) ?_
      refine va_get (D := (dC, dI)) (ci := 9) (v := .ref hHO) (C := R_RR) (T := T_RR) (N := 10) hx hb hts iRR hown hK hP 0 rfl rfl 4 (by decide) (hts _ (wb_RR_openRules _ b_228)) (fun _ h9 => h9) rfl d_RR_openRules_66 ?_
      refine va_get (D := (dC, dI)) (ci := 2) (v := .ref aFa) (C := R_HO) (T := T_HO) (N := 4) hx hb hts iHO hown hK hP 7 rfl rfl 0 (by decide) (hts _ (wb_RR_openRules _ b_136)) (fun _ h9 => h9) rfl d_RR_openRules_69 ?_
      refine lv_iload_n hx hb d_RR_openRules_72 rfl (lv_at hl 4 rfl) ?_
      refine vz_iald (k := r) hx hb hK hP 8 0 rfl rfl (by omega) (by decide) d_RR_openRules_73 ?_
      refine lv_ior hx hb d_RR_openRules_74 ?_
      refine lv_iload hx hb d_RR_openRules_75 (lv_at hl 0 rfl) ?_
      refine lv_ior hx hb d_RR_openRules_77 ?_
      refine lv_ldcw (v := (-4190209)) hx hb hown (hts _ (wb_RR_openRules _ b_520)) d_RR_openRules_78 ?_
      have hPc := hP.sub (ws' := [(hRB, .inr (7, [.ref aN, .ref aB, .int (nI bn), .int tl, .int ab, .int mk, .int sh])), (aN, .inl (cI, 20, .inl nd)), (aB, .inl (cI, 20, .inl br))]) [1, 2, 3] rfl
      have hKc := hK.sub (tys' := [(cI, .int)]) [0] rfl
      refine va_calli (va_runV (As := [.int ((((ro u) <<< (0 &&& 31)) ||| (fa r)) ||| 0), .int (-4190209)]) (rest := []) ⟨hx, hb, hml, hown, hts⟩ (c_RB_suiting l dC dI cI hRB aN aB nd br bn (by first | assumption | omega) tl ab mk sh ((((ro u) <<< (0 &&& 31)) ||| (fa r)) ||| 0) (-4190209)) (cwV 2 hts (vz_gV wb_RR_openRules b_521 b_522 b_523 b_4 wc_RB_suiting) rfl rfl rfl (by decide +kernel) ⟨Nat.le_of_ble_eq_true rfl, Nat.le_of_ble_eq_true rfl⟩) (vz_preV hPc hKc (ci := 7) (q0 := 0) rfl rfl) rfl rfl hl.1 rfl (lv_room (Nat.le_of_ble_eq_true rfl)) d_RR_openRules_81 ⟨Nat.le_of_ble_eq_true rfl, Nat.le_of_ble_eq_true rfl⟩) hS (fun q _ h => False.elim h) (fun q h => False.elim h) (fun r81 u9 t9 H1 locs ht hvm hr81 hB hzx9 hkx9 hS => ?_)
      try dsimp only at hr81
      have hP := vz_kept hP hkx9
      generalize H1 = H at hP hS ⊢
      have hag : hasAg ap ar af at_ an (nI u) (nI r) d = false := by rw [← Bool.not_eq_true, hasAg_iff]; rcases hr42 with h8 | h8; exact absurd (h8.1.symm.trans c45) (by decide); exact fun h9 => absurd h9.choose_spec.2 (h8.2 _ h9.choose_spec.1)
      exact W.iret (v := r81) hx hb hr (fun t ht hW => ⟨⟨r81, (), rfl, by rw [hr81, hag]; simp only [openF]; rw [if_neg (fun h9 => absurd h9.1 (Int32.not_le.mpr c21))]; rfl, trivial⟩, hS.F ht⟩) hS.2.2 d_RR_openRules_84
    · refine lv_ldcw (v := 1073741824) hx hb hown (hts _ (wb_RR_openRules _ b_519)) d_RR_openRules_48 ?_
      refine lv_goto (tgt := 55) hx hb d_RR_openRules_51 (by decide) ?_
      refine lv_istore (lv' := [(5, .int 1073741824), (4, .int (ro u)), (0, .ref h), (1, .int (nI u)), (2, .int (nI r)), (3, .int d)]) hx hb d_RR_openRules_55 hl (by decide) rfl (fun ls hl => ?_)
      refine lv_aload_n hx hb d_RR_openRules_57 rfl (lv_at hl 2 rfl) ?_
      refine va_get (D := (dC, dI)) (ci := 9) (v := .ref hRB) (C := R_RR) (T := T_RR) (N := 10) hx hb hts iRR hown hK hP 0 rfl rfl 2 (by decide) (hts _ (wb_RR_openRules _ b_226)) (fun _ h9 => h9) rfl d_RR_openRules_58 ?_
      refine lv_iload hx hb d_RR_openRules_61 (lv_at hl 1 rfl) ?_
      refine lv_iconst (v := 0) hx hb d_RR_openRules_63 (by decide) ?_
      refine lv_ishl hx hb d_RR_openRules_64 ?_
      refine lv_aload_n hx hb d_RR_openRules_65 rfl (lv_at hl 2 rfl) ?_
      refine va_get (D := (dC, dI)) (ci := 9) (v := .ref hHO) (C := R_RR) (T := T_RR) (N := 10) hx hb hts iRR hown hK hP 0 rfl rfl 4 (by decide) (hts _ (wb_RR_openRules _ b_228)) (fun _ h9 => h9) rfl d_RR_openRules_66 ?_
      refine va_get (D := (dC, dI)) (ci := 2) (v := .ref aFa) (C := R_HO) (T := T_HO) (N := 4) hx hb hts iHO hown hK hP 7 rfl rfl 0 (by decide) (hts _ (wb_RR_openRules _ b_136)) (fun _ h9 => h9) rfl d_RR_openRules_69 ?_
      refine lv_iload_n hx hb d_RR_openRules_72 rfl (lv_at hl 4 rfl) ?_
      refine vz_iald (k := r) hx hb hK hP 8 0 rfl rfl (by omega) (by decide) d_RR_openRules_73 ?_
      refine lv_ior hx hb d_RR_openRules_74 ?_
      refine lv_iload hx hb d_RR_openRules_75 (lv_at hl 0 rfl) ?_
      refine lv_ior hx hb d_RR_openRules_77 ?_
      refine lv_ldcw (v := (-4190209)) hx hb hown (hts _ (wb_RR_openRules _ b_520)) d_RR_openRules_78 ?_
      have hPc := hP.sub (ws' := [(hRB, .inr (7, [.ref aN, .ref aB, .int (nI bn), .int tl, .int ab, .int mk, .int sh])), (aN, .inl (cI, 20, .inl nd)), (aB, .inl (cI, 20, .inl br))]) [1, 2, 3] rfl
      have hKc := hK.sub (tys' := [(cI, .int)]) [0] rfl
      refine va_calli (va_runV (As := [.int ((((ro u) <<< (0 &&& 31)) ||| (fa r)) ||| 1073741824), .int (-4190209)]) (rest := []) ⟨hx, hb, hml, hown, hts⟩ (c_RB_suiting l dC dI cI hRB aN aB nd br bn (by first | assumption | omega) tl ab mk sh ((((ro u) <<< (0 &&& 31)) ||| (fa r)) ||| 1073741824) (-4190209)) (cwV 2 hts (vz_gV wb_RR_openRules b_521 b_522 b_523 b_4 wc_RB_suiting) rfl rfl rfl (by decide +kernel) ⟨Nat.le_of_ble_eq_true rfl, Nat.le_of_ble_eq_true rfl⟩) (vz_preV hPc hKc (ci := 7) (q0 := 0) rfl rfl) rfl rfl hl.1 rfl (lv_room (Nat.le_of_ble_eq_true rfl)) d_RR_openRules_81 ⟨Nat.le_of_ble_eq_true rfl, Nat.le_of_ble_eq_true rfl⟩) hS (fun q _ h => False.elim h) (fun q h => False.elim h) (fun r81 u9 t9 H1 locs ht hvm hr81 hB hzx9 hkx9 hS => ?_)
      try dsimp only at hr81
      have hP := vz_kept hP hkx9
      generalize H1 = H at hP hS ⊢
      have hag : hasAg ap ar af at_ an (nI u) (nI r) d = true := by rw [hasAg_iff]; rcases hr42 with h8 | h8; exact h8.2; exact absurd h8.1 c45
      exact W.iret (v := r81) hx hb hr (fun t ht hW => ⟨⟨r81, (), rfl, by rw [hr81, hag]; simp only [openF]; rw [if_neg (fun h9 => absurd h9.1 (Int32.not_le.mpr c21))]; rfl, trivial⟩, hS.F ht⟩) hS.2.2 d_RR_openRules_84
  · refine lv_iload hx hb d_RR_openRules_24 (lv_at hl 0 rfl) ?_
    refine lv_sipush (v := 128) hx hb d_RR_openRules_26 (by decide) ?_
    refine lv_iand hx hb d_RR_openRules_29 ?_
    refine lv_if_ne (tgt := 35) hx hb d_RR_openRules_30 (by decide) (fun c30 => ?_) (fun c30 => ?_)
    · refine lv_aload_n hx hb d_RR_openRules_35 rfl (lv_at hl 1 rfl) ?_
      refine va_get (D := (dC, dI)) (ci := 9) (v := .ref hAG) (C := R_RR) (T := T_RR) (N := 10) hx hb hts iRR hown hK hP 0 rfl rfl 5 (by decide) (hts _ (wb_RR_openRules _ b_229)) (fun _ h9 => h9) rfl d_RR_openRules_36 ?_
      refine lv_iload_n hx hb d_RR_openRules_39 rfl (lv_at hl 2 rfl) ?_
      refine lv_iload_n hx hb d_RR_openRules_40 rfl (lv_at hl 3 rfl) ?_
      refine lv_iload_n hx hb d_RR_openRules_41 rfl (lv_at hl 4 rfl) ?_
      have hPc := hP.sub (ws' := [(hAG, .inr (0, [.ref aAP, .ref aAR, .ref aAF, .ref aAT, .int (nI an)])), (aAP, .inl (cI, 40, .inl ap)), (aAR, .inl (cI, 40, .inl ar)), (aAF, .inl (cI, 40, .inl af)), (aAT, .inl (cI, 40, .inl at_))]) [11, 12, 13, 14, 15] rfl
      have hKc := hK.sub (tys' := [(cI, .int)]) [0] rfl
      refine va_calli (va_runV (As := [.int (nI u), .int (nI r), .int d]) (rest := []) ⟨hx, hb, hml, hown, hts⟩ (c_AG_hold l dC dI cI hAG aAP aAR aAF aAT ap ar af at_ an (by first | assumption | omega) (nI u) (nI r) d) (cwV 3 hts (vz_gV wb_RR_openRules b_515 b_516 b_517 b_7 wc_AG_hold) rfl rfl rfl (by decide +kernel) ⟨Nat.le_of_ble_eq_true rfl, Nat.le_of_ble_eq_true rfl⟩) (vz_preV hPc hKc (ci := 0) (q0 := 0) rfl rfl) rfl rfl hl.1 rfl (lv_room (Nat.le_of_ble_eq_true rfl)) d_RR_openRules_42 ⟨Nat.le_of_ble_eq_true rfl, Nat.le_of_ble_eq_true rfl⟩) hS (fun q _ h => False.elim h) (fun q h => False.elim h) (fun r42 u9 t9 H1 locs ht hvm hr42 hB hzx9 hkx9 hS => ?_)
      try dsimp only at hr42
      have hP := vz_kept hP hkx9
      generalize H1 = H at hP hS ⊢
      refine lv_if_eq (tgt := 54) hx hb d_RR_openRules_45 (by decide) (fun c45 => ?_) (fun c45 => ?_)
      · refine lv_iconst (v := 0) hx hb d_RR_openRules_54 (by decide) ?_
        refine lv_istore (lv' := [(5, .int 0), (4, .int (ro u)), (0, .ref h), (1, .int (nI u)), (2, .int (nI r)), (3, .int d)]) hx hb d_RR_openRules_55 hl (by decide) rfl (fun ls hl => ?_)
        refine lv_aload_n hx hb d_RR_openRules_57 rfl (lv_at hl 2 rfl) ?_
        refine va_get (D := (dC, dI)) (ci := 9) (v := .ref hRB) (C := R_RR) (T := T_RR) (N := 10) hx hb hts iRR hown hK hP 0 rfl rfl 2 (by decide) (hts _ (wb_RR_openRules _ b_226)) (fun _ h9 => h9) rfl d_RR_openRules_58 ?_
        refine lv_iload hx hb d_RR_openRules_61 (lv_at hl 1 rfl) ?_
        refine lv_iconst (v := 0) hx hb d_RR_openRules_63 (by decide) ?_
        refine lv_ishl hx hb d_RR_openRules_64 ?_
        refine lv_aload_n hx hb d_RR_openRules_65 rfl (lv_at hl 2 rfl) ?_
        refine va_get (D := (dC, dI)) (ci := 9) (v := .ref hHO) (C := R_RR) (T := T_RR) (N := 10) hx hb hts iRR hown hK hP 0 rfl rfl 4 (by decide) (hts _ (wb_RR_openRules _ b_228)) (fun _ h9 => h9) rfl d_RR_openRules_66 ?_
        refine va_get (D := (dC, dI)) (ci := 2) (v := .ref aFa) (C := R_HO) (T := T_HO) (N := 4) hx hb hts iHO hown hK hP 7 rfl rfl 0 (by decide) (hts _ (wb_RR_openRules _ b_136)) (fun _ h9 => h9) rfl d_RR_openRules_69 ?_
        refine lv_iload_n hx hb d_RR_openRules_72 rfl (lv_at hl 4 rfl) ?_
        refine vz_iald (k := r) hx hb hK hP 8 0 rfl rfl (by omega) (by decide) d_RR_openRules_73 ?_
        refine lv_ior hx hb d_RR_openRules_74 ?_
        refine lv_iload hx hb d_RR_openRules_75 (lv_at hl 0 rfl) ?_
        refine lv_ior hx hb d_RR_openRules_77 ?_
        refine lv_ldcw (v := (-4190209)) hx hb hown (hts _ (wb_RR_openRules _ b_520)) d_RR_openRules_78 ?_
        have hPc := hP.sub (ws' := [(hRB, .inr (7, [.ref aN, .ref aB, .int (nI bn), .int tl, .int ab, .int mk, .int sh])), (aN, .inl (cI, 20, .inl nd)), (aB, .inl (cI, 20, .inl br))]) [1, 2, 3] rfl
        have hKc := hK.sub (tys' := [(cI, .int)]) [0] rfl
        refine va_calli (va_runV (As := [.int ((((ro u) <<< (0 &&& 31)) ||| (fa r)) ||| 0), .int (-4190209)]) (rest := []) ⟨hx, hb, hml, hown, hts⟩ (c_RB_suiting l dC dI cI hRB aN aB nd br bn (by first | assumption | omega) tl ab mk sh ((((ro u) <<< (0 &&& 31)) ||| (fa r)) ||| 0) (-4190209)) (cwV 2 hts (vz_gV wb_RR_openRules b_521 b_522 b_523 b_4 wc_RB_suiting) rfl rfl rfl (by decide +kernel) ⟨Nat.le_of_ble_eq_true rfl, Nat.le_of_ble_eq_true rfl⟩) (vz_preV hPc hKc (ci := 7) (q0 := 0) rfl rfl) rfl rfl hl.1 rfl (lv_room (Nat.le_of_ble_eq_true rfl)) d_RR_openRules_81 ⟨Nat.le_of_ble_eq_true rfl, Nat.le_of_ble_eq_true rfl⟩) hS (fun q _ h => False.elim h) (fun q h => False.elim h) (fun r81 u9 t9 H1 locs ht hvm hr81 hB hzx9 hkx9 hS => ?_)
        try dsimp only at hr81
        have hP := vz_kept hP hkx9
        generalize H1 = H at hP hS ⊢
        have hag : hasAg ap ar af at_ an (nI u) (nI r) d = false := by rw [← Bool.not_eq_true, hasAg_iff]; rcases hr42 with h8 | h8; exact absurd (h8.1.symm.trans c45) (by decide); exact fun h9 => absurd h9.choose_spec.2 (h8.2 _ h9.choose_spec.1)
        exact W.iret (v := r81) hx hb hr (fun t ht hW => ⟨⟨r81, (), rfl, by rw [hr81, hag]; simp only [openF]; rw [if_neg (fun h9 => absurd h9.2 c30)]; rfl, trivial⟩, hS.F ht⟩) hS.2.2 d_RR_openRules_84
      · refine lv_ldcw (v := 1073741824) hx hb hown (hts _ (wb_RR_openRules _ b_519)) d_RR_openRules_48 ?_
        refine lv_goto (tgt := 55) hx hb d_RR_openRules_51 (by decide) ?_
        refine lv_istore (lv' := [(5, .int 1073741824), (4, .int (ro u)), (0, .ref h), (1, .int (nI u)), (2, .int (nI r)), (3, .int d)]) hx hb d_RR_openRules_55 hl (by decide) rfl (fun ls hl => ?_)
        refine lv_aload_n hx hb d_RR_openRules_57 rfl (lv_at hl 2 rfl) ?_
        refine va_get (D := (dC, dI)) (ci := 9) (v := .ref hRB) (C := R_RR) (T := T_RR) (N := 10) hx hb hts iRR hown hK hP 0 rfl rfl 2 (by decide) (hts _ (wb_RR_openRules _ b_226)) (fun _ h9 => h9) rfl d_RR_openRules_58 ?_
        refine lv_iload hx hb d_RR_openRules_61 (lv_at hl 1 rfl) ?_
        refine lv_iconst (v := 0) hx hb d_RR_openRules_63 (by decide) ?_
        refine lv_ishl hx hb d_RR_openRules_64 ?_
        refine lv_aload_n hx hb d_RR_openRules_65 rfl (lv_at hl 2 rfl) ?_
        refine va_get (D := (dC, dI)) (ci := 9) (v := .ref hHO) (C := R_RR) (T := T_RR) (N := 10) hx hb hts iRR hown hK hP 0 rfl rfl 4 (by decide) (hts _ (wb_RR_openRules _ b_228)) (fun _ h9 => h9) rfl d_RR_openRules_66 ?_
        refine va_get (D := (dC, dI)) (ci := 2) (v := .ref aFa) (C := R_HO) (T := T_HO) (N := 4) hx hb hts iHO hown hK hP 7 rfl rfl 0 (by decide) (hts _ (wb_RR_openRules _ b_136)) (fun _ h9 => h9) rfl d_RR_openRules_69 ?_
        refine lv_iload_n hx hb d_RR_openRules_72 rfl (lv_at hl 4 rfl) ?_
        refine vz_iald (k := r) hx hb hK hP 8 0 rfl rfl (by omega) (by decide) d_RR_openRules_73 ?_
        refine lv_ior hx hb d_RR_openRules_74 ?_
        refine lv_iload hx hb d_RR_openRules_75 (lv_at hl 0 rfl) ?_
        refine lv_ior hx hb d_RR_openRules_77 ?_
        refine lv_ldcw (v := (-4190209)) hx hb hown (hts _ (wb_RR_openRules _ b_520)) d_RR_openRules_78 ?_
        have hPc := hP.sub (ws' := [(hRB, .inr (7, [.ref aN, .ref aB, .int (nI bn), .int tl, .int ab, .int mk, .int sh])), (aN, .inl (cI, 20, .inl nd)), (aB, .inl (cI, 20, .inl br))]) [1, 2, 3] rfl
        have hKc := hK.sub (tys' := [(cI, .int)]) [0] rfl
        refine va_calli (va_runV (As := [.int ((((ro u) <<< (0 &&& 31)) ||| (fa r)) ||| 1073741824), .int (-4190209)]) (rest := []) ⟨hx, hb, hml, hown, hts⟩ (c_RB_suiting l dC dI cI hRB aN aB nd br bn (by first | assumption | omega) tl ab mk sh ((((ro u) <<< (0 &&& 31)) ||| (fa r)) ||| 1073741824) (-4190209)) (cwV 2 hts (vz_gV wb_RR_openRules b_521 b_522 b_523 b_4 wc_RB_suiting) rfl rfl rfl (by decide +kernel) ⟨Nat.le_of_ble_eq_true rfl, Nat.le_of_ble_eq_true rfl⟩) (vz_preV hPc hKc (ci := 7) (q0 := 0) rfl rfl) rfl rfl hl.1 rfl (lv_room (Nat.le_of_ble_eq_true rfl)) d_RR_openRules_81 ⟨Nat.le_of_ble_eq_true rfl, Nat.le_of_ble_eq_true rfl⟩) hS (fun q _ h => False.elim h) (fun q h => False.elim h) (fun r81 u9 t9 H1 locs ht hvm hr81 hB hzx9 hkx9 hS => ?_)
        try dsimp only at hr81
        have hP := vz_kept hP hkx9
        generalize H1 = H at hP hS ⊢
        have hag : hasAg ap ar af at_ an (nI u) (nI r) d = true := by rw [hasAg_iff]; rcases hr42 with h8 | h8; exact h8.2; exact absurd h8.1 c45
        exact W.iret (v := r81) hx hb hr (fun t ht hW => ⟨⟨r81, (), rfl, by rw [hr81, hag]; simp only [openF]; rw [if_neg (fun h9 => absurd h9.2 c30)]; rfl, trivial⟩, hS.F ht⟩) hS.2.2 d_RR_openRules_84
    · refine lv_iconst (v := 0) hx hb d_RR_openRules_33 (by decide) ?_
      exact W.iret (v := 0) hx hb hr (fun t ht hW => ⟨⟨0, (), rfl, by simp only [openF]; rw [if_pos ⟨Int32.not_lt.mp c21, c30⟩], trivial⟩, hS.F ht⟩) hS.2.2 d_RR_openRules_34

/-- no field is absent among the first k, for purpose 3 -/
def expB (nd br : Nat → Int32) (tl ab mk sh : Int32) (n : Nat) (op : Int32) (k : Nat) : Prop := ∀ j, j < k → ¬ ansF ab mk sh (op &&& ruleFF nd br tl n (nI j) 3) = 0
def expb (nd br : Nat → Int32) (tl ab mk sh : Int32) (n : Nat) (op : Int32) : Bool := (List.range 6).all fun j => !decide (ansF ab mk sh (op &&& ruleFF nd br tl n (nI j) 3) = 0)
theorem expb_iff (nd br : Nat → Int32) (tl ab mk sh : Int32) (n : Nat) (op : Int32) : expb nd br tl ab mk sh n op = true ↔ expB nd br tl ab mk sh n op 6 := by
  simp [expb, expB]

set_option maxHeartbeats 4000000 in
set_option maxRecDepth 100000 in
theorem lp_RR_isExportable_2 {p : Program} {l : Launch} {e : Env} {s : State} {m : MethodId} {args : Array Value} {below : List Frame} {meth : Method} {c : Code} {Q : State → Prop} {A : Nat → Prop} {H0 : Heap} (dC : Nat → ClassId) (dI : Nat → Nat → Nat) (h hPA hRD hRB hPE hHO hAG hLO hRQ hEX aFR : Nat) (cI : ClassId) (aN aB : Nat) (nd br : Nat → Int32) (bn : Nat) (tl ab mk sh : Int32) (hbn : bn ≤ 20) (op : Int32)  (hx : p.tables.exec = Jvm.exec) (hb : c.code = k_RR_isExportable) (hml : c.maxLocals = 3) (hts : ∀ w ∈ ws_RR_isExportable, w.before args s = true) (hown : s.vm.findClass R_RR = some m.cls) (hK : va_K (dC, dI) vwCl [(cI, .int)] s) (kx34 : (expB nd br tl ab mk sh bn op 6) → ∀ (H : Heap) (locs : List Loc), va_P (dC, dI) vwCl [(h, .inr (9, [.ref hPA, .ref hRD, .ref hRB, .ref hPE, .ref hHO, .ref hAG, .ref hLO, .ref hRQ, .ref hEX, .ref aFR])), (hRB, .inr (7, [.ref aN, .ref aB, .int (nI bn), .int tl, .int ab, .int mk, .int sh])), (aN, .inl (cI, 20, .inl nd)), (aB, .inl (cI, 20, .inl br))] H → va_S A H0 H locs → ∀ ls : Array Slot, lv_has ls 3 [(0, .ref h)] → W p l e ({ frames := 2, cells := 0, slots := 0, locals := 48 }) s m args below meth c H locs 0 0 Q (F0 m 34 ls [])) (kx26 : (¬ expB nd br tl ab mk sh bn op 6) → ∀ (H : Heap) (locs : List Loc), va_P (dC, dI) vwCl [(h, .inr (9, [.ref hPA, .ref hRD, .ref hRB, .ref hPE, .ref hHO, .ref hAG, .ref hLO, .ref hRQ, .ref hEX, .ref aFR])), (hRB, .inr (7, [.ref aN, .ref aB, .int (nI bn), .int tl, .int ab, .int mk, .int sh])), (aN, .inl (cI, 20, .inl nd)), (aB, .inl (cI, 20, .inl br))] H → va_S A H0 H locs → ∀ ls : Array Slot, lv_has ls 3 [(0, .ref h)] → W p l e ({ frames := 2, cells := 0, slots := 0, locals := 48 }) s m args below meth c H locs 0 0 Q (F0 m 26 ls [])) : ∀ (N : Nat), ∀ (k : Nat), 6 + 1 ≤ k + N → (k ≤ 6) → (expB nd br tl ab mk sh bn op k) → ∀ (H : Heap) (locs : List Loc), va_P (dC, dI) vwCl [(h, .inr (9, [.ref hPA, .ref hRD, .ref hRB, .ref hPE, .ref hHO, .ref hAG, .ref hLO, .ref hRQ, .ref hEX, .ref aFR])), (hRB, .inr (7, [.ref aN, .ref aB, .int (nI bn), .int tl, .int ab, .int mk, .int sh])), (aN, .inl (cI, 20, .inl nd)), (aB, .inl (cI, 20, .inl br))] H → va_S A H0 H locs → ∀ ls : Array Slot, lv_has ls 3 [(2, .int (nI k)), (0, .ref h), (1, .int op)] → W p l e ({ frames := 2, cells := 0, slots := 0, locals := 48 }) s m args below meth c H locs 0 0 Q (F0 m 2 ls []) := by
  have iRB : ∀ w ∈ u_ws R_RB T_RB 7, w ∈ ws_RR_isExportable := fun w h => wb_RR_isExportable w (in_RB w h)
  have iRR : ∀ w ∈ u_ws R_RR T_RR 10, w ∈ ws_RR_isExportable := fun w h => wb_RR_isExportable w (in_RR w h)
  intro N
  induction N with
  | zero =>
    intro k hme hk hv
    exact absurd hme (by omega)
  | succ N ih =>
    intro k hme hk hv H locs hP hS ls hl
    refine lv_iload_n hx hb d_RR_isExportable_2 rfl (lv_at hl 0 rfl) ?_
    refine lv_bipush (v := 6) hx hb d_RR_isExportable_3 (by decide) ?_
    refine lv_icmp_ge (tgt := 34) hx hb d_RR_isExportable_5 (by decide) (fun c5 => ?_) (fun c5 => ?_)
    · have hge : 6 ≤ k := (nI_leI (show 6 < 2147483648 by omega) (show k < 2147483648 by omega)).mp c5
      exact kx34 (by rw [show (6 : Nat) = k by omega]; exact hv) _ _ hP hS ls (lv_sub hl [1] rfl)
    · have hlt : k < 6 := Nat.lt_of_not_le (mt (nI_leI (show 6 < 2147483648 by omega) (show k < 2147483648 by omega)).mpr c5)
      refine lv_aload_n hx hb d_RR_isExportable_8 rfl (lv_at hl 1 rfl) ?_
      refine va_get (D := (dC, dI)) (ci := 9) (v := .ref hRB) (C := R_RR) (T := T_RR) (N := 10) hx hb hts iRR hown hK hP 0 rfl rfl 2 (by decide) (hts _ (wb_RR_isExportable _ b_226)) (fun _ h9 => h9) rfl d_RR_isExportable_9 ?_
      refine lv_iload_n hx hb d_RR_isExportable_12 rfl (lv_at hl 2 rfl) ?_
      refine lv_aload_n hx hb d_RR_isExportable_13 rfl (lv_at hl 1 rfl) ?_
      refine lv_iload_n hx hb d_RR_isExportable_14 rfl (lv_at hl 0 rfl) ?_
      refine lv_iconst (v := 3) hx hb d_RR_isExportable_15 (by decide) ?_
      have hPc := hP.sub (ws' := [(h, .inr (9, [.ref hPA, .ref hRD, .ref hRB, .ref hPE, .ref hHO, .ref hAG, .ref hLO, .ref hRQ, .ref hEX, .ref aFR])), (hRB, .inr (7, [.ref aN, .ref aB, .int (nI bn), .int tl, .int ab, .int mk, .int sh])), (aN, .inl (cI, 20, .inl nd)), (aB, .inl (cI, 20, .inl br))]) [0, 1, 2, 3] rfl
      have hKc := hK.sub (tys' := [(cI, .int)]) [0] rfl
      refine va_calli (va_runV (As := [.int (nI k), .int 3]) (rest := [.int op, .ref hRB]) ⟨hx, hb, hml, hown, hts⟩ (c_RR_rulesForField l dC dI h hPA hRD hRB hPE hHO hAG hLO hRQ hEX aFR cI aN aB nd br bn tl ab mk sh (by first | assumption | omega) (nI k) 3) (cwV 2 hts (vz_gV wb_RR_isExportable b_525 b_527 bs_10 b_1 wc_RR_rulesForField) rfl rfl rfl (by decide +kernel) ⟨Nat.le_of_ble_eq_true rfl, Nat.le_of_ble_eq_true rfl⟩) (vz_preV hPc hKc (ci := 9) (q0 := 0) rfl rfl) rfl rfl hl.1 rfl (lv_room (Nat.le_of_ble_eq_true rfl)) d_RR_isExportable_16 ⟨Nat.le_of_ble_eq_true rfl, Nat.le_of_ble_eq_true rfl⟩) hS (fun q _ h => False.elim h) (fun q h => False.elim h) (fun r16 u9 t9 H1 locs ht hvm hr16 hB hzx9 hkx9 hS => ?_)
      try dsimp only at hr16
      have hP := vz_kept hP hkx9
      generalize H1 = H at hP hS ⊢
      refine lv_iand hx hb d_RR_isExportable_19 ?_
      have hPc := hP.sub (ws' := [(hRB, .inr (7, [.ref aN, .ref aB, .int (nI bn), .int tl, .int ab, .int mk, .int sh])), (aN, .inl (cI, 20, .inl nd)), (aB, .inl (cI, 20, .inl br))]) [1, 2, 3] rfl
      have hKc := hK.sub (tys' := [(cI, .int)]) [0] rfl
      refine va_calli (va_runV (As := [.int (op &&& r16)]) (rest := []) ⟨hx, hb, hml, hown, hts⟩ (c_RB_answerOf l dC dI cI hRB aN aB nd br bn (by first | assumption | omega) tl ab mk sh (op &&& r16)) (cwV 1 hts (vz_gV wb_RR_isExportable b_530 b_531 b_532 b_4 wc_RB_answerOf) rfl rfl rfl (by decide +kernel) ⟨Nat.le_of_ble_eq_true rfl, Nat.le_of_ble_eq_true rfl⟩) (vz_preV hPc hKc (ci := 7) (q0 := 0) rfl rfl) rfl rfl hl.1 rfl (lv_room (Nat.le_of_ble_eq_true rfl)) d_RR_isExportable_20 ⟨Nat.le_of_ble_eq_true rfl, Nat.le_of_ble_eq_true rfl⟩) hS (fun q _ h => False.elim h) (fun q h => False.elim h) (fun r20 u9 t9 H1 locs ht hvm hr20 hB hzx9 hkx9 hS => ?_)
      try dsimp only at hr20
      have hP := vz_kept hP hkx9
      generalize H1 = H at hP hS ⊢
      refine lv_if_ne (tgt := 28) hx hb d_RR_isExportable_23 (by decide) (fun c23 => ?_) (fun c23 => ?_)
      · refine lv_iinc (v := nI (k + 1)) (lv' := [(2, .int (nI (k + 1))), (0, .ref h), (1, .int op)]) hx hb d_RR_isExportable_28 hl (k := 0) rfl (nI_1 k) (by decide) rfl (fun ls hl => ?_)
        refine lv_goto (tgt := 2) hx hb d_RR_isExportable_31 (by decide) ?_
        exact ih (k + 1) (by omega) (by omega) (lt_s hv (by rw [← hr16, ← hr20]; exact c23)) _ _ hP hS ls (lv_sub hl [0, 1, 2] rfl)
      · exact kx26 (fun h9 => absurd (by rw [← hr16, ← hr20]; exact c23) (h9 k hlt)) _ _ hP hS ls (lv_sub hl [1] rfl)
set_option maxHeartbeats 4000000 in
set_option maxRecDepth 100000 in
/-- RecordRights.isExportable -/
theorem c_RR_isExportable (l : Launch) (dC : Nat → ClassId) (dI : Nat → Nat → Nat) (h hPA hRD hRB hPE hHO hAG hLO hRQ hEX aFR : Nat) (cI : ClassId) (aN aB : Nat) (nd br : Nat → Int32) (bn : Nat) (tl ab mk sh : Int32) (hbn : bn ≤ 20) (op : Int32) : Met l y_RR_isExportable ws_RR_isExportable ({ frames := 2, cells := 0, slots := 0, locals := 48 }) (va_Pc [.ref h, .int op] (fun U => va_P (dC, dI) vwCl [(h, .inr (9, [.ref hPA, .ref hRD, .ref hRB, .ref hPE, .ref hHO, .ref hAG, .ref hLO, .ref hRQ, .ref hEX, .ref aFR])), (hRB, .inr (7, [.ref aN, .ref aB, .int (nI bn), .int tl, .int ab, .int mk, .int sh])), (aN, .inl (cI, 20, .inl nd)), (aB, .inl (cI, 20, .inl br))] U.heap ∧ va_K (dC, dI) vwCl [(cI, .int)] U)) (va_Qi (fun (res : Int32) (_ : Unit) => res = if expb nd br tl ab mk sh bn op then 1 else 0) (fun _ _ => True) (fun _ => False)) 0 0 (fun _ => False) := by
  refine Met.ofW (cc := k_RR_isExportable) (maxL := 3) (ret := (some .boolean)) (by decide) rfl ?_
  intro p e s m args below meth c s₁ B hml hv
  obtain ⟨rfl, hP, hK⟩ := hv
  have hx := B.exec
  have hb := B.bytes
  have hr := B.returns
  have hts := atoms_spec (ws := ws_RR_isExportable) B.pre
  have hown : s.vm.findClass R_RR = some m.cls := findClass_of_methodNamed B.named
  have hlocks := B.notSynchronized
  have hS : va_S (fun _ => False) s.heap s.heap [] := va_S.rf
  have hP : va_P (dC, dI) vwCl [(h, .inr (9, [.ref hPA, .ref hRD, .ref hRB, .ref hPE, .ref hHO, .ref hAG, .ref hLO, .ref hRQ, .ref hEX, .ref aFR])), (hRB, .inr (7, [.ref aN, .ref aB, .int (nI bn), .int tl, .int ab, .int mk, .int sh])), (aN, .inl (cI, 20, .inl nd)), (aB, .inl (cI, 20, .inl br))] s.heap := hP
  have iRB : ∀ w ∈ u_ws R_RB T_RB 7, w ∈ ws_RR_isExportable := fun w h => wb_RR_isExportable w (in_RB w h)
  have iRR : ∀ w ∈ u_ws R_RR T_RR 10, w ∈ ws_RR_isExportable := fun w h => wb_RR_isExportable w (in_RR w h)
  have hl := lv_entry ([.ref h, .int op]) (n := 3) (Nat.le_of_ble_eq_true rfl)
  rw [lg_entry_eq]
  generalize (lg_sl ([.ref h, .int op]) ++ List.replicate (3 - (lg_sl ([.ref h, .int op])).length) Slot.unset).toArray = ls at hl ⊢
  have hl : lv_has ls 3 [(0, .ref h), (1, .int op)] := hl
  refine lv_iconst (v := 0) hx hb d_RR_isExportable_0 (by decide) ?_
  refine lv_istore_n (lv' := [(2, .int 0), (0, .ref h), (1, .int op)]) hx hb d_RR_isExportable_1 rfl hl (by decide) rfl (fun ls hl => ?_)
  refine lp_RR_isExportable_2 dC dI h hPA hRD hRB hPE hHO hAG hLO hRQ hEX aFR cI aN aB nd br bn tl ab mk sh hbn op hx hb hml hts hown hK (fun hv H locs hP hS ls hl => ?_) (fun hv H locs hP hS ls hl => ?_) (6 + 1) 0 (by omega) (Nat.zero_le _) (lt_0) _ _ hP hS ls (lv_sub hl [0, 1, 2] rfl)
  · refine lv_iconst (v := 1) hx hb d_RR_isExportable_34 (by decide) ?_
    exact W.zret (v := 1) hx hb hr (rfl) (fun t ht hW => ⟨⟨1, (), rfl, by rw [(expb_iff ..).mpr hv]; rfl, trivial⟩, hS.F ht⟩) hS.2.2 d_RR_isExportable_35
  · refine lv_iconst (v := 0) hx hb d_RR_isExportable_26 (by decide) ?_
    exact W.zret (v := 0) hx hb hr (rfl) (fun t ht hW => ⟨⟨0, (), rfl, by rw [Bool.eq_false_iff.mpr (fun h9 => hv ((expb_iff ..).mp h9))]; rfl, trivial⟩, hS.F ht⟩) hS.2.2 d_RR_isExportable_27

/-- the table of idle: fields by rows of four purposes; g agrees with it below m -/
def frOk (nd br : Nat → Int32) (tl : Int32) (n : Nat) (g : Nat → Int32) (m : Nat) : Prop := ∀ j, j < m → g j = ruleFF nd br tl n (nI (j / 4)) (nI (j % 4))
theorem frOk_step {nd br : Nat → Int32} {tl : Int32} {n : Nat} {g : Nat → Int32} {f k : Nat} {r : Int32} (hk : k < 4) (h : frOk nd br tl n g (f * 4 + k)) (hr : r = ruleFF nd br tl n (nI f) (nI k)) : frOk nd br tl n (upd g (f * 4 + k) r) (f * 4 + (k + 1)) := by
  intro j hj
  rcases Nat.lt_or_ge j (f * 4 + k) with h9 | h9
  · rw [pk_un (by omega)]
    exact h j h9
  · have e9 : j = f * 4 + k := by omega
    rw [e9, pk_us, hr, show (f * 4 + k) / 4 = f by omega, show (f * 4 + k) % 4 = k by omega]

set_option maxHeartbeats 4000000 in
set_option maxRecDepth 100000 in
theorem lp_RR_fillFieldRules_10 {p : Program} {l : Launch} {e : Env} {s : State} {m : MethodId} {args : Array Value} {below : List Frame} {meth : Method} {c : Code} {Q : State → Prop} {A : Nat → Prop} {H0 : Heap} (dC : Nat → ClassId) (dI : Nat → Nat → Nat) (h hPA hRD hRB hPE hHO hAG hLO hRQ hEX aFR : Nat) (cI : ClassId) (aN aB : Nat) (nd br : Nat → Int32) (bn : Nat) (tl ab mk sh : Int32) (fr : Nat → Int32) (hbn : bn ≤ 20) (f : Nat) (hf : f < 6) (hx : p.tables.exec = Jvm.exec) (hb : c.code = k_RR_fillFieldRules) (hml : c.maxLocals = 3) (hts : ∀ w ∈ ws_RR_fillFieldRules, w.before args s = true) (hown : s.vm.findClass R_RR = some m.cls) (hK : va_K (dC, dI) vwCl [(cI, .int)] s) (hA : ∀ q, H0.size ≤ q → A q) (kx37 : ∀ (g : Nat → Int32), (frOk nd br tl bn g (f * 4 + 4)) → ∀ (H : Heap) (locs : List Loc), va_P (dC, dI) vwCl [(h, .inr (9, [.ref hPA, .ref hRD, .ref hRB, .ref hPE, .ref hHO, .ref hAG, .ref hLO, .ref hRQ, .ref hEX, .ref aFR])), (hRB, .inr (7, [.ref aN, .ref aB, .int (nI bn), .int tl, .int ab, .int mk, .int sh])), (aN, .inl (cI, 20, .inl nd)), (aB, .inl (cI, 20, .inl br)), (aFR, .inl (cI, 24, .inl g))] H → va_D A [(h, .inr (9, [.ref hPA, .ref hRD, .ref hRB, .ref hPE, .ref hHO, .ref hAG, .ref hLO, .ref hRQ, .ref hEX, .ref aFR])), (hRB, .inr (7, [.ref aN, .ref aB, .int (nI bn), .int tl, .int ab, .int mk, .int sh])), (aN, .inl (cI, 20, .inl nd)), (aB, .inl (cI, 20, .inl br)), (aFR, .inl (cI, 24, .inl g))] → va_S A H0 H locs → ∀ ls : Array Slot, lv_has ls 3 [(1, .int (nI f)), (0, .ref h)] → W p l e ({ frames := 2, cells := 0, slots := 0, locals := 48 }) s m args below meth c H locs 0 0 Q (F0 m 37 ls [])) : ∀ (N : Nat), ∀ (k : Nat), ∀ (g : Nat → Int32), 4 + 1 ≤ k + N → (k ≤ 4) → (frOk nd br tl bn g (f * 4 + k)) → ∀ (H : Heap) (locs : List Loc), va_P (dC, dI) vwCl [(h, .inr (9, [.ref hPA, .ref hRD, .ref hRB, .ref hPE, .ref hHO, .ref hAG, .ref hLO, .ref hRQ, .ref hEX, .ref aFR])), (hRB, .inr (7, [.ref aN, .ref aB, .int (nI bn), .int tl, .int ab, .int mk, .int sh])), (aN, .inl (cI, 20, .inl nd)), (aB, .inl (cI, 20, .inl br)), (aFR, .inl (cI, 24, .inl g))] H → va_D A [(h, .inr (9, [.ref hPA, .ref hRD, .ref hRB, .ref hPE, .ref hHO, .ref hAG, .ref hLO, .ref hRQ, .ref hEX, .ref aFR])), (hRB, .inr (7, [.ref aN, .ref aB, .int (nI bn), .int tl, .int ab, .int mk, .int sh])), (aN, .inl (cI, 20, .inl nd)), (aB, .inl (cI, 20, .inl br)), (aFR, .inl (cI, 24, .inl g))] → va_S A H0 H locs → ∀ ls : Array Slot, lv_has ls 3 [(2, .int (nI k)), (1, .int (nI f)), (0, .ref h)] → W p l e ({ frames := 2, cells := 0, slots := 0, locals := 48 }) s m args below meth c H locs 0 0 Q (F0 m 10 ls []) := by
  have iRB : ∀ w ∈ u_ws R_RB T_RB 7, w ∈ ws_RR_fillFieldRules := fun w h => wb_RR_fillFieldRules w (in_RB w h)
  have iRR : ∀ w ∈ u_ws R_RR T_RR 10, w ∈ ws_RR_fillFieldRules := fun w h => wb_RR_fillFieldRules w (in_RR w h)
  intro N
  induction N with
  | zero =>
    intro k g hme hk hv
    exact absurd hme (by omega)
  | succ N ih =>
    intro k g hme hk hv H locs hP hD hS ls hl
    refine lv_iload_n hx hb d_RR_fillFieldRules_10 rfl (lv_at hl 0 rfl) ?_
    refine lv_iconst (v := 4) hx hb d_RR_fillFieldRules_11 (by decide) ?_
    refine lv_icmp_ge (tgt := 37) hx hb d_RR_fillFieldRules_12 (by decide) (fun c12 => ?_) (fun c12 => ?_)
    · have hge : 4 ≤ k := (nI_leI (show 4 < 2147483648 by omega) (show k < 2147483648 by omega)).mp c12
      exact kx37 g (by rw [show f * 4 + 4 = f * 4 + k by omega]; exact hv) _ _ hP hD hS ls (lv_sub hl [1, 2] rfl)
    · have hlt : k < 4 := Nat.lt_of_not_le (mt (nI_leI (show 4 < 2147483648 by omega) (show k < 2147483648 by omega)).mpr c12)
      refine lv_aload_n hx hb d_RR_fillFieldRules_15 rfl (lv_at hl 2 rfl) ?_
      refine va_get (D := (dC, dI)) (ci := 9) (v := .ref aFR) (C := R_RR) (T := T_RR) (N := 10) hx hb hts iRR hown hK hP 0 rfl rfl 9 (by decide) (hts _ (wb_RR_fillFieldRules _ b_233)) (fun _ h9 => h9) rfl d_RR_fillFieldRules_16 ?_
      refine lv_iload_n hx hb d_RR_fillFieldRules_19 rfl (lv_at hl 1 rfl) ?_
      refine lv_iconst (v := 4) hx hb d_RR_fillFieldRules_20 (by decide) ?_
      refine lv_imul hx hb d_RR_fillFieldRules_21 ?_
      refine lv_iload_n hx hb d_RR_fillFieldRules_22 rfl (lv_at hl 0 rfl) ?_
      refine lv_iadd hx hb d_RR_fillFieldRules_23 ?_
      refine vz_top (y := nI (f * 4 + k)) (by rw [show nI f * 4 = nI (f * 4) from pk_mul f 4, nI_add]) ?_
      refine lv_aload_n hx hb d_RR_fillFieldRules_24 rfl (lv_at hl 2 rfl) ?_
      refine lv_iload_n hx hb d_RR_fillFieldRules_25 rfl (lv_at hl 1 rfl) ?_
      refine lv_iload_n hx hb d_RR_fillFieldRules_26 rfl (lv_at hl 0 rfl) ?_
      have hPc := hP.sub (ws' := [(h, .inr (9, [.ref hPA, .ref hRD, .ref hRB, .ref hPE, .ref hHO, .ref hAG, .ref hLO, .ref hRQ, .ref hEX, .ref aFR])), (hRB, .inr (7, [.ref aN, .ref aB, .int (nI bn), .int tl, .int ab, .int mk, .int sh])), (aN, .inl (cI, 20, .inl nd)), (aB, .inl (cI, 20, .inl br))]) [0, 1, 2, 3] rfl
      have hKc := hK.sub (tys' := [(cI, .int)]) [0] rfl
      refine va_calli (va_runV (As := [.int (nI f), .int (nI k)]) (rest := [.int (nI (f * 4 + k)), .ref aFR]) ⟨hx, hb, hml, hown, hts⟩ (c_RR_rulesForField l dC dI h hPA hRD hRB hPE hHO hAG hLO hRQ hEX aFR cI aN aB nd br bn tl ab mk sh (by first | assumption | omega) (nI f) (nI k)) (cwV 2 hts (vz_gV wb_RR_fillFieldRules b_525 b_527 bs_10 b_1 wc_RR_rulesForField) rfl rfl rfl (by decide +kernel) ⟨Nat.le_of_ble_eq_true rfl, Nat.le_of_ble_eq_true rfl⟩) (vz_preV hPc hKc (ci := 9) (q0 := 0) rfl rfl) rfl rfl hl.1 rfl (lv_room (Nat.le_of_ble_eq_true rfl)) d_RR_fillFieldRules_27 ⟨Nat.le_of_ble_eq_true rfl, Nat.le_of_ble_eq_true rfl⟩) hS (fun q _ h => False.elim h) (fun q h => False.elim h) (fun r27 u9 t9 H1 locs ht hvm hr27 hB hzx9 hkx9 hS => ?_)
      try dsimp only at hr27
      have hP := vz_kept hP hkx9
      generalize H1 = H at hP hS ⊢
      refine vz_iast (k := (f * 4 + k)) hx hb hK hP hD hS 4 0 rfl rfl (by omega) (by decide) d_RR_fillFieldRules_30 (fun H locs hP hD hS => ?_)
      have hP : va_P (dC, dI) vwCl [(h, .inr (9, [.ref hPA, .ref hRD, .ref hRB, .ref hPE, .ref hHO, .ref hAG, .ref hLO, .ref hRQ, .ref hEX, .ref aFR])), (hRB, .inr (7, [.ref aN, .ref aB, .int (nI bn), .int tl, .int ab, .int mk, .int sh])), (aN, .inl (cI, 20, .inl nd)), (aB, .inl (cI, 20, .inl br)), (aFR, .inl (cI, 24, .inl (upd g (f * 4 + k) r27)))] H := hP
      have hD : va_D A [(h, .inr (9, [.ref hPA, .ref hRD, .ref hRB, .ref hPE, .ref hHO, .ref hAG, .ref hLO, .ref hRQ, .ref hEX, .ref aFR])), (hRB, .inr (7, [.ref aN, .ref aB, .int (nI bn), .int tl, .int ab, .int mk, .int sh])), (aN, .inl (cI, 20, .inl nd)), (aB, .inl (cI, 20, .inl br)), (aFR, .inl (cI, 24, .inl (upd g (f * 4 + k) r27)))] := hD
      refine lv_iinc (v := nI (k + 1)) (lv' := [(2, .int (nI (k + 1))), (1, .int (nI f)), (0, .ref h)]) hx hb d_RR_fillFieldRules_31 hl (k := 0) rfl (nI_1 k) (by decide) rfl (fun ls hl => ?_)
      refine lv_goto (tgt := 10) hx hb d_RR_fillFieldRules_34 (by decide) ?_
      exact ih (k + 1) (upd g (f * 4 + k) r27) (by omega) (by omega) (frOk_step hlt hv hr27) _ _ hP hD hS ls (lv_sub hl [0, 1, 2] rfl)
set_option maxHeartbeats 4000000 in
set_option maxRecDepth 100000 in
theorem lp_RR_fillFieldRules_2 {p : Program} {l : Launch} {e : Env} {s : State} {m : MethodId} {args : Array Value} {below : List Frame} {meth : Method} {c : Code} {Q : State → Prop} {A : Nat → Prop} {H0 : Heap} (dC : Nat → ClassId) (dI : Nat → Nat → Nat) (h hPA hRD hRB hPE hHO hAG hLO hRQ hEX aFR : Nat) (cI : ClassId) (aN aB : Nat) (nd br : Nat → Int32) (bn : Nat) (tl ab mk sh : Int32) (fr : Nat → Int32) (hbn : bn ≤ 20)  (hx : p.tables.exec = Jvm.exec) (hb : c.code = k_RR_fillFieldRules) (hml : c.maxLocals = 3) (hts : ∀ w ∈ ws_RR_fillFieldRules, w.before args s = true) (hown : s.vm.findClass R_RR = some m.cls) (hK : va_K (dC, dI) vwCl [(cI, .int)] s) (hA : ∀ q, H0.size ≤ q → A q) (kx43 : ∀ (g : Nat → Int32), (frOk nd br tl bn g 24) → ∀ (H : Heap) (locs : List Loc), va_P (dC, dI) vwCl [(h, .inr (9, [.ref hPA, .ref hRD, .ref hRB, .ref hPE, .ref hHO, .ref hAG, .ref hLO, .ref hRQ, .ref hEX, .ref aFR])), (hRB, .inr (7, [.ref aN, .ref aB, .int (nI bn), .int tl, .int ab, .int mk, .int sh])), (aN, .inl (cI, 20, .inl nd)), (aB, .inl (cI, 20, .inl br)), (aFR, .inl (cI, 24, .inl g))] H → va_D A [(h, .inr (9, [.ref hPA, .ref hRD, .ref hRB, .ref hPE, .ref hHO, .ref hAG, .ref hLO, .ref hRQ, .ref hEX, .ref aFR])), (hRB, .inr (7, [.ref aN, .ref aB, .int (nI bn), .int tl, .int ab, .int mk, .int sh])), (aN, .inl (cI, 20, .inl nd)), (aB, .inl (cI, 20, .inl br)), (aFR, .inl (cI, 24, .inl g))] → va_S A H0 H locs → ∀ ls : Array Slot, lv_has ls 3 [(0, .ref h)] → W p l e ({ frames := 2, cells := 0, slots := 0, locals := 48 }) s m args below meth c H locs 0 0 Q (F0 m 43 ls [])) : ∀ (N : Nat), ∀ (f : Nat), ∀ (g : Nat → Int32), 6 + 1 ≤ f + N → (f ≤ 6) → (frOk nd br tl bn g (f * 4)) → ∀ (H : Heap) (locs : List Loc), va_P (dC, dI) vwCl [(h, .inr (9, [.ref hPA, .ref hRD, .ref hRB, .ref hPE, .ref hHO, .ref hAG, .ref hLO, .ref hRQ, .ref hEX, .ref aFR])), (hRB, .inr (7, [.ref aN, .ref aB, .int (nI bn), .int tl, .int ab, .int mk, .int sh])), (aN, .inl (cI, 20, .inl nd)), (aB, .inl (cI, 20, .inl br)), (aFR, .inl (cI, 24, .inl g))] H → va_D A [(h, .inr (9, [.ref hPA, .ref hRD, .ref hRB, .ref hPE, .ref hHO, .ref hAG, .ref hLO, .ref hRQ, .ref hEX, .ref aFR])), (hRB, .inr (7, [.ref aN, .ref aB, .int (nI bn), .int tl, .int ab, .int mk, .int sh])), (aN, .inl (cI, 20, .inl nd)), (aB, .inl (cI, 20, .inl br)), (aFR, .inl (cI, 24, .inl g))] → va_S A H0 H locs → ∀ ls : Array Slot, lv_has ls 3 [(1, .int (nI f)), (0, .ref h)] → W p l e ({ frames := 2, cells := 0, slots := 0, locals := 48 }) s m args below meth c H locs 0 0 Q (F0 m 2 ls []) := by
  have iRB : ∀ w ∈ u_ws R_RB T_RB 7, w ∈ ws_RR_fillFieldRules := fun w h => wb_RR_fillFieldRules w (in_RB w h)
  have iRR : ∀ w ∈ u_ws R_RR T_RR 10, w ∈ ws_RR_fillFieldRules := fun w h => wb_RR_fillFieldRules w (in_RR w h)
  intro N
  induction N with
  | zero =>
    intro f g hme hf hv
    exact absurd hme (by omega)
  | succ N ih =>
    intro f g hme hf hv H locs hP hD hS ls hl
    refine lv_iload_n hx hb d_RR_fillFieldRules_2 rfl (lv_at hl 0 rfl) ?_
    refine lv_bipush (v := 6) hx hb d_RR_fillFieldRules_3 (by decide) ?_
    refine lv_icmp_ge (tgt := 43) hx hb d_RR_fillFieldRules_5 (by decide) (fun c5 => ?_) (fun c5 => ?_)
    · have hge : 6 ≤ f := (nI_leI (show 6 < 2147483648 by omega) (show f < 2147483648 by omega)).mp c5
      exact kx43 g (by rw [show 24 = f * 4 by omega]; exact hv) _ _ hP hD hS ls (lv_sub hl [1] rfl)
    · have hlt : f < 6 := Nat.lt_of_not_le (mt (nI_leI (show 6 < 2147483648 by omega) (show f < 2147483648 by omega)).mpr c5)
      refine lv_iconst (v := 0) hx hb d_RR_fillFieldRules_8 (by decide) ?_
      refine lv_istore_n (lv' := [(2, .int 0), (1, .int (nI f)), (0, .ref h)]) hx hb d_RR_fillFieldRules_9 rfl hl (by decide) rfl (fun ls hl => ?_)
      refine lp_RR_fillFieldRules_10 dC dI h hPA hRD hRB hPE hHO hAG hLO hRQ hEX aFR cI aN aB nd br bn tl ab mk sh fr hbn f hlt hx hb hml hts hown hK hA (fun g hv H locs hP hD hS ls hl => ?_) (4 + 1) 0 g (by omega) (Nat.zero_le _) (hv) _ _ hP hD hS ls (lv_sub hl [0, 1, 2] rfl)
      · refine lv_iinc (v := nI (f + 1)) (lv' := [(1, .int (nI (f + 1))), (0, .ref h)]) hx hb d_RR_fillFieldRules_37 hl (k := 0) rfl (nI_1 f) (by decide) rfl (fun ls hl => ?_)
        refine lv_goto (tgt := 2) hx hb d_RR_fillFieldRules_40 (by decide) ?_
        exact ih (f + 1) g (by omega) (by omega) (by rw [show (f + 1) * 4 = f * 4 + 4 by omega]; exact hv) _ _ hP hD hS ls (lv_sub hl [0, 1] rfl)
set_option maxHeartbeats 4000000 in
set_option maxRecDepth 100000 in
/-- RecordRights.fillFieldRules -/
theorem c_RR_fillFieldRules (l : Launch) (dC : Nat → ClassId) (dI : Nat → Nat → Nat) (sz : Nat) (h hPA hRD hRB hPE hHO hAG hLO hRQ hEX aFR : Nat) (cI : ClassId) (aN aB : Nat) (nd br : Nat → Int32) (bn : Nat) (tl ab mk sh : Int32) (fr : Nat → Int32) (hbn : bn ≤ 20) : Met l y_RR_fillFieldRules ws_RR_fillFieldRules ({ frames := 2, cells := 0, slots := 0, locals := 48 }) (va_Pc [.ref h] (fun U => U.heap.size = sz ∧ va_P (dC, dI) vwCl [(h, .inr (9, [.ref hPA, .ref hRD, .ref hRB, .ref hPE, .ref hHO, .ref hAG, .ref hLO, .ref hRQ, .ref hEX, .ref aFR])), (hRB, .inr (7, [.ref aN, .ref aB, .int (nI bn), .int tl, .int ab, .int mk, .int sh])), (aN, .inl (cI, 20, .inl nd)), (aB, .inl (cI, 20, .inl br)), (aFR, .inl (cI, 24, .inl fr))] U.heap ∧ va_K (dC, dI) vwCl [(cI, .int)] U ∧ va_D (fun _ => True) [(h, .inr (9, [.ref hPA, .ref hRD, .ref hRB, .ref hPE, .ref hHO, .ref hAG, .ref hLO, .ref hRQ, .ref hEX, .ref aFR])), (hRB, .inr (7, [.ref aN, .ref aB, .int (nI bn), .int tl, .int ab, .int mk, .int sh])), (aN, .inl (cI, 20, .inl nd)), (aB, .inl (cI, 20, .inl br)), (aFR, .inl (cI, 24, .inl fr))])) (va_Qv (fun (g : Nat → Int32) => frOk nd br tl bn g 24) (fun g t => va_P (dC, dI) vwCl [(h, .inr (9, [.ref hPA, .ref hRD, .ref hRB, .ref hPE, .ref hHO, .ref hAG, .ref hLO, .ref hRQ, .ref hEX, .ref aFR])), (hRB, .inr (7, [.ref aN, .ref aB, .int (nI bn), .int tl, .int ab, .int mk, .int sh])), (aN, .inl (cI, 20, .inl nd)), (aB, .inl (cI, 20, .inl br)), (aFR, .inl (cI, 24, .inl g))] t.heap ∧ va_K (dC, dI) vwCl [(cI, .int)] t ∧ va_D (va_A [(h, .inr (9, [.ref hPA, .ref hRD, .ref hRB, .ref hPE, .ref hHO, .ref hAG, .ref hLO, .ref hRQ, .ref hEX, .ref aFR])), (hRB, .inr (7, [.ref aN, .ref aB, .int (nI bn), .int tl, .int ab, .int mk, .int sh])), (aN, .inl (cI, 20, .inl nd)), (aB, .inl (cI, 20, .inl br)), (aFR, .inl (cI, 24, .inl fr))] sz) [(h, .inr (9, [.ref hPA, .ref hRD, .ref hRB, .ref hPE, .ref hHO, .ref hAG, .ref hLO, .ref hRQ, .ref hEX, .ref aFR])), (hRB, .inr (7, [.ref aN, .ref aB, .int (nI bn), .int tl, .int ab, .int mk, .int sh])), (aN, .inl (cI, 20, .inl nd)), (aB, .inl (cI, 20, .inl br)), (aFR, .inl (cI, 24, .inl g))]) (va_A [(h, .inr (9, [.ref hPA, .ref hRD, .ref hRB, .ref hPE, .ref hHO, .ref hAG, .ref hLO, .ref hRQ, .ref hEX, .ref aFR])), (hRB, .inr (7, [.ref aN, .ref aB, .int (nI bn), .int tl, .int ab, .int mk, .int sh])), (aN, .inl (cI, 20, .inl nd)), (aB, .inl (cI, 20, .inl br)), (aFR, .inl (cI, 24, .inl fr))] sz)) 0 0 (va_A [(h, .inr (9, [.ref hPA, .ref hRD, .ref hRB, .ref hPE, .ref hHO, .ref hAG, .ref hLO, .ref hRQ, .ref hEX, .ref aFR])), (hRB, .inr (7, [.ref aN, .ref aB, .int (nI bn), .int tl, .int ab, .int mk, .int sh])), (aN, .inl (cI, 20, .inl nd)), (aB, .inl (cI, 20, .inl br)), (aFR, .inl (cI, 24, .inl fr))] sz) := by
  refine Met.ofW (cc := k_RR_fillFieldRules) (maxL := 3) (ret := none) (by decide) rfl ?_
  intro p e s m args below meth c s₁ B hml hv
  obtain ⟨rfl, hsz, hP, hK, hD0⟩ := hv
  have hx := B.exec
  have hb := B.bytes
  have hr := B.returns
  have hts := atoms_spec (ws := ws_RR_fillFieldRules) B.pre
  have hown : s.vm.findClass R_RR = some m.cls := findClass_of_methodNamed B.named
  have hlocks := B.notSynchronized
  subst hsz
  have hD := hD0.self (sz := s.heap.size)
  generalize hAe : va_A [(h, .inr (9, [.ref hPA, .ref hRD, .ref hRB, .ref hPE, .ref hHO, .ref hAG, .ref hLO, .ref hRQ, .ref hEX, .ref aFR])), (hRB, .inr (7, [.ref aN, .ref aB, .int (nI bn), .int tl, .int ab, .int mk, .int sh])), (aN, .inl (cI, 20, .inl nd)), (aB, .inl (cI, 20, .inl br)), (aFR, .inl (cI, 24, .inl fr))] s.heap.size = A at hD ⊢
  have hA : ∀ q : Nat, s.heap.size ≤ q → A q := fun q h => by rw [← hAe]; exact Or.inr h
  have hS : va_S A s.heap s.heap [] := va_S.rf
  have hP : va_P (dC, dI) vwCl [(h, .inr (9, [.ref hPA, .ref hRD, .ref hRB, .ref hPE, .ref hHO, .ref hAG, .ref hLO, .ref hRQ, .ref hEX, .ref aFR])), (hRB, .inr (7, [.ref aN, .ref aB, .int (nI bn), .int tl, .int ab, .int mk, .int sh])), (aN, .inl (cI, 20, .inl nd)), (aB, .inl (cI, 20, .inl br)), (aFR, .inl (cI, 24, .inl fr))] s.heap := hP
  have iRB : ∀ w ∈ u_ws R_RB T_RB 7, w ∈ ws_RR_fillFieldRules := fun w h => wb_RR_fillFieldRules w (in_RB w h)
  have iRR : ∀ w ∈ u_ws R_RR T_RR 10, w ∈ ws_RR_fillFieldRules := fun w h => wb_RR_fillFieldRules w (in_RR w h)
  have hl := lv_entry ([.ref h]) (n := 3) (Nat.le_of_ble_eq_true rfl)
  rw [lg_entry_eq]
  generalize (lg_sl ([.ref h]) ++ List.replicate (3 - (lg_sl ([.ref h])).length) Slot.unset).toArray = ls at hl ⊢
  have hl : lv_has ls 3 [(0, .ref h)] := hl
  refine lv_iconst (v := 0) hx hb d_RR_fillFieldRules_0 (by decide) ?_
  refine lv_istore_n (lv' := [(1, .int 0), (0, .ref h)]) hx hb d_RR_fillFieldRules_1 rfl hl (by decide) rfl (fun ls hl => ?_)
  refine lp_RR_fillFieldRules_2 dC dI h hPA hRD hRB hPE hHO hAG hLO hRQ hEX aFR cI aN aB nd br bn tl ab mk sh fr hbn hx hb hml hts hown hK hA (fun g hv H locs hP hD hS ls hl => ?_) (6 + 1) 0 fr (by omega) (Nat.zero_le _) (fun j hj => absurd hj (by omega)) _ _ hP hD hS ls (lv_sub hl [0, 1] rfl)
  · have hP9 := hP.sub (ws' := [(h, .inr (9, [.ref hPA, .ref hRD, .ref hRB, .ref hPE, .ref hHO, .ref hAG, .ref hLO, .ref hRQ, .ref hEX, .ref aFR])), (hRB, .inr (7, [.ref aN, .ref aB, .int (nI bn), .int tl, .int ab, .int mk, .int sh])), (aN, .inl (cI, 20, .inl nd)), (aB, .inl (cI, 20, .inl br)), (aFR, .inl (cI, 24, .inl g))]) [0, 1, 2, 3, 4] rfl
    have hD9 := hD.sub (ws' := [(h, .inr (9, [.ref hPA, .ref hRD, .ref hRB, .ref hPE, .ref hHO, .ref hAG, .ref hLO, .ref hRQ, .ref hEX, .ref aFR])), (hRB, .inr (7, [.ref aN, .ref aB, .int (nI bn), .int tl, .int ab, .int mk, .int sh])), (aN, .inl (cI, 20, .inl nd)), (aB, .inl (cI, 20, .inl br)), (aFR, .inl (cI, 24, .inl g))]) [0, 1, 2, 3, 4] (by decide) rfl
    exact W.vret hx hb hr (fun t ht hW => ⟨⟨g, rfl, hv, by rw [ht]; exact hP9, va_K.moved hW.alike hK, hD9⟩, hS.F ht⟩) hS.2.2 d_RR_fillFieldRules_43

def needN (g : Nat → Int32) (ab mk sh : Int32) (n : Nat) (op : Int32) : Nat → Int32
  | 0 => 0
  | k + 1 => needN g ab mk sh n op k ||| needF ab mk sh n (op &&& g k)

set_option maxHeartbeats 4000000 in
set_option maxRecDepth 100000 in
theorem lp_RR_neededRules_4 {p : Program} {l : Launch} {e : Env} {s : State} {m : MethodId} {args : Array Value} {below : List Frame} {meth : Method} {c : Code} {Q : State → Prop} {A : Nat → Prop} {H0 : Heap} (dC : Nat → ClassId) (dI : Nat → Nat → Nat) (h hPA hRD hRB hPE hHO hAG hLO hRQ hEX aFR : Nat) (cI : ClassId) (aN aB : Nat) (nd br : Nat → Int32) (bn : Nat) (tl ab mk sh : Int32) (fr : Nat → Int32) (hbn : bn ≤ 20) (op : Int32)  (hx : p.tables.exec = Jvm.exec) (hb : c.code = k_RR_neededRules) (hml : c.maxLocals = 4) (hts : ∀ w ∈ ws_RR_neededRules, w.before args s = true) (hown : s.vm.findClass R_RR = some m.cls) (hK : va_K (dC, dI) vwCl [(cI, .int)] s) (kx34 : ∀ (v : Int32), (v = needN fr ab mk sh bn op 24) → ∀ (H : Heap) (locs : List Loc), va_P (dC, dI) vwCl [(h, .inr (9, [.ref hPA, .ref hRD, .ref hRB, .ref hPE, .ref hHO, .ref hAG, .ref hLO, .ref hRQ, .ref hEX, .ref aFR])), (hRB, .inr (7, [.ref aN, .ref aB, .int (nI bn), .int tl, .int ab, .int mk, .int sh])), (aN, .inl (cI, 20, .inl nd)), (aB, .inl (cI, 20, .inl br)), (aFR, .inl (cI, 24, .inl fr))] H → va_S A H0 H locs → ∀ ls : Array Slot, lv_has ls 4 [(2, .int v)] → W p l e ({ frames := 2, cells := 0, slots := 0, locals := 45 }) s m args below meth c H locs 0 0 Q (F0 m 34 ls [])) : ∀ (N : Nat), ∀ (k : Nat), ∀ (v : Int32), 24 + 1 ≤ k + N → (k ≤ 24) → (v = needN fr ab mk sh bn op k) → ∀ (H : Heap) (locs : List Loc), va_P (dC, dI) vwCl [(h, .inr (9, [.ref hPA, .ref hRD, .ref hRB, .ref hPE, .ref hHO, .ref hAG, .ref hLO, .ref hRQ, .ref hEX, .ref aFR])), (hRB, .inr (7, [.ref aN, .ref aB, .int (nI bn), .int tl, .int ab, .int mk, .int sh])), (aN, .inl (cI, 20, .inl nd)), (aB, .inl (cI, 20, .inl br)), (aFR, .inl (cI, 24, .inl fr))] H → va_S A H0 H locs → ∀ ls : Array Slot, lv_has ls 4 [(3, .int (nI k)), (2, .int v), (0, .ref h), (1, .int op)] → W p l e ({ frames := 2, cells := 0, slots := 0, locals := 45 }) s m args below meth c H locs 0 0 Q (F0 m 4 ls []) := by
  have iRB : ∀ w ∈ u_ws R_RB T_RB 7, w ∈ ws_RR_neededRules := fun w h => wb_RR_neededRules w (in_RB w h)
  have iRR : ∀ w ∈ u_ws R_RR T_RR 10, w ∈ ws_RR_neededRules := fun w h => wb_RR_neededRules w (in_RR w h)
  intro N
  induction N with
  | zero =>
    intro k v hme hk hv
    exact absurd hme (by omega)
  | succ N ih =>
    intro k v hme hk hv H locs hP hS ls hl
    refine lv_iload_n hx hb d_RR_neededRules_4 rfl (lv_at hl 0 rfl) ?_
    refine lv_bipush (v := 24) hx hb d_RR_neededRules_5 (by decide) ?_
    refine lv_icmp_ge (tgt := 34) hx hb d_RR_neededRules_7 (by decide) (fun c7 => ?_) (fun c7 => ?_)
    · have hge : 24 ≤ k := (nI_leI (show 24 < 2147483648 by omega) (show k < 2147483648 by omega)).mp c7
      exact kx34 v (by rw [hv, show k = 24 by omega]) _ _ hP hS ls (lv_sub hl [1] rfl)
    · have hlt : k < 24 := Nat.lt_of_not_le (mt (nI_leI (show 24 < 2147483648 by omega) (show k < 2147483648 by omega)).mpr c7)
      refine lv_iload_n hx hb d_RR_neededRules_10 rfl (lv_at hl 1 rfl) ?_
      refine lv_aload_n hx hb d_RR_neededRules_11 rfl (lv_at hl 2 rfl) ?_
      refine va_get (D := (dC, dI)) (ci := 9) (v := .ref hRB) (C := R_RR) (T := T_RR) (N := 10) hx hb hts iRR hown hK hP 0 rfl rfl 2 (by decide) (hts _ (wb_RR_neededRules _ b_226)) (fun _ h9 => h9) rfl d_RR_neededRules_12 ?_
      refine lv_iload_n hx hb d_RR_neededRules_15 rfl (lv_at hl 3 rfl) ?_
      refine lv_aload_n hx hb d_RR_neededRules_16 rfl (lv_at hl 2 rfl) ?_
      refine va_get (D := (dC, dI)) (ci := 9) (v := .ref aFR) (C := R_RR) (T := T_RR) (N := 10) hx hb hts iRR hown hK hP 0 rfl rfl 9 (by decide) (hts _ (wb_RR_neededRules _ b_233)) (fun _ h9 => h9) rfl d_RR_neededRules_17 ?_
      refine lv_iload_n hx hb d_RR_neededRules_20 rfl (lv_at hl 0 rfl) ?_
      refine vz_iald (k := k) hx hb hK hP 4 0 rfl rfl (by omega) (by decide) d_RR_neededRules_21 ?_
      refine lv_iand hx hb d_RR_neededRules_22 ?_
      have hPc := hP.sub (ws' := [(hRB, .inr (7, [.ref aN, .ref aB, .int (nI bn), .int tl, .int ab, .int mk, .int sh])), (aN, .inl (cI, 20, .inl nd)), (aB, .inl (cI, 20, .inl br))]) [1, 2, 3] rfl
      have hKc := hK.sub (tys' := [(cI, .int)]) [0] rfl
      refine va_calli (va_runV (As := [.int (op &&& (fr k))]) (rest := [.int v]) ⟨hx, hb, hml, hown, hts⟩ (c_RB_neededOf l dC dI cI hRB aN aB nd br bn (by first | assumption | omega) tl ab mk sh (op &&& (fr k))) (cwV 1 hts (vz_gV wb_RR_neededRules b_634 b_635 b_636 b_4 wc_RB_neededOf) rfl rfl rfl (by decide +kernel) ⟨Nat.le_of_ble_eq_true rfl, Nat.le_of_ble_eq_true rfl⟩) (vz_preV hPc hKc (ci := 7) (q0 := 0) rfl rfl) rfl rfl hl.1 rfl (lv_room (Nat.le_of_ble_eq_true rfl)) d_RR_neededRules_23 ⟨Nat.le_of_ble_eq_true rfl, Nat.le_of_ble_eq_true rfl⟩) hS (fun q _ h => False.elim h) (fun q h => False.elim h) (fun r23 u9 t9 H1 locs ht hvm hr23 hB hzx9 hkx9 hS => ?_)
      try dsimp only at hr23
      have hP := vz_kept hP hkx9
      generalize H1 = H at hP hS ⊢
      refine lv_ior hx hb d_RR_neededRules_26 ?_
      refine lv_istore_n (lv' := [(2, .int (v ||| r23)), (3, .int (nI k)), (0, .ref h), (1, .int op)]) hx hb d_RR_neededRules_27 rfl hl (by decide) rfl (fun ls hl => ?_)
      refine lv_iinc (v := nI (k + 1)) (lv' := [(3, .int (nI (k + 1))), (2, .int (v ||| r23)), (0, .ref h), (1, .int op)]) hx hb d_RR_neededRules_28 hl (k := 1) rfl (nI_1 k) (by decide) rfl (fun ls hl => ?_)
      refine lv_goto (tgt := 4) hx hb d_RR_neededRules_31 (by decide) ?_
      exact ih (k + 1) (v ||| r23) (by omega) (by omega) (by rw [hv, hr23]; rfl) _ _ hP hS ls (lv_sub hl [0, 1, 2, 3] rfl)
set_option maxHeartbeats 4000000 in
set_option maxRecDepth 100000 in
/-- RecordRights.neededRules -/
theorem c_RR_neededRules (l : Launch) (dC : Nat → ClassId) (dI : Nat → Nat → Nat) (h hPA hRD hRB hPE hHO hAG hLO hRQ hEX aFR : Nat) (cI : ClassId) (aN aB : Nat) (nd br : Nat → Int32) (bn : Nat) (tl ab mk sh : Int32) (fr : Nat → Int32) (hbn : bn ≤ 20) (op : Int32) : Met l y_RR_neededRules ws_RR_neededRules ({ frames := 2, cells := 0, slots := 0, locals := 45 }) (va_Pc [.ref h, .int op] (fun U => va_P (dC, dI) vwCl [(h, .inr (9, [.ref hPA, .ref hRD, .ref hRB, .ref hPE, .ref hHO, .ref hAG, .ref hLO, .ref hRQ, .ref hEX, .ref aFR])), (hRB, .inr (7, [.ref aN, .ref aB, .int (nI bn), .int tl, .int ab, .int mk, .int sh])), (aN, .inl (cI, 20, .inl nd)), (aB, .inl (cI, 20, .inl br)), (aFR, .inl (cI, 24, .inl fr))] U.heap ∧ va_K (dC, dI) vwCl [(cI, .int)] U)) (va_Qi (fun (res : Int32) (_ : Unit) => res = needN fr ab mk sh bn op 24) (fun _ _ => True) (fun _ => False)) 0 0 (fun _ => False) := by
  refine Met.ofW (cc := k_RR_neededRules) (maxL := 4) (ret := (some .int)) (by decide) rfl ?_
  intro p e s m args below meth c s₁ B hml hv
  obtain ⟨rfl, hP, hK⟩ := hv
  have hx := B.exec
  have hb := B.bytes
  have hr := B.returns
  have hts := atoms_spec (ws := ws_RR_neededRules) B.pre
  have hown : s.vm.findClass R_RR = some m.cls := findClass_of_methodNamed B.named
  have hlocks := B.notSynchronized
  have hS : va_S (fun _ => False) s.heap s.heap [] := va_S.rf
  have hP : va_P (dC, dI) vwCl [(h, .inr (9, [.ref hPA, .ref hRD, .ref hRB, .ref hPE, .ref hHO, .ref hAG, .ref hLO, .ref hRQ, .ref hEX, .ref aFR])), (hRB, .inr (7, [.ref aN, .ref aB, .int (nI bn), .int tl, .int ab, .int mk, .int sh])), (aN, .inl (cI, 20, .inl nd)), (aB, .inl (cI, 20, .inl br)), (aFR, .inl (cI, 24, .inl fr))] s.heap := hP
  have iRB : ∀ w ∈ u_ws R_RB T_RB 7, w ∈ ws_RR_neededRules := fun w h => wb_RR_neededRules w (in_RB w h)
  have iRR : ∀ w ∈ u_ws R_RR T_RR 10, w ∈ ws_RR_neededRules := fun w h => wb_RR_neededRules w (in_RR w h)
  have hl := lv_entry ([.ref h, .int op]) (n := 4) (Nat.le_of_ble_eq_true rfl)
  rw [lg_entry_eq]
  generalize (lg_sl ([.ref h, .int op]) ++ List.replicate (4 - (lg_sl ([.ref h, .int op])).length) Slot.unset).toArray = ls at hl ⊢
  have hl : lv_has ls 4 [(0, .ref h), (1, .int op)] := hl
  refine lv_iconst (v := 0) hx hb d_RR_neededRules_0 (by decide) ?_
  refine lv_istore_n (lv' := [(2, .int 0), (0, .ref h), (1, .int op)]) hx hb d_RR_neededRules_1 rfl hl (by decide) rfl (fun ls hl => ?_)
  refine lv_iconst (v := 0) hx hb d_RR_neededRules_2 (by decide) ?_
  refine lv_istore_n (lv' := [(3, .int 0), (2, .int 0), (0, .ref h), (1, .int op)]) hx hb d_RR_neededRules_3 rfl hl (by decide) rfl (fun ls hl => ?_)
  refine lp_RR_neededRules_4 dC dI h hPA hRD hRB hPE hHO hAG hLO hRQ hEX aFR cI aN aB nd br bn tl ab mk sh fr hbn op hx hb hml hts hown hK (fun v hv H locs hP hS ls hl => ?_) (24 + 1) 0 0 (by omega) (Nat.zero_le _) (rfl) _ _ hP hS ls (lv_sub hl [0, 1, 2, 3] rfl)
  · refine lv_iload_n hx hb d_RR_neededRules_34 rfl (lv_at hl 0 rfl) ?_
    exact W.iret (v := v) hx hb hr (fun t ht hW => ⟨⟨v, (), rfl, hv, trivial⟩, hS.F ht⟩) hS.2.2 d_RR_neededRules_35
