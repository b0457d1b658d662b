theorem sgnC_le (w : Int32) (i : Nat) : sgnC w i ≤ i := by
  induction i with
  | zero => exact Nat.le_refl 0
  | succ i ih => unfold sgnC; split <;> omega
theorem appS_le {w : Int32} {f : Nat → Int32} {n : Nat} (h : n ≤ 40) (i : Nat) : (appS w f n i).2 ≤ 40 := by
  induction i with
  | zero => exact h
  | succ i ih =>
    unfold appS
    split
    · exact ih
    · split
      · exact ih
      · show (appS w f n i).2 + 1 ≤ 40
        omega
def appP (w : Int32) (x : (Nat → Int32) × Nat) : (Nat → Int32) × Nat := appS w x.1 x.2 4
def pad4 (f : Nat → Int32) (n : Nat) (a b c d : Int32) : (Nat → Int32) × Nat := appP d (appP c (appP b (appP a (f, n))))
def sgn4 (a b c d : Int32) : Nat := sgnC a 4 + sgnC b 4 + sgnC c 4 + sgnC d 4
theorem sgn4_le (a b c d : Int32) : sgn4 a b c d ≤ 16 := by
  have h1 := sgnC_le a 4
  have h2 := sgnC_le b 4
  have h3 := sgnC_le c 4
  have h4 := sgnC_le d 4
  unfold sgn4
  omega

set_option maxHeartbeats 4000000 in
set_option maxRecDepth 100000 in
/-- RecordRights.unit, where there is room -/
theorem c_RR_unit (l : Launch) (dC : Nat → ClassId) (dI : Nat → Nat → Nat) (sz : Nat) (h hPA hRD hRB hPE hHO hAG hLO hRQ hEX aFR : Nat) (cC : ClassId) (aS : Nat) (pf : Nat → Int32) (pn : Nat) (a b c0 d : Int32) (hle : pn + sgn4 a b c0 d ≤ 40) : Met l y_RR_unit ws_RR_unit ({ frames := 1, cells := 0, slots := 0, locals := 23 }) (va_Pc [.ref h, .int a, .int b, .int c0, .int d] (fun U => U.heap.size = sz ∧ va_P (dC, dI) vwCl [(h, .inr (9, [.ref hPA, .ref hRD, .ref hRB, .ref hPE, .ref hHO, .ref hAG, .ref hLO, .ref hRQ, .ref hEX, .ref aFR])), (hPA, .inr (4, [.ref aS, .int (nI pn)])), (aS, .inl (cC, 40, .inl pf))] U.heap ∧ va_K (dC, dI) vwCl [(cC, .char)] U ∧ va_D (fun _ => True) [(h, .inr (9, [.ref hPA, .ref hRD, .ref hRB, .ref hPE, .ref hHO, .ref hAG, .ref hLO, .ref hRQ, .ref hEX, .ref aFR])), (hPA, .inr (4, [.ref aS, .int (nI pn)])), (aS, .inl (cC, 40, .inl pf))])) (va_Qi (fun (res : Int32) (_ : Unit) => res = nI (pad4 pf pn a b c0 d).2) (fun _ t => va_P (dC, dI) vwCl [(h, .inr (9, [.ref hPA, .ref hRD, .ref hRB, .ref hPE, .ref hHO, .ref hAG, .ref hLO, .ref hRQ, .ref hEX, .ref aFR])), (hPA, .inr (4, [.ref aS, .int (nI (pad4 pf pn a b c0 d).2)])), (aS, .inl (cC, 40, .inl ((pad4 pf pn a b c0 d).1)))] t.heap ∧ va_K (dC, dI) vwCl [(cC, .char)] t ∧ va_D (va_A [(h, .inr (9, [.ref hPA, .ref hRD, .ref hRB, .ref hPE, .ref hHO, .ref hAG, .ref hLO, .ref hRQ, .ref hEX, .ref aFR])), (hPA, .inr (4, [.ref aS, .int (nI pn)])), (aS, .inl (cC, 40, .inl pf))] sz) [(h, .inr (9, [.ref hPA, .ref hRD, .ref hRB, .ref hPE, .ref hHO, .ref hAG, .ref hLO, .ref hRQ, .ref hEX, .ref aFR])), (hPA, .inr (4, [.ref aS, .int (nI (pad4 pf pn a b c0 d).2)])), (aS, .inl (cC, 40, .inl ((pad4 pf pn a b c0 d).1)))]) (va_A [(h, .inr (9, [.ref hPA, .ref hRD, .ref hRB, .ref hPE, .ref hHO, .ref hAG, .ref hLO, .ref hRQ, .ref hEX, .ref aFR])), (hPA, .inr (4, [.ref aS, .int (nI pn)])), (aS, .inl (cC, 40, .inl pf))] sz)) 0 0 (va_A [(h, .inr (9, [.ref hPA, .ref hRD, .ref hRB, .ref hPE, .ref hHO, .ref hAG, .ref hLO, .ref hRQ, .ref hEX, .ref aFR])), (hPA, .inr (4, [.ref aS, .int (nI pn)])), (aS, .inl (cC, 40, .inl pf))] sz) := by
  refine Met.ofW (cc := k_RR_unit) (maxL := 6) (ret := (some .int)) (by decide) rfl ?_
  intro p e s m args below meth c s₁ B hml hv
  obtain ⟨rfl, hsz, hP, hK, hD0⟩ := hv
  have hx := B.exec
  have hb := B.bytes
  have hr := B.returns
  have hts := atoms_spec (ws := ws_RR_unit) B.pre
  have hown : s.vm.findClass R_RR = some m.cls := findClass_of_methodNamed B.named
  have hlocks := B.notSynchronized
  subst hsz
  have hD := hD0.self (sz := s.heap.size)
  generalize hAe : va_A [(h, .inr (9, [.ref hPA, .ref hRD, .ref hRB, .ref hPE, .ref hHO, .ref hAG, .ref hLO, .ref hRQ, .ref hEX, .ref aFR])), (hPA, .inr (4, [.ref aS, .int (nI pn)])), (aS, .inl (cC, 40, .inl pf))] s.heap.size = A at hD ⊢
  have hA : ∀ q : Nat, s.heap.size ≤ q → A q := fun q h => by rw [← hAe]; exact Or.inr h
  have hS : va_S A s.heap s.heap [] := va_S.rf
  have hP : va_P (dC, dI) vwCl [(h, .inr (9, [.ref hPA, .ref hRD, .ref hRB, .ref hPE, .ref hHO, .ref hAG, .ref hLO, .ref hRQ, .ref hEX, .ref aFR])), (hPA, .inr (4, [.ref aS, .int (nI pn)])), (aS, .inl (cC, 40, .inl pf))] s.heap := hP
  have iPA : ∀ w ∈ u_ws R_PA T_PA 2, w ∈ ws_RR_unit := fun w h => wb_RR_unit w (in_PA w h)
  have iRR : ∀ w ∈ u_ws R_RR T_RR 10, w ∈ ws_RR_unit := fun w h => wb_RR_unit w (in_RR w h)
  have hl := lv_entry ([.ref h, .int a, .int b, .int c0, .int d]) (n := 6) (Nat.le_of_ble_eq_true rfl)
  rw [lg_entry_eq]
  generalize (lg_sl ([.ref h, .int a, .int b, .int c0, .int d]) ++ List.replicate (6 - (lg_sl ([.ref h, .int a, .int b, .int c0, .int d])).length) Slot.unset).toArray = ls at hl ⊢
  have hl : lv_has ls 6 [(0, .ref h), (1, .int a), (2, .int b), (3, .int c0), (4, .int d)] := hl
  refine lv_iload_n hx hb d_RR_unit_0 rfl (lv_at hl 1 rfl) ?_
  have hPc := hP.sub (ws' := []) [] rfl
  have hKc := hK.sub (tys' := []) [] rfl
  refine va_calli (va_runS (As := [.int a]) (rest := []) ⟨hx, hb, hml, hown, hts⟩ (c_PA_signsIn l dC dI a) (va_cwS 1 hts (vz_gS wb_RR_unit b_263 b_264 b_2 wc_PA_signsIn) rfl rfl rfl (by decide +kernel) ⟨Nat.le_of_ble_eq_true rfl, Nat.le_of_ble_eq_true rfl⟩) (vz_preS hPc hKc) rfl rfl hl.1 rfl (lv_room (Nat.le_of_ble_eq_true rfl)) d_RR_unit_1 ⟨Nat.le_of_ble_eq_true rfl, Nat.le_of_ble_eq_true rfl⟩) hS (fun q _ h => False.elim h) (fun q h => False.elim h) (fun r1 u9 t9 H1 locs ht hvm hr1 hB hzx9 hkx9 hS => ?_)
  try dsimp only at hr1
  have hP := vz_kept hP hkx9
  generalize H1 = H at hP hS ⊢
  refine lv_iload_n hx hb d_RR_unit_4 rfl (lv_at hl 2 rfl) ?_
  have hPc := hP.sub (ws' := []) [] rfl
  have hKc := hK.sub (tys' := []) [] rfl
  refine va_calli (va_runS (As := [.int b]) (rest := [.int r1]) ⟨hx, hb, hml, hown, hts⟩ (c_PA_signsIn l dC dI b) (va_cwS 1 hts (vz_gS wb_RR_unit b_263 b_264 b_2 wc_PA_signsIn) rfl rfl rfl (by decide +kernel) ⟨Nat.le_of_ble_eq_true rfl, Nat.le_of_ble_eq_true rfl⟩) (vz_preS hPc hKc) rfl rfl hl.1 rfl (lv_room (Nat.le_of_ble_eq_true rfl)) d_RR_unit_5 ⟨Nat.le_of_ble_eq_true rfl, Nat.le_of_ble_eq_true rfl⟩) hS (fun q _ h => False.elim h) (fun q h => False.elim h) (fun r5 u9 t9 H1 locs ht hvm hr5 hB hzx9 hkx9 hS => ?_)
  try dsimp only at hr5
  have hP := vz_kept hP hkx9
  generalize H1 = H at hP hS ⊢
  refine lv_iadd hx hb d_RR_unit_8 ?_
  refine lv_iload_n hx hb d_RR_unit_9 rfl (lv_at hl 3 rfl) ?_
  have hPc := hP.sub (ws' := []) [] rfl
  have hKc := hK.sub (tys' := []) [] rfl
  refine va_calli (va_runS (As := [.int c0]) (rest := [.int (r1 + r5)]) ⟨hx, hb, hml, hown, hts⟩ (c_PA_signsIn l dC dI c0) (va_cwS 1 hts (vz_gS wb_RR_unit b_263 b_264 b_2 wc_PA_signsIn) rfl rfl rfl (by decide +kernel) ⟨Nat.le_of_ble_eq_true rfl, Nat.le_of_ble_eq_true rfl⟩) (vz_preS hPc hKc) rfl rfl hl.1 rfl (lv_room (Nat.le_of_ble_eq_true rfl)) d_RR_unit_10 ⟨Nat.le_of_ble_eq_true rfl, Nat.le_of_ble_eq_true rfl⟩) hS (fun q _ h => False.elim h) (fun q h => False.elim h) (fun r10 u9 t9 H1 locs ht hvm hr10 hB hzx9 hkx9 hS => ?_)
  try dsimp only at hr10
  have hP := vz_kept hP hkx9
  generalize H1 = H at hP hS ⊢
  refine lv_iadd hx hb d_RR_unit_13 ?_
  refine lv_iload hx hb d_RR_unit_14 (lv_at hl 4 rfl) ?_
  have hPc := hP.sub (ws' := []) [] rfl
  have hKc := hK.sub (tys' := []) [] rfl
  refine va_calli (va_runS (As := [.int d]) (rest := [.int ((r1 + r5) + r10)]) ⟨hx, hb, hml, hown, hts⟩ (c_PA_signsIn l dC dI d) (va_cwS 1 hts (vz_gS wb_RR_unit b_263 b_264 b_2 wc_PA_signsIn) rfl rfl rfl (by decide +kernel) ⟨Nat.le_of_ble_eq_true rfl, Nat.le_of_ble_eq_true rfl⟩) (vz_preS hPc hKc) rfl rfl hl.1 rfl (lv_room (Nat.le_of_ble_eq_true rfl)) d_RR_unit_16 ⟨Nat.le_of_ble_eq_true rfl, Nat.le_of_ble_eq_true rfl⟩) hS (fun q _ h => False.elim h) (fun q h => False.elim h) (fun r16 u9 t9 H1 locs ht hvm hr16 hB hzx9 hkx9 hS => ?_)
  try dsimp only at hr16
  have hP := vz_kept hP hkx9
  generalize H1 = H at hP hS ⊢
  refine lv_iadd hx hb d_RR_unit_19 ?_
  refine lv_topi (fun mo emo => ?_)
  refine lv_istore (lv' := [(5, .int mo), (0, .ref h), (1, .int a), (2, .int b), (3, .int c0), (4, .int d)]) hx hb d_RR_unit_20 hl (by decide) rfl (fun ls hl => ?_)
  refine lv_aload_n hx hb d_RR_unit_22 rfl (lv_at hl 1 rfl) ?_
  refine va_get (D := (dC, dI)) (ci := 9) (v := .ref hPA) (C := R_RR) (T := T_RR) (N := 10) hx hb hts iRR hown hK hP 0 rfl rfl 0 (by decide) (hts _ (wb_RR_unit _ b_224)) (fun _ h9 => h9) rfl d_RR_unit_23 ?_
  refine va_get (D := (dC, dI)) (ci := 4) (v := .int (nI pn)) (C := R_PA) (T := T_PA) (N := 2) hx hb hts iPA hown hK hP 1 rfl rfl 1 (by decide) (hts _ (wb_RR_unit _ b_36)) (fun _ h9 => h9) rfl d_RR_unit_26 ?_
  refine lv_iload hx hb d_RR_unit_29 (lv_at hl 0 rfl) ?_
  refine lv_iadd hx hb d_RR_unit_31 ?_
  refine vz_top (y := nI (pn + sgn4 a b c0 d)) (by rw [emo, hr1, hr5, hr10, hr16, nI_add, nI_add, nI_add, nI_add]; rfl) ?_
  refine lv_bipush (v := 40) hx hb d_RR_unit_32 (by decide) ?_
  refine lv_icmp_le (tgt := 47) hx hb d_RR_unit_34 (by decide) (fun c34 => ?_) (fun c34 => ?_)
  · refine lv_aload_n hx hb d_RR_unit_47 rfl (lv_at hl 1 rfl) ?_
    refine va_get (D := (dC, dI)) (ci := 9) (v := .ref hPA) (C := R_RR) (T := T_RR) (N := 10) hx hb hts iRR hown hK hP 0 rfl rfl 0 (by decide) (hts _ (wb_RR_unit _ b_224)) (fun _ h9 => h9) rfl d_RR_unit_48 ?_
    refine lv_iload_n hx hb d_RR_unit_51 rfl (lv_at hl 2 rfl) ?_
    have hPc := hP.sub (ws' := [(hPA, .inr (4, [.ref aS, .int (nI pn)])), (aS, .inl (cC, 40, .inl pf))]) [1, 2] rfl
    have hKc := hK.sub (tys' := [(cC, .char)]) [0] rfl
    have hDc := hD.sub (ws' := [(hPA, .inr (4, [.ref aS, .int (nI pn)])), (aS, .inl (cC, 40, .inl pf))]) [1, 2] (by decide) rfl
    have hFc := va_free (wc := [(hPA, .inr (4, [.ref aS, .int (nI pn)])), (aS, .inl (cC, 40, .inl pf))]) hD hS hA [1, 2] rfl
    refine va_callv (va_runV (As := [.int a]) (rest := []) ⟨hx, hb, hml, hown, hts⟩ (c_PA_append l dC dI H.size cC hPA aS pf pn (by omega) a) (cwV 1 hts (vz_gV wb_RR_unit b_334 b_335 b_336 b_2 wc_PA_append) rfl rfl rfl (by decide +kernel) ⟨Nat.le_of_ble_eq_true rfl, Nat.le_of_ble_eq_true rfl⟩) (vz_preVw (A := A) hPc hKc hDc (ci := 4) (q0 := 0) rfl rfl) rfl rfl hl.1 rfl (lv_room (Nat.le_of_ble_eq_true rfl)) d_RR_unit_52 ⟨Nat.le_of_ble_eq_true rfl, Nat.le_of_ble_eq_true rfl⟩) hS (fun q _ h => hFc q h) hFc (fun u9 t9 H1 locs ht hvm hr52 hB hzx9 hkx9 hS => ?_)
    try dsimp only at hr52
    obtain ⟨hP1, hK1, hD1⟩ := hB
    rw [ht] at hP1
    obtain ⟨hP, hD⟩ := va_join (wr := [(h, .inr (9, [.ref hPA, .ref hRD, .ref hRB, .ref hPE, .ref hHO, .ref hAG, .ref hLO, .ref hRQ, .ref hEX, .ref aFR]))]) (w1 := [(hPA, .inr (4, [.ref aS, .int (nI (appS a pf pn 4).2)])), (aS, .inl (cC, 40, .inl ((appS a pf pn 4).1)))]) hP hD [1, 2] [0] rfl rfl (by decide) (by decide) hkx9 hFc hP1 hD1
    generalize H1 = H at hP hS ⊢
    have hP : va_P (dC, dI) vwCl [(h, .inr (9, [.ref hPA, .ref hRD, .ref hRB, .ref hPE, .ref hHO, .ref hAG, .ref hLO, .ref hRQ, .ref hEX, .ref aFR])), (hPA, .inr (4, [.ref aS, .int (nI (appS a pf pn 4).2)])), (aS, .inl (cC, 40, .inl ((appS a pf pn 4).1)))] H := hP
    have hD : va_D A [(h, .inr (9, [.ref hPA, .ref hRD, .ref hRB, .ref hPE, .ref hHO, .ref hAG, .ref hLO, .ref hRQ, .ref hEX, .ref aFR])), (hPA, .inr (4, [.ref aS, .int (nI (appS a pf pn 4).2)])), (aS, .inl (cC, 40, .inl ((appS a pf pn 4).1)))] := hD
    refine lv_aload_n hx hb d_RR_unit_55 rfl (lv_at hl 1 rfl) ?_
    refine va_get (D := (dC, dI)) (ci := 9) (v := .ref hPA) (C := R_RR) (T := T_RR) (N := 10) hx hb hts iRR hown hK hP 0 rfl rfl 0 (by decide) (hts _ (wb_RR_unit _ b_224)) (fun _ h9 => h9) rfl d_RR_unit_56 ?_
    refine lv_iload_n hx hb d_RR_unit_59 rfl (lv_at hl 3 rfl) ?_
    have hPc := hP.sub (ws' := [(hPA, .inr (4, [.ref aS, .int (nI (appS a pf pn 4).2)])), (aS, .inl (cC, 40, .inl ((appS a pf pn 4).1)))]) [1, 2] rfl
    have hKc := hK.sub (tys' := [(cC, .char)]) [0] rfl
    have hDc := hD.sub (ws' := [(hPA, .inr (4, [.ref aS, .int (nI (appS a pf pn 4).2)])), (aS, .inl (cC, 40, .inl ((appS a pf pn 4).1)))]) [1, 2] (by decide) rfl
    have hFc := va_free (wc := [(hPA, .inr (4, [.ref aS, .int (nI (appS a pf pn 4).2)])), (aS, .inl (cC, 40, .inl ((appS a pf pn 4).1)))]) hD hS hA [1, 2] rfl
    refine va_callv (va_runV (As := [.int b]) (rest := []) ⟨hx, hb, hml, hown, hts⟩ (c_PA_append l dC dI H.size cC hPA aS ((appS a pf pn 4).1) ((appS a pf pn 4).2) (appS_le (by omega) 4) b) (cwV 1 hts (vz_gV wb_RR_unit b_334 b_335 b_336 b_2 wc_PA_append) rfl rfl rfl (by decide +kernel) ⟨Nat.le_of_ble_eq_true rfl, Nat.le_of_ble_eq_true rfl⟩) (vz_preVw (A := A) hPc hKc hDc (ci := 4) (q0 := 0) rfl rfl) rfl rfl hl.1 rfl (lv_room (Nat.le_of_ble_eq_true rfl)) d_RR_unit_60 ⟨Nat.le_of_ble_eq_true rfl, Nat.le_of_ble_eq_true rfl⟩) hS (fun q _ h => hFc q h) hFc (fun u9 t9 H1 locs ht hvm hr60 hB hzx9 hkx9 hS => ?_)
    try dsimp only at hr60
    obtain ⟨hP1, hK1, hD1⟩ := hB
    rw [ht] at hP1
    obtain ⟨hP, hD⟩ := va_join (wr := [(h, .inr (9, [.ref hPA, .ref hRD, .ref hRB, .ref hPE, .ref hHO, .ref hAG, .ref hLO, .ref hRQ, .ref hEX, .ref aFR]))]) (w1 := [(hPA, .inr (4, [.ref aS, .int (nI (appS b ((appS a pf pn 4).1) ((appS a pf pn 4).2) 4).2)])), (aS, .inl (cC, 40, .inl ((appS b ((appS a pf pn 4).1) ((appS a pf pn 4).2) 4).1)))]) hP hD [1, 2] [0] rfl rfl (by decide) (by decide) hkx9 hFc hP1 hD1
    generalize H1 = H at hP hS ⊢
    have hP : va_P (dC, dI) vwCl [(h, .inr (9, [.ref hPA, .ref hRD, .ref hRB, .ref hPE, .ref hHO, .ref hAG, .ref hLO, .ref hRQ, .ref hEX, .ref aFR])), (hPA, .inr (4, [.ref aS, .int (nI (appS b ((appS a pf pn 4).1) ((appS a pf pn 4).2) 4).2)])), (aS, .inl (cC, 40, .inl ((appS b ((appS a pf pn 4).1) ((appS a pf pn 4).2) 4).1)))] H := hP
    have hD : va_D A [(h, .inr (9, [.ref hPA, .ref hRD, .ref hRB, .ref hPE, .ref hHO, .ref hAG, .ref hLO, .ref hRQ, .ref hEX, .ref aFR])), (hPA, .inr (4, [.ref aS, .int (nI (appS b ((appS a pf pn 4).1) ((appS a pf pn 4).2) 4).2)])), (aS, .inl (cC, 40, .inl ((appS b ((appS a pf pn 4).1) ((appS a pf pn 4).2) 4).1)))] := hD
    refine lv_aload_n hx hb d_RR_unit_63 rfl (lv_at hl 1 rfl) ?_
    refine va_get (D := (dC, dI)) (ci := 9) (v := .ref hPA) (C := R_RR) (T := T_RR) (N := 10) hx hb hts iRR hown hK hP 0 rfl rfl 0 (by decide) (hts _ (wb_RR_unit _ b_224)) (fun _ h9 => h9) rfl d_RR_unit_64 ?_
    refine lv_iload_n hx hb d_RR_unit_67 rfl (lv_at hl 4 rfl) ?_
    have hPc := hP.sub (ws' := [(hPA, .inr (4, [.ref aS, .int (nI (appS b ((appS a pf pn 4).1) ((appS a pf pn 4).2) 4).2)])), (aS, .inl (cC, 40, .inl ((appS b ((appS a pf pn 4).1) ((appS a pf pn 4).2) 4).1)))]) [1, 2] rfl
    have hKc := hK.sub (tys' := [(cC, .char)]) [0] rfl
    have hDc := hD.sub (ws' := [(hPA, .inr (4, [.ref aS, .int (nI (appS b ((appS a pf pn 4).1) ((appS a pf pn 4).2) 4).2)])), (aS, .inl (cC, 40, .inl ((appS b ((appS a pf pn 4).1) ((appS a pf pn 4).2) 4).1)))]) [1, 2] (by decide) rfl
    have hFc := va_free (wc := [(hPA, .inr (4, [.ref aS, .int (nI (appS b ((appS a pf pn 4).1) ((appS a pf pn 4).2) 4).2)])), (aS, .inl (cC, 40, .inl ((appS b ((appS a pf pn 4).1) ((appS a pf pn 4).2) 4).1)))]) hD hS hA [1, 2] rfl
    refine va_callv (va_runV (As := [.int c0]) (rest := []) ⟨hx, hb, hml, hown, hts⟩ (c_PA_append l dC dI H.size cC hPA aS ((appS b ((appS a pf pn 4).1) ((appS a pf pn 4).2) 4).1) ((appS b ((appS a pf pn 4).1) ((appS a pf pn 4).2) 4).2) (appS_le (appS_le (by omega) 4) 4) c0) (cwV 1 hts (vz_gV wb_RR_unit b_334 b_335 b_336 b_2 wc_PA_append) rfl rfl rfl (by decide +kernel) ⟨Nat.le_of_ble_eq_true rfl, Nat.le_of_ble_eq_true rfl⟩) (vz_preVw (A := A) hPc hKc hDc (ci := 4) (q0 := 0) rfl rfl) rfl rfl hl.1 rfl (lv_room (Nat.le_of_ble_eq_true rfl)) d_RR_unit_68 ⟨Nat.le_of_ble_eq_true rfl, Nat.le_of_ble_eq_true rfl⟩) hS (fun q _ h => hFc q h) hFc (fun u9 t9 H1 locs ht hvm hr68 hB hzx9 hkx9 hS => ?_)
    try dsimp only at hr68
    obtain ⟨hP1, hK1, hD1⟩ := hB
    rw [ht] at hP1
    obtain ⟨hP, hD⟩ := va_join (wr := [(h, .inr (9, [.ref hPA, .ref hRD, .ref hRB, .ref hPE, .ref hHO, .ref hAG, .ref hLO, .ref hRQ, .ref hEX, .ref aFR]))]) (w1 := [(hPA, .inr (4, [.ref aS, .int (nI (appS c0 ((appS b ((appS a pf pn 4).1) ((appS a pf pn 4).2) 4).1) ((appS b ((appS a pf pn 4).1) ((appS a pf pn 4).2) 4).2) 4).2)])), (aS, .inl (cC, 40, .inl ((appS c0 ((appS b ((appS a pf pn 4).1) ((appS a pf pn 4).2) 4).1) ((appS b ((appS a pf pn 4).1) ((appS a pf pn 4).2) 4).2) 4).1)))]) hP hD [1, 2] [0] rfl rfl (by decide) (by decide) hkx9 hFc hP1 hD1
    generalize H1 = H at hP hS ⊢
    have hP : va_P (dC, dI) vwCl [(h, .inr (9, [.ref hPA, .ref hRD, .ref hRB, .ref hPE, .ref hHO, .ref hAG, .ref hLO, .ref hRQ, .ref hEX, .ref aFR])), (hPA, .inr (4, [.ref aS, .int (nI (appS c0 ((appS b ((appS a pf pn 4).1) ((appS a pf pn 4).2) 4).1) ((appS b ((appS a pf pn 4).1) ((appS a pf pn 4).2) 4).2) 4).2)])), (aS, .inl (cC, 40, .inl ((appS c0 ((appS b ((appS a pf pn 4).1) ((appS a pf pn 4).2) 4).1) ((appS b ((appS a pf pn 4).1) ((appS a pf pn 4).2) 4).2) 4).1)))] H := hP
    have hD : va_D A [(h, .inr (9, [.ref hPA, .ref hRD, .ref hRB, .ref hPE, .ref hHO, .ref hAG, .ref hLO, .ref hRQ, .ref hEX, .ref aFR])), (hPA, .inr (4, [.ref aS, .int (nI (appS c0 ((appS b ((appS a pf pn 4).1) ((appS a pf pn 4).2) 4).1) ((appS b ((appS a pf pn 4).1) ((appS a pf pn 4).2) 4).2) 4).2)])), (aS, .inl (cC, 40, .inl ((appS c0 ((appS b ((appS a pf pn 4).1) ((appS a pf pn 4).2) 4).1) ((appS b ((appS a pf pn 4).1) ((appS a pf pn 4).2) 4).2) 4).1)))] := hD
    refine lv_aload_n hx hb d_RR_unit_71 rfl (lv_at hl 1 rfl) ?_
    refine va_get (D := (dC, dI)) (ci := 9) (v := .ref hPA) (C := R_RR) (T := T_RR) (N := 10) hx hb hts iRR hown hK hP 0 rfl rfl 0 (by decide) (hts _ (wb_RR_unit _ b_224)) (fun _ h9 => h9) rfl d_RR_unit_72 ?_
    refine lv_iload hx hb d_RR_unit_75 (lv_at hl 5 rfl) ?_
    have hPc := hP.sub (ws' := [(hPA, .inr (4, [.ref aS, .int (nI (appS c0 ((appS b ((appS a pf pn 4).1) ((appS a pf pn 4).2) 4).1) ((appS b ((appS a pf pn 4).1) ((appS a pf pn 4).2) 4).2) 4).2)])), (aS, .inl (cC, 40, .inl ((appS c0 ((appS b ((appS a pf pn 4).1) ((appS a pf pn 4).2) 4).1) ((appS b ((appS a pf pn 4).1) ((appS a pf pn 4).2) 4).2) 4).1)))]) [1, 2] rfl
    have hKc := hK.sub (tys' := [(cC, .char)]) [0] rfl
    have hDc := hD.sub (ws' := [(hPA, .inr (4, [.ref aS, .int (nI (appS c0 ((appS b ((appS a pf pn 4).1) ((appS a pf pn 4).2) 4).1) ((appS b ((appS a pf pn 4).1) ((appS a pf pn 4).2) 4).2) 4).2)])), (aS, .inl (cC, 40, .inl ((appS c0 ((appS b ((appS a pf pn 4).1) ((appS a pf pn 4).2) 4).1) ((appS b ((appS a pf pn 4).1) ((appS a pf pn 4).2) 4).2) 4).1)))]) [1, 2] (by decide) rfl
    have hFc := va_free (wc := [(hPA, .inr (4, [.ref aS, .int (nI (appS c0 ((appS b ((appS a pf pn 4).1) ((appS a pf pn 4).2) 4).1) ((appS b ((appS a pf pn 4).1) ((appS a pf pn 4).2) 4).2) 4).2)])), (aS, .inl (cC, 40, .inl ((appS c0 ((appS b ((appS a pf pn 4).1) ((appS a pf pn 4).2) 4).1) ((appS b ((appS a pf pn 4).1) ((appS a pf pn 4).2) 4).2) 4).1)))]) hD hS hA [1, 2] rfl
    refine va_callv (va_runV (As := [.int d]) (rest := []) ⟨hx, hb, hml, hown, hts⟩ (c_PA_append l dC dI H.size cC hPA aS ((appS c0 ((appS b ((appS a pf pn 4).1) ((appS a pf pn 4).2) 4).1) ((appS b ((appS a pf pn 4).1) ((appS a pf pn 4).2) 4).2) 4).1) ((appS c0 ((appS b ((appS a pf pn 4).1) ((appS a pf pn 4).2) 4).1) ((appS b ((appS a pf pn 4).1) ((appS a pf pn 4).2) 4).2) 4).2) (appS_le (appS_le (appS_le (by omega) 4) 4) 4) d) (cwV 1 hts (vz_gV wb_RR_unit b_334 b_335 b_336 b_2 wc_PA_append) rfl rfl rfl (by decide +kernel) ⟨Nat.le_of_ble_eq_true rfl, Nat.le_of_ble_eq_true rfl⟩) (vz_preVw (A := A) hPc hKc hDc (ci := 4) (q0 := 0) rfl rfl) rfl rfl hl.1 rfl (lv_room (Nat.le_of_ble_eq_true rfl)) d_RR_unit_77 ⟨Nat.le_of_ble_eq_true rfl, Nat.le_of_ble_eq_true rfl⟩) hS (fun q _ h => hFc q h) hFc (fun u9 t9 H1 locs ht hvm hr77 hB hzx9 hkx9 hS => ?_)
    try dsimp only at hr77
    obtain ⟨hP1, hK1, hD1⟩ := hB
    rw [ht] at hP1
    obtain ⟨hP, hD⟩ := va_join (wr := [(h, .inr (9, [.ref hPA, .ref hRD, .ref hRB, .ref hPE, .ref hHO, .ref hAG, .ref hLO, .ref hRQ, .ref hEX, .ref aFR]))]) (w1 := [(hPA, .inr (4, [.ref aS, .int (nI (appS d ((appS c0 ((appS b ((appS a pf pn 4).1) ((appS a pf pn 4).2) 4).1) ((appS b ((appS a pf pn 4).1) ((appS a pf pn 4).2) 4).2) 4).1) ((appS c0 ((appS b ((appS a pf pn 4).1) ((appS a pf pn 4).2) 4).1) ((appS b ((appS a pf pn 4).1) ((appS a pf pn 4).2) 4).2) 4).2) 4).2)])), (aS, .inl (cC, 40, .inl ((appS d ((appS c0 ((appS b ((appS a pf pn 4).1) ((appS a pf pn 4).2) 4).1) ((appS b ((appS a pf pn 4).1) ((appS a pf pn 4).2) 4).2) 4).1) ((appS c0 ((appS b ((appS a pf pn 4).1) ((appS a pf pn 4).2) 4).1) ((appS b ((appS a pf pn 4).1) ((appS a pf pn 4).2) 4).2) 4).2) 4).1)))]) hP hD [1, 2] [0] rfl rfl (by decide) (by decide) hkx9 hFc hP1 hD1
    generalize H1 = H at hP hS ⊢
    have hP : va_P (dC, dI) vwCl [(h, .inr (9, [.ref hPA, .ref hRD, .ref hRB, .ref hPE, .ref hHO, .ref hAG, .ref hLO, .ref hRQ, .ref hEX, .ref aFR])), (hPA, .inr (4, [.ref aS, .int (nI (appS d ((appS c0 ((appS b ((appS a pf pn 4).1) ((appS a pf pn 4).2) 4).1) ((appS b ((appS a pf pn 4).1) ((appS a pf pn 4).2) 4).2) 4).1) ((appS c0 ((appS b ((appS a pf pn 4).1) ((appS a pf pn 4).2) 4).1) ((appS b ((appS a pf pn 4).1) ((appS a pf pn 4).2) 4).2) 4).2) 4).2)])), (aS, .inl (cC, 40, .inl ((appS d ((appS c0 ((appS b ((appS a pf pn 4).1) ((appS a pf pn 4).2) 4).1) ((appS b ((appS a pf pn 4).1) ((appS a pf pn 4).2) 4).2) 4).1) ((appS c0 ((appS b ((appS a pf pn 4).1) ((appS a pf pn 4).2) 4).1) ((appS b ((appS a pf pn 4).1) ((appS a pf pn 4).2) 4).2) 4).2) 4).1)))] H := hP
    have hD : va_D A [(h, .inr (9, [.ref hPA, .ref hRD, .ref hRB, .ref hPE, .ref hHO, .ref hAG, .ref hLO, .ref hRQ, .ref hEX, .ref aFR])), (hPA, .inr (4, [.ref aS, .int (nI (appS d ((appS c0 ((appS b ((appS a pf pn 4).1) ((appS a pf pn 4).2) 4).1) ((appS b ((appS a pf pn 4).1) ((appS a pf pn 4).2) 4).2) 4).1) ((appS c0 ((appS b ((appS a pf pn 4).1) ((appS a pf pn 4).2) 4).1) ((appS b ((appS a pf pn 4).1) ((appS a pf pn 4).2) 4).2) 4).2) 4).2)])), (aS, .inl (cC, 40, .inl ((appS d ((appS c0 ((appS b ((appS a pf pn 4).1) ((appS a pf pn 4).2) 4).1) ((appS b ((appS a pf pn 4).1) ((appS a pf pn 4).2) 4).2) 4).1) ((appS c0 ((appS b ((appS a pf pn 4).1) ((appS a pf pn 4).2) 4).1) ((appS b ((appS a pf pn 4).1) ((appS a pf pn 4).2) 4).2) 4).2) 4).1)))] := hD
    refine lv_aload_n hx hb d_RR_unit_80 rfl (lv_at hl 1 rfl) ?_
    refine va_get (D := (dC, dI)) (ci := 9) (v := .ref hPA) (C := R_RR) (T := T_RR) (N := 10) hx hb hts iRR hown hK hP 0 rfl rfl 0 (by decide) (hts _ (wb_RR_unit _ b_224)) (fun _ h9 => h9) rfl d_RR_unit_81 ?_
    refine va_get (D := (dC, dI)) (ci := 4) (v := .int (nI (appS d ((appS c0 ((appS b ((appS a pf pn 4).1) ((appS a pf pn 4).2) 4).1) ((appS b ((appS a pf pn 4).1) ((appS a pf pn 4).2) 4).2) 4).1) ((appS c0 ((appS b ((appS a pf pn 4).1) ((appS a pf pn 4).2) 4).1) ((appS b ((appS a pf pn 4).1) ((appS a pf pn 4).2) 4).2) 4).2) 4).2)) (C := R_PA) (T := T_PA) (N := 2) hx hb hts iPA hown hK hP 1 rfl rfl 1 (by decide) (hts _ (wb_RR_unit _ b_36)) (fun _ h9 => h9) rfl d_RR_unit_84 ?_
    have hP9 := hP.sub (ws' := [(h, .inr (9, [.ref hPA, .ref hRD, .ref hRB, .ref hPE, .ref hHO, .ref hAG, .ref hLO, .ref hRQ, .ref hEX, .ref aFR])), (hPA, .inr (4, [.ref aS, .int (nI (appS d ((appS c0 ((appS b ((appS a pf pn 4).1) ((appS a pf pn 4).2) 4).1) ((appS b ((appS a pf pn 4).1) ((appS a pf pn 4).2) 4).2) 4).1) ((appS c0 ((appS b ((appS a pf pn 4).1) ((appS a pf pn 4).2) 4).1) ((appS b ((appS a pf pn 4).1) ((appS a pf pn 4).2) 4).2) 4).2) 4).2)])), (aS, .inl (cC, 40, .inl ((appS d ((appS c0 ((appS b ((appS a pf pn 4).1) ((appS a pf pn 4).2) 4).1) ((appS b ((appS a pf pn 4).1) ((appS a pf pn 4).2) 4).2) 4).1) ((appS c0 ((appS b ((appS a pf pn 4).1) ((appS a pf pn 4).2) 4).1) ((appS b ((appS a pf pn 4).1) ((appS a pf pn 4).2) 4).2) 4).2) 4).1)))]) [0, 1, 2] rfl
    have hD9 := hD.sub (ws' := [(h, .inr (9, [.ref hPA, .ref hRD, .ref hRB, .ref hPE, .ref hHO, .ref hAG, .ref hLO, .ref hRQ, .ref hEX, .ref aFR])), (hPA, .inr (4, [.ref aS, .int (nI (appS d ((appS c0 ((appS b ((appS a pf pn 4).1) ((appS a pf pn 4).2) 4).1) ((appS b ((appS a pf pn 4).1) ((appS a pf pn 4).2) 4).2) 4).1) ((appS c0 ((appS b ((appS a pf pn 4).1) ((appS a pf pn 4).2) 4).1) ((appS b ((appS a pf pn 4).1) ((appS a pf pn 4).2) 4).2) 4).2) 4).2)])), (aS, .inl (cC, 40, .inl ((appS d ((appS c0 ((appS b ((appS a pf pn 4).1) ((appS a pf pn 4).2) 4).1) ((appS b ((appS a pf pn 4).1) ((appS a pf pn 4).2) 4).2) 4).1) ((appS c0 ((appS b ((appS a pf pn 4).1) ((appS a pf pn 4).2) 4).1) ((appS b ((appS a pf pn 4).1) ((appS a pf pn 4).2) 4).2) 4).2) 4).1)))]) [0, 1, 2] (by decide) rfl
    have e9 : ([(h, .inr (9, [.ref hPA, .ref hRD, .ref hRB, .ref hPE, .ref hHO, .ref hAG, .ref hLO, .ref hRQ, .ref hEX, .ref aFR])), (hPA, .inr (4, [.ref aS, .int (nI (appS d ((appS c0 ((appS b ((appS a pf pn 4).1) ((appS a pf pn 4).2) 4).1) ((appS b ((appS a pf pn 4).1) ((appS a pf pn 4).2) 4).2) 4).1) ((appS c0 ((appS b ((appS a pf pn 4).1) ((appS a pf pn 4).2) 4).1) ((appS b ((appS a pf pn 4).1) ((appS a pf pn 4).2) 4).2) 4).2) 4).2)])), (aS, .inl (cC, 40, .inl ((appS d ((appS c0 ((appS b ((appS a pf pn 4).1) ((appS a pf pn 4).2) 4).1) ((appS b ((appS a pf pn 4).1) ((appS a pf pn 4).2) 4).2) 4).1) ((appS c0 ((appS b ((appS a pf pn 4).1) ((appS a pf pn 4).2) 4).1) ((appS b ((appS a pf pn 4).1) ((appS a pf pn 4).2) 4).2) 4).2) 4).1)))] : va_W) = [(h, .inr (9, [.ref hPA, .ref hRD, .ref hRB, .ref hPE, .ref hHO, .ref hAG, .ref hLO, .ref hRQ, .ref hEX, .ref aFR])), (hPA, .inr (4, [.ref aS, .int (nI (pad4 pf pn a b c0 d).2)])), (aS, .inl (cC, 40, .inl ((pad4 pf pn a b c0 d).1)))] := by rfl
    rw [e9] at hP9 hD9
    exact W.iret (v := nI (appS d ((appS c0 ((appS b ((appS a pf pn 4).1) ((appS a pf pn 4).2) 4).1) ((appS b ((appS a pf pn 4).1) ((appS a pf pn 4).2) 4).2) 4).1) ((appS c0 ((appS b ((appS a pf pn 4).1) ((appS a pf pn 4).2) 4).1) ((appS b ((appS a pf pn 4).1) ((appS a pf pn 4).2) 4).2) 4).2) 4).2) hx hb hr (fun t ht hW => ⟨⟨nI (appS d ((appS c0 ((appS b ((appS a pf pn 4).1) ((appS a pf pn 4).2) 4).1) ((appS b ((appS a pf pn 4).1) ((appS a pf pn 4).2) 4).2) 4).1) ((appS c0 ((appS b ((appS a pf pn 4).1) ((appS a pf pn 4).2) 4).1) ((appS b ((appS a pf pn 4).1) ((appS a pf pn 4).2) 4).2) 4).2) 4).2, (), rfl, rfl, by rw [ht]; exact hP9, va_K.moved hW.alike hK, hD9⟩, hS.F ht⟩) hS.2.2 d_RR_unit_87
  · exact absurd ((nI_leI (show pn + sgn4 a b c0 d < 2147483648 by omega) (show 40 < 2147483648 by omega)).mpr hle) c34

set_option maxHeartbeats 4000000 in
set_option maxRecDepth 100000 in
/-- RecordRights.rule, no rule -/
theorem c_RR_ruleBad (l : Launch) (dC : Nat → ClassId) (dI : Nat → Nat → Nat) (sz : Nat) (h hPA hRD hRB hPE hHO hAG hLO hRQ hEX aFR : Nat) (cI cC : ClassId) (aS : Nat) (pf : Nat → Int32) (pn : Nat) (pl : Int32) (x : RdS) (aN aB : Nat) (nd br : Nat → Int32) (bn : Nat) (tl ab mk sh : Int32) (hpn : pn ≤ 40) (hbn : bn < 20) (hok :  (rdGo pf 0 pn (x.1, 0, 0, 0, x.2.2.2.2.1, x.2.2.2.2.2.1, x.2.2.2.2.2.2)).2.2 = 0) : Met l y_RR_rule ws_RR_rule ({ frames := 4, cells := 0, slots := 0, locals := 86 }) (va_Pc [.ref h] (fun U => U.heap.size = sz ∧ va_P (dC, dI) vwCl [(h, .inr (9, [.ref hPA, .ref hRD, .ref hRB, .ref hPE, .ref hHO, .ref hAG, .ref hLO, .ref hRQ, .ref hEX, .ref aFR])), (hPA, .inr (4, [.ref aS, .int (nI pn)])), (aS, .inl (cC, 40, .inl pf)), (hRD, .inr (8, [.int pl, .int x.1, .int x.2.1, .int x.2.2.1, .int x.2.2.2.1, .int x.2.2.2.2.1, .int x.2.2.2.2.2.1, .int x.2.2.2.2.2.2])), (hRB, .inr (7, [.ref aN, .ref aB, .int (nI bn), .int tl, .int ab, .int mk, .int sh])), (aN, .inl (cI, 20, .inl nd)), (aB, .inl (cI, 20, .inl br))] U.heap ∧ va_K (dC, dI) vwCl [(cI, .int), (cC, .char)] U ∧ va_D (fun _ => True) [(h, .inr (9, [.ref hPA, .ref hRD, .ref hRB, .ref hPE, .ref hHO, .ref hAG, .ref hLO, .ref hRQ, .ref hEX, .ref aFR])), (hPA, .inr (4, [.ref aS, .int (nI pn)])), (aS, .inl (cC, 40, .inl pf)), (hRD, .inr (8, [.int pl, .int x.1, .int x.2.1, .int x.2.2.1, .int x.2.2.2.1, .int x.2.2.2.2.1, .int x.2.2.2.2.2.1, .int x.2.2.2.2.2.2])), (hRB, .inr (7, [.ref aN, .ref aB, .int (nI bn), .int tl, .int ab, .int mk, .int sh])), (aN, .inl (cI, 20, .inl nd)), (aB, .inl (cI, 20, .inl br))])) (va_Qi (fun (res : Int32) (_ : Unit) => res = -1 - (rdGo pf 0 pn (x.1, 0, 0, 0, x.2.2.2.2.1, x.2.2.2.2.2.1, x.2.2.2.2.2.2)).1) (fun _ t => va_P (dC, dI) vwCl [(h, .inr (9, [.ref hPA, .ref hRD, .ref hRB, .ref hPE, .ref hHO, .ref hAG, .ref hLO, .ref hRQ, .ref hEX, .ref aFR])), (hPA, .inr (4, [.ref aS, .int (nI 0)])), (aS, .inl (cC, 40, .inl pf)), (hRD, .inr (8, [.int ((rdGo pf 0 pn (x.1, 0, 0, 0, x.2.2.2.2.1, x.2.2.2.2.2.1, x.2.2.2.2.2.2)).1), .int (((rdGo pf 0 pn (x.1, 0, 0, 0, x.2.2.2.2.1, x.2.2.2.2.2.1, x.2.2.2.2.2.2)).2.1).1), .int (((rdGo pf 0 pn (x.1, 0, 0, 0, x.2.2.2.2.1, x.2.2.2.2.2.1, x.2.2.2.2.2.2)).2.1).2.1), .int (((rdGo pf 0 pn (x.1, 0, 0, 0, x.2.2.2.2.1, x.2.2.2.2.2.1, x.2.2.2.2.2.2)).2.1).2.2.1), .int (((rdGo pf 0 pn (x.1, 0, 0, 0, x.2.2.2.2.1, x.2.2.2.2.2.1, x.2.2.2.2.2.2)).2.1).2.2.2.1), .int (((rdGo pf 0 pn (x.1, 0, 0, 0, x.2.2.2.2.1, x.2.2.2.2.2.1, x.2.2.2.2.2.2)).2.1).2.2.2.2.1), .int (((rdGo pf 0 pn (x.1, 0, 0, 0, x.2.2.2.2.1, x.2.2.2.2.2.1, x.2.2.2.2.2.2)).2.1).2.2.2.2.2.1), .int (((rdGo pf 0 pn (x.1, 0, 0, 0, x.2.2.2.2.1, x.2.2.2.2.2.1, x.2.2.2.2.2.2)).2.1).2.2.2.2.2.2)])), (hRB, .inr (7, [.ref aN, .ref aB, .int (nI bn), .int tl, .int ab, .int mk, .int sh])), (aN, .inl (cI, 20, .inl nd)), (aB, .inl (cI, 20, .inl br))] t.heap ∧ va_K (dC, dI) vwCl [(cI, .int), (cC, .char)] t ∧ va_D (va_A [(h, .inr (9, [.ref hPA, .ref hRD, .ref hRB, .ref hPE, .ref hHO, .ref hAG, .ref hLO, .ref hRQ, .ref hEX, .ref aFR])), (hPA, .inr (4, [.ref aS, .int (nI pn)])), (aS, .inl (cC, 40, .inl pf)), (hRD, .inr (8, [.int pl, .int x.1, .int x.2.1, .int x.2.2.1, .int x.2.2.2.1, .int x.2.2.2.2.1, .int x.2.2.2.2.2.1, .int x.2.2.2.2.2.2])), (hRB, .inr (7, [.ref aN, .ref aB, .int (nI bn), .int tl, .int ab, .int mk, .int sh])), (aN, .inl (cI, 20, .inl nd)), (aB, .inl (cI, 20, .inl br))] sz) [(h, .inr (9, [.ref hPA, .ref hRD, .ref hRB, .ref hPE, .ref hHO, .ref hAG, .ref hLO, .ref hRQ, .ref hEX, .ref aFR])), (hPA, .inr (4, [.ref aS, .int (nI 0)])), (aS, .inl (cC, 40, .inl pf)), (hRD, .inr (8, [.int ((rdGo pf 0 pn (x.1, 0, 0, 0, x.2.2.2.2.1, x.2.2.2.2.2.1, x.2.2.2.2.2.2)).1), .int (((rdGo pf 0 pn (x.1, 0, 0, 0, x.2.2.2.2.1, x.2.2.2.2.2.1, x.2.2.2.2.2.2)).2.1).1), .int (((rdGo pf 0 pn (x.1, 0, 0, 0, x.2.2.2.2.1, x.2.2.2.2.2.1, x.2.2.2.2.2.2)).2.1).2.1), .int (((rdGo pf 0 pn (x.1, 0, 0, 0, x.2.2.2.2.1, x.2.2.2.2.2.1, x.2.2.2.2.2.2)).2.1).2.2.1), .int (((rdGo pf 0 pn (x.1, 0, 0, 0, x.2.2.2.2.1, x.2.2.2.2.2.1, x.2.2.2.2.2.2)).2.1).2.2.2.1), .int (((rdGo pf 0 pn (x.1, 0, 0, 0, x.2.2.2.2.1, x.2.2.2.2.2.1, x.2.2.2.2.2.2)).2.1).2.2.2.2.1), .int (((rdGo pf 0 pn (x.1, 0, 0, 0, x.2.2.2.2.1, x.2.2.2.2.2.1, x.2.2.2.2.2.2)).2.1).2.2.2.2.2.1), .int (((rdGo pf 0 pn (x.1, 0, 0, 0, x.2.2.2.2.1, x.2.2.2.2.2.1, x.2.2.2.2.2.2)).2.1).2.2.2.2.2.2)])), (hRB, .inr (7, [.ref aN, .ref aB, .int (nI bn), .int tl, .int ab, .int mk, .int sh])), (aN, .inl (cI, 20, .inl nd)), (aB, .inl (cI, 20, .inl br))]) (va_A [(h, .inr (9, [.ref hPA, .ref hRD, .ref hRB, .ref hPE, .ref hHO, .ref hAG, .ref hLO, .ref hRQ, .ref hEX, .ref aFR])), (hPA, .inr (4, [.ref aS, .int (nI pn)])), (aS, .inl (cC, 40, .inl pf)), (hRD, .inr (8, [.int pl, .int x.1, .int x.2.1, .int x.2.2.1, .int x.2.2.2.1, .int x.2.2.2.2.1, .int x.2.2.2.2.2.1, .int x.2.2.2.2.2.2])), (hRB, .inr (7, [.ref aN, .ref aB, .int (nI bn), .int tl, .int ab, .int mk, .int sh])), (aN, .inl (cI, 20, .inl nd)), (aB, .inl (cI, 20, .inl br))] sz)) 0 0 (va_A [(h, .inr (9, [.ref hPA, .ref hRD, .ref hRB, .ref hPE, .ref hHO, .ref hAG, .ref hLO, .ref hRQ, .ref hEX, .ref aFR])), (hPA, .inr (4, [.ref aS, .int (nI pn)])), (aS, .inl (cC, 40, .inl pf)), (hRD, .inr (8, [.int pl, .int x.1, .int x.2.1, .int x.2.2.1, .int x.2.2.2.1, .int x.2.2.2.2.1, .int x.2.2.2.2.2.1, .int x.2.2.2.2.2.2])), (hRB, .inr (7, [.ref aN, .ref aB, .int (nI bn), .int tl, .int ab, .int mk, .int sh])), (aN, .inl (cI, 20, .inl nd)), (aB, .inl (cI, 20, .inl br))] sz) := by
  refine Met.ofW (cc := k_RR_rule) (maxL := 2) (ret := (some .int)) (by decide) rfl ?_
  intro p e s m args below meth c s₁ B hml hv
  obtain ⟨rfl, hsz, hP, hK, hD0⟩ := hv
  have hx := B.exec
  have hb := B.bytes
  have hr := B.returns
  have hts := atoms_spec (ws := ws_RR_rule) B.pre
  have hown : s.vm.findClass R_RR = some m.cls := findClass_of_methodNamed B.named
  have hlocks := B.notSynchronized
  subst hsz
  have hD := hD0.self (sz := s.heap.size)
  generalize hAe : va_A [(h, .inr (9, [.ref hPA, .ref hRD, .ref hRB, .ref hPE, .ref hHO, .ref hAG, .ref hLO, .ref hRQ, .ref hEX, .ref aFR])), (hPA, .inr (4, [.ref aS, .int (nI pn)])), (aS, .inl (cC, 40, .inl pf)), (hRD, .inr (8, [.int pl, .int x.1, .int x.2.1, .int x.2.2.1, .int x.2.2.2.1, .int x.2.2.2.2.1, .int x.2.2.2.2.2.1, .int x.2.2.2.2.2.2])), (hRB, .inr (7, [.ref aN, .ref aB, .int (nI bn), .int tl, .int ab, .int mk, .int sh])), (aN, .inl (cI, 20, .inl nd)), (aB, .inl (cI, 20, .inl br))] s.heap.size = A at hD ⊢
  have hA : ∀ q : Nat, s.heap.size ≤ q → A q := fun q h => by rw [← hAe]; exact Or.inr h
  have hS : va_S A s.heap s.heap [] := va_S.rf
  have hP : va_P (dC, dI) vwCl [(h, .inr (9, [.ref hPA, .ref hRD, .ref hRB, .ref hPE, .ref hHO, .ref hAG, .ref hLO, .ref hRQ, .ref hEX, .ref aFR])), (hPA, .inr (4, [.ref aS, .int (nI pn)])), (aS, .inl (cC, 40, .inl pf)), (hRD, .inr (8, [.int pl, .int x.1, .int x.2.1, .int x.2.2.1, .int x.2.2.2.1, .int x.2.2.2.2.1, .int x.2.2.2.2.2.1, .int x.2.2.2.2.2.2])), (hRB, .inr (7, [.ref aN, .ref aB, .int (nI bn), .int tl, .int ab, .int mk, .int sh])), (aN, .inl (cI, 20, .inl nd)), (aB, .inl (cI, 20, .inl br))] s.heap := hP
  have iPA : ∀ w ∈ u_ws R_PA T_PA 2, w ∈ ws_RR_rule := fun w h => wb_RR_rule w (in_PA w h)
  have iRB : ∀ w ∈ u_ws R_RB T_RB 7, w ∈ ws_RR_rule := fun w h => wb_RR_rule w (in_RB w h)
  have iRD : ∀ w ∈ u_ws R_RD T_RD 8, w ∈ ws_RR_rule := fun w h => wb_RR_rule w (in_RD w h)
  have iRR : ∀ w ∈ u_ws R_RR T_RR 10, w ∈ ws_RR_rule := fun w h => wb_RR_rule w (in_RR w h)
  have hl := lv_entry ([.ref h]) (n := 2) (Nat.le_of_ble_eq_true rfl)
  rw [lg_entry_eq]
  generalize (lg_sl ([.ref h]) ++ List.replicate (2 - (lg_sl ([.ref h])).length) Slot.unset).toArray = ls at hl ⊢
  have hl : lv_has ls 2 [(0, .ref h)] := hl
  refine lv_aload_n hx hb d_RR_rule_0 rfl (lv_at hl 0 rfl) ?_
  refine va_get (D := (dC, dI)) (ci := 9) (v := .ref hRB) (C := R_RR) (T := T_RR) (N := 10) hx hb hts iRR hown hK hP 0 rfl rfl 2 (by decide) (hts _ (wb_RR_rule _ b_226)) (fun _ h9 => h9) rfl d_RR_rule_1 ?_
  refine va_get (D := (dC, dI)) (ci := 7) (v := .int (nI bn)) (C := R_RB) (T := T_RB) (N := 7) hx hb hts iRB hown hK hP 4 rfl rfl 2 (by decide) (hts _ (wb_RR_rule _ b_88)) (fun _ h9 => h9) rfl d_RR_rule_4 ?_
  refine lv_bipush (v := 20) hx hb d_RR_rule_7 (by decide) ?_
  refine lv_icmp_lt (tgt := 22) hx hb d_RR_rule_9 (by decide) (fun c9 => ?_) (fun c9 => ?_)
  · refine lv_aload_n hx hb d_RR_rule_22 rfl (lv_at hl 0 rfl) ?_
    refine va_get (D := (dC, dI)) (ci := 9) (v := .ref hRD) (C := R_RR) (T := T_RR) (N := 10) hx hb hts iRR hown hK hP 0 rfl rfl 1 (by decide) (hts _ (wb_RR_rule _ b_225)) (fun _ h9 => h9) rfl d_RR_rule_23 ?_
    refine lv_aload_n hx hb d_RR_rule_26 rfl (lv_at hl 0 rfl) ?_
    refine va_get (D := (dC, dI)) (ci := 9) (v := .ref hPA) (C := R_RR) (T := T_RR) (N := 10) hx hb hts iRR hown hK hP 0 rfl rfl 0 (by decide) (hts _ (wb_RR_rule _ b_224)) (fun _ h9 => h9) rfl d_RR_rule_27 ?_
    have hPc := hP.sub (ws' := [(hRD, .inr (8, [.int pl, .int x.1, .int x.2.1, .int x.2.2.1, .int x.2.2.2.1, .int x.2.2.2.2.1, .int x.2.2.2.2.2.1, .int x.2.2.2.2.2.2])), (hPA, .inr (4, [.ref aS, .int (nI pn)])), (aS, .inl (cC, 40, .inl pf))]) [3, 1, 2] rfl
    have hKc := hK.sub (tys' := [(cC, .char)]) [1] rfl
    have hDc := hD.sub (ws' := [(hRD, .inr (8, [.int pl, .int x.1, .int x.2.1, .int x.2.2.1, .int x.2.2.2.1, .int x.2.2.2.2.1, .int x.2.2.2.2.2.1, .int x.2.2.2.2.2.2])), (hPA, .inr (4, [.ref aS, .int (nI pn)])), (aS, .inl (cC, 40, .inl pf))]) [3, 1, 2] (by decide) rfl
    have hFc := va_free (wc := [(hRD, .inr (8, [.int pl, .int x.1, .int x.2.1, .int x.2.2.1, .int x.2.2.2.1, .int x.2.2.2.2.1, .int x.2.2.2.2.2.1, .int x.2.2.2.2.2.2])), (hPA, .inr (4, [.ref aS, .int (nI pn)])), (aS, .inl (cC, 40, .inl pf))]) hD hS hA [3, 1, 2] rfl
    refine va_calli (va_runV (As := [.ref hPA]) (rest := []) ⟨hx, hb, hml, hown, hts⟩ (c_RD_reads l dC dI s.heap.size cC hRD hPA aS pf pn (by first | assumption | omega) pl x) (cwV 1 hts (vz_gV wb_RR_rule b_346 b_347 b_348 b_3 wc_RD_reads) rfl rfl rfl (by decide +kernel) ⟨Nat.le_of_ble_eq_true rfl, Nat.le_of_ble_eq_true rfl⟩) (vz_preVw (A := A) hPc hKc hDc (ci := 8) (q0 := 0) rfl rfl) rfl rfl hl.1 rfl (lv_room (Nat.le_of_ble_eq_true rfl)) d_RR_rule_30 ⟨Nat.le_of_ble_eq_true rfl, Nat.le_of_ble_eq_true rfl⟩) hS (fun q _ h => hFc q h) hFc (fun r30 u9 t9 H1 locs ht hvm hr30 hB hzx9 hkx9 hS => ?_)
    try dsimp only at hr30
    obtain ⟨hP1, hK1, hD1⟩ := hB
    rw [ht] at hP1
    obtain ⟨hP, hD⟩ := va_join (wr := [(h, .inr (9, [.ref hPA, .ref hRD, .ref hRB, .ref hPE, .ref hHO, .ref hAG, .ref hLO, .ref hRQ, .ref hEX, .ref aFR])), (hRB, .inr (7, [.ref aN, .ref aB, .int (nI bn), .int tl, .int ab, .int mk, .int sh])), (aN, .inl (cI, 20, .inl nd)), (aB, .inl (cI, 20, .inl br))]) (w1 := [(hRD, .inr (8, [.int ((rdGo pf 0 pn (x.1, 0, 0, 0, x.2.2.2.2.1, x.2.2.2.2.2.1, x.2.2.2.2.2.2)).1), .int (((rdGo pf 0 pn (x.1, 0, 0, 0, x.2.2.2.2.1, x.2.2.2.2.2.1, x.2.2.2.2.2.2)).2.1).1), .int (((rdGo pf 0 pn (x.1, 0, 0, 0, x.2.2.2.2.1, x.2.2.2.2.2.1, x.2.2.2.2.2.2)).2.1).2.1), .int (((rdGo pf 0 pn (x.1, 0, 0, 0, x.2.2.2.2.1, x.2.2.2.2.2.1, x.2.2.2.2.2.2)).2.1).2.2.1), .int (((rdGo pf 0 pn (x.1, 0, 0, 0, x.2.2.2.2.1, x.2.2.2.2.2.1, x.2.2.2.2.2.2)).2.1).2.2.2.1), .int (((rdGo pf 0 pn (x.1, 0, 0, 0, x.2.2.2.2.1, x.2.2.2.2.2.1, x.2.2.2.2.2.2)).2.1).2.2.2.2.1), .int (((rdGo pf 0 pn (x.1, 0, 0, 0, x.2.2.2.2.1, x.2.2.2.2.2.1, x.2.2.2.2.2.2)).2.1).2.2.2.2.2.1), .int (((rdGo pf 0 pn (x.1, 0, 0, 0, x.2.2.2.2.1, x.2.2.2.2.2.1, x.2.2.2.2.2.2)).2.1).2.2.2.2.2.2)])), (hPA, .inr (4, [.ref aS, .int (nI pn)])), (aS, .inl (cC, 40, .inl pf))]) hP hD [3, 1, 2] [0, 4, 5, 6] rfl rfl (by decide) (by decide) hkx9 hFc hP1 hD1
    generalize H1 = H at hP hS ⊢
    have hP : va_P (dC, dI) vwCl [(h, .inr (9, [.ref hPA, .ref hRD, .ref hRB, .ref hPE, .ref hHO, .ref hAG, .ref hLO, .ref hRQ, .ref hEX, .ref aFR])), (hRB, .inr (7, [.ref aN, .ref aB, .int (nI bn), .int tl, .int ab, .int mk, .int sh])), (aN, .inl (cI, 20, .inl nd)), (aB, .inl (cI, 20, .inl br)), (hRD, .inr (8, [.int ((rdGo pf 0 pn (x.1, 0, 0, 0, x.2.2.2.2.1, x.2.2.2.2.2.1, x.2.2.2.2.2.2)).1), .int (((rdGo pf 0 pn (x.1, 0, 0, 0, x.2.2.2.2.1, x.2.2.2.2.2.1, x.2.2.2.2.2.2)).2.1).1), .int (((rdGo pf 0 pn (x.1, 0, 0, 0, x.2.2.2.2.1, x.2.2.2.2.2.1, x.2.2.2.2.2.2)).2.1).2.1), .int (((rdGo pf 0 pn (x.1, 0, 0, 0, x.2.2.2.2.1, x.2.2.2.2.2.1, x.2.2.2.2.2.2)).2.1).2.2.1), .int (((rdGo pf 0 pn (x.1, 0, 0, 0, x.2.2.2.2.1, x.2.2.2.2.2.1, x.2.2.2.2.2.2)).2.1).2.2.2.1), .int (((rdGo pf 0 pn (x.1, 0, 0, 0, x.2.2.2.2.1, x.2.2.2.2.2.1, x.2.2.2.2.2.2)).2.1).2.2.2.2.1), .int (((rdGo pf 0 pn (x.1, 0, 0, 0, x.2.2.2.2.1, x.2.2.2.2.2.1, x.2.2.2.2.2.2)).2.1).2.2.2.2.2.1), .int (((rdGo pf 0 pn (x.1, 0, 0, 0, x.2.2.2.2.1, x.2.2.2.2.2.1, x.2.2.2.2.2.2)).2.1).2.2.2.2.2.2)])), (hPA, .inr (4, [.ref aS, .int (nI pn)])), (aS, .inl (cC, 40, .inl pf))] H := hP
    have hD : va_D A [(h, .inr (9, [.ref hPA, .ref hRD, .ref hRB, .ref hPE, .ref hHO, .ref hAG, .ref hLO, .ref hRQ, .ref hEX, .ref aFR])), (hRB, .inr (7, [.ref aN, .ref aB, .int (nI bn), .int tl, .int ab, .int mk, .int sh])), (aN, .inl (cI, 20, .inl nd)), (aB, .inl (cI, 20, .inl br)), (hRD, .inr (8, [.int ((rdGo pf 0 pn (x.1, 0, 0, 0, x.2.2.2.2.1, x.2.2.2.2.2.1, x.2.2.2.2.2.2)).1), .int (((rdGo pf 0 pn (x.1, 0, 0, 0, x.2.2.2.2.1, x.2.2.2.2.2.1, x.2.2.2.2.2.2)).2.1).1), .int (((rdGo pf 0 pn (x.1, 0, 0, 0, x.2.2.2.2.1, x.2.2.2.2.2.1, x.2.2.2.2.2.2)).2.1).2.1), .int (((rdGo pf 0 pn (x.1, 0, 0, 0, x.2.2.2.2.1, x.2.2.2.2.2.1, x.2.2.2.2.2.2)).2.1).2.2.1), .int (((rdGo pf 0 pn (x.1, 0, 0, 0, x.2.2.2.2.1, x.2.2.2.2.2.1, x.2.2.2.2.2.2)).2.1).2.2.2.1), .int (((rdGo pf 0 pn (x.1, 0, 0, 0, x.2.2.2.2.1, x.2.2.2.2.2.1, x.2.2.2.2.2.2)).2.1).2.2.2.2.1), .int (((rdGo pf 0 pn (x.1, 0, 0, 0, x.2.2.2.2.1, x.2.2.2.2.2.1, x.2.2.2.2.2.2)).2.1).2.2.2.2.2.1), .int (((rdGo pf 0 pn (x.1, 0, 0, 0, x.2.2.2.2.1, x.2.2.2.2.2.1, x.2.2.2.2.2.2)).2.1).2.2.2.2.2.2)])), (hPA, .inr (4, [.ref aS, .int (nI pn)])), (aS, .inl (cC, 40, .inl pf))] := hD
    refine lv_istore_n (lv' := [(1, .int r30), (0, .ref h)]) hx hb d_RR_rule_33 rfl hl (by decide) rfl (fun ls hl => ?_)
    refine lv_aload_n hx hb d_RR_rule_34 rfl (lv_at hl 1 rfl) ?_
    refine va_get (D := (dC, dI)) (ci := 9) (v := .ref hPA) (C := R_RR) (T := T_RR) (N := 10) hx hb hts iRR hown hK hP 0 rfl rfl 0 (by decide) (hts _ (wb_RR_rule _ b_224)) (fun _ h9 => h9) rfl d_RR_rule_35 ?_
    refine lv_iconst (v := 0) hx hb d_RR_rule_38 (by decide) ?_
    refine va_put (D := (dC, dI)) (ci := 4) (v := .int 0) (ty := .int) (C := R_PA) (T := T_PA) (N := 2) hx hb hts iPA ty_PA tyok_PA nm_PA hown hK hP hD hS 5 rfl rfl 1 (by decide) (hts _ (wb_RR_rule _ b_36)) (fun _ h9 => h9) rfl rfl rfl rfl (Nat.le_of_ble_eq_true rfl) d_RR_rule_39 (fun H locs hP hD hS => ?_)
    have hP : va_P (dC, dI) vwCl [(h, .inr (9, [.ref hPA, .ref hRD, .ref hRB, .ref hPE, .ref hHO, .ref hAG, .ref hLO, .ref hRQ, .ref hEX, .ref aFR])), (hRB, .inr (7, [.ref aN, .ref aB, .int (nI bn), .int tl, .int ab, .int mk, .int sh])), (aN, .inl (cI, 20, .inl nd)), (aB, .inl (cI, 20, .inl br)), (hRD, .inr (8, [.int ((rdGo pf 0 pn (x.1, 0, 0, 0, x.2.2.2.2.1, x.2.2.2.2.2.1, x.2.2.2.2.2.2)).1), .int (((rdGo pf 0 pn (x.1, 0, 0, 0, x.2.2.2.2.1, x.2.2.2.2.2.1, x.2.2.2.2.2.2)).2.1).1), .int (((rdGo pf 0 pn (x.1, 0, 0, 0, x.2.2.2.2.1, x.2.2.2.2.2.1, x.2.2.2.2.2.2)).2.1).2.1), .int (((rdGo pf 0 pn (x.1, 0, 0, 0, x.2.2.2.2.1, x.2.2.2.2.2.1, x.2.2.2.2.2.2)).2.1).2.2.1), .int (((rdGo pf 0 pn (x.1, 0, 0, 0, x.2.2.2.2.1, x.2.2.2.2.2.1, x.2.2.2.2.2.2)).2.1).2.2.2.1), .int (((rdGo pf 0 pn (x.1, 0, 0, 0, x.2.2.2.2.1, x.2.2.2.2.2.1, x.2.2.2.2.2.2)).2.1).2.2.2.2.1), .int (((rdGo pf 0 pn (x.1, 0, 0, 0, x.2.2.2.2.1, x.2.2.2.2.2.1, x.2.2.2.2.2.2)).2.1).2.2.2.2.2.1), .int (((rdGo pf 0 pn (x.1, 0, 0, 0, x.2.2.2.2.1, x.2.2.2.2.2.1, x.2.2.2.2.2.2)).2.1).2.2.2.2.2.2)])), (hPA, .inr (4, [.ref aS, .int 0])), (aS, .inl (cC, 40, .inl pf))] H := hP
    have hD : va_D A [(h, .inr (9, [.ref hPA, .ref hRD, .ref hRB, .ref hPE, .ref hHO, .ref hAG, .ref hLO, .ref hRQ, .ref hEX, .ref aFR])), (hRB, .inr (7, [.ref aN, .ref aB, .int (nI bn), .int tl, .int ab, .int mk, .int sh])), (aN, .inl (cI, 20, .inl nd)), (aB, .inl (cI, 20, .inl br)), (hRD, .inr (8, [.int ((rdGo pf 0 pn (x.1, 0, 0, 0, x.2.2.2.2.1, x.2.2.2.2.2.1, x.2.2.2.2.2.2)).1), .int (((rdGo pf 0 pn (x.1, 0, 0, 0, x.2.2.2.2.1, x.2.2.2.2.2.1, x.2.2.2.2.2.2)).2.1).1), .int (((rdGo pf 0 pn (x.1, 0, 0, 0, x.2.2.2.2.1, x.2.2.2.2.2.1, x.2.2.2.2.2.2)).2.1).2.1), .int (((rdGo pf 0 pn (x.1, 0, 0, 0, x.2.2.2.2.1, x.2.2.2.2.2.1, x.2.2.2.2.2.2)).2.1).2.2.1), .int (((rdGo pf 0 pn (x.1, 0, 0, 0, x.2.2.2.2.1, x.2.2.2.2.2.1, x.2.2.2.2.2.2)).2.1).2.2.2.1), .int (((rdGo pf 0 pn (x.1, 0, 0, 0, x.2.2.2.2.1, x.2.2.2.2.2.1, x.2.2.2.2.2.2)).2.1).2.2.2.2.1), .int (((rdGo pf 0 pn (x.1, 0, 0, 0, x.2.2.2.2.1, x.2.2.2.2.2.1, x.2.2.2.2.2.2)).2.1).2.2.2.2.2.1), .int (((rdGo pf 0 pn (x.1, 0, 0, 0, x.2.2.2.2.1, x.2.2.2.2.2.1, x.2.2.2.2.2.2)).2.1).2.2.2.2.2.2)])), (hPA, .inr (4, [.ref aS, .int 0])), (aS, .inl (cC, 40, .inl pf))] := hD
    refine lv_iload_n hx hb d_RR_rule_42 rfl (lv_at hl 0 rfl) ?_
    refine lv_if_ne (tgt := 56) hx hb d_RR_rule_43 (by decide) (fun c43 => ?_) (fun c43 => ?_)
    · exact absurd (hr30.trans hok) c43
    · refine lv_iconst (v := (-1)) hx hb d_RR_rule_46 (by decide) ?_
      refine lv_aload_n hx hb d_RR_rule_47 rfl (lv_at hl 1 rfl) ?_
      refine va_get (D := (dC, dI)) (ci := 9) (v := .ref hRD) (C := R_RR) (T := T_RR) (N := 10) hx hb hts iRR hown hK hP 0 rfl rfl 1 (by decide) (hts _ (wb_RR_rule _ b_225)) (fun _ h9 => h9) rfl d_RR_rule_48 ?_
      refine va_get (D := (dC, dI)) (ci := 8) (v := .int ((rdGo pf 0 pn (x.1, 0, 0, 0, x.2.2.2.2.1, x.2.2.2.2.2.1, x.2.2.2.2.2.2)).1)) (C := R_RD) (T := T_RD) (N := 8) hx hb hts iRD hown hK hP 4 rfl rfl 0 (by decide) (hts _ (wb_RR_rule _ b_51)) (fun _ h9 => h9) rfl d_RR_rule_51 ?_
      refine lv_isub hx hb d_RR_rule_54 ?_
      have hP9 := hP.sub (ws' := [(h, .inr (9, [.ref hPA, .ref hRD, .ref hRB, .ref hPE, .ref hHO, .ref hAG, .ref hLO, .ref hRQ, .ref hEX, .ref aFR])), (hPA, .inr (4, [.ref aS, .int 0])), (aS, .inl (cC, 40, .inl pf)), (hRD, .inr (8, [.int ((rdGo pf 0 pn (x.1, 0, 0, 0, x.2.2.2.2.1, x.2.2.2.2.2.1, x.2.2.2.2.2.2)).1), .int (((rdGo pf 0 pn (x.1, 0, 0, 0, x.2.2.2.2.1, x.2.2.2.2.2.1, x.2.2.2.2.2.2)).2.1).1), .int (((rdGo pf 0 pn (x.1, 0, 0, 0, x.2.2.2.2.1, x.2.2.2.2.2.1, x.2.2.2.2.2.2)).2.1).2.1), .int (((rdGo pf 0 pn (x.1, 0, 0, 0, x.2.2.2.2.1, x.2.2.2.2.2.1, x.2.2.2.2.2.2)).2.1).2.2.1), .int (((rdGo pf 0 pn (x.1, 0, 0, 0, x.2.2.2.2.1, x.2.2.2.2.2.1, x.2.2.2.2.2.2)).2.1).2.2.2.1), .int (((rdGo pf 0 pn (x.1, 0, 0, 0, x.2.2.2.2.1, x.2.2.2.2.2.1, x.2.2.2.2.2.2)).2.1).2.2.2.2.1), .int (((rdGo pf 0 pn (x.1, 0, 0, 0, x.2.2.2.2.1, x.2.2.2.2.2.1, x.2.2.2.2.2.2)).2.1).2.2.2.2.2.1), .int (((rdGo pf 0 pn (x.1, 0, 0, 0, x.2.2.2.2.1, x.2.2.2.2.2.1, x.2.2.2.2.2.2)).2.1).2.2.2.2.2.2)])), (hRB, .inr (7, [.ref aN, .ref aB, .int (nI bn), .int tl, .int ab, .int mk, .int sh])), (aN, .inl (cI, 20, .inl nd)), (aB, .inl (cI, 20, .inl br))]) [0, 5, 6, 4, 1, 2, 3] rfl
      have hD9 := hD.sub (ws' := [(h, .inr (9, [.ref hPA, .ref hRD, .ref hRB, .ref hPE, .ref hHO, .ref hAG, .ref hLO, .ref hRQ, .ref hEX, .ref aFR])), (hPA, .inr (4, [.ref aS, .int 0])), (aS, .inl (cC, 40, .inl pf)), (hRD, .inr (8, [.int ((rdGo pf 0 pn (x.1, 0, 0, 0, x.2.2.2.2.1, x.2.2.2.2.2.1, x.2.2.2.2.2.2)).1), .int (((rdGo pf 0 pn (x.1, 0, 0, 0, x.2.2.2.2.1, x.2.2.2.2.2.1, x.2.2.2.2.2.2)).2.1).1), .int (((rdGo pf 0 pn (x.1, 0, 0, 0, x.2.2.2.2.1, x.2.2.2.2.2.1, x.2.2.2.2.2.2)).2.1).2.1), .int (((rdGo pf 0 pn (x.1, 0, 0, 0, x.2.2.2.2.1, x.2.2.2.2.2.1, x.2.2.2.2.2.2)).2.1).2.2.1), .int (((rdGo pf 0 pn (x.1, 0, 0, 0, x.2.2.2.2.1, x.2.2.2.2.2.1, x.2.2.2.2.2.2)).2.1).2.2.2.1), .int (((rdGo pf 0 pn (x.1, 0, 0, 0, x.2.2.2.2.1, x.2.2.2.2.2.1, x.2.2.2.2.2.2)).2.1).2.2.2.2.1), .int (((rdGo pf 0 pn (x.1, 0, 0, 0, x.2.2.2.2.1, x.2.2.2.2.2.1, x.2.2.2.2.2.2)).2.1).2.2.2.2.2.1), .int (((rdGo pf 0 pn (x.1, 0, 0, 0, x.2.2.2.2.1, x.2.2.2.2.2.1, x.2.2.2.2.2.2)).2.1).2.2.2.2.2.2)])), (hRB, .inr (7, [.ref aN, .ref aB, .int (nI bn), .int tl, .int ab, .int mk, .int sh])), (aN, .inl (cI, 20, .inl nd)), (aB, .inl (cI, 20, .inl br))]) [0, 5, 6, 4, 1, 2, 3] (by decide) rfl
      exact W.iret (v := (-1) - ((rdGo pf 0 pn (x.1, 0, 0, 0, x.2.2.2.2.1, x.2.2.2.2.2.1, x.2.2.2.2.2.2)).1)) hx hb hr (fun t ht hW => ⟨⟨(-1) - ((rdGo pf 0 pn (x.1, 0, 0, 0, x.2.2.2.2.1, x.2.2.2.2.2.1, x.2.2.2.2.2.2)).1), (), rfl, rfl, by rw [ht]; exact hP9, va_K.moved hW.alike hK, hD9⟩, hS.F ht⟩) hS.2.2 d_RR_rule_55
  · exact absurd ((nI_ltI (show bn < 2147483648 by omega) (show 20 < 2147483648 by omega)).mpr hbn) c9

set_option maxHeartbeats 4000000 in
set_option maxRecDepth 100000 in
/-- RecordRights.rule, a rule -/
theorem c_RR_ruleOk (l : Launch) (dC : Nat → ClassId) (dI : Nat → Nat → Nat) (sz : Nat) (h hPA hRD hRB hPE hHO hAG hLO hRQ hEX aFR : Nat) (cI cC : ClassId) (aS : Nat) (pf : Nat → Int32) (pn : Nat) (pl : Int32) (x : RdS) (aN aB : Nat) (nd br : Nat → Int32) (bn : Nat) (tl ab mk sh : Int32) (hpn : pn ≤ 40) (hbn : bn < 20) (hok : ¬ (rdGo pf 0 pn (x.1, 0, 0, 0, x.2.2.2.2.1, x.2.2.2.2.2.1, x.2.2.2.2.2.2)).2.2 = 0) : Met l y_RR_rule ws_RR_rule ({ frames := 4, cells := 0, slots := 0, locals := 86 }) (va_Pc [.ref h] (fun U => U.heap.size = sz ∧ va_P (dC, dI) vwCl [(h, .inr (9, [.ref hPA, .ref hRD, .ref hRB, .ref hPE, .ref hHO, .ref hAG, .ref hLO, .ref hRQ, .ref hEX, .ref aFR])), (hPA, .inr (4, [.ref aS, .int (nI pn)])), (aS, .inl (cC, 40, .inl pf)), (hRD, .inr (8, [.int pl, .int x.1, .int x.2.1, .int x.2.2.1, .int x.2.2.2.1, .int x.2.2.2.2.1, .int x.2.2.2.2.2.1, .int x.2.2.2.2.2.2])), (hRB, .inr (7, [.ref aN, .ref aB, .int (nI bn), .int tl, .int ab, .int mk, .int sh])), (aN, .inl (cI, 20, .inl nd)), (aB, .inl (cI, 20, .inl br))] U.heap ∧ va_K (dC, dI) vwCl [(cI, .int), (cC, .char)] U ∧ va_D (fun _ => True) [(h, .inr (9, [.ref hPA, .ref hRD, .ref hRB, .ref hPE, .ref hHO, .ref hAG, .ref hLO, .ref hRQ, .ref hEX, .ref aFR])), (hPA, .inr (4, [.ref aS, .int (nI pn)])), (aS, .inl (cC, 40, .inl pf)), (hRD, .inr (8, [.int pl, .int x.1, .int x.2.1, .int x.2.2.1, .int x.2.2.2.1, .int x.2.2.2.2.1, .int x.2.2.2.2.2.1, .int x.2.2.2.2.2.2])), (hRB, .inr (7, [.ref aN, .ref aB, .int (nI bn), .int tl, .int ab, .int mk, .int sh])), (aN, .inl (cI, 20, .inl nd)), (aB, .inl (cI, 20, .inl br))])) (va_Qi (fun (res : Int32) (_ : Unit) => res = nI bn) (fun _ t => va_P (dC, dI) vwCl [(h, .inr (9, [.ref hPA, .ref hRD, .ref hRB, .ref hPE, .ref hHO, .ref hAG, .ref hLO, .ref hRQ, .ref hEX, .ref aFR])), (hPA, .inr (4, [.ref aS, .int (nI 0)])), (aS, .inl (cC, 40, .inl pf)), (hRD, .inr (8, [.int ((rdGo pf 0 pn (x.1, 0, 0, 0, x.2.2.2.2.1, x.2.2.2.2.2.1, x.2.2.2.2.2.2)).1), .int (((rdGo pf 0 pn (x.1, 0, 0, 0, x.2.2.2.2.1, x.2.2.2.2.2.1, x.2.2.2.2.2.2)).2.1).1), .int (((rdGo pf 0 pn (x.1, 0, 0, 0, x.2.2.2.2.1, x.2.2.2.2.2.1, x.2.2.2.2.2.2)).2.1).2.1), .int (((rdGo pf 0 pn (x.1, 0, 0, 0, x.2.2.2.2.1, x.2.2.2.2.2.1, x.2.2.2.2.2.2)).2.1).2.2.1), .int (((rdGo pf 0 pn (x.1, 0, 0, 0, x.2.2.2.2.1, x.2.2.2.2.2.1, x.2.2.2.2.2.2)).2.1).2.2.2.1), .int (((rdGo pf 0 pn (x.1, 0, 0, 0, x.2.2.2.2.1, x.2.2.2.2.2.1, x.2.2.2.2.2.2)).2.1).2.2.2.2.1), .int (((rdGo pf 0 pn (x.1, 0, 0, 0, x.2.2.2.2.1, x.2.2.2.2.2.1, x.2.2.2.2.2.2)).2.1).2.2.2.2.2.1), .int (((rdGo pf 0 pn (x.1, 0, 0, 0, x.2.2.2.2.1, x.2.2.2.2.2.1, x.2.2.2.2.2.2)).2.1).2.2.2.2.2.2)])), (hRB, .inr (7, [.ref aN, .ref aB, .int (nI (bn + 1)), .int (tl ||| ((1 : Int32) <<< (nI bn &&& 31))), .int (if (rdGo pf 0 pn (x.1, 0, 0, 0, x.2.2.2.2.1, x.2.2.2.2.2.1, x.2.2.2.2.2.2)).2.1.1 = 0 then ab ||| ((1 : Int32) <<< (nI bn &&& 31)) else ab), .int (if (rdGo pf 0 pn (x.1, 0, 0, 0, x.2.2.2.2.1, x.2.2.2.2.2.1, x.2.2.2.2.2.2)).2.1.1 = 0 then mk else if (rdGo pf 0 pn (x.1, 0, 0, 0, x.2.2.2.2.1, x.2.2.2.2.2.1, x.2.2.2.2.2.2)).2.1.1 = 1 then mk ||| ((1 : Int32) <<< (nI bn &&& 31)) else mk), .int (if (rdGo pf 0 pn (x.1, 0, 0, 0, x.2.2.2.2.1, x.2.2.2.2.2.1, x.2.2.2.2.2.2)).2.1.1 = 0 then sh else if (rdGo pf 0 pn (x.1, 0, 0, 0, x.2.2.2.2.1, x.2.2.2.2.2.1, x.2.2.2.2.2.2)).2.1.1 = 1 then sh else sh ||| ((1 : Int32) <<< (nI bn &&& 31)))])), (aN, .inl (cI, 20, .inl (upd nd bn (rdGo pf 0 pn (x.1, 0, 0, 0, x.2.2.2.2.1, x.2.2.2.2.2.1, x.2.2.2.2.2.2)).2.1.2.1))), (aB, .inl (cI, 20, .inl (upd br bn (rdGo pf 0 pn (x.1, 0, 0, 0, x.2.2.2.2.1, x.2.2.2.2.2.1, x.2.2.2.2.2.2)).2.1.2.2.1)))] t.heap ∧ va_K (dC, dI) vwCl [(cI, .int), (cC, .char)] t ∧ va_D (va_A [(h, .inr (9, [.ref hPA, .ref hRD, .ref hRB, .ref hPE, .ref hHO, .ref hAG, .ref hLO, .ref hRQ, .ref hEX, .ref aFR])), (hPA, .inr (4, [.ref aS, .int (nI pn)])), (aS, .inl (cC, 40, .inl pf)), (hRD, .inr (8, [.int pl, .int x.1, .int x.2.1, .int x.2.2.1, .int x.2.2.2.1, .int x.2.2.2.2.1, .int x.2.2.2.2.2.1, .int x.2.2.2.2.2.2])), (hRB, .inr (7, [.ref aN, .ref aB, .int (nI bn), .int tl, .int ab, .int mk, .int sh])), (aN, .inl (cI, 20, .inl nd)), (aB, .inl (cI, 20, .inl br))] sz) [(h, .inr (9, [.ref hPA, .ref hRD, .ref hRB, .ref hPE, .ref hHO, .ref hAG, .ref hLO, .ref hRQ, .ref hEX, .ref aFR])), (hPA, .inr (4, [.ref aS, .int (nI 0)])), (aS, .inl (cC, 40, .inl pf)), (hRD, .inr (8, [.int ((rdGo pf 0 pn (x.1, 0, 0, 0, x.2.2.2.2.1, x.2.2.2.2.2.1, x.2.2.2.2.2.2)).1), .int (((rdGo pf 0 pn (x.1, 0, 0, 0, x.2.2.2.2.1, x.2.2.2.2.2.1, x.2.2.2.2.2.2)).2.1).1), .int (((rdGo pf 0 pn (x.1, 0, 0, 0, x.2.2.2.2.1, x.2.2.2.2.2.1, x.2.2.2.2.2.2)).2.1).2.1), .int (((rdGo pf 0 pn (x.1, 0, 0, 0, x.2.2.2.2.1, x.2.2.2.2.2.1, x.2.2.2.2.2.2)).2.1).2.2.1), .int (((rdGo pf 0 pn (x.1, 0, 0, 0, x.2.2.2.2.1, x.2.2.2.2.2.1, x.2.2.2.2.2.2)).2.1).2.2.2.1), .int (((rdGo pf 0 pn (x.1, 0, 0, 0, x.2.2.2.2.1, x.2.2.2.2.2.1, x.2.2.2.2.2.2)).2.1).2.2.2.2.1), .int (((rdGo pf 0 pn (x.1, 0, 0, 0, x.2.2.2.2.1, x.2.2.2.2.2.1, x.2.2.2.2.2.2)).2.1).2.2.2.2.2.1), .int (((rdGo pf 0 pn (x.1, 0, 0, 0, x.2.2.2.2.1, x.2.2.2.2.2.1, x.2.2.2.2.2.2)).2.1).2.2.2.2.2.2)])), (hRB, .inr (7, [.ref aN, .ref aB, .int (nI (bn + 1)), .int (tl ||| ((1 : Int32) <<< (nI bn &&& 31))), .int (if (rdGo pf 0 pn (x.1, 0, 0, 0, x.2.2.2.2.1, x.2.2.2.2.2.1, x.2.2.2.2.2.2)).2.1.1 = 0 then ab ||| ((1 : Int32) <<< (nI bn &&& 31)) else ab), .int (if (rdGo pf 0 pn (x.1, 0, 0, 0, x.2.2.2.2.1, x.2.2.2.2.2.1, x.2.2.2.2.2.2)).2.1.1 = 0 then mk else if (rdGo pf 0 pn (x.1, 0, 0, 0, x.2.2.2.2.1, x.2.2.2.2.2.1, x.2.2.2.2.2.2)).2.1.1 = 1 then mk ||| ((1 : Int32) <<< (nI bn &&& 31)) else mk), .int (if (rdGo pf 0 pn (x.1, 0, 0, 0, x.2.2.2.2.1, x.2.2.2.2.2.1, x.2.2.2.2.2.2)).2.1.1 = 0 then sh else if (rdGo pf 0 pn (x.1, 0, 0, 0, x.2.2.2.2.1, x.2.2.2.2.2.1, x.2.2.2.2.2.2)).2.1.1 = 1 then sh else sh ||| ((1 : Int32) <<< (nI bn &&& 31)))])), (aN, .inl (cI, 20, .inl (upd nd bn (rdGo pf 0 pn (x.1, 0, 0, 0, x.2.2.2.2.1, x.2.2.2.2.2.1, x.2.2.2.2.2.2)).2.1.2.1))), (aB, .inl (cI, 20, .inl (upd br bn (rdGo pf 0 pn (x.1, 0, 0, 0, x.2.2.2.2.1, x.2.2.2.2.2.1, x.2.2.2.2.2.2)).2.1.2.2.1)))]) (va_A [(h, .inr (9, [.ref hPA, .ref hRD, .ref hRB, .ref hPE, .ref hHO, .ref hAG, .ref hLO, .ref hRQ, .ref hEX, .ref aFR])), (hPA, .inr (4, [.ref aS, .int (nI pn)])), (aS, .inl (cC, 40, .inl pf)), (hRD, .inr (8, [.int pl, .int x.1, .int x.2.1, .int x.2.2.1, .int x.2.2.2.1, .int x.2.2.2.2.1, .int x.2.2.2.2.2.1, .int x.2.2.2.2.2.2])), (hRB, .inr (7, [.ref aN, .ref aB, .int (nI bn), .int tl, .int ab, .int mk, .int sh])), (aN, .inl (cI, 20, .inl nd)), (aB, .inl (cI, 20, .inl br))] sz)) 0 0 (va_A [(h, .inr (9, [.ref hPA, .ref hRD, .ref hRB, .ref hPE, .ref hHO, .ref hAG, .ref hLO, .ref hRQ, .ref hEX, .ref aFR])), (hPA, .inr (4, [.ref aS, .int (nI pn)])), (aS, .inl (cC, 40, .inl pf)), (hRD, .inr (8, [.int pl, .int x.1, .int x.2.1, .int x.2.2.1, .int x.2.2.2.1, .int x.2.2.2.2.1, .int x.2.2.2.2.2.1, .int x.2.2.2.2.2.2])), (hRB, .inr (7, [.ref aN, .ref aB, .int (nI bn), .int tl, .int ab, .int mk, .int sh])), (aN, .inl (cI, 20, .inl nd)), (aB, .inl (cI, 20, .inl br))] sz) := by
  refine Met.ofW (cc := k_RR_rule) (maxL := 2) (ret := (some .int)) (by decide) rfl ?_
  intro p e s m args below meth c s₁ B hml hv
  obtain ⟨rfl, hsz, hP, hK, hD0⟩ := hv
  have hx := B.exec
  have hb := B.bytes
  have hr := B.returns
  have hts := atoms_spec (ws := ws_RR_rule) B.pre
  have hown : s.vm.findClass R_RR = some m.cls := findClass_of_methodNamed B.named
  have hlocks := B.notSynchronized
  subst hsz
  have hD := hD0.self (sz := s.heap.size)
  generalize hAe : va_A [(h, .inr (9, [.ref hPA, .ref hRD, .ref hRB, .ref hPE, .ref hHO, .ref hAG, .ref hLO, .ref hRQ, .ref hEX, .ref aFR])), (hPA, .inr (4, [.ref aS, .int (nI pn)])), (aS, .inl (cC, 40, .inl pf)), (hRD, .inr (8, [.int pl, .int x.1, .int x.2.1, .int x.2.2.1, .int x.2.2.2.1, .int x.2.2.2.2.1, .int x.2.2.2.2.2.1, .int x.2.2.2.2.2.2])), (hRB, .inr (7, [.ref aN, .ref aB, .int (nI bn), .int tl, .int ab, .int mk, .int sh])), (aN, .inl (cI, 20, .inl nd)), (aB, .inl (cI, 20, .inl br))] s.heap.size = A at hD ⊢
  have hA : ∀ q : Nat, s.heap.size ≤ q → A q := fun q h => by rw [← hAe]; exact Or.inr h
  have hS : va_S A s.heap s.heap [] := va_S.rf
  have hP : va_P (dC, dI) vwCl [(h, .inr (9, [.ref hPA, .ref hRD, .ref hRB, .ref hPE, .ref hHO, .ref hAG, .ref hLO, .ref hRQ, .ref hEX, .ref aFR])), (hPA, .inr (4, [.ref aS, .int (nI pn)])), (aS, .inl (cC, 40, .inl pf)), (hRD, .inr (8, [.int pl, .int x.1, .int x.2.1, .int x.2.2.1, .int x.2.2.2.1, .int x.2.2.2.2.1, .int x.2.2.2.2.2.1, .int x.2.2.2.2.2.2])), (hRB, .inr (7, [.ref aN, .ref aB, .int (nI bn), .int tl, .int ab, .int mk, .int sh])), (aN, .inl (cI, 20, .inl nd)), (aB, .inl (cI, 20, .inl br))] s.heap := hP
  have iPA : ∀ w ∈ u_ws R_PA T_PA 2, w ∈ ws_RR_rule := fun w h => wb_RR_rule w (in_PA w h)
  have iRB : ∀ w ∈ u_ws R_RB T_RB 7, w ∈ ws_RR_rule := fun w h => wb_RR_rule w (in_RB w h)
  have iRD : ∀ w ∈ u_ws R_RD T_RD 8, w ∈ ws_RR_rule := fun w h => wb_RR_rule w (in_RD w h)
  have iRR : ∀ w ∈ u_ws R_RR T_RR 10, w ∈ ws_RR_rule := fun w h => wb_RR_rule w (in_RR w h)
  have hl := lv_entry ([.ref h]) (n := 2) (Nat.le_of_ble_eq_true rfl)
  rw [lg_entry_eq]
  generalize (lg_sl ([.ref h]) ++ List.replicate (2 - (lg_sl ([.ref h])).length) Slot.unset).toArray = ls at hl ⊢
  have hl : lv_has ls 2 [(0, .ref h)] := hl
  refine lv_aload_n hx hb d_RR_rule_0 rfl (lv_at hl 0 rfl) ?_
  refine va_get (D := (dC, dI)) (ci := 9) (v := .ref hRB) (C := R_RR) (T := T_RR) (N := 10) hx hb hts iRR hown hK hP 0 rfl rfl 2 (by decide) (hts _ (wb_RR_rule _ b_226)) (fun _ h9 => h9) rfl d_RR_rule_1 ?_
  refine va_get (D := (dC, dI)) (ci := 7) (v := .int (nI bn)) (C := R_RB) (T := T_RB) (N := 7) hx hb hts iRB hown hK hP 4 rfl rfl 2 (by decide) (hts _ (wb_RR_rule _ b_88)) (fun _ h9 => h9) rfl d_RR_rule_4 ?_
  refine lv_bipush (v := 20) hx hb d_RR_rule_7 (by decide) ?_
  refine lv_icmp_lt (tgt := 22) hx hb d_RR_rule_9 (by decide) (fun c9 => ?_) (fun c9 => ?_)
  · refine lv_aload_n hx hb d_RR_rule_22 rfl (lv_at hl 0 rfl) ?_
    refine va_get (D := (dC, dI)) (ci := 9) (v := .ref hRD) (C := R_RR) (T := T_RR) (N := 10) hx hb hts iRR hown hK hP 0 rfl rfl 1 (by decide) (hts _ (wb_RR_rule _ b_225)) (fun _ h9 => h9) rfl d_RR_rule_23 ?_
    refine lv_aload_n hx hb d_RR_rule_26 rfl (lv_at hl 0 rfl) ?_
    refine va_get (D := (dC, dI)) (ci := 9) (v := .ref hPA) (C := R_RR) (T := T_RR) (N := 10) hx hb hts iRR hown hK hP 0 rfl rfl 0 (by decide) (hts _ (wb_RR_rule _ b_224)) (fun _ h9 => h9) rfl d_RR_rule_27 ?_
    have hPc := hP.sub (ws' := [(hRD, .inr (8, [.int pl, .int x.1, .int x.2.1, .int x.2.2.1, .int x.2.2.2.1, .int x.2.2.2.2.1, .int x.2.2.2.2.2.1, .int x.2.2.2.2.2.2])), (hPA, .inr (4, [.ref aS, .int (nI pn)])), (aS, .inl (cC, 40, .inl pf))]) [3, 1, 2] rfl
    have hKc := hK.sub (tys' := [(cC, .char)]) [1] rfl
    have hDc := hD.sub (ws' := [(hRD, .inr (8, [.int pl, .int x.1, .int x.2.1, .int x.2.2.1, .int x.2.2.2.1, .int x.2.2.2.2.1, .int x.2.2.2.2.2.1, .int x.2.2.2.2.2.2])), (hPA, .inr (4, [.ref aS, .int (nI pn)])), (aS, .inl (cC, 40, .inl pf))]) [3, 1, 2] (by decide) rfl
    have hFc := va_free (wc := [(hRD, .inr (8, [.int pl, .int x.1, .int x.2.1, .int x.2.2.1, .int x.2.2.2.1, .int x.2.2.2.2.1, .int x.2.2.2.2.2.1, .int x.2.2.2.2.2.2])), (hPA, .inr (4, [.ref aS, .int (nI pn)])), (aS, .inl (cC, 40, .inl pf))]) hD hS hA [3, 1, 2] rfl
    refine va_calli (va_runV (As := [.ref hPA]) (rest := []) ⟨hx, hb, hml, hown, hts⟩ (c_RD_reads l dC dI s.heap.size cC hRD hPA aS pf pn (by first | assumption | omega) pl x) (cwV 1 hts (vz_gV wb_RR_rule b_346 b_347 b_348 b_3 wc_RD_reads) rfl rfl rfl (by decide +kernel) ⟨Nat.le_of_ble_eq_true rfl, Nat.le_of_ble_eq_true rfl⟩) (vz_preVw (A := A) hPc hKc hDc (ci := 8) (q0 := 0) rfl rfl) rfl rfl hl.1 rfl (lv_room (Nat.le_of_ble_eq_true rfl)) d_RR_rule_30 ⟨Nat.le_of_ble_eq_true rfl, Nat.le_of_ble_eq_true rfl⟩) hS (fun q _ h => hFc q h) hFc (fun r30 u9 t9 H1 locs ht hvm hr30 hB hzx9 hkx9 hS => ?_)
    try dsimp only at hr30
    obtain ⟨hP1, hK1, hD1⟩ := hB
    rw [ht] at hP1
    obtain ⟨hP, hD⟩ := va_join (wr := [(h, .inr (9, [.ref hPA, .ref hRD, .ref hRB, .ref hPE, .ref hHO, .ref hAG, .ref hLO, .ref hRQ, .ref hEX, .ref aFR])), (hRB, .inr (7, [.ref aN, .ref aB, .int (nI bn), .int tl, .int ab, .int mk, .int sh])), (aN, .inl (cI, 20, .inl nd)), (aB, .inl (cI, 20, .inl br))]) (w1 := [(hRD, .inr (8, [.int ((rdGo pf 0 pn (x.1, 0, 0, 0, x.2.2.2.2.1, x.2.2.2.2.2.1, x.2.2.2.2.2.2)).1), .int (((rdGo pf 0 pn (x.1, 0, 0, 0, x.2.2.2.2.1, x.2.2.2.2.2.1, x.2.2.2.2.2.2)).2.1).1), .int (((rdGo pf 0 pn (x.1, 0, 0, 0, x.2.2.2.2.1, x.2.2.2.2.2.1, x.2.2.2.2.2.2)).2.1).2.1), .int (((rdGo pf 0 pn (x.1, 0, 0, 0, x.2.2.2.2.1, x.2.2.2.2.2.1, x.2.2.2.2.2.2)).2.1).2.2.1), .int (((rdGo pf 0 pn (x.1, 0, 0, 0, x.2.2.2.2.1, x.2.2.2.2.2.1, x.2.2.2.2.2.2)).2.1).2.2.2.1), .int (((rdGo pf 0 pn (x.1, 0, 0, 0, x.2.2.2.2.1, x.2.2.2.2.2.1, x.2.2.2.2.2.2)).2.1).2.2.2.2.1), .int (((rdGo pf 0 pn (x.1, 0, 0, 0, x.2.2.2.2.1, x.2.2.2.2.2.1, x.2.2.2.2.2.2)).2.1).2.2.2.2.2.1), .int (((rdGo pf 0 pn (x.1, 0, 0, 0, x.2.2.2.2.1, x.2.2.2.2.2.1, x.2.2.2.2.2.2)).2.1).2.2.2.2.2.2)])), (hPA, .inr (4, [.ref aS, .int (nI pn)])), (aS, .inl (cC, 40, .inl pf))]) hP hD [3, 1, 2] [0, 4, 5, 6] rfl rfl (by decide) (by decide) hkx9 hFc hP1 hD1
    generalize H1 = H at hP hS ⊢
    have hP : va_P (dC, dI) vwCl [(h, .inr (9, [.ref hPA, .ref hRD, .ref hRB, .ref hPE, .ref hHO, .ref hAG, .ref hLO, .ref hRQ, .ref hEX, .ref aFR])), (hRB, .inr (7, [.ref aN, .ref aB, .int (nI bn), .int tl, .int ab, .int mk, .int sh])), (aN, .inl (cI, 20, .inl nd)), (aB, .inl (cI, 20, .inl br)), (hRD, .inr (8, [.int ((rdGo pf 0 pn (x.1, 0, 0, 0, x.2.2.2.2.1, x.2.2.2.2.2.1, x.2.2.2.2.2.2)).1), .int (((rdGo pf 0 pn (x.1, 0, 0, 0, x.2.2.2.2.1, x.2.2.2.2.2.1, x.2.2.2.2.2.2)).2.1).1), .int (((rdGo pf 0 pn (x.1, 0, 0, 0, x.2.2.2.2.1, x.2.2.2.2.2.1, x.2.2.2.2.2.2)).2.1).2.1), .int (((rdGo pf 0 pn (x.1, 0, 0, 0, x.2.2.2.2.1, x.2.2.2.2.2.1, x.2.2.2.2.2.2)).2.1).2.2.1), .int (((rdGo pf 0 pn (x.1, 0, 0, 0, x.2.2.2.2.1, x.2.2.2.2.2.1, x.2.2.2.2.2.2)).2.1).2.2.2.1), .int (((rdGo pf 0 pn (x.1, 0, 0, 0, x.2.2.2.2.1, x.2.2.2.2.2.1, x.2.2.2.2.2.2)).2.1).2.2.2.2.1), .int (((rdGo pf 0 pn (x.1, 0, 0, 0, x.2.2.2.2.1, x.2.2.2.2.2.1, x.2.2.2.2.2.2)).2.1).2.2.2.2.2.1), .int (((rdGo pf 0 pn (x.1, 0, 0, 0, x.2.2.2.2.1, x.2.2.2.2.2.1, x.2.2.2.2.2.2)).2.1).2.2.2.2.2.2)])), (hPA, .inr (4, [.ref aS, .int (nI pn)])), (aS, .inl (cC, 40, .inl pf))] H := hP
    have hD : va_D A [(h, .inr (9, [.ref hPA, .ref hRD, .ref hRB, .ref hPE, .ref hHO, .ref hAG, .ref hLO, .ref hRQ, .ref hEX, .ref aFR])), (hRB, .inr (7, [.ref aN, .ref aB, .int (nI bn), .int tl, .int ab, .int mk, .int sh])), (aN, .inl (cI, 20, .inl nd)), (aB, .inl (cI, 20, .inl br)), (hRD, .inr (8, [.int ((rdGo pf 0 pn (x.1, 0, 0, 0, x.2.2.2.2.1, x.2.2.2.2.2.1, x.2.2.2.2.2.2)).1), .int (((rdGo pf 0 pn (x.1, 0, 0, 0, x.2.2.2.2.1, x.2.2.2.2.2.1, x.2.2.2.2.2.2)).2.1).1), .int (((rdGo pf 0 pn (x.1, 0, 0, 0, x.2.2.2.2.1, x.2.2.2.2.2.1, x.2.2.2.2.2.2)).2.1).2.1), .int (((rdGo pf 0 pn (x.1, 0, 0, 0, x.2.2.2.2.1, x.2.2.2.2.2.1, x.2.2.2.2.2.2)).2.1).2.2.1), .int (((rdGo pf 0 pn (x.1, 0, 0, 0, x.2.2.2.2.1, x.2.2.2.2.2.1, x.2.2.2.2.2.2)).2.1).2.2.2.1), .int (((rdGo pf 0 pn (x.1, 0, 0, 0, x.2.2.2.2.1, x.2.2.2.2.2.1, x.2.2.2.2.2.2)).2.1).2.2.2.2.1), .int (((rdGo pf 0 pn (x.1, 0, 0, 0, x.2.2.2.2.1, x.2.2.2.2.2.1, x.2.2.2.2.2.2)).2.1).2.2.2.2.2.1), .int (((rdGo pf 0 pn (x.1, 0, 0, 0, x.2.2.2.2.1, x.2.2.2.2.2.1, x.2.2.2.2.2.2)).2.1).2.2.2.2.2.2)])), (hPA, .inr (4, [.ref aS, .int (nI pn)])), (aS, .inl (cC, 40, .inl pf))] := hD
    refine lv_istore_n (lv' := [(1, .int r30), (0, .ref h)]) hx hb d_RR_rule_33 rfl hl (by decide) rfl (fun ls hl => ?_)
    refine lv_aload_n hx hb d_RR_rule_34 rfl (lv_at hl 1 rfl) ?_
    refine va_get (D := (dC, dI)) (ci := 9) (v := .ref hPA) (C := R_RR) (T := T_RR) (N := 10) hx hb hts iRR hown hK hP 0 rfl rfl 0 (by decide) (hts _ (wb_RR_rule _ b_224)) (fun _ h9 => h9) rfl d_RR_rule_35 ?_
    refine lv_iconst (v := 0) hx hb d_RR_rule_38 (by decide) ?_
    refine va_put (D := (dC, dI)) (ci := 4) (v := .int 0) (ty := .int) (C := R_PA) (T := T_PA) (N := 2) hx hb hts iPA ty_PA tyok_PA nm_PA hown hK hP hD hS 5 rfl rfl 1 (by decide) (hts _ (wb_RR_rule _ b_36)) (fun _ h9 => h9) rfl rfl rfl rfl (Nat.le_of_ble_eq_true rfl) d_RR_rule_39 (fun H locs hP hD hS => ?_)
    have hP : va_P (dC, dI) vwCl [(h, .inr (9, [.ref hPA, .ref hRD, .ref hRB, .ref hPE, .ref hHO, .ref hAG, .ref hLO, .ref hRQ, .ref hEX, .ref aFR])), (hRB, .inr (7, [.ref aN, .ref aB, .int (nI bn), .int tl, .int ab, .int mk, .int sh])), (aN, .inl (cI, 20, .inl nd)), (aB, .inl (cI, 20, .inl br)), (hRD, .inr (8, [.int ((rdGo pf 0 pn (x.1, 0, 0, 0, x.2.2.2.2.1, x.2.2.2.2.2.1, x.2.2.2.2.2.2)).1), .int (((rdGo pf 0 pn (x.1, 0, 0, 0, x.2.2.2.2.1, x.2.2.2.2.2.1, x.2.2.2.2.2.2)).2.1).1), .int (((rdGo pf 0 pn (x.1, 0, 0, 0, x.2.2.2.2.1, x.2.2.2.2.2.1, x.2.2.2.2.2.2)).2.1).2.1), .int (((rdGo pf 0 pn (x.1, 0, 0, 0, x.2.2.2.2.1, x.2.2.2.2.2.1, x.2.2.2.2.2.2)).2.1).2.2.1), .int (((rdGo pf 0 pn (x.1, 0, 0, 0, x.2.2.2.2.1, x.2.2.2.2.2.1, x.2.2.2.2.2.2)).2.1).2.2.2.1), .int (((rdGo pf 0 pn (x.1, 0, 0, 0, x.2.2.2.2.1, x.2.2.2.2.2.1, x.2.2.2.2.2.2)).2.1).2.2.2.2.1), .int (((rdGo pf 0 pn (x.1, 0, 0, 0, x.2.2.2.2.1, x.2.2.2.2.2.1, x.2.2.2.2.2.2)).2.1).2.2.2.2.2.1), .int (((rdGo pf 0 pn (x.1, 0, 0, 0, x.2.2.2.2.1, x.2.2.2.2.2.1, x.2.2.2.2.2.2)).2.1).2.2.2.2.2.2)])), (hPA, .inr (4, [.ref aS, .int 0])), (aS, .inl (cC, 40, .inl pf))] H := hP
    have hD : va_D A [(h, .inr (9, [.ref hPA, .ref hRD, .ref hRB, .ref hPE, .ref hHO, .ref hAG, .ref hLO, .ref hRQ, .ref hEX, .ref aFR])), (hRB, .inr (7, [.ref aN, .ref aB, .int (nI bn), .int tl, .int ab, .int mk, .int sh])), (aN, .inl (cI, 20, .inl nd)), (aB, .inl (cI, 20, .inl br)), (hRD, .inr (8, [.int ((rdGo pf 0 pn (x.1, 0, 0, 0, x.2.2.2.2.1, x.2.2.2.2.2.1, x.2.2.2.2.2.2)).1), .int (((rdGo pf 0 pn (x.1, 0, 0, 0, x.2.2.2.2.1, x.2.2.2.2.2.1, x.2.2.2.2.2.2)).2.1).1), .int (((rdGo pf 0 pn (x.1, 0, 0, 0, x.2.2.2.2.1, x.2.2.2.2.2.1, x.2.2.2.2.2.2)).2.1).2.1), .int (((rdGo pf 0 pn (x.1, 0, 0, 0, x.2.2.2.2.1, x.2.2.2.2.2.1, x.2.2.2.2.2.2)).2.1).2.2.1), .int (((rdGo pf 0 pn (x.1, 0, 0, 0, x.2.2.2.2.1, x.2.2.2.2.2.1, x.2.2.2.2.2.2)).2.1).2.2.2.1), .int (((rdGo pf 0 pn (x.1, 0, 0, 0, x.2.2.2.2.1, x.2.2.2.2.2.1, x.2.2.2.2.2.2)).2.1).2.2.2.2.1), .int (((rdGo pf 0 pn (x.1, 0, 0, 0, x.2.2.2.2.1, x.2.2.2.2.2.1, x.2.2.2.2.2.2)).2.1).2.2.2.2.2.1), .int (((rdGo pf 0 pn (x.1, 0, 0, 0, x.2.2.2.2.1, x.2.2.2.2.2.1, x.2.2.2.2.2.2)).2.1).2.2.2.2.2.2)])), (hPA, .inr (4, [.ref aS, .int 0])), (aS, .inl (cC, 40, .inl pf))] := hD
    refine lv_iload_n hx hb d_RR_rule_42 rfl (lv_at hl 0 rfl) ?_
    refine lv_if_ne (tgt := 56) hx hb d_RR_rule_43 (by decide) (fun c43 => ?_) (fun c43 => ?_)
    · refine lv_aload_n hx hb d_RR_rule_56 rfl (lv_at hl 1 rfl) ?_
      refine va_get (D := (dC, dI)) (ci := 9) (v := .ref hRB) (C := R_RR) (T := T_RR) (N := 10) hx hb hts iRR hown hK hP 0 rfl rfl 2 (by decide) (hts _ (wb_RR_rule _ b_226)) (fun _ h9 => h9) rfl d_RR_rule_57 ?_
      refine lv_aload_n hx hb d_RR_rule_60 rfl (lv_at hl 1 rfl) ?_
      refine va_get (D := (dC, dI)) (ci := 9) (v := .ref hRD) (C := R_RR) (T := T_RR) (N := 10) hx hb hts iRR hown hK hP 0 rfl rfl 1 (by decide) (hts _ (wb_RR_rule _ b_225)) (fun _ h9 => h9) rfl d_RR_rule_61 ?_
      refine va_get (D := (dC, dI)) (ci := 8) (v := .int (((rdGo pf 0 pn (x.1, 0, 0, 0, x.2.2.2.2.1, x.2.2.2.2.2.1, x.2.2.2.2.2.2)).2.1).1)) (C := R_RD) (T := T_RD) (N := 8) hx hb hts iRD hown hK hP 4 rfl rfl 1 (by decide) (hts _ (wb_RR_rule _ b_52)) (fun _ h9 => h9) rfl d_RR_rule_64 ?_
      refine lv_aload_n hx hb d_RR_rule_67 rfl (lv_at hl 1 rfl) ?_
      refine va_get (D := (dC, dI)) (ci := 9) (v := .ref hRD) (C := R_RR) (T := T_RR) (N := 10) hx hb hts iRR hown hK hP 0 rfl rfl 1 (by decide) (hts _ (wb_RR_rule _ b_225)) (fun _ h9 => h9) rfl d_RR_rule_68 ?_
      refine va_get (D := (dC, dI)) (ci := 8) (v := .int (((rdGo pf 0 pn (x.1, 0, 0, 0, x.2.2.2.2.1, x.2.2.2.2.2.1, x.2.2.2.2.2.2)).2.1).2.1)) (C := R_RD) (T := T_RD) (N := 8) hx hb hts iRD hown hK hP 4 rfl rfl 2 (by decide) (hts _ (wb_RR_rule _ b_55)) (fun _ h9 => h9) rfl d_RR_rule_71 ?_
      refine lv_aload_n hx hb d_RR_rule_74 rfl (lv_at hl 1 rfl) ?_
      refine va_get (D := (dC, dI)) (ci := 9) (v := .ref hRD) (C := R_RR) (T := T_RR) (N := 10) hx hb hts iRR hown hK hP 0 rfl rfl 1 (by decide) (hts _ (wb_RR_rule _ b_225)) (fun _ h9 => h9) rfl d_RR_rule_75 ?_
      refine va_get (D := (dC, dI)) (ci := 8) (v := .int (((rdGo pf 0 pn (x.1, 0, 0, 0, x.2.2.2.2.1, x.2.2.2.2.2.1, x.2.2.2.2.2.2)).2.1).2.2.1)) (C := R_RD) (T := T_RD) (N := 8) hx hb hts iRD hown hK hP 4 rfl rfl 3 (by decide) (hts _ (wb_RR_rule _ b_57)) (fun _ h9 => h9) rfl d_RR_rule_78 ?_
      have hPc := hP.sub (ws' := [(hRB, .inr (7, [.ref aN, .ref aB, .int (nI bn), .int tl, .int ab, .int mk, .int sh])), (aN, .inl (cI, 20, .inl nd)), (aB, .inl (cI, 20, .inl br))]) [1, 2, 3] rfl
      have hKc := hK.sub (tys' := [(cI, .int)]) [0] rfl
      have hDc := hD.sub (ws' := [(hRB, .inr (7, [.ref aN, .ref aB, .int (nI bn), .int tl, .int ab, .int mk, .int sh])), (aN, .inl (cI, 20, .inl nd)), (aB, .inl (cI, 20, .inl br))]) [1, 2, 3] (by decide) rfl
      have hFc := va_free (wc := [(hRB, .inr (7, [.ref aN, .ref aB, .int (nI bn), .int tl, .int ab, .int mk, .int sh])), (aN, .inl (cI, 20, .inl nd)), (aB, .inl (cI, 20, .inl br))]) hD hS hA [1, 2, 3] rfl
      refine va_calli (va_runV (As := [.int (((rdGo pf 0 pn (x.1, 0, 0, 0, x.2.2.2.2.1, x.2.2.2.2.2.1, x.2.2.2.2.2.2)).2.1).1), .int (((rdGo pf 0 pn (x.1, 0, 0, 0, x.2.2.2.2.1, x.2.2.2.2.2.1, x.2.2.2.2.2.2)).2.1).2.1), .int (((rdGo pf 0 pn (x.1, 0, 0, 0, x.2.2.2.2.1, x.2.2.2.2.2.1, x.2.2.2.2.2.2)).2.1).2.2.1)]) (rest := []) ⟨hx, hb, hml, hown, hts⟩ (c_RB_tell l dC dI H.size cI hRB aN aB nd br bn (by first | assumption | omega) tl ab mk sh (((rdGo pf 0 pn (x.1, 0, 0, 0, x.2.2.2.2.1, x.2.2.2.2.2.1, x.2.2.2.2.2.2)).2.1).1) (((rdGo pf 0 pn (x.1, 0, 0, 0, x.2.2.2.2.1, x.2.2.2.2.2.1, x.2.2.2.2.2.2)).2.1).2.1) (((rdGo pf 0 pn (x.1, 0, 0, 0, x.2.2.2.2.1, x.2.2.2.2.2.1, x.2.2.2.2.2.2)).2.1).2.2.1)) (cwV 3 hts (vz_gV wb_RR_rule b_374 b_375 b_376 b_4 wc_RB_tell) rfl rfl rfl (by decide +kernel) ⟨Nat.le_of_ble_eq_true rfl, Nat.le_of_ble_eq_true rfl⟩) (vz_preVw (A := A) hPc hKc hDc (ci := 7) (q0 := 0) rfl rfl) rfl rfl hl.1 rfl (lv_room (Nat.le_of_ble_eq_true rfl)) d_RR_rule_81 ⟨Nat.le_of_ble_eq_true rfl, Nat.le_of_ble_eq_true rfl⟩) hS (fun q _ h => hFc q h) hFc (fun r81 u9 t9 H1 locs ht hvm hr81 hB hzx9 hkx9 hS => ?_)
      try dsimp only at hr81
      obtain ⟨hP1, hK1, hD1⟩ := hB
      rw [ht] at hP1
      obtain ⟨hP, hD⟩ := va_join (wr := [(h, .inr (9, [.ref hPA, .ref hRD, .ref hRB, .ref hPE, .ref hHO, .ref hAG, .ref hLO, .ref hRQ, .ref hEX, .ref aFR])), (hRD, .inr (8, [.int ((rdGo pf 0 pn (x.1, 0, 0, 0, x.2.2.2.2.1, x.2.2.2.2.2.1, x.2.2.2.2.2.2)).1), .int (((rdGo pf 0 pn (x.1, 0, 0, 0, x.2.2.2.2.1, x.2.2.2.2.2.1, x.2.2.2.2.2.2)).2.1).1), .int (((rdGo pf 0 pn (x.1, 0, 0, 0, x.2.2.2.2.1, x.2.2.2.2.2.1, x.2.2.2.2.2.2)).2.1).2.1), .int (((rdGo pf 0 pn (x.1, 0, 0, 0, x.2.2.2.2.1, x.2.2.2.2.2.1, x.2.2.2.2.2.2)).2.1).2.2.1), .int (((rdGo pf 0 pn (x.1, 0, 0, 0, x.2.2.2.2.1, x.2.2.2.2.2.1, x.2.2.2.2.2.2)).2.1).2.2.2.1), .int (((rdGo pf 0 pn (x.1, 0, 0, 0, x.2.2.2.2.1, x.2.2.2.2.2.1, x.2.2.2.2.2.2)).2.1).2.2.2.2.1), .int (((rdGo pf 0 pn (x.1, 0, 0, 0, x.2.2.2.2.1, x.2.2.2.2.2.1, x.2.2.2.2.2.2)).2.1).2.2.2.2.2.1), .int (((rdGo pf 0 pn (x.1, 0, 0, 0, x.2.2.2.2.1, x.2.2.2.2.2.1, x.2.2.2.2.2.2)).2.1).2.2.2.2.2.2)])), (hPA, .inr (4, [.ref aS, .int 0])), (aS, .inl (cC, 40, .inl pf))]) (w1 := [(hRB, .inr (7, [.ref aN, .ref aB, .int (nI (bn + 1)), .int (tl ||| ((1 : Int32) <<< (nI bn &&& 31))), .int (if (((rdGo pf 0 pn (x.1, 0, 0, 0, x.2.2.2.2.1, x.2.2.2.2.2.1, x.2.2.2.2.2.2)).2.1).1) = 0 then ab ||| ((1 : Int32) <<< (nI bn &&& 31)) else ab), .int (if (((rdGo pf 0 pn (x.1, 0, 0, 0, x.2.2.2.2.1, x.2.2.2.2.2.1, x.2.2.2.2.2.2)).2.1).1) = 0 then mk else if (((rdGo pf 0 pn (x.1, 0, 0, 0, x.2.2.2.2.1, x.2.2.2.2.2.1, x.2.2.2.2.2.2)).2.1).1) = 1 then mk ||| ((1 : Int32) <<< (nI bn &&& 31)) else mk), .int (if (((rdGo pf 0 pn (x.1, 0, 0, 0, x.2.2.2.2.1, x.2.2.2.2.2.1, x.2.2.2.2.2.2)).2.1).1) = 0 then sh else if (((rdGo pf 0 pn (x.1, 0, 0, 0, x.2.2.2.2.1, x.2.2.2.2.2.1, x.2.2.2.2.2.2)).2.1).1) = 1 then sh else sh ||| ((1 : Int32) <<< (nI bn &&& 31)))])), (aN, .inl (cI, 20, .inl (upd nd bn (((rdGo pf 0 pn (x.1, 0, 0, 0, x.2.2.2.2.1, x.2.2.2.2.2.1, x.2.2.2.2.2.2)).2.1).2.1)))), (aB, .inl (cI, 20, .inl (upd br bn (((rdGo pf 0 pn (x.1, 0, 0, 0, x.2.2.2.2.1, x.2.2.2.2.2.1, x.2.2.2.2.2.2)).2.1).2.2.1))))]) hP hD [1, 2, 3] [0, 4, 5, 6] rfl rfl (by decide) (by decide) hkx9 hFc hP1 hD1
      generalize H1 = H at hP hS ⊢
      have hP : va_P (dC, dI) vwCl [(h, .inr (9, [.ref hPA, .ref hRD, .ref hRB, .ref hPE, .ref hHO, .ref hAG, .ref hLO, .ref hRQ, .ref hEX, .ref aFR])), (hRD, .inr (8, [.int ((rdGo pf 0 pn (x.1, 0, 0, 0, x.2.2.2.2.1, x.2.2.2.2.2.1, x.2.2.2.2.2.2)).1), .int (((rdGo pf 0 pn (x.1, 0, 0, 0, x.2.2.2.2.1, x.2.2.2.2.2.1, x.2.2.2.2.2.2)).2.1).1), .int (((rdGo pf 0 pn (x.1, 0, 0, 0, x.2.2.2.2.1, x.2.2.2.2.2.1, x.2.2.2.2.2.2)).2.1).2.1), .int (((rdGo pf 0 pn (x.1, 0, 0, 0, x.2.2.2.2.1, x.2.2.2.2.2.1, x.2.2.2.2.2.2)).2.1).2.2.1), .int (((rdGo pf 0 pn (x.1, 0, 0, 0, x.2.2.2.2.1, x.2.2.2.2.2.1, x.2.2.2.2.2.2)).2.1).2.2.2.1), .int (((rdGo pf 0 pn (x.1, 0, 0, 0, x.2.2.2.2.1, x.2.2.2.2.2.1, x.2.2.2.2.2.2)).2.1).2.2.2.2.1), .int (((rdGo pf 0 pn (x.1, 0, 0, 0, x.2.2.2.2.1, x.2.2.2.2.2.1, x.2.2.2.2.2.2)).2.1).2.2.2.2.2.1), .int (((rdGo pf 0 pn (x.1, 0, 0, 0, x.2.2.2.2.1, x.2.2.2.2.2.1, x.2.2.2.2.2.2)).2.1).2.2.2.2.2.2)])), (hPA, .inr (4, [.ref aS, .int 0])), (aS, .inl (cC, 40, .inl pf)), (hRB, .inr (7, [.ref aN, .ref aB, .int (nI (bn + 1)), .int (tl ||| ((1 : Int32) <<< (nI bn &&& 31))), .int (if (((rdGo pf 0 pn (x.1, 0, 0, 0, x.2.2.2.2.1, x.2.2.2.2.2.1, x.2.2.2.2.2.2)).2.1).1) = 0 then ab ||| ((1 : Int32) <<< (nI bn &&& 31)) else ab), .int (if (((rdGo pf 0 pn (x.1, 0, 0, 0, x.2.2.2.2.1, x.2.2.2.2.2.1, x.2.2.2.2.2.2)).2.1).1) = 0 then mk else if (((rdGo pf 0 pn (x.1, 0, 0, 0, x.2.2.2.2.1, x.2.2.2.2.2.1, x.2.2.2.2.2.2)).2.1).1) = 1 then mk ||| ((1 : Int32) <<< (nI bn &&& 31)) else mk), .int (if (((rdGo pf 0 pn (x.1, 0, 0, 0, x.2.2.2.2.1, x.2.2.2.2.2.1, x.2.2.2.2.2.2)).2.1).1) = 0 then sh else if (((rdGo pf 0 pn (x.1, 0, 0, 0, x.2.2.2.2.1, x.2.2.2.2.2.1, x.2.2.2.2.2.2)).2.1).1) = 1 then sh else sh ||| ((1 : Int32) <<< (nI bn &&& 31)))])), (aN, .inl (cI, 20, .inl (upd nd bn (((rdGo pf 0 pn (x.1, 0, 0, 0, x.2.2.2.2.1, x.2.2.2.2.2.1, x.2.2.2.2.2.2)).2.1).2.1)))), (aB, .inl (cI, 20, .inl (upd br bn (((rdGo pf 0 pn (x.1, 0, 0, 0, x.2.2.2.2.1, x.2.2.2.2.2.1, x.2.2.2.2.2.2)).2.1).2.2.1))))] H := hP
      have hD : va_D A [(h, .inr (9, [.ref hPA, .ref hRD, .ref hRB, .ref hPE, .ref hHO, .ref hAG, .ref hLO, .ref hRQ, .ref hEX, .ref aFR])), (hRD, .inr (8, [.int ((rdGo pf 0 pn (x.1, 0, 0, 0, x.2.2.2.2.1, x.2.2.2.2.2.1, x.2.2.2.2.2.2)).1), .int (((rdGo pf 0 pn (x.1, 0, 0, 0, x.2.2.2.2.1, x.2.2.2.2.2.1, x.2.2.2.2.2.2)).2.1).1), .int (((rdGo pf 0 pn (x.1, 0, 0, 0, x.2.2.2.2.1, x.2.2.2.2.2.1, x.2.2.2.2.2.2)).2.1).2.1), .int (((rdGo pf 0 pn (x.1, 0, 0, 0, x.2.2.2.2.1, x.2.2.2.2.2.1, x.2.2.2.2.2.2)).2.1).2.2.1), .int (((rdGo pf 0 pn (x.1, 0, 0, 0, x.2.2.2.2.1, x.2.2.2.2.2.1, x.2.2.2.2.2.2)).2.1).2.2.2.1), .int (((rdGo pf 0 pn (x.1, 0, 0, 0, x.2.2.2.2.1, x.2.2.2.2.2.1, x.2.2.2.2.2.2)).2.1).2.2.2.2.1), .int (((rdGo pf 0 pn (x.1, 0, 0, 0, x.2.2.2.2.1, x.2.2.2.2.2.1, x.2.2.2.2.2.2)).2.1).2.2.2.2.2.1), .int (((rdGo pf 0 pn (x.1, 0, 0, 0, x.2.2.2.2.1, x.2.2.2.2.2.1, x.2.2.2.2.2.2)).2.1).2.2.2.2.2.2)])), (hPA, .inr (4, [.ref aS, .int 0])), (aS, .inl (cC, 40, .inl pf)), (hRB, .inr (7, [.ref aN, .ref aB, .int (nI (bn + 1)), .int (tl ||| ((1 : Int32) <<< (nI bn &&& 31))), .int (if (((rdGo pf 0 pn (x.1, 0, 0, 0, x.2.2.2.2.1, x.2.2.2.2.2.1, x.2.2.2.2.2.2)).2.1).1) = 0 then ab ||| ((1 : Int32) <<< (nI bn &&& 31)) else ab), .int (if (((rdGo pf 0 pn (x.1, 0, 0, 0, x.2.2.2.2.1, x.2.2.2.2.2.1, x.2.2.2.2.2.2)).2.1).1) = 0 then mk else if (((rdGo pf 0 pn (x.1, 0, 0, 0, x.2.2.2.2.1, x.2.2.2.2.2.1, x.2.2.2.2.2.2)).2.1).1) = 1 then mk ||| ((1 : Int32) <<< (nI bn &&& 31)) else mk), .int (if (((rdGo pf 0 pn (x.1, 0, 0, 0, x.2.2.2.2.1, x.2.2.2.2.2.1, x.2.2.2.2.2.2)).2.1).1) = 0 then sh else if (((rdGo pf 0 pn (x.1, 0, 0, 0, x.2.2.2.2.1, x.2.2.2.2.2.1, x.2.2.2.2.2.2)).2.1).1) = 1 then sh else sh ||| ((1 : Int32) <<< (nI bn &&& 31)))])), (aN, .inl (cI, 20, .inl (upd nd bn (((rdGo pf 0 pn (x.1, 0, 0, 0, x.2.2.2.2.1, x.2.2.2.2.2.1, x.2.2.2.2.2.2)).2.1).2.1)))), (aB, .inl (cI, 20, .inl (upd br bn (((rdGo pf 0 pn (x.1, 0, 0, 0, x.2.2.2.2.1, x.2.2.2.2.2.1, x.2.2.2.2.2.2)).2.1).2.2.1))))] := hD
      have hP9 := hP.sub (ws' := [(h, .inr (9, [.ref hPA, .ref hRD, .ref hRB, .ref hPE, .ref hHO, .ref hAG, .ref hLO, .ref hRQ, .ref hEX, .ref aFR])), (hPA, .inr (4, [.ref aS, .int 0])), (aS, .inl (cC, 40, .inl pf)), (hRD, .inr (8, [.int ((rdGo pf 0 pn (x.1, 0, 0, 0, x.2.2.2.2.1, x.2.2.2.2.2.1, x.2.2.2.2.2.2)).1), .int (((rdGo pf 0 pn (x.1, 0, 0, 0, x.2.2.2.2.1, x.2.2.2.2.2.1, x.2.2.2.2.2.2)).2.1).1), .int (((rdGo pf 0 pn (x.1, 0, 0, 0, x.2.2.2.2.1, x.2.2.2.2.2.1, x.2.2.2.2.2.2)).2.1).2.1), .int (((rdGo pf 0 pn (x.1, 0, 0, 0, x.2.2.2.2.1, x.2.2.2.2.2.1, x.2.2.2.2.2.2)).2.1).2.2.1), .int (((rdGo pf 0 pn (x.1, 0, 0, 0, x.2.2.2.2.1, x.2.2.2.2.2.1, x.2.2.2.2.2.2)).2.1).2.2.2.1), .int (((rdGo pf 0 pn (x.1, 0, 0, 0, x.2.2.2.2.1, x.2.2.2.2.2.1, x.2.2.2.2.2.2)).2.1).2.2.2.2.1), .int (((rdGo pf 0 pn (x.1, 0, 0, 0, x.2.2.2.2.1, x.2.2.2.2.2.1, x.2.2.2.2.2.2)).2.1).2.2.2.2.2.1), .int (((rdGo pf 0 pn (x.1, 0, 0, 0, x.2.2.2.2.1, x.2.2.2.2.2.1, x.2.2.2.2.2.2)).2.1).2.2.2.2.2.2)])), (hRB, .inr (7, [.ref aN, .ref aB, .int (nI (bn + 1)), .int (tl ||| ((1 : Int32) <<< (nI bn &&& 31))), .int (if (((rdGo pf 0 pn (x.1, 0, 0, 0, x.2.2.2.2.1, x.2.2.2.2.2.1, x.2.2.2.2.2.2)).2.1).1) = 0 then ab ||| ((1 : Int32) <<< (nI bn &&& 31)) else ab), .int (if (((rdGo pf 0 pn (x.1, 0, 0, 0, x.2.2.2.2.1, x.2.2.2.2.2.1, x.2.2.2.2.2.2)).2.1).1) = 0 then mk else if (((rdGo pf 0 pn (x.1, 0, 0, 0, x.2.2.2.2.1, x.2.2.2.2.2.1, x.2.2.2.2.2.2)).2.1).1) = 1 then mk ||| ((1 : Int32) <<< (nI bn &&& 31)) else mk), .int (if (((rdGo pf 0 pn (x.1, 0, 0, 0, x.2.2.2.2.1, x.2.2.2.2.2.1, x.2.2.2.2.2.2)).2.1).1) = 0 then sh else if (((rdGo pf 0 pn (x.1, 0, 0, 0, x.2.2.2.2.1, x.2.2.2.2.2.1, x.2.2.2.2.2.2)).2.1).1) = 1 then sh else sh ||| ((1 : Int32) <<< (nI bn &&& 31)))])), (aN, .inl (cI, 20, .inl (upd nd bn (((rdGo pf 0 pn (x.1, 0, 0, 0, x.2.2.2.2.1, x.2.2.2.2.2.1, x.2.2.2.2.2.2)).2.1).2.1)))), (aB, .inl (cI, 20, .inl (upd br bn (((rdGo pf 0 pn (x.1, 0, 0, 0, x.2.2.2.2.1, x.2.2.2.2.2.1, x.2.2.2.2.2.2)).2.1).2.2.1))))]) [0, 2, 3, 1, 4, 5, 6] rfl
      have hD9 := hD.sub (ws' := [(h, .inr (9, [.ref hPA, .ref hRD, .ref hRB, .ref hPE, .ref hHO, .ref hAG, .ref hLO, .ref hRQ, .ref hEX, .ref aFR])), (hPA, .inr (4, [.ref aS, .int 0])), (aS, .inl (cC, 40, .inl pf)), (hRD, .inr (8, [.int ((rdGo pf 0 pn (x.1, 0, 0, 0, x.2.2.2.2.1, x.2.2.2.2.2.1, x.2.2.2.2.2.2)).1), .int (((rdGo pf 0 pn (x.1, 0, 0, 0, x.2.2.2.2.1, x.2.2.2.2.2.1, x.2.2.2.2.2.2)).2.1).1), .int (((rdGo pf 0 pn (x.1, 0, 0, 0, x.2.2.2.2.1, x.2.2.2.2.2.1, x.2.2.2.2.2.2)).2.1).2.1), .int (((rdGo pf 0 pn (x.1, 0, 0, 0, x.2.2.2.2.1, x.2.2.2.2.2.1, x.2.2.2.2.2.2)).2.1).2.2.1), .int (((rdGo pf 0 pn (x.1, 0, 0, 0, x.2.2.2.2.1, x.2.2.2.2.2.1, x.2.2.2.2.2.2)).2.1).2.2.2.1), .int (((rdGo pf 0 pn (x.1, 0, 0, 0, x.2.2.2.2.1, x.2.2.2.2.2.1, x.2.2.2.2.2.2)).2.1).2.2.2.2.1), .int (((rdGo pf 0 pn (x.1, 0, 0, 0, x.2.2.2.2.1, x.2.2.2.2.2.1, x.2.2.2.2.2.2)).2.1).2.2.2.2.2.1), .int (((rdGo pf 0 pn (x.1, 0, 0, 0, x.2.2.2.2.1, x.2.2.2.2.2.1, x.2.2.2.2.2.2)).2.1).2.2.2.2.2.2)])), (hRB, .inr (7, [.ref aN, .ref aB, .int (nI (bn + 1)), .int (tl ||| ((1 : Int32) <<< (nI bn &&& 31))), .int (if (((rdGo pf 0 pn (x.1, 0, 0, 0, x.2.2.2.2.1, x.2.2.2.2.2.1, x.2.2.2.2.2.2)).2.1).1) = 0 then ab ||| ((1 : Int32) <<< (nI bn &&& 31)) else ab), .int (if (((rdGo pf 0 pn (x.1, 0, 0, 0, x.2.2.2.2.1, x.2.2.2.2.2.1, x.2.2.2.2.2.2)).2.1).1) = 0 then mk else if (((rdGo pf 0 pn (x.1, 0, 0, 0, x.2.2.2.2.1, x.2.2.2.2.2.1, x.2.2.2.2.2.2)).2.1).1) = 1 then mk ||| ((1 : Int32) <<< (nI bn &&& 31)) else mk), .int (if (((rdGo pf 0 pn (x.1, 0, 0, 0, x.2.2.2.2.1, x.2.2.2.2.2.1, x.2.2.2.2.2.2)).2.1).1) = 0 then sh else if (((rdGo pf 0 pn (x.1, 0, 0, 0, x.2.2.2.2.1, x.2.2.2.2.2.1, x.2.2.2.2.2.2)).2.1).1) = 1 then sh else sh ||| ((1 : Int32) <<< (nI bn &&& 31)))])), (aN, .inl (cI, 20, .inl (upd nd bn (((rdGo pf 0 pn (x.1, 0, 0, 0, x.2.2.2.2.1, x.2.2.2.2.2.1, x.2.2.2.2.2.2)).2.1).2.1)))), (aB, .inl (cI, 20, .inl (upd br bn (((rdGo pf 0 pn (x.1, 0, 0, 0, x.2.2.2.2.1, x.2.2.2.2.2.1, x.2.2.2.2.2.2)).2.1).2.2.1))))]) [0, 2, 3, 1, 4, 5, 6] (by decide) rfl
      exact W.iret (v := r81) hx hb hr (fun t ht hW => ⟨⟨r81, (), rfl, hr81, by rw [ht]; exact hP9, va_K.moved hW.alike hK, hD9⟩, hS.F ht⟩) hS.2.2 d_RR_rule_84
    · exact absurd (hr30.symm.trans c43) hok
  · exact absurd ((nI_ltI (show bn < 2147483648 by omega) (show 20 < 2147483648 by omega)).mpr hbn) c9

set_option maxHeartbeats 4000000 in
set_option maxRecDepth 100000 in
/-- RecordRights.drop, where there is the rule -/
theorem c_RR_drop (l : Launch) (dC : Nat → ClassId) (dI : Nat → Nat → Nat) (sz : Nat) (h hPA hRD hRB hPE hHO hAG hLO hRQ hEX aFR : Nat) (cI : ClassId) (aN aB : Nat) (nd br : Nat → Int32) (bn : Nat) (tl ab mk sh : Int32) (hbn : bn ≤ 20) (j : Nat) (hj : j < bn) : Met l y_RR_drop ws_RR_drop ({ frames := 1, cells := 0, slots := 0, locals := 23 }) (va_Pc [.ref h, .int (nI j)] (fun U => U.heap.size = sz ∧ va_P (dC, dI) vwCl [(h, .inr (9, [.ref hPA, .ref hRD, .ref hRB, .ref hPE, .ref hHO, .ref hAG, .ref hLO, .ref hRQ, .ref hEX, .ref aFR])), (hRB, .inr (7, [.ref aN, .ref aB, .int (nI bn), .int tl, .int ab, .int mk, .int sh])), (aN, .inl (cI, 20, .inl nd)), (aB, .inl (cI, 20, .inl br))] U.heap ∧ va_K (dC, dI) vwCl [(cI, .int)] U ∧ va_D (fun _ => True) [(h, .inr (9, [.ref hPA, .ref hRD, .ref hRB, .ref hPE, .ref hHO, .ref hAG, .ref hLO, .ref hRQ, .ref hEX, .ref aFR])), (hRB, .inr (7, [.ref aN, .ref aB, .int (nI bn), .int tl, .int ab, .int mk, .int sh])), (aN, .inl (cI, 20, .inl nd)), (aB, .inl (cI, 20, .inl br))])) (va_Qi (fun (res : Int32) (_ : Unit) => res = if tl &&& ((1 : Int32) <<< (nI j &&& 31)) = 0 then 0 else 1) (fun _ t => va_P (dC, dI) vwCl [(h, .inr (9, [.ref hPA, .ref hRD, .ref hRB, .ref hPE, .ref hHO, .ref hAG, .ref hLO, .ref hRQ, .ref hEX, .ref aFR])), (hRB, .inr (7, [.ref aN, .ref aB, .int (nI bn), .int (tl &&& (((1 : Int32) <<< (nI j &&& 31)) ^^^ (-1))), .int ab, .int mk, .int sh])), (aN, .inl (cI, 20, .inl nd)), (aB, .inl (cI, 20, .inl br))] t.heap ∧ va_K (dC, dI) vwCl [(cI, .int)] t ∧ va_D (va_A [(h, .inr (9, [.ref hPA, .ref hRD, .ref hRB, .ref hPE, .ref hHO, .ref hAG, .ref hLO, .ref hRQ, .ref hEX, .ref aFR])), (hRB, .inr (7, [.ref aN, .ref aB, .int (nI bn), .int tl, .int ab, .int mk, .int sh])), (aN, .inl (cI, 20, .inl nd)), (aB, .inl (cI, 20, .inl br))] sz) [(h, .inr (9, [.ref hPA, .ref hRD, .ref hRB, .ref hPE, .ref hHO, .ref hAG, .ref hLO, .ref hRQ, .ref hEX, .ref aFR])), (hRB, .inr (7, [.ref aN, .ref aB, .int (nI bn), .int (tl &&& (((1 : Int32) <<< (nI j &&& 31)) ^^^ (-1))), .int ab, .int mk, .int sh])), (aN, .inl (cI, 20, .inl nd)), (aB, .inl (cI, 20, .inl br))]) (va_A [(h, .inr (9, [.ref hPA, .ref hRD, .ref hRB, .ref hPE, .ref hHO, .ref hAG, .ref hLO, .ref hRQ, .ref hEX, .ref aFR])), (hRB, .inr (7, [.ref aN, .ref aB, .int (nI bn), .int tl, .int ab, .int mk, .int sh])), (aN, .inl (cI, 20, .inl nd)), (aB, .inl (cI, 20, .inl br))] sz)) 0 0 (va_A [(h, .inr (9, [.ref hPA, .ref hRD, .ref hRB, .ref hPE, .ref hHO, .ref hAG, .ref hLO, .ref hRQ, .ref hEX, .ref aFR])), (hRB, .inr (7, [.ref aN, .ref aB, .int (nI bn), .int tl, .int ab, .int mk, .int sh])), (aN, .inl (cI, 20, .inl nd)), (aB, .inl (cI, 20, .inl br))] sz) := by
  refine Met.ofW (cc := k_RR_drop) (maxL := 2) (ret := (some .boolean)) (by decide) rfl ?_
  intro p e s m args below meth c s₁ B hml hv
  obtain ⟨rfl, hsz, hP, hK, hD0⟩ := hv
  have hx := B.exec
  have hb := B.bytes
  have hr := B.returns
  have hts := atoms_spec (ws := ws_RR_drop) B.pre
  have hown : s.vm.findClass R_RR = some m.cls := findClass_of_methodNamed B.named
  have hlocks := B.notSynchronized
  subst hsz
  have hD := hD0.self (sz := s.heap.size)
  generalize hAe : va_A [(h, .inr (9, [.ref hPA, .ref hRD, .ref hRB, .ref hPE, .ref hHO, .ref hAG, .ref hLO, .ref hRQ, .ref hEX, .ref aFR])), (hRB, .inr (7, [.ref aN, .ref aB, .int (nI bn), .int tl, .int ab, .int mk, .int sh])), (aN, .inl (cI, 20, .inl nd)), (aB, .inl (cI, 20, .inl br))] s.heap.size = A at hD ⊢
  have hA : ∀ q : Nat, s.heap.size ≤ q → A q := fun q h => by rw [← hAe]; exact Or.inr h
  have hS : va_S A s.heap s.heap [] := va_S.rf
  have hP : va_P (dC, dI) vwCl [(h, .inr (9, [.ref hPA, .ref hRD, .ref hRB, .ref hPE, .ref hHO, .ref hAG, .ref hLO, .ref hRQ, .ref hEX, .ref aFR])), (hRB, .inr (7, [.ref aN, .ref aB, .int (nI bn), .int tl, .int ab, .int mk, .int sh])), (aN, .inl (cI, 20, .inl nd)), (aB, .inl (cI, 20, .inl br))] s.heap := hP
  have iRB : ∀ w ∈ u_ws R_RB T_RB 7, w ∈ ws_RR_drop := fun w h => wb_RR_drop w (in_RB w h)
  have iRR : ∀ w ∈ u_ws R_RR T_RR 10, w ∈ ws_RR_drop := fun w h => wb_RR_drop w (in_RR w h)
  have hl := lv_entry ([.ref h, .int (nI j)]) (n := 2) (Nat.le_of_ble_eq_true rfl)
  rw [lg_entry_eq]
  generalize (lg_sl ([.ref h, .int (nI j)]) ++ List.replicate (2 - (lg_sl ([.ref h, .int (nI j)])).length) Slot.unset).toArray = ls at hl ⊢
  have hl : lv_has ls 2 [(0, .ref h), (1, .int (nI j))] := hl
  refine lv_iload_n hx hb d_RR_drop_0 rfl (lv_at hl 1 rfl) ?_
  refine lv_if_lt (tgt := 15) hx hb d_RR_drop_1 (by decide) (fun c1 => ?_) (fun c1 => ?_)
  · exact absurd c1 (nI_pos (by omega))
  · refine lv_iload_n hx hb d_RR_drop_4 rfl (lv_at hl 1 rfl) ?_
    refine lv_aload_n hx hb d_RR_drop_5 rfl (lv_at hl 0 rfl) ?_
    refine va_get (D := (dC, dI)) (ci := 9) (v := .ref hRB) (C := R_RR) (T := T_RR) (N := 10) hx hb hts iRR hown hK hP 0 rfl rfl 2 (by decide) (hts _ (wb_RR_drop _ b_226)) (fun _ h9 => h9) rfl d_RR_drop_6 ?_
    refine va_get (D := (dC, dI)) (ci := 7) (v := .int (nI bn)) (C := R_RB) (T := T_RB) (N := 7) hx hb hts iRB hown hK hP 1 rfl rfl 2 (by decide) (hts _ (wb_RR_drop _ b_88)) (fun _ h9 => h9) rfl d_RR_drop_9 ?_
    refine lv_icmp_lt (tgt := 25) hx hb d_RR_drop_12 (by decide) (fun c12 => ?_) (fun c12 => ?_)
    · refine lv_aload_n hx hb d_RR_drop_25 rfl (lv_at hl 0 rfl) ?_
      refine va_get (D := (dC, dI)) (ci := 9) (v := .ref hRB) (C := R_RR) (T := T_RR) (N := 10) hx hb hts iRR hown hK hP 0 rfl rfl 2 (by decide) (hts _ (wb_RR_drop _ b_226)) (fun _ h9 => h9) rfl d_RR_drop_26 ?_
      refine lv_iload_n hx hb d_RR_drop_29 rfl (lv_at hl 1 rfl) ?_
      have hPc := hP.sub (ws' := [(hRB, .inr (7, [.ref aN, .ref aB, .int (nI bn), .int tl, .int ab, .int mk, .int sh])), (aN, .inl (cI, 20, .inl nd)), (aB, .inl (cI, 20, .inl br))]) [1, 2, 3] rfl
      have hKc := hK.sub (tys' := [(cI, .int)]) [0] rfl
      have hDc := hD.sub (ws' := [(hRB, .inr (7, [.ref aN, .ref aB, .int (nI bn), .int tl, .int ab, .int mk, .int sh])), (aN, .inl (cI, 20, .inl nd)), (aB, .inl (cI, 20, .inl br))]) [1, 2, 3] (by decide) rfl
      have hFc := va_free (wc := [(hRB, .inr (7, [.ref aN, .ref aB, .int (nI bn), .int tl, .int ab, .int mk, .int sh])), (aN, .inl (cI, 20, .inl nd)), (aB, .inl (cI, 20, .inl br))]) hD hS hA [1, 2, 3] rfl
      refine va_calli (va_runV (As := [.int (nI j)]) (rest := []) ⟨hx, hb, hml, hown, hts⟩ (c_RB_untell l dC dI s.heap.size cI hRB aN aB nd br bn (by first | assumption | omega) tl ab mk sh j) (cwV 1 hts (vz_gV wb_RR_drop b_402 b_403 b_404 b_4 wc_RB_untell) rfl rfl rfl (by decide +kernel) ⟨Nat.le_of_ble_eq_true rfl, Nat.le_of_ble_eq_true rfl⟩) (vz_preVw (A := A) hPc hKc hDc (ci := 7) (q0 := 0) rfl rfl) rfl rfl hl.1 rfl (lv_room (Nat.le_of_ble_eq_true rfl)) d_RR_drop_30 ⟨Nat.le_of_ble_eq_true rfl, Nat.le_of_ble_eq_true rfl⟩) hS (fun q _ h => hFc q h) hFc (fun r30 u9 t9 H1 locs ht hvm hr30 hB hzx9 hkx9 hS => ?_)
      try dsimp only at hr30
      obtain ⟨hP1, hK1, hD1⟩ := hB
      rw [ht] at hP1
      obtain ⟨hP, hD⟩ := va_join (wr := [(h, .inr (9, [.ref hPA, .ref hRD, .ref hRB, .ref hPE, .ref hHO, .ref hAG, .ref hLO, .ref hRQ, .ref hEX, .ref aFR]))]) (w1 := [(hRB, .inr (7, [.ref aN, .ref aB, .int (nI bn), .int (tl &&& (((1 : Int32) <<< (nI j &&& 31)) ^^^ (-1))), .int ab, .int mk, .int sh])), (aN, .inl (cI, 20, .inl nd)), (aB, .inl (cI, 20, .inl br))]) hP hD [1, 2, 3] [0] rfl rfl (by decide) (by decide) hkx9 hFc hP1 hD1
      generalize H1 = H at hP hS ⊢
      have hP : va_P (dC, dI) vwCl [(h, .inr (9, [.ref hPA, .ref hRD, .ref hRB, .ref hPE, .ref hHO, .ref hAG, .ref hLO, .ref hRQ, .ref hEX, .ref aFR])), (hRB, .inr (7, [.ref aN, .ref aB, .int (nI bn), .int (tl &&& (((1 : Int32) <<< (nI j &&& 31)) ^^^ (-1))), .int ab, .int mk, .int sh])), (aN, .inl (cI, 20, .inl nd)), (aB, .inl (cI, 20, .inl br))] H := hP
      have hD : va_D A [(h, .inr (9, [.ref hPA, .ref hRD, .ref hRB, .ref hPE, .ref hHO, .ref hAG, .ref hLO, .ref hRQ, .ref hEX, .ref aFR])), (hRB, .inr (7, [.ref aN, .ref aB, .int (nI bn), .int (tl &&& (((1 : Int32) <<< (nI j &&& 31)) ^^^ (-1))), .int ab, .int mk, .int sh])), (aN, .inl (cI, 20, .inl nd)), (aB, .inl (cI, 20, .inl br))] := hD
      have hP9 := hP.sub (ws' := [(h, .inr (9, [.ref hPA, .ref hRD, .ref hRB, .ref hPE, .ref hHO, .ref hAG, .ref hLO, .ref hRQ, .ref hEX, .ref aFR])), (hRB, .inr (7, [.ref aN, .ref aB, .int (nI bn), .int (tl &&& (((1 : Int32) <<< (nI j &&& 31)) ^^^ (-1))), .int ab, .int mk, .int sh])), (aN, .inl (cI, 20, .inl nd)), (aB, .inl (cI, 20, .inl br))]) [0, 1, 2, 3] rfl
      have hD9 := hD.sub (ws' := [(h, .inr (9, [.ref hPA, .ref hRD, .ref hRB, .ref hPE, .ref hHO, .ref hAG, .ref hLO, .ref hRQ, .ref hEX, .ref aFR])), (hRB, .inr (7, [.ref aN, .ref aB, .int (nI bn), .int (tl &&& (((1 : Int32) <<< (nI j &&& 31)) ^^^ (-1))), .int ab, .int mk, .int sh])), (aN, .inl (cI, 20, .inl nd)), (aB, .inl (cI, 20, .inl br))]) [0, 1, 2, 3] (by decide) rfl
      exact W.zret (v := r30) hx hb hr (by rw [hr30]; split <;> rfl) (fun t ht hW => ⟨⟨r30, (), rfl, hr30, by rw [ht]; exact hP9, va_K.moved hW.alike hK, hD9⟩, hS.F ht⟩) hS.2.2 d_RR_drop_33
    · exact absurd ((nI_ltI (by omega) (by omega)).mpr hj) c12

set_option maxHeartbeats 4000000 in
set_option maxRecDepth 100000 in
/-- RecordRights.person, where it is one -/
theorem c_RR_person (l : Launch) (dC : Nat → ClassId) (dI : Nat → Nat → Nat) (sz : Nat) (h hPA hRD hRB hPE hHO hAG hLO hRQ hEX aFR : Nat) (cI : ClassId) (aRo aLi : Nat) (ro li : Nat → Int32) (en : Nat) (hen : en < 12) (z : Int32) (hz0 : ¬ z < 0) (hz1 : z < 256) : Met l y_RR_person ws_RR_person ({ frames := 1, cells := 0, slots := 0, locals := 21 }) (va_Pc [.ref h, .int z] (fun U => U.heap.size = sz ∧ va_P (dC, dI) vwCl [(h, .inr (9, [.ref hPA, .ref hRD, .ref hRB, .ref hPE, .ref hHO, .ref hAG, .ref hLO, .ref hRQ, .ref hEX, .ref aFR])), (hPE, .inr (5, [.ref aRo, .ref aLi, .int (nI en)])), (aRo, .inl (cI, 12, .inl ro)), (aLi, .inl (cI, 12, .inl li))] U.heap ∧ va_K (dC, dI) vwCl [(cI, .int)] U ∧ va_D (fun _ => True) [(h, .inr (9, [.ref hPA, .ref hRD, .ref hRB, .ref hPE, .ref hHO, .ref hAG, .ref hLO, .ref hRQ, .ref hEX, .ref aFR])), (hPE, .inr (5, [.ref aRo, .ref aLi, .int (nI en)])), (aRo, .inl (cI, 12, .inl ro)), (aLi, .inl (cI, 12, .inl li))])) (va_Qi (fun (res : Int32) (_ : Unit) => res = nI en) (fun _ t => va_P (dC, dI) vwCl [(h, .inr (9, [.ref hPA, .ref hRD, .ref hRB, .ref hPE, .ref hHO, .ref hAG, .ref hLO, .ref hRQ, .ref hEX, .ref aFR])), (hPE, .inr (5, [.ref aRo, .ref aLi, .int (nI (en + 1))])), (aRo, .inl (cI, 12, .inl (upd ro en z))), (aLi, .inl (cI, 12, .inl (upd li en 3)))] t.heap ∧ va_K (dC, dI) vwCl [(cI, .int)] t ∧ va_D (va_A [(h, .inr (9, [.ref hPA, .ref hRD, .ref hRB, .ref hPE, .ref hHO, .ref hAG, .ref hLO, .ref hRQ, .ref hEX, .ref aFR])), (hPE, .inr (5, [.ref aRo, .ref aLi, .int (nI en)])), (aRo, .inl (cI, 12, .inl ro)), (aLi, .inl (cI, 12, .inl li))] sz) [(h, .inr (9, [.ref hPA, .ref hRD, .ref hRB, .ref hPE, .ref hHO, .ref hAG, .ref hLO, .ref hRQ, .ref hEX, .ref aFR])), (hPE, .inr (5, [.ref aRo, .ref aLi, .int (nI (en + 1))])), (aRo, .inl (cI, 12, .inl (upd ro en z))), (aLi, .inl (cI, 12, .inl (upd li en 3)))]) (va_A [(h, .inr (9, [.ref hPA, .ref hRD, .ref hRB, .ref hPE, .ref hHO, .ref hAG, .ref hLO, .ref hRQ, .ref hEX, .ref aFR])), (hPE, .inr (5, [.ref aRo, .ref aLi, .int (nI en)])), (aRo, .inl (cI, 12, .inl ro)), (aLi, .inl (cI, 12, .inl li))] sz)) 0 0 (va_A [(h, .inr (9, [.ref hPA, .ref hRD, .ref hRB, .ref hPE, .ref hHO, .ref hAG, .ref hLO, .ref hRQ, .ref hEX, .ref aFR])), (hPE, .inr (5, [.ref aRo, .ref aLi, .int (nI en)])), (aRo, .inl (cI, 12, .inl ro)), (aLi, .inl (cI, 12, .inl li))] sz) := by
  refine Met.ofW (cc := k_RR_person) (maxL := 2) (ret := (some .int)) (by decide) rfl ?_
  intro p e s m args below meth c s₁ B hml hv
  obtain ⟨rfl, hsz, hP, hK, hD0⟩ := hv
  have hx := B.exec
  have hb := B.bytes
  have hr := B.returns
  have hts := atoms_spec (ws := ws_RR_person) B.pre
  have hown : s.vm.findClass R_RR = some m.cls := findClass_of_methodNamed B.named
  have hlocks := B.notSynchronized
  subst hsz
  have hD := hD0.self (sz := s.heap.size)
  generalize hAe : va_A [(h, .inr (9, [.ref hPA, .ref hRD, .ref hRB, .ref hPE, .ref hHO, .ref hAG, .ref hLO, .ref hRQ, .ref hEX, .ref aFR])), (hPE, .inr (5, [.ref aRo, .ref aLi, .int (nI en)])), (aRo, .inl (cI, 12, .inl ro)), (aLi, .inl (cI, 12, .inl li))] s.heap.size = A at hD ⊢
  have hA : ∀ q : Nat, s.heap.size ≤ q → A q := fun q h => by rw [← hAe]; exact Or.inr h
  have hS : va_S A s.heap s.heap [] := va_S.rf
  have hP : va_P (dC, dI) vwCl [(h, .inr (9, [.ref hPA, .ref hRD, .ref hRB, .ref hPE, .ref hHO, .ref hAG, .ref hLO, .ref hRQ, .ref hEX, .ref aFR])), (hPE, .inr (5, [.ref aRo, .ref aLi, .int (nI en)])), (aRo, .inl (cI, 12, .inl ro)), (aLi, .inl (cI, 12, .inl li))] s.heap := hP
  have iPE : ∀ w ∈ u_ws R_PE T_PE 3, w ∈ ws_RR_person := fun w h => wb_RR_person w (in_PE w h)
  have iRR : ∀ w ∈ u_ws R_RR T_RR 10, w ∈ ws_RR_person := fun w h => wb_RR_person w (in_RR w h)
  have hl := lv_entry ([.ref h, .int z]) (n := 2) (Nat.le_of_ble_eq_true rfl)
  rw [lg_entry_eq]
  generalize (lg_sl ([.ref h, .int z]) ++ List.replicate (2 - (lg_sl ([.ref h, .int z])).length) Slot.unset).toArray = ls at hl ⊢
  have hl : lv_has ls 2 [(0, .ref h), (1, .int z)] := hl
  refine lv_iload_n hx hb d_RR_person_0 rfl (lv_at hl 1 rfl) ?_
  refine lv_if_lt (tgt := 11) hx hb d_RR_person_1 (by decide) (fun c1 => ?_) (fun c1 => ?_)
  · exact absurd c1 hz0
  · refine lv_iload_n hx hb d_RR_person_4 rfl (lv_at hl 1 rfl) ?_
    refine lv_sipush (v := 256) hx hb d_RR_person_5 (by decide) ?_
    refine lv_icmp_lt (tgt := 21) hx hb d_RR_person_8 (by decide) (fun c8 => ?_) (fun c8 => ?_)
    · refine lv_aload_n hx hb d_RR_person_21 rfl (lv_at hl 0 rfl) ?_
      refine va_get (D := (dC, dI)) (ci := 9) (v := .ref hPE) (C := R_RR) (T := T_RR) (N := 10) hx hb hts iRR hown hK hP 0 rfl rfl 3 (by decide) (hts _ (wb_RR_person _ b_227)) (fun _ h9 => h9) rfl d_RR_person_22 ?_
      refine va_get (D := (dC, dI)) (ci := 5) (v := .int (nI en)) (C := R_PE) (T := T_PE) (N := 3) hx hb hts iPE hown hK hP 1 rfl rfl 2 (by decide) (hts _ (wb_RR_person _ b_121)) (fun _ h9 => h9) rfl d_RR_person_25 ?_
      refine lv_bipush (v := 12) hx hb d_RR_person_28 (by decide) ?_
      refine lv_icmp_lt (tgt := 43) hx hb d_RR_person_30 (by decide) (fun c30 => ?_) (fun c30 => ?_)
      · refine lv_aload_n hx hb d_RR_person_43 rfl (lv_at hl 0 rfl) ?_
        refine va_get (D := (dC, dI)) (ci := 9) (v := .ref hPE) (C := R_RR) (T := T_RR) (N := 10) hx hb hts iRR hown hK hP 0 rfl rfl 3 (by decide) (hts _ (wb_RR_person _ b_227)) (fun _ h9 => h9) rfl d_RR_person_44 ?_
        refine lv_iload_n hx hb d_RR_person_47 rfl (lv_at hl 1 rfl) ?_
        have hPc := hP.sub (ws' := [(hPE, .inr (5, [.ref aRo, .ref aLi, .int (nI en)])), (aRo, .inl (cI, 12, .inl ro)), (aLi, .inl (cI, 12, .inl li))]) [1, 2, 3] rfl
        have hKc := hK.sub (tys' := [(cI, .int)]) [0] rfl
        have hDc := hD.sub (ws' := [(hPE, .inr (5, [.ref aRo, .ref aLi, .int (nI en)])), (aRo, .inl (cI, 12, .inl ro)), (aLi, .inl (cI, 12, .inl li))]) [1, 2, 3] (by decide) rfl
        have hFc := va_free (wc := [(hPE, .inr (5, [.ref aRo, .ref aLi, .int (nI en)])), (aRo, .inl (cI, 12, .inl ro)), (aLi, .inl (cI, 12, .inl li))]) hD hS hA [1, 2, 3] rfl
        refine va_calli (va_runV (As := [.int z]) (rest := []) ⟨hx, hb, hml, hown, hts⟩ (c_PE_add l dC dI s.heap.size cI hPE aRo aLi ro li en (by first | assumption | omega) z) (cwV 1 hts (vz_gV wb_RR_person b_431 b_432 b_433 b_5 wc_PE_add) rfl rfl rfl (by decide +kernel) ⟨Nat.le_of_ble_eq_true rfl, Nat.le_of_ble_eq_true rfl⟩) (vz_preVw (A := A) hPc hKc hDc (ci := 5) (q0 := 0) rfl rfl) rfl rfl hl.1 rfl (lv_room (Nat.le_of_ble_eq_true rfl)) d_RR_person_48 ⟨Nat.le_of_ble_eq_true rfl, Nat.le_of_ble_eq_true rfl⟩) hS (fun q _ h => hFc q h) hFc (fun r48 u9 t9 H1 locs ht hvm hr48 hB hzx9 hkx9 hS => ?_)
        try dsimp only at hr48
        obtain ⟨hP1, hK1, hD1⟩ := hB
        rw [ht] at hP1
        obtain ⟨hP, hD⟩ := va_join (wr := [(h, .inr (9, [.ref hPA, .ref hRD, .ref hRB, .ref hPE, .ref hHO, .ref hAG, .ref hLO, .ref hRQ, .ref hEX, .ref aFR]))]) (w1 := [(hPE, .inr (5, [.ref aRo, .ref aLi, .int (nI (en + 1))])), (aRo, .inl (cI, 12, .inl (upd ro en z))), (aLi, .inl (cI, 12, .inl (upd li en 3)))]) hP hD [1, 2, 3] [0] rfl rfl (by decide) (by decide) hkx9 hFc hP1 hD1
        generalize H1 = H at hP hS ⊢
        have hP : va_P (dC, dI) vwCl [(h, .inr (9, [.ref hPA, .ref hRD, .ref hRB, .ref hPE, .ref hHO, .ref hAG, .ref hLO, .ref hRQ, .ref hEX, .ref aFR])), (hPE, .inr (5, [.ref aRo, .ref aLi, .int (nI (en + 1))])), (aRo, .inl (cI, 12, .inl (upd ro en z))), (aLi, .inl (cI, 12, .inl (upd li en 3)))] H := hP
        have hD : va_D A [(h, .inr (9, [.ref hPA, .ref hRD, .ref hRB, .ref hPE, .ref hHO, .ref hAG, .ref hLO, .ref hRQ, .ref hEX, .ref aFR])), (hPE, .inr (5, [.ref aRo, .ref aLi, .int (nI (en + 1))])), (aRo, .inl (cI, 12, .inl (upd ro en z))), (aLi, .inl (cI, 12, .inl (upd li en 3)))] := hD
        have hP9 := hP.sub (ws' := [(h, .inr (9, [.ref hPA, .ref hRD, .ref hRB, .ref hPE, .ref hHO, .ref hAG, .ref hLO, .ref hRQ, .ref hEX, .ref aFR])), (hPE, .inr (5, [.ref aRo, .ref aLi, .int (nI (en + 1))])), (aRo, .inl (cI, 12, .inl (upd ro en z))), (aLi, .inl (cI, 12, .inl (upd li en 3)))]) [0, 1, 2, 3] rfl
        have hD9 := hD.sub (ws' := [(h, .inr (9, [.ref hPA, .ref hRD, .ref hRB, .ref hPE, .ref hHO, .ref hAG, .ref hLO, .ref hRQ, .ref hEX, .ref aFR])), (hPE, .inr (5, [.ref aRo, .ref aLi, .int (nI (en + 1))])), (aRo, .inl (cI, 12, .inl (upd ro en z))), (aLi, .inl (cI, 12, .inl (upd li en 3)))]) [0, 1, 2, 3] (by decide) rfl
        exact W.iret (v := r48) hx hb hr (fun t ht hW => ⟨⟨r48, (), rfl, hr48, by rw [ht]; exact hP9, va_K.moved hW.alike hK, hD9⟩, hS.F ht⟩) hS.2.2 d_RR_person_51
      · exact absurd ((nI_ltI (show en < 2147483648 by omega) (show 12 < 2147483648 by omega)).mpr hen) c30
    · exact absurd hz1 c8

/-- a record's facts -/
def recF (k c : Int32) : Int32 := ((1 : Int32) <<< ((8 + k) &&& 31)) ||| (if c = -1 then 0 else (1 : Int32) <<< ((22 + c) &&& 31))

set_option maxHeartbeats 4000000 in
set_option maxRecDepth 100000 in
/-- RecordRights.record, where it is one -/
theorem c_RR_record (l : Launch) (dC : Nat → ClassId) (dI : Nat → Nat → Nat) (sz : Nat) (h hPA hRD hRB hPE hHO hAG hLO hRQ hEX aFR : Nat) (cI cL : ClassId) (aFa aEm aVa : Nat) (fa em : Nat → Int32) (va : Nat → Int64) (hn : Nat) (hhn : hn < 16) (k z : Int32) (hk0 : ¬ k < 0) (hk1 : k < 4) (hz0 : ¬ z < -1) (hz1 : z < 8) : Met l y_RR_record ws_RR_record ({ frames := 1, cells := 0, slots := 0, locals := 21 }) (va_Pc [.ref h, .int k, .int z] (fun U => U.heap.size = sz ∧ va_P (dC, dI) vwCl [(h, .inr (9, [.ref hPA, .ref hRD, .ref hRB, .ref hPE, .ref hHO, .ref hAG, .ref hLO, .ref hRQ, .ref hEX, .ref aFR])), (hHO, .inr (2, [.ref aFa, .ref aEm, .ref aVa, .int (nI hn)])), (aFa, .inl (cI, 16, .inl fa)), (aEm, .inl (cI, 16, .inl em)), (aVa, .inl (cL, 96, .inr (.inl va)))] U.heap ∧ va_K (dC, dI) vwCl [(cI, .int), (cL, .long)] U ∧ va_D (fun _ => True) [(h, .inr (9, [.ref hPA, .ref hRD, .ref hRB, .ref hPE, .ref hHO, .ref hAG, .ref hLO, .ref hRQ, .ref hEX, .ref aFR])), (hHO, .inr (2, [.ref aFa, .ref aEm, .ref aVa, .int (nI hn)])), (aFa, .inl (cI, 16, .inl fa)), (aEm, .inl (cI, 16, .inl em)), (aVa, .inl (cL, 96, .inr (.inl va)))])) (va_Qi (fun (res : Int32) (_ : Unit) => res = nI hn) (fun _ t => va_P (dC, dI) vwCl [(h, .inr (9, [.ref hPA, .ref hRD, .ref hRB, .ref hPE, .ref hHO, .ref hAG, .ref hLO, .ref hRQ, .ref hEX, .ref aFR])), (hHO, .inr (2, [.ref aFa, .ref aEm, .ref aVa, .int (nI (hn + 1))])), (aFa, .inl (cI, 16, .inl (upd fa hn (recF k z)))), (aEm, .inl (cI, 16, .inl (upd em hn (-1)))), (aVa, .inl (cL, 96, .inr (.inl va)))] t.heap ∧ va_K (dC, dI) vwCl [(cI, .int), (cL, .long)] t ∧ va_D (va_A [(h, .inr (9, [.ref hPA, .ref hRD, .ref hRB, .ref hPE, .ref hHO, .ref hAG, .ref hLO, .ref hRQ, .ref hEX, .ref aFR])), (hHO, .inr (2, [.ref aFa, .ref aEm, .ref aVa, .int (nI hn)])), (aFa, .inl (cI, 16, .inl fa)), (aEm, .inl (cI, 16, .inl em)), (aVa, .inl (cL, 96, .inr (.inl va)))] sz) [(h, .inr (9, [.ref hPA, .ref hRD, .ref hRB, .ref hPE, .ref hHO, .ref hAG, .ref hLO, .ref hRQ, .ref hEX, .ref aFR])), (hHO, .inr (2, [.ref aFa, .ref aEm, .ref aVa, .int (nI (hn + 1))])), (aFa, .inl (cI, 16, .inl (upd fa hn (recF k z)))), (aEm, .inl (cI, 16, .inl (upd em hn (-1)))), (aVa, .inl (cL, 96, .inr (.inl va)))]) (va_A [(h, .inr (9, [.ref hPA, .ref hRD, .ref hRB, .ref hPE, .ref hHO, .ref hAG, .ref hLO, .ref hRQ, .ref hEX, .ref aFR])), (hHO, .inr (2, [.ref aFa, .ref aEm, .ref aVa, .int (nI hn)])), (aFa, .inl (cI, 16, .inl fa)), (aEm, .inl (cI, 16, .inl em)), (aVa, .inl (cL, 96, .inr (.inl va)))] sz)) 0 0 (va_A [(h, .inr (9, [.ref hPA, .ref hRD, .ref hRB, .ref hPE, .ref hHO, .ref hAG, .ref hLO, .ref hRQ, .ref hEX, .ref aFR])), (hHO, .inr (2, [.ref aFa, .ref aEm, .ref aVa, .int (nI hn)])), (aFa, .inl (cI, 16, .inl fa)), (aEm, .inl (cI, 16, .inl em)), (aVa, .inl (cL, 96, .inr (.inl va)))] sz) := by
  refine Met.ofW (cc := k_RR_record) (maxL := 4) (ret := (some .int)) (by decide) rfl ?_
  intro p e s m args below meth c s₁ B hml hv
  obtain ⟨rfl, hsz, hP, hK, hD0⟩ := hv
  have hx := B.exec
  have hb := B.bytes
  have hr := B.returns
  have hts := atoms_spec (ws := ws_RR_record) B.pre
  have hown : s.vm.findClass R_RR = some m.cls := findClass_of_methodNamed B.named
  have hlocks := B.notSynchronized
  subst hsz
  have hD := hD0.self (sz := s.heap.size)
  generalize hAe : va_A [(h, .inr (9, [.ref hPA, .ref hRD, .ref hRB, .ref hPE, .ref hHO, .ref hAG, .ref hLO, .ref hRQ, .ref hEX, .ref aFR])), (hHO, .inr (2, [.ref aFa, .ref aEm, .ref aVa, .int (nI hn)])), (aFa, .inl (cI, 16, .inl fa)), (aEm, .inl (cI, 16, .inl em)), (aVa, .inl (cL, 96, .inr (.inl va)))] s.heap.size = A at hD ⊢
  have hA : ∀ q : Nat, s.heap.size ≤ q → A q := fun q h => by rw [← hAe]; exact Or.inr h
  have hS : va_S A s.heap s.heap [] := va_S.rf
  have hP : va_P (dC, dI) vwCl [(h, .inr (9, [.ref hPA, .ref hRD, .ref hRB, .ref hPE, .ref hHO, .ref hAG, .ref hLO, .ref hRQ, .ref hEX, .ref aFR])), (hHO, .inr (2, [.ref aFa, .ref aEm, .ref aVa, .int (nI hn)])), (aFa, .inl (cI, 16, .inl fa)), (aEm, .inl (cI, 16, .inl em)), (aVa, .inl (cL, 96, .inr (.inl va)))] s.heap := hP
  have iHO : ∀ w ∈ u_ws R_HO T_HO 4, w ∈ ws_RR_record := fun w h => wb_RR_record w (in_HO w h)
  have iRR : ∀ w ∈ u_ws R_RR T_RR 10, w ∈ ws_RR_record := fun w h => wb_RR_record w (in_RR w h)
  have hl := lv_entry ([.ref h, .int k, .int z]) (n := 4) (Nat.le_of_ble_eq_true rfl)
  rw [lg_entry_eq]
  generalize (lg_sl ([.ref h, .int k, .int z]) ++ List.replicate (4 - (lg_sl ([.ref h, .int k, .int z])).length) Slot.unset).toArray = ls at hl ⊢
  have hl : lv_has ls 4 [(0, .ref h), (1, .int k), (2, .int z)] := hl
  refine lv_iload_n hx hb d_RR_record_0 rfl (lv_at hl 1 rfl) ?_
  refine lv_if_lt (tgt := 9) hx hb d_RR_record_1 (by decide) (fun c1 => ?_) (fun c1 => ?_)
  · exact absurd c1 hk0
  · refine lv_iload_n hx hb d_RR_record_4 rfl (lv_at hl 1 rfl) ?_
    refine lv_iconst (v := 4) hx hb d_RR_record_5 (by decide) ?_
    refine lv_icmp_lt (tgt := 19) hx hb d_RR_record_6 (by decide) (fun c6 => ?_) (fun c6 => ?_)
    · refine lv_iload_n hx hb d_RR_record_19 rfl (lv_at hl 2 rfl) ?_
      refine lv_iconst (v := (-1)) hx hb d_RR_record_20 (by decide) ?_
      refine lv_icmp_lt (tgt := 30) hx hb d_RR_record_21 (by decide) (fun c21 => ?_) (fun c21 => ?_)
      · exact absurd c21 hz0
      · refine lv_iload_n hx hb d_RR_record_24 rfl (lv_at hl 2 rfl) ?_
        refine lv_bipush (v := 8) hx hb d_RR_record_25 (by decide) ?_
        refine lv_icmp_lt (tgt := 40) hx hb d_RR_record_27 (by decide) (fun c27 => ?_) (fun c27 => ?_)
        · refine lv_aload_n hx hb d_RR_record_40 rfl (lv_at hl 0 rfl) ?_
          refine va_get (D := (dC, dI)) (ci := 9) (v := .ref hHO) (C := R_RR) (T := T_RR) (N := 10) hx hb hts iRR hown hK hP 0 rfl rfl 4 (by decide) (hts _ (wb_RR_record _ b_228)) (fun _ h9 => h9) rfl d_RR_record_41 ?_
          refine va_get (D := (dC, dI)) (ci := 2) (v := .int (nI hn)) (C := R_HO) (T := T_HO) (N := 4) hx hb hts iHO hown hK hP 1 rfl rfl 3 (by decide) (hts _ (wb_RR_record _ b_141)) (fun _ h9 => h9) rfl d_RR_record_44 ?_
          refine lv_bipush (v := 16) hx hb d_RR_record_47 (by decide) ?_
          refine lv_icmp_lt (tgt := 62) hx hb d_RR_record_49 (by decide) (fun c49 => ?_) (fun c49 => ?_)
          · refine lv_iload_n hx hb d_RR_record_62 rfl (lv_at hl 2 rfl) ?_
            refine lv_iconst (v := (-1)) hx hb d_RR_record_63 (by decide) ?_
            refine lv_icmp_ne (tgt := 71) hx hb d_RR_record_64 (by decide) (fun c64 => ?_) (fun c64 => ?_)
            · refine lv_iconst (v := 1) hx hb d_RR_record_71 (by decide) ?_
              refine lv_bipush (v := 22) hx hb d_RR_record_72 (by decide) ?_
              refine lv_iload_n hx hb d_RR_record_74 rfl (lv_at hl 2 rfl) ?_
              refine lv_iadd hx hb d_RR_record_75 ?_
              refine lv_ishl hx hb d_RR_record_76 ?_
              refine lv_istore_n (lv' := [(3, .int (1 <<< ((22 + z) &&& 31))), (0, .ref h), (1, .int k), (2, .int z)]) hx hb d_RR_record_77 rfl hl (by decide) rfl (fun ls hl => ?_)
              refine lv_aload_n hx hb d_RR_record_78 rfl (lv_at hl 1 rfl) ?_
              refine va_get (D := (dC, dI)) (ci := 9) (v := .ref hHO) (C := R_RR) (T := T_RR) (N := 10) hx hb hts iRR hown hK hP 0 rfl rfl 4 (by decide) (hts _ (wb_RR_record _ b_228)) (fun _ h9 => h9) rfl d_RR_record_79 ?_
              refine lv_iconst (v := 1) hx hb d_RR_record_82 (by decide) ?_
              refine lv_bipush (v := 8) hx hb d_RR_record_83 (by decide) ?_
              refine lv_iload_n hx hb d_RR_record_85 rfl (lv_at hl 2 rfl) ?_
              refine lv_iadd hx hb d_RR_record_86 ?_
              refine lv_ishl hx hb d_RR_record_87 ?_
              refine lv_iload_n hx hb d_RR_record_88 rfl (lv_at hl 0 rfl) ?_
              refine lv_ior hx hb d_RR_record_89 ?_
              have hPc := hP.sub (ws' := [(hHO, .inr (2, [.ref aFa, .ref aEm, .ref aVa, .int (nI hn)])), (aFa, .inl (cI, 16, .inl fa)), (aEm, .inl (cI, 16, .inl em)), (aVa, .inl (cL, 96, .inr (.inl va)))]) [1, 2, 3, 4] rfl
              have hKc := hK.sub (tys' := [(cI, .int), (cL, .long)]) [0, 1] rfl
              have hDc := hD.sub (ws' := [(hHO, .inr (2, [.ref aFa, .ref aEm, .ref aVa, .int (nI hn)])), (aFa, .inl (cI, 16, .inl fa)), (aEm, .inl (cI, 16, .inl em)), (aVa, .inl (cL, 96, .inr (.inl va)))]) [1, 2, 3, 4] (by decide) rfl
              have hFc := va_free (wc := [(hHO, .inr (2, [.ref aFa, .ref aEm, .ref aVa, .int (nI hn)])), (aFa, .inl (cI, 16, .inl fa)), (aEm, .inl (cI, 16, .inl em)), (aVa, .inl (cL, 96, .inr (.inl va)))]) hD hS hA [1, 2, 3, 4] rfl
              refine va_calli (va_runV (As := [.int ((1 <<< ((8 + k) &&& 31)) ||| (1 <<< ((22 + z) &&& 31)))]) (rest := []) ⟨hx, hb, hml, hown, hts⟩ (c_HO_add l dC dI s.heap.size cI cL hHO aFa aEm aVa fa em va hn (by first | assumption | omega) ((1 <<< ((8 + k) &&& 31)) ||| (1 <<< ((22 + z) &&& 31)))) (cwV 1 hts (vz_gV wb_RR_record b_445 b_446 b_447 b_6 wc_HO_add) rfl rfl rfl (by decide +kernel) ⟨Nat.le_of_ble_eq_true rfl, Nat.le_of_ble_eq_true rfl⟩) (vz_preVw (A := A) hPc hKc hDc (ci := 2) (q0 := 0) rfl rfl) rfl rfl hl.1 rfl (lv_room (Nat.le_of_ble_eq_true rfl)) d_RR_record_90 ⟨Nat.le_of_ble_eq_true rfl, Nat.le_of_ble_eq_true rfl⟩) hS (fun q _ h => hFc q h) hFc (fun r90 u9 t9 H1 locs ht hvm hr90 hB hzx9 hkx9 hS => ?_)
              try dsimp only at hr90
              obtain ⟨hP1, hK1, hD1⟩ := hB
              rw [ht] at hP1
              obtain ⟨hP, hD⟩ := va_join (wr := [(h, .inr (9, [.ref hPA, .ref hRD, .ref hRB, .ref hPE, .ref hHO, .ref hAG, .ref hLO, .ref hRQ, .ref hEX, .ref aFR]))]) (w1 := [(hHO, .inr (2, [.ref aFa, .ref aEm, .ref aVa, .int (nI (hn + 1))])), (aFa, .inl (cI, 16, .inl (upd fa hn ((1 <<< ((8 + k) &&& 31)) ||| (1 <<< ((22 + z) &&& 31)))))), (aEm, .inl (cI, 16, .inl (upd em hn (-1)))), (aVa, .inl (cL, 96, .inr (.inl va)))]) hP hD [1, 2, 3, 4] [0] rfl rfl (by decide) (by decide) hkx9 hFc hP1 hD1
              generalize H1 = H at hP hS ⊢
              have hP : va_P (dC, dI) vwCl [(h, .inr (9, [.ref hPA, .ref hRD, .ref hRB, .ref hPE, .ref hHO, .ref hAG, .ref hLO, .ref hRQ, .ref hEX, .ref aFR])), (hHO, .inr (2, [.ref aFa, .ref aEm, .ref aVa, .int (nI (hn + 1))])), (aFa, .inl (cI, 16, .inl (upd fa hn ((1 <<< ((8 + k) &&& 31)) ||| (1 <<< ((22 + z) &&& 31)))))), (aEm, .inl (cI, 16, .inl (upd em hn (-1)))), (aVa, .inl (cL, 96, .inr (.inl va)))] H := hP
              have hD : va_D A [(h, .inr (9, [.ref hPA, .ref hRD, .ref hRB, .ref hPE, .ref hHO, .ref hAG, .ref hLO, .ref hRQ, .ref hEX, .ref aFR])), (hHO, .inr (2, [.ref aFa, .ref aEm, .ref aVa, .int (nI (hn + 1))])), (aFa, .inl (cI, 16, .inl (upd fa hn ((1 <<< ((8 + k) &&& 31)) ||| (1 <<< ((22 + z) &&& 31)))))), (aEm, .inl (cI, 16, .inl (upd em hn (-1)))), (aVa, .inl (cL, 96, .inr (.inl va)))] := hD
              have hP9 := hP.sub (ws' := [(h, .inr (9, [.ref hPA, .ref hRD, .ref hRB, .ref hPE, .ref hHO, .ref hAG, .ref hLO, .ref hRQ, .ref hEX, .ref aFR])), (hHO, .inr (2, [.ref aFa, .ref aEm, .ref aVa, .int (nI (hn + 1))])), (aFa, .inl (cI, 16, .inl (upd fa hn ((1 <<< ((8 + k) &&& 31)) ||| (1 <<< ((22 + z) &&& 31)))))), (aEm, .inl (cI, 16, .inl (upd em hn (-1)))), (aVa, .inl (cL, 96, .inr (.inl va)))]) [0, 1, 2, 3, 4] rfl
              have hD9 := hD.sub (ws' := [(h, .inr (9, [.ref hPA, .ref hRD, .ref hRB, .ref hPE, .ref hHO, .ref hAG, .ref hLO, .ref hRQ, .ref hEX, .ref aFR])), (hHO, .inr (2, [.ref aFa, .ref aEm, .ref aVa, .int (nI (hn + 1))])), (aFa, .inl (cI, 16, .inl (upd fa hn ((1 <<< ((8 + k) &&& 31)) ||| (1 <<< ((22 + z) &&& 31)))))), (aEm, .inl (cI, 16, .inl (upd em hn (-1)))), (aVa, .inl (cL, 96, .inr (.inl va)))]) [0, 1, 2, 3, 4] (by decide) rfl
              have e9 : ([(h, .inr (9, [.ref hPA, .ref hRD, .ref hRB, .ref hPE, .ref hHO, .ref hAG, .ref hLO, .ref hRQ, .ref hEX, .ref aFR])), (hHO, .inr (2, [.ref aFa, .ref aEm, .ref aVa, .int (nI (hn + 1))])), (aFa, .inl (cI, 16, .inl (upd fa hn ((1 <<< ((8 + k) &&& 31)) ||| (1 <<< ((22 + z) &&& 31)))))), (aEm, .inl (cI, 16, .inl (upd em hn (-1)))), (aVa, .inl (cL, 96, .inr (.inl va)))] : va_W) = [(h, .inr (9, [.ref hPA, .ref hRD, .ref hRB, .ref hPE, .ref hHO, .ref hAG, .ref hLO, .ref hRQ, .ref hEX, .ref aFR])), (hHO, .inr (2, [.ref aFa, .ref aEm, .ref aVa, .int (nI (hn + 1))])), (aFa, .inl (cI, 16, .inl (upd fa hn (recF k z)))), (aEm, .inl (cI, 16, .inl (upd em hn (-1)))), (aVa, .inl (cL, 96, .inr (.inl va)))] := by simp [recF, c64]
              rw [e9] at hP9 hD9
              exact W.iret (v := r90) hx hb hr (fun t ht hW => ⟨⟨r90, (), rfl, hr90, by rw [ht]; exact hP9, va_K.moved hW.alike hK, hD9⟩, hS.F ht⟩) hS.2.2 d_RR_record_93
            · refine lv_iconst (v := 0) hx hb d_RR_record_67 (by decide) ?_
              refine lv_goto (tgt := 77) hx hb d_RR_record_68 (by decide) ?_
              refine lv_istore_n (lv' := [(3, .int 0), (0, .ref h), (1, .int k), (2, .int z)]) hx hb d_RR_record_77 rfl hl (by decide) rfl (fun ls hl => ?_)
              refine lv_aload_n hx hb d_RR_record_78 rfl (lv_at hl 1 rfl) ?_
              refine va_get (D := (dC, dI)) (ci := 9) (v := .ref hHO) (C := R_RR) (T := T_RR) (N := 10) hx hb hts iRR hown hK hP 0 rfl rfl 4 (by decide) (hts _ (wb_RR_record _ b_228)) (fun _ h9 => h9) rfl d_RR_record_79 ?_
              refine lv_iconst (v := 1) hx hb d_RR_record_82 (by decide) ?_
              refine lv_bipush (v := 8) hx hb d_RR_record_83 (by decide) ?_
              refine lv_iload_n hx hb d_RR_record_85 rfl (lv_at hl 2 rfl) ?_
              refine lv_iadd hx hb d_RR_record_86 ?_
              refine lv_ishl hx hb d_RR_record_87 ?_
              refine lv_iload_n hx hb d_RR_record_88 rfl (lv_at hl 0 rfl) ?_
              refine lv_ior hx hb d_RR_record_89 ?_
              have hPc := hP.sub (ws' := [(hHO, .inr (2, [.ref aFa, .ref aEm, .ref aVa, .int (nI hn)])), (aFa, .inl (cI, 16, .inl fa)), (aEm, .inl (cI, 16, .inl em)), (aVa, .inl (cL, 96, .inr (.inl va)))]) [1, 2, 3, 4] rfl
              have hKc := hK.sub (tys' := [(cI, .int), (cL, .long)]) [0, 1] rfl
              have hDc := hD.sub (ws' := [(hHO, .inr (2, [.ref aFa, .ref aEm, .ref aVa, .int (nI hn)])), (aFa, .inl (cI, 16, .inl fa)), (aEm, .inl (cI, 16, .inl em)), (aVa, .inl (cL, 96, .inr (.inl va)))]) [1, 2, 3, 4] (by decide) rfl
              have hFc := va_free (wc := [(hHO, .inr (2, [.ref aFa, .ref aEm, .ref aVa, .int (nI hn)])), (aFa, .inl (cI, 16, .inl fa)), (aEm, .inl (cI, 16, .inl em)), (aVa, .inl (cL, 96, .inr (.inl va)))]) hD hS hA [1, 2, 3, 4] rfl
              refine va_calli (va_runV (As := [.int ((1 <<< ((8 + k) &&& 31)) ||| 0)]) (rest := []) ⟨hx, hb, hml, hown, hts⟩ (c_HO_add l dC dI s.heap.size cI cL hHO aFa aEm aVa fa em va hn (by first | assumption | omega) ((1 <<< ((8 + k) &&& 31)) ||| 0)) (cwV 1 hts (vz_gV wb_RR_record b_445 b_446 b_447 b_6 wc_HO_add) rfl rfl rfl (by decide +kernel) ⟨Nat.le_of_ble_eq_true rfl, Nat.le_of_ble_eq_true rfl⟩) (vz_preVw (A := A) hPc hKc hDc (ci := 2) (q0 := 0) rfl rfl) rfl rfl hl.1 rfl (lv_room (Nat.le_of_ble_eq_true rfl)) d_RR_record_90 ⟨Nat.le_of_ble_eq_true rfl, Nat.le_of_ble_eq_true rfl⟩) hS (fun q _ h => hFc q h) hFc (fun r90 u9 t9 H1 locs ht hvm hr90 hB hzx9 hkx9 hS => ?_)
              try dsimp only at hr90
              obtain ⟨hP1, hK1, hD1⟩ := hB
              rw [ht] at hP1
              obtain ⟨hP, hD⟩ := va_join (wr := [(h, .inr (9, [.ref hPA, .ref hRD, .ref hRB, .ref hPE, .ref hHO, .ref hAG, .ref hLO, .ref hRQ, .ref hEX, .ref aFR]))]) (w1 := [(hHO, .inr (2, [.ref aFa, .ref aEm, .ref aVa, .int (nI (hn + 1))])), (aFa, .inl (cI, 16, .inl (upd fa hn ((1 <<< ((8 + k) &&& 31)) ||| 0)))), (aEm, .inl (cI, 16, .inl (upd em hn (-1)))), (aVa, .inl (cL, 96, .inr (.inl va)))]) hP hD [1, 2, 3, 4] [0] rfl rfl (by decide) (by decide) hkx9 hFc hP1 hD1
              generalize H1 = H at hP hS ⊢
              have hP : va_P (dC, dI) vwCl [(h, .inr (9, [.ref hPA, .ref hRD, .ref hRB, .ref hPE, .ref hHO, .ref hAG, .ref hLO, .ref hRQ, .ref hEX, .ref aFR])), (hHO, .inr (2, [.ref aFa, .ref aEm, .ref aVa, .int (nI (hn + 1))])), (aFa, .inl (cI, 16, .inl (upd fa hn ((1 <<< ((8 + k) &&& 31)) ||| 0)))), (aEm, .inl (cI, 16, .inl (upd em hn (-1)))), (aVa, .inl (cL, 96, .inr (.inl va)))] H := hP
              have hD : va_D A [(h, .inr (9, [.ref hPA, .ref hRD, .ref hRB, .ref hPE, .ref hHO, .ref hAG, .ref hLO, .ref hRQ, .ref hEX, .ref aFR])), (hHO, .inr (2, [.ref aFa, .ref aEm, .ref aVa, .int (nI (hn + 1))])), (aFa, .inl (cI, 16, .inl (upd fa hn ((1 <<< ((8 + k) &&& 31)) ||| 0)))), (aEm, .inl (cI, 16, .inl (upd em hn (-1)))), (aVa, .inl (cL, 96, .inr (.inl va)))] := hD
              have hP9 := hP.sub (ws' := [(h, .inr (9, [.ref hPA, .ref hRD, .ref hRB, .ref hPE, .ref hHO, .ref hAG, .ref hLO, .ref hRQ, .ref hEX, .ref aFR])), (hHO, .inr (2, [.ref aFa, .ref aEm, .ref aVa, .int (nI (hn + 1))])), (aFa, .inl (cI, 16, .inl (upd fa hn ((1 <<< ((8 + k) &&& 31)) ||| 0)))), (aEm, .inl (cI, 16, .inl (upd em hn (-1)))), (aVa, .inl (cL, 96, .inr (.inl va)))]) [0, 1, 2, 3, 4] rfl
              have hD9 := hD.sub (ws' := [(h, .inr (9, [.ref hPA, .ref hRD, .ref hRB, .ref hPE, .ref hHO, .ref hAG, .ref hLO, .ref hRQ, .ref hEX, .ref aFR])), (hHO, .inr (2, [.ref aFa, .ref aEm, .ref aVa, .int (nI (hn + 1))])), (aFa, .inl (cI, 16, .inl (upd fa hn ((1 <<< ((8 + k) &&& 31)) ||| 0)))), (aEm, .inl (cI, 16, .inl (upd em hn (-1)))), (aVa, .inl (cL, 96, .inr (.inl va)))]) [0, 1, 2, 3, 4] (by decide) rfl
              have e9 : ([(h, .inr (9, [.ref hPA, .ref hRD, .ref hRB, .ref hPE, .ref hHO, .ref hAG, .ref hLO, .ref hRQ, .ref hEX, .ref aFR])), (hHO, .inr (2, [.ref aFa, .ref aEm, .ref aVa, .int (nI (hn + 1))])), (aFa, .inl (cI, 16, .inl (upd fa hn ((1 <<< ((8 + k) &&& 31)) ||| 0)))), (aEm, .inl (cI, 16, .inl (upd em hn (-1)))), (aVa, .inl (cL, 96, .inr (.inl va)))] : va_W) = [(h, .inr (9, [.ref hPA, .ref hRD, .ref hRB, .ref hPE, .ref hHO, .ref hAG, .ref hLO, .ref hRQ, .ref hEX, .ref aFR])), (hHO, .inr (2, [.ref aFa, .ref aEm, .ref aVa, .int (nI (hn + 1))])), (aFa, .inl (cI, 16, .inl (upd fa hn (recF k z)))), (aEm, .inl (cI, 16, .inl (upd em hn (-1)))), (aVa, .inl (cL, 96, .inr (.inl va)))] := by simp [recF, c64]
              rw [e9] at hP9 hD9
              exact W.iret (v := r90) hx hb hr (fun t ht hW => ⟨⟨r90, (), rfl, hr90, by rw [ht]; exact hP9, va_K.moved hW.alike hK, hD9⟩, hS.F ht⟩) hS.2.2 d_RR_record_93
          · exact absurd ((nI_ltI (show hn < 2147483648 by omega) (show 16 < 2147483648 by omega)).mpr hhn) c49
        · exact absurd hz1 c27
    · exact absurd hk1 c6

set_option maxHeartbeats 4000000 in
set_option maxRecDepth 100000 in
/-- RecordRights.value, where there are both -/
theorem c_RR_value (l : Launch) (dC : Nat → ClassId) (dI : Nat → Nat → Nat) (sz : Nat) (h hPA hRD hRB hPE hHO hAG hLO hRQ hEX aFR : Nat) (cI cL : ClassId) (aFa aEm aVa : Nat) (fa em : Nat → Int32) (va : Nat → Int64) (hn : Nat) (hhn : hn ≤ 16) (r f : Nat) (hr : r < hn) (hf : f < 6) (v : Int64) : Met l y_RR_value ws_RR_value ({ frames := 2, cells := 0, slots := 0, locals := 48 }) (va_Pc [.ref h, .int (nI r), .int (nI f), .long v] (fun U => U.heap.size = sz ∧ va_P (dC, dI) vwCl [(h, .inr (9, [.ref hPA, .ref hRD, .ref hRB, .ref hPE, .ref hHO, .ref hAG, .ref hLO, .ref hRQ, .ref hEX, .ref aFR])), (hHO, .inr (2, [.ref aFa, .ref aEm, .ref aVa, .int (nI hn)])), (aFa, .inl (cI, 16, .inl fa)), (aEm, .inl (cI, 16, .inl em)), (aVa, .inl (cL, 96, .inr (.inl va)))] U.heap ∧ va_K (dC, dI) vwCl [(cI, .int), (cL, .long)] U ∧ va_D (fun _ => True) [(h, .inr (9, [.ref hPA, .ref hRD, .ref hRB, .ref hPE, .ref hHO, .ref hAG, .ref hLO, .ref hRQ, .ref hEX, .ref aFR])), (hHO, .inr (2, [.ref aFa, .ref aEm, .ref aVa, .int (nI hn)])), (aFa, .inl (cI, 16, .inl fa)), (aEm, .inl (cI, 16, .inl em)), (aVa, .inl (cL, 96, .inr (.inl va)))])) (va_Ql (fun (res : Int64) (_ : Unit) => res = va (r * 6 + f)) (fun _ t => va_P (dC, dI) vwCl [(h, .inr (9, [.ref hPA, .ref hRD, .ref hRB, .ref hPE, .ref hHO, .ref hAG, .ref hLO, .ref hRQ, .ref hEX, .ref aFR])), (hHO, .inr (2, [.ref aFa, .ref aEm, .ref aVa, .int (nI hn)])), (aFa, .inl (cI, 16, .inl fa)), (aEm, .inl (cI, 16, .inl em)), (aVa, .inl (cL, 96, .inr (.inl (vp_updL va (r * 6 + f) v))))] t.heap ∧ va_K (dC, dI) vwCl [(cI, .int), (cL, .long)] t ∧ va_D (va_A [(h, .inr (9, [.ref hPA, .ref hRD, .ref hRB, .ref hPE, .ref hHO, .ref hAG, .ref hLO, .ref hRQ, .ref hEX, .ref aFR])), (hHO, .inr (2, [.ref aFa, .ref aEm, .ref aVa, .int (nI hn)])), (aFa, .inl (cI, 16, .inl fa)), (aEm, .inl (cI, 16, .inl em)), (aVa, .inl (cL, 96, .inr (.inl va)))] sz) [(h, .inr (9, [.ref hPA, .ref hRD, .ref hRB, .ref hPE, .ref hHO, .ref hAG, .ref hLO, .ref hRQ, .ref hEX, .ref aFR])), (hHO, .inr (2, [.ref aFa, .ref aEm, .ref aVa, .int (nI hn)])), (aFa, .inl (cI, 16, .inl fa)), (aEm, .inl (cI, 16, .inl em)), (aVa, .inl (cL, 96, .inr (.inl (vp_updL va (r * 6 + f) v))))]) (va_A [(h, .inr (9, [.ref hPA, .ref hRD, .ref hRB, .ref hPE, .ref hHO, .ref hAG, .ref hLO, .ref hRQ, .ref hEX, .ref aFR])), (hHO, .inr (2, [.ref aFa, .ref aEm, .ref aVa, .int (nI hn)])), (aFa, .inl (cI, 16, .inl fa)), (aEm, .inl (cI, 16, .inl em)), (aVa, .inl (cL, 96, .inr (.inl va)))] sz)) 0 0 (va_A [(h, .inr (9, [.ref hPA, .ref hRD, .ref hRB, .ref hPE, .ref hHO, .ref hAG, .ref hLO, .ref hRQ, .ref hEX, .ref aFR])), (hHO, .inr (2, [.ref aFa, .ref aEm, .ref aVa, .int (nI hn)])), (aFa, .inl (cI, 16, .inl fa)), (aEm, .inl (cI, 16, .inl em)), (aVa, .inl (cL, 96, .inr (.inl va)))] sz) := by
  refine Met.ofW (cc := k_RR_value) (maxL := 5) (ret := (some .long)) (by decide) rfl ?_
  intro p e s m args below meth c s₁ B hml hv
  obtain ⟨rfl, hsz, hP, hK, hD0⟩ := hv
  have hx := B.exec
  have hb := B.bytes
  have hr := B.returns
  have hts := atoms_spec (ws := ws_RR_value) B.pre
  have hown : s.vm.findClass R_RR = some m.cls := findClass_of_methodNamed B.named
  have hlocks := B.notSynchronized
  subst hsz
  have hD := hD0.self (sz := s.heap.size)
  generalize hAe : va_A [(h, .inr (9, [.ref hPA, .ref hRD, .ref hRB, .ref hPE, .ref hHO, .ref hAG, .ref hLO, .ref hRQ, .ref hEX, .ref aFR])), (hHO, .inr (2, [.ref aFa, .ref aEm, .ref aVa, .int (nI hn)])), (aFa, .inl (cI, 16, .inl fa)), (aEm, .inl (cI, 16, .inl em)), (aVa, .inl (cL, 96, .inr (.inl va)))] s.heap.size = A at hD ⊢
  have hA : ∀ q : Nat, s.heap.size ≤ q → A q := fun q h => by rw [← hAe]; exact Or.inr h
  have hS : va_S A s.heap s.heap [] := va_S.rf
  have hP : va_P (dC, dI) vwCl [(h, .inr (9, [.ref hPA, .ref hRD, .ref hRB, .ref hPE, .ref hHO, .ref hAG, .ref hLO, .ref hRQ, .ref hEX, .ref aFR])), (hHO, .inr (2, [.ref aFa, .ref aEm, .ref aVa, .int (nI hn)])), (aFa, .inl (cI, 16, .inl fa)), (aEm, .inl (cI, 16, .inl em)), (aVa, .inl (cL, 96, .inr (.inl va)))] s.heap := hP
  have iHO : ∀ w ∈ u_ws R_HO T_HO 4, w ∈ ws_RR_value := fun w h => wb_RR_value w (in_HO w h)
  have iRR : ∀ w ∈ u_ws R_RR T_RR 10, w ∈ ws_RR_value := fun w h => wb_RR_value w (in_RR w h)
  have hl := lv_entry ([.ref h, .int (nI r), .int (nI f), .long v]) (n := 5) (Nat.le_of_ble_eq_true rfl)
  rw [lg_entry_eq]
  generalize (lg_sl ([.ref h, .int (nI r), .int (nI f), .long v]) ++ List.replicate (5 - (lg_sl ([.ref h, .int (nI r), .int (nI f), .long v])).length) Slot.unset).toArray = ls at hl ⊢
  have hl : lv_has ls 5 [(0, .ref h), (1, .int (nI r)), (2, .int (nI f)), (3, .long v)] := hl
  refine lv_aload_n hx hb d_RR_value_0 rfl (lv_at hl 0 rfl) ?_
  refine lv_iload_n hx hb d_RR_value_1 rfl (lv_at hl 1 rfl) ?_
  have hPc := hP.sub (ws' := [(h, .inr (9, [.ref hPA, .ref hRD, .ref hRB, .ref hPE, .ref hHO, .ref hAG, .ref hLO, .ref hRQ, .ref hEX, .ref aFR])), (hHO, .inr (2, [.ref aFa, .ref aEm, .ref aVa, .int (nI hn)]))]) [0, 1] rfl
  have hKc := hK.sub (tys' := []) [] rfl
  refine va_callv (va_runV (As := [.int (nI r)]) (rest := []) ⟨hx, hb, hml, hown, hts⟩ (c_RR_requireRecord l dC dI h hPA hRD hRB hPE hHO hAG hLO hRQ hEX aFR aFa aEm aVa hn (by first | assumption | omega) r (by first | assumption | omega)) (cwV 1 hts (vz_gV wb_RR_value b_456 b_458 bs_7 b_1 wc_RR_requireRecord) rfl rfl rfl (by decide +kernel) ⟨Nat.le_of_ble_eq_true rfl, Nat.le_of_ble_eq_true rfl⟩) (vz_preV hPc hKc (ci := 9) (q0 := 0) rfl rfl) rfl rfl hl.1 rfl (lv_room (Nat.le_of_ble_eq_true rfl)) d_RR_value_2 ⟨Nat.le_of_ble_eq_true rfl, Nat.le_of_ble_eq_true rfl⟩) hS (fun q _ h => False.elim h) (fun q h => False.elim h) (fun u9 t9 H1 locs ht hvm hr2 hB hzx9 hkx9 hS => ?_)
  try dsimp only at hr2
  have hP := vz_kept hP hkx9
  generalize H1 = H at hP hS ⊢
  refine lv_iload_n hx hb d_RR_value_5 rfl (lv_at hl 2 rfl) ?_
  have hPc := hP.sub (ws' := []) [] rfl
  have hKc := hK.sub (tys' := []) [] rfl
  refine va_callv (va_runS (As := [.int (nI f)]) (rest := []) ⟨hx, hb, hml, hown, hts⟩ (c_RR_requireField l dC dI f (by first | assumption | omega)) (va_cwS 1 hts (vz_gS wb_RR_value b_461 b_462 b_1 wc_RR_requireField) rfl rfl rfl (by decide +kernel) ⟨Nat.le_of_ble_eq_true rfl, Nat.le_of_ble_eq_true rfl⟩) (vz_preS hPc hKc) rfl rfl hl.1 rfl (lv_room (Nat.le_of_ble_eq_true rfl)) d_RR_value_6 ⟨Nat.le_of_ble_eq_true rfl, Nat.le_of_ble_eq_true rfl⟩) hS (fun q _ h => False.elim h) (fun q h => False.elim h) (fun u9 t9 H1 locs ht hvm hr6 hB hzx9 hkx9 hS => ?_)
  try dsimp only at hr6
  have hP := vz_kept hP hkx9
  generalize H1 = H at hP hS ⊢
  refine lv_aload_n hx hb d_RR_value_9 rfl (lv_at hl 0 rfl) ?_
  refine va_get (D := (dC, dI)) (ci := 9) (v := .ref hHO) (C := R_RR) (T := T_RR) (N := 10) hx hb hts iRR hown hK hP 0 rfl rfl 4 (by decide) (hts _ (wb_RR_value _ b_228)) (fun _ h9 => h9) rfl d_RR_value_10 ?_
  refine lv_iload_n hx hb d_RR_value_13 rfl (lv_at hl 1 rfl) ?_
  refine lv_iload_n hx hb d_RR_value_14 rfl (lv_at hl 2 rfl) ?_
  refine lv_lload_n hx hb d_RR_value_15 rfl (lv_at hl 3 rfl) ?_
  have hPc := hP.sub (ws' := [(hHO, .inr (2, [.ref aFa, .ref aEm, .ref aVa, .int (nI hn)])), (aFa, .inl (cI, 16, .inl fa)), (aEm, .inl (cI, 16, .inl em)), (aVa, .inl (cL, 96, .inr (.inl va)))]) [1, 2, 3, 4] rfl
  have hKc := hK.sub (tys' := [(cI, .int), (cL, .long)]) [0, 1] rfl
  have hDc := hD.sub (ws' := [(hHO, .inr (2, [.ref aFa, .ref aEm, .ref aVa, .int (nI hn)])), (aFa, .inl (cI, 16, .inl fa)), (aEm, .inl (cI, 16, .inl em)), (aVa, .inl (cL, 96, .inr (.inl va)))]) [1, 2, 3, 4] (by decide) rfl
  have hFc := va_free (wc := [(hHO, .inr (2, [.ref aFa, .ref aEm, .ref aVa, .int (nI hn)])), (aFa, .inl (cI, 16, .inl fa)), (aEm, .inl (cI, 16, .inl em)), (aVa, .inl (cL, 96, .inr (.inl va)))]) hD hS hA [1, 2, 3, 4] rfl
  refine va_calll (va_runV (As := [.int (nI r), .int (nI f), .long v]) (rest := []) ⟨hx, hb, hml, hown, hts⟩ (c_HO_put l dC dI H.size cI cL hHO aFa aEm aVa fa em va hn r f (by first | assumption | omega) (by first | assumption | omega) v) (cwV 3 hts (vz_gV wb_RR_value b_465 b_466 b_467 b_6 wc_HO_put) rfl rfl rfl (by decide +kernel) ⟨Nat.le_of_ble_eq_true rfl, Nat.le_of_ble_eq_true rfl⟩) (vz_preVw (A := A) hPc hKc hDc (ci := 2) (q0 := 0) rfl rfl) rfl rfl hl.1 rfl (lv_room (Nat.le_of_ble_eq_true rfl)) d_RR_value_16 ⟨Nat.le_of_ble_eq_true rfl, Nat.le_of_ble_eq_true rfl⟩) hS (fun q _ h => hFc q h) hFc (fun r16 u9 t9 H1 locs ht hvm hr16 hB hzx9 hkx9 hS => ?_)
  try dsimp only at hr16
  obtain ⟨hP1, hK1, hD1⟩ := hB
  rw [ht] at hP1
  obtain ⟨hP, hD⟩ := va_join (wr := [(h, .inr (9, [.ref hPA, .ref hRD, .ref hRB, .ref hPE, .ref hHO, .ref hAG, .ref hLO, .ref hRQ, .ref hEX, .ref aFR]))]) (w1 := [(hHO, .inr (2, [.ref aFa, .ref aEm, .ref aVa, .int (nI hn)])), (aFa, .inl (cI, 16, .inl fa)), (aEm, .inl (cI, 16, .inl em)), (aVa, .inl (cL, 96, .inr (.inl (vp_updL va (r * 6 + f) v))))]) hP hD [1, 2, 3, 4] [0] rfl rfl (by decide) (by decide) hkx9 hFc hP1 hD1
  generalize H1 = H at hP hS ⊢
  have hP : va_P (dC, dI) vwCl [(h, .inr (9, [.ref hPA, .ref hRD, .ref hRB, .ref hPE, .ref hHO, .ref hAG, .ref hLO, .ref hRQ, .ref hEX, .ref aFR])), (hHO, .inr (2, [.ref aFa, .ref aEm, .ref aVa, .int (nI hn)])), (aFa, .inl (cI, 16, .inl fa)), (aEm, .inl (cI, 16, .inl em)), (aVa, .inl (cL, 96, .inr (.inl (vp_updL va (r * 6 + f) v))))] H := hP
  have hD : va_D A [(h, .inr (9, [.ref hPA, .ref hRD, .ref hRB, .ref hPE, .ref hHO, .ref hAG, .ref hLO, .ref hRQ, .ref hEX, .ref aFR])), (hHO, .inr (2, [.ref aFa, .ref aEm, .ref aVa, .int (nI hn)])), (aFa, .inl (cI, 16, .inl fa)), (aEm, .inl (cI, 16, .inl em)), (aVa, .inl (cL, 96, .inr (.inl (vp_updL va (r * 6 + f) v))))] := hD
  have hP9 := hP.sub (ws' := [(h, .inr (9, [.ref hPA, .ref hRD, .ref hRB, .ref hPE, .ref hHO, .ref hAG, .ref hLO, .ref hRQ, .ref hEX, .ref aFR])), (hHO, .inr (2, [.ref aFa, .ref aEm, .ref aVa, .int (nI hn)])), (aFa, .inl (cI, 16, .inl fa)), (aEm, .inl (cI, 16, .inl em)), (aVa, .inl (cL, 96, .inr (.inl (vp_updL va (r * 6 + f) v))))]) [0, 1, 2, 3, 4] rfl
  have hD9 := hD.sub (ws' := [(h, .inr (9, [.ref hPA, .ref hRD, .ref hRB, .ref hPE, .ref hHO, .ref hAG, .ref hLO, .ref hRQ, .ref hEX, .ref aFR])), (hHO, .inr (2, [.ref aFa, .ref aEm, .ref aVa, .int (nI hn)])), (aFa, .inl (cI, 16, .inl fa)), (aEm, .inl (cI, 16, .inl em)), (aVa, .inl (cL, 96, .inr (.inl (vp_updL va (r * 6 + f) v))))]) [0, 1, 2, 3, 4] (by decide) rfl
  exact W.lret (v := r16) hx hb hr (fun t ht hW => ⟨⟨r16, (), rfl, hr16, by rw [ht]; exact hP9, va_K.moved hW.alike hK, hD9⟩, hS.F ht⟩) hS.2.2 d_RR_value_19

set_option maxHeartbeats 4000000 in
set_option maxRecDepth 100000 in
/-- RecordRights.masked, where there are both -/
theorem c_RR_masked (l : Launch) (dC : Nat → ClassId) (dI : Nat → Nat → Nat) (h hPA hRD hRB hPE hHO hAG hLO hRQ hEX aFR : Nat) (cI cL : ClassId) (aFa aEm aVa : Nat) (fa em : Nat → Int32) (va : Nat → Int64) (hn : Nat) (hhn : hn ≤ 16) (r f : Nat) (hr : r < hn) (hf : f < 6) : Met l y_RR_masked ws_RR_masked ({ frames := 1, cells := 0, slots := 0, locals := 22 }) (va_Pc [.ref h, .int (nI r), .int (nI f)] (fun U => va_P (dC, dI) vwCl [(h, .inr (9, [.ref hPA, .ref hRD, .ref hRB, .ref hPE, .ref hHO, .ref hAG, .ref hLO, .ref hRQ, .ref hEX, .ref aFR])), (hHO, .inr (2, [.ref aFa, .ref aEm, .ref aVa, .int (nI hn)])), (aFa, .inl (cI, 16, .inl fa)), (aEm, .inl (cI, 16, .inl em)), (aVa, .inl (cL, 96, .inr (.inl va)))] U.heap ∧ va_K (dC, dI) vwCl [(cI, .int), (cL, .long)] U)) (va_Ql (fun (res : Int64) (_ : Unit) => res = va (r * 6 + f) - (va (r * 6 + f) - va (r * 6 + f) / 1000 * 1000)) (fun _ _ => True) (fun _ => False)) 0 0 (fun _ => False) := by
  refine Met.ofW (cc := k_RR_masked) (maxL := 5) (ret := (some .long)) (by decide) rfl ?_
  intro p e s m args below meth c s₁ B hml hv
  obtain ⟨rfl, hP, hK⟩ := hv
  have hx := B.exec
  have hb := B.bytes
  have hr := B.returns
  have hts := atoms_spec (ws := ws_RR_masked) B.pre
  have hown : s.vm.findClass R_RR = some m.cls := findClass_of_methodNamed B.named
  have hlocks := B.notSynchronized
  have hS : va_S (fun _ => False) s.heap s.heap [] := va_S.rf
  have hP : va_P (dC, dI) vwCl [(h, .inr (9, [.ref hPA, .ref hRD, .ref hRB, .ref hPE, .ref hHO, .ref hAG, .ref hLO, .ref hRQ, .ref hEX, .ref aFR])), (hHO, .inr (2, [.ref aFa, .ref aEm, .ref aVa, .int (nI hn)])), (aFa, .inl (cI, 16, .inl fa)), (aEm, .inl (cI, 16, .inl em)), (aVa, .inl (cL, 96, .inr (.inl va)))] s.heap := hP
  have iHO : ∀ w ∈ u_ws R_HO T_HO 4, w ∈ ws_RR_masked := fun w h => wb_RR_masked w (in_HO w h)
  have iRR : ∀ w ∈ u_ws R_RR T_RR 10, w ∈ ws_RR_masked := fun w h => wb_RR_masked w (in_RR w h)
  have hl := lv_entry ([.ref h, .int (nI r), .int (nI f)]) (n := 5) (Nat.le_of_ble_eq_true rfl)
  rw [lg_entry_eq]
  generalize (lg_sl ([.ref h, .int (nI r), .int (nI f)]) ++ List.replicate (5 - (lg_sl ([.ref h, .int (nI r), .int (nI f)])).length) Slot.unset).toArray = ls at hl ⊢
  have hl : lv_has ls 5 [(0, .ref h), (1, .int (nI r)), (2, .int (nI f))] := hl
  refine lv_aload_n hx hb d_RR_masked_0 rfl (lv_at hl 0 rfl) ?_
  refine lv_iload_n hx hb d_RR_masked_1 rfl (lv_at hl 1 rfl) ?_
  have hPc := hP.sub (ws' := [(h, .inr (9, [.ref hPA, .ref hRD, .ref hRB, .ref hPE, .ref hHO, .ref hAG, .ref hLO, .ref hRQ, .ref hEX, .ref aFR])), (hHO, .inr (2, [.ref aFa, .ref aEm, .ref aVa, .int (nI hn)]))]) [0, 1] rfl
  have hKc := hK.sub (tys' := []) [] rfl
  refine va_callv (va_runV (As := [.int (nI r)]) (rest := []) ⟨hx, hb, hml, hown, hts⟩ (c_RR_requireRecord l dC dI h hPA hRD hRB hPE hHO hAG hLO hRQ hEX aFR aFa aEm aVa hn (by first | assumption | omega) r (by first | assumption | omega)) (cwV 1 hts (vz_gV wb_RR_masked b_456 b_458 bs_7 b_1 wc_RR_requireRecord) rfl rfl rfl (by decide +kernel) ⟨Nat.le_of_ble_eq_true rfl, Nat.le_of_ble_eq_true rfl⟩) (vz_preV hPc hKc (ci := 9) (q0 := 0) rfl rfl) rfl rfl hl.1 rfl (lv_room (Nat.le_of_ble_eq_true rfl)) d_RR_masked_2 ⟨Nat.le_of_ble_eq_true rfl, Nat.le_of_ble_eq_true rfl⟩) hS (fun q _ h => False.elim h) (fun q h => False.elim h) (fun u9 t9 H1 locs ht hvm hr2 hB hzx9 hkx9 hS => ?_)
  try dsimp only at hr2
  have hP := vz_kept hP hkx9
  generalize H1 = H at hP hS ⊢
  refine lv_iload_n hx hb d_RR_masked_5 rfl (lv_at hl 2 rfl) ?_
  have hPc := hP.sub (ws' := []) [] rfl
  have hKc := hK.sub (tys' := []) [] rfl
  refine va_callv (va_runS (As := [.int (nI f)]) (rest := []) ⟨hx, hb, hml, hown, hts⟩ (c_RR_requireField l dC dI f (by first | assumption | omega)) (va_cwS 1 hts (vz_gS wb_RR_masked b_461 b_462 b_1 wc_RR_requireField) rfl rfl rfl (by decide +kernel) ⟨Nat.le_of_ble_eq_true rfl, Nat.le_of_ble_eq_true rfl⟩) (vz_preS hPc hKc) rfl rfl hl.1 rfl (lv_room (Nat.le_of_ble_eq_true rfl)) d_RR_masked_6 ⟨Nat.le_of_ble_eq_true rfl, Nat.le_of_ble_eq_true rfl⟩) hS (fun q _ h => False.elim h) (fun q h => False.elim h) (fun u9 t9 H1 locs ht hvm hr6 hB hzx9 hkx9 hS => ?_)
  try dsimp only at hr6
  have hP := vz_kept hP hkx9
  generalize H1 = H at hP hS ⊢
  refine lv_aload_n hx hb d_RR_masked_9 rfl (lv_at hl 0 rfl) ?_
  refine va_get (D := (dC, dI)) (ci := 9) (v := .ref hHO) (C := R_RR) (T := T_RR) (N := 10) hx hb hts iRR hown hK hP 0 rfl rfl 4 (by decide) (hts _ (wb_RR_masked _ b_228)) (fun _ h9 => h9) rfl d_RR_masked_10 ?_
  refine lv_iload_n hx hb d_RR_masked_13 rfl (lv_at hl 1 rfl) ?_
  refine lv_iload_n hx hb d_RR_masked_14 rfl (lv_at hl 2 rfl) ?_
  have hPc := hP.sub (ws' := [(hHO, .inr (2, [.ref aFa, .ref aEm, .ref aVa, .int (nI hn)])), (aFa, .inl (cI, 16, .inl fa)), (aEm, .inl (cI, 16, .inl em)), (aVa, .inl (cL, 96, .inr (.inl va)))]) [1, 2, 3, 4] rfl
  have hKc := hK.sub (tys' := [(cI, .int), (cL, .long)]) [0, 1] rfl
  refine va_calll (va_runV (As := [.int (nI r), .int (nI f)]) (rest := []) ⟨hx, hb, hml, hown, hts⟩ (c_HO_at l dC dI cI cL hHO aFa aEm aVa fa em va hn r f (by first | assumption | omega) (by first | assumption | omega)) (cwV 2 hts (vz_gV wb_RR_masked b_545 b_470 b_471 b_6 wc_HO_at) rfl rfl rfl (by decide +kernel) ⟨Nat.le_of_ble_eq_true rfl, Nat.le_of_ble_eq_true rfl⟩) (vz_preV hPc hKc (ci := 2) (q0 := 0) rfl rfl) rfl rfl hl.1 rfl (lv_room (Nat.le_of_ble_eq_true rfl)) d_RR_masked_15 ⟨Nat.le_of_ble_eq_true rfl, Nat.le_of_ble_eq_true rfl⟩) hS (fun q _ h => False.elim h) (fun q h => False.elim h) (fun r15 u9 t9 H1 locs ht hvm hr15 hB hzx9 hkx9 hS => ?_)
  try dsimp only at hr15
  have hP := vz_kept hP hkx9
  generalize H1 = H at hP hS ⊢
  refine lv_lstore_n (lv' := [(3, .long r15), (0, .ref h), (1, .int (nI r)), (2, .int (nI f))]) hx hb d_RR_masked_18 rfl hl (by decide) rfl (fun ls hl => ?_)
  refine lv_lload_n hx hb d_RR_masked_19 rfl (lv_at hl 0 rfl) ?_
  refine lv_lload_n hx hb d_RR_masked_20 rfl (lv_at hl 0 rfl) ?_
  refine lv_ldc2 (v := 1000) hx hb hown (hts _ (wb_RR_masked _ b_546)) d_RR_masked_21 ?_
  refine lv_lrem hx hb d_RR_masked_24 (by decide) ?_
  refine lv_lsub hx hb d_RR_masked_25 ?_
  exact W.lret (v := r15 - (r15 - r15 / 1000 * 1000)) hx hb hr (fun t ht hW => ⟨⟨r15 - (r15 - r15 / 1000 * 1000), (), rfl, by rw [hr15], trivial⟩, hS.F ht⟩) hS.2.2 d_RR_masked_26

set_option maxHeartbeats 4000000 in
set_option maxRecDepth 100000 in
/-- RecordRights.embargo, where it may be -/
theorem c_RR_embargo (l : Launch) (dC : Nat → ClassId) (dI : Nat → Nat → Nat) (sz : Nat) (h hPA hRD hRB hPE hHO hAG hLO hRQ hEX aFR : Nat) (cI cL : ClassId) (aFa aEm aVa : Nat) (fa em : Nat → Int32) (va : Nat → Int64) (hn : Nat) (hhn : hn ≤ 16) (r : Nat) (hr : r < hn) (d : Int32) (hd : d = -1 ∨ (¬ d < 0 ∧ d ≤ 100000)) : Met l y_RR_embargo ws_RR_embargo ({ frames := 1, cells := 0, slots := 0, locals := 21 }) (va_Pc [.ref h, .int (nI r), .int d] (fun U => U.heap.size = sz ∧ va_P (dC, dI) vwCl [(h, .inr (9, [.ref hPA, .ref hRD, .ref hRB, .ref hPE, .ref hHO, .ref hAG, .ref hLO, .ref hRQ, .ref hEX, .ref aFR])), (hHO, .inr (2, [.ref aFa, .ref aEm, .ref aVa, .int (nI hn)])), (aFa, .inl (cI, 16, .inl fa)), (aEm, .inl (cI, 16, .inl em)), (aVa, .inl (cL, 96, .inr (.inl va)))] U.heap ∧ va_K (dC, dI) vwCl [(cI, .int), (cL, .long)] U ∧ va_D (fun _ => True) [(h, .inr (9, [.ref hPA, .ref hRD, .ref hRB, .ref hPE, .ref hHO, .ref hAG, .ref hLO, .ref hRQ, .ref hEX, .ref aFR])), (hHO, .inr (2, [.ref aFa, .ref aEm, .ref aVa, .int (nI hn)])), (aFa, .inl (cI, 16, .inl fa)), (aEm, .inl (cI, 16, .inl em)), (aVa, .inl (cL, 96, .inr (.inl va)))])) (va_Qi (fun (res : Int32) (_ : Unit) => res = em r) (fun _ t => va_P (dC, dI) vwCl [(h, .inr (9, [.ref hPA, .ref hRD, .ref hRB, .ref hPE, .ref hHO, .ref hAG, .ref hLO, .ref hRQ, .ref hEX, .ref aFR])), (hHO, .inr (2, [.ref aFa, .ref aEm, .ref aVa, .int (nI hn)])), (aFa, .inl (cI, 16, .inl fa)), (aEm, .inl (cI, 16, .inl (upd em r d))), (aVa, .inl (cL, 96, .inr (.inl va)))] t.heap ∧ va_K (dC, dI) vwCl [(cI, .int), (cL, .long)] t ∧ va_D (va_A [(h, .inr (9, [.ref hPA, .ref hRD, .ref hRB, .ref hPE, .ref hHO, .ref hAG, .ref hLO, .ref hRQ, .ref hEX, .ref aFR])), (hHO, .inr (2, [.ref aFa, .ref aEm, .ref aVa, .int (nI hn)])), (aFa, .inl (cI, 16, .inl fa)), (aEm, .inl (cI, 16, .inl em)), (aVa, .inl (cL, 96, .inr (.inl va)))] sz) [(h, .inr (9, [.ref hPA, .ref hRD, .ref hRB, .ref hPE, .ref hHO, .ref hAG, .ref hLO, .ref hRQ, .ref hEX, .ref aFR])), (hHO, .inr (2, [.ref aFa, .ref aEm, .ref aVa, .int (nI hn)])), (aFa, .inl (cI, 16, .inl fa)), (aEm, .inl (cI, 16, .inl (upd em r d))), (aVa, .inl (cL, 96, .inr (.inl va)))]) (va_A [(h, .inr (9, [.ref hPA, .ref hRD, .ref hRB, .ref hPE, .ref hHO, .ref hAG, .ref hLO, .ref hRQ, .ref hEX, .ref aFR])), (hHO, .inr (2, [.ref aFa, .ref aEm, .ref aVa, .int (nI hn)])), (aFa, .inl (cI, 16, .inl fa)), (aEm, .inl (cI, 16, .inl em)), (aVa, .inl (cL, 96, .inr (.inl va)))] sz)) 0 0 (va_A [(h, .inr (9, [.ref hPA, .ref hRD, .ref hRB, .ref hPE, .ref hHO, .ref hAG, .ref hLO, .ref hRQ, .ref hEX, .ref aFR])), (hHO, .inr (2, [.ref aFa, .ref aEm, .ref aVa, .int (nI hn)])), (aFa, .inl (cI, 16, .inl fa)), (aEm, .inl (cI, 16, .inl em)), (aVa, .inl (cL, 96, .inr (.inl va)))] sz) := by
  refine Met.ofW (cc := k_RR_embargo) (maxL := 4) (ret := (some .int)) (by decide) rfl ?_
  intro p e s m args below meth c s₁ B hml hv
  obtain ⟨rfl, hsz, hP, hK, hD0⟩ := hv
  have hx := B.exec
  have hb := B.bytes
  have hr := B.returns
  have hts := atoms_spec (ws := ws_RR_embargo) B.pre
  have hown : s.vm.findClass R_RR = some m.cls := findClass_of_methodNamed B.named
  have hlocks := B.notSynchronized
  subst hsz
  have hD := hD0.self (sz := s.heap.size)
  generalize hAe : va_A [(h, .inr (9, [.ref hPA, .ref hRD, .ref hRB, .ref hPE, .ref hHO, .ref hAG, .ref hLO, .ref hRQ, .ref hEX, .ref aFR])), (hHO, .inr (2, [.ref aFa, .ref aEm, .ref aVa, .int (nI hn)])), (aFa, .inl (cI, 16, .inl fa)), (aEm, .inl (cI, 16, .inl em)), (aVa, .inl (cL, 96, .inr (.inl va)))] s.heap.size = A at hD ⊢
  have hA : ∀ q : Nat, s.heap.size ≤ q → A q := fun q h => by rw [← hAe]; exact Or.inr h
  have hS : va_S A s.heap s.heap [] := va_S.rf
  have hP : va_P (dC, dI) vwCl [(h, .inr (9, [.ref hPA, .ref hRD, .ref hRB, .ref hPE, .ref hHO, .ref hAG, .ref hLO, .ref hRQ, .ref hEX, .ref aFR])), (hHO, .inr (2, [.ref aFa, .ref aEm, .ref aVa, .int (nI hn)])), (aFa, .inl (cI, 16, .inl fa)), (aEm, .inl (cI, 16, .inl em)), (aVa, .inl (cL, 96, .inr (.inl va)))] s.heap := hP
  have iHO : ∀ w ∈ u_ws R_HO T_HO 4, w ∈ ws_RR_embargo := fun w h => wb_RR_embargo w (in_HO w h)
  have iRR : ∀ w ∈ u_ws R_RR T_RR 10, w ∈ ws_RR_embargo := fun w h => wb_RR_embargo w (in_RR w h)
  have hl := lv_entry ([.ref h, .int (nI r), .int d]) (n := 4) (Nat.le_of_ble_eq_true rfl)
  rw [lg_entry_eq]
  generalize (lg_sl ([.ref h, .int (nI r), .int d]) ++ List.replicate (4 - (lg_sl ([.ref h, .int (nI r), .int d])).length) Slot.unset).toArray = ls at hl ⊢
  have hl : lv_has ls 4 [(0, .ref h), (1, .int (nI r)), (2, .int d)] := hl
  refine lv_aload_n hx hb d_RR_embargo_0 rfl (lv_at hl 0 rfl) ?_
  refine lv_iload_n hx hb d_RR_embargo_1 rfl (lv_at hl 1 rfl) ?_
  have hPc := hP.sub (ws' := [(h, .inr (9, [.ref hPA, .ref hRD, .ref hRB, .ref hPE, .ref hHO, .ref hAG, .ref hLO, .ref hRQ, .ref hEX, .ref aFR])), (hHO, .inr (2, [.ref aFa, .ref aEm, .ref aVa, .int (nI hn)]))]) [0, 1] rfl
  have hKc := hK.sub (tys' := []) [] rfl
  refine va_callv (va_runV (As := [.int (nI r)]) (rest := []) ⟨hx, hb, hml, hown, hts⟩ (c_RR_requireRecord l dC dI h hPA hRD hRB hPE hHO hAG hLO hRQ hEX aFR aFa aEm aVa hn (by first | assumption | omega) r (by first | assumption | omega)) (cwV 1 hts (vz_gV wb_RR_embargo b_456 b_458 bs_7 b_1 wc_RR_requireRecord) rfl rfl rfl (by decide +kernel) ⟨Nat.le_of_ble_eq_true rfl, Nat.le_of_ble_eq_true rfl⟩) (vz_preV hPc hKc (ci := 9) (q0 := 0) rfl rfl) rfl rfl hl.1 rfl (lv_room (Nat.le_of_ble_eq_true rfl)) d_RR_embargo_2 ⟨Nat.le_of_ble_eq_true rfl, Nat.le_of_ble_eq_true rfl⟩) hS (fun q _ h => False.elim h) (fun q h => False.elim h) (fun u9 t9 H1 locs ht hvm hr2 hB hzx9 hkx9 hS => ?_)
  try dsimp only at hr2
  have hP := vz_kept hP hkx9
  generalize H1 = H at hP hS ⊢
  refine lv_iload_n hx hb d_RR_embargo_5 rfl (lv_at hl 2 rfl) ?_
  refine lv_iconst (v := (-1)) hx hb d_RR_embargo_6 (by decide) ?_
  refine lv_icmp_eq (tgt := 14) hx hb d_RR_embargo_7 (by decide) (fun c7 => ?_) (fun c7 => ?_)
  · refine lv_aload_n hx hb d_RR_embargo_14 rfl (lv_at hl 0 rfl) ?_
    refine va_get (D := (dC, dI)) (ci := 9) (v := .ref hHO) (C := R_RR) (T := T_RR) (N := 10) hx hb hts iRR hown hK hP 0 rfl rfl 4 (by decide) (hts _ (wb_RR_embargo _ b_228)) (fun _ h9 => h9) rfl d_RR_embargo_15 ?_
    refine va_get (D := (dC, dI)) (ci := 2) (v := .ref aEm) (C := R_HO) (T := T_HO) (N := 4) hx hb hts iHO hown hK hP 1 rfl rfl 1 (by decide) (hts _ (wb_RR_embargo _ b_138)) (fun _ h9 => h9) rfl d_RR_embargo_18 ?_
    refine lv_iload_n hx hb d_RR_embargo_21 rfl (lv_at hl 1 rfl) ?_
    refine vz_iald (k := r) hx hb hK hP 3 0 rfl rfl (by omega) (by decide) d_RR_embargo_22 ?_
    refine lv_istore_n (lv' := [(3, .int (em r)), (0, .ref h), (1, .int (nI r)), (2, .int d)]) hx hb d_RR_embargo_23 rfl hl (by decide) rfl (fun ls hl => ?_)
    refine lv_aload_n hx hb d_RR_embargo_24 rfl (lv_at hl 1 rfl) ?_
    refine va_get (D := (dC, dI)) (ci := 9) (v := .ref hHO) (C := R_RR) (T := T_RR) (N := 10) hx hb hts iRR hown hK hP 0 rfl rfl 4 (by decide) (hts _ (wb_RR_embargo _ b_228)) (fun _ h9 => h9) rfl d_RR_embargo_25 ?_
    refine va_get (D := (dC, dI)) (ci := 2) (v := .ref aEm) (C := R_HO) (T := T_HO) (N := 4) hx hb hts iHO hown hK hP 1 rfl rfl 1 (by decide) (hts _ (wb_RR_embargo _ b_138)) (fun _ h9 => h9) rfl d_RR_embargo_28 ?_
    refine lv_iload_n hx hb d_RR_embargo_31 rfl (lv_at hl 2 rfl) ?_
    refine lv_iload_n hx hb d_RR_embargo_32 rfl (lv_at hl 3 rfl) ?_
    refine vz_iast (k := r) hx hb hK hP hD hS 3 0 rfl rfl (by omega) (by decide) d_RR_embargo_33 (fun H locs hP hD hS => ?_)
    have hP : va_P (dC, dI) vwCl [(h, .inr (9, [.ref hPA, .ref hRD, .ref hRB, .ref hPE, .ref hHO, .ref hAG, .ref hLO, .ref hRQ, .ref hEX, .ref aFR])), (hHO, .inr (2, [.ref aFa, .ref aEm, .ref aVa, .int (nI hn)])), (aFa, .inl (cI, 16, .inl fa)), (aEm, .inl (cI, 16, .inl (upd em r d))), (aVa, .inl (cL, 96, .inr (.inl va)))] H := hP
    have hD : va_D A [(h, .inr (9, [.ref hPA, .ref hRD, .ref hRB, .ref hPE, .ref hHO, .ref hAG, .ref hLO, .ref hRQ, .ref hEX, .ref aFR])), (hHO, .inr (2, [.ref aFa, .ref aEm, .ref aVa, .int (nI hn)])), (aFa, .inl (cI, 16, .inl fa)), (aEm, .inl (cI, 16, .inl (upd em r d))), (aVa, .inl (cL, 96, .inr (.inl va)))] := hD
    refine lv_iload_n hx hb d_RR_embargo_34 rfl (lv_at hl 0 rfl) ?_
    have hP9 := hP.sub (ws' := [(h, .inr (9, [.ref hPA, .ref hRD, .ref hRB, .ref hPE, .ref hHO, .ref hAG, .ref hLO, .ref hRQ, .ref hEX, .ref aFR])), (hHO, .inr (2, [.ref aFa, .ref aEm, .ref aVa, .int (nI hn)])), (aFa, .inl (cI, 16, .inl fa)), (aEm, .inl (cI, 16, .inl (upd em r d))), (aVa, .inl (cL, 96, .inr (.inl va)))]) [0, 1, 2, 3, 4] rfl
    have hD9 := hD.sub (ws' := [(h, .inr (9, [.ref hPA, .ref hRD, .ref hRB, .ref hPE, .ref hHO, .ref hAG, .ref hLO, .ref hRQ, .ref hEX, .ref aFR])), (hHO, .inr (2, [.ref aFa, .ref aEm, .ref aVa, .int (nI hn)])), (aFa, .inl (cI, 16, .inl fa)), (aEm, .inl (cI, 16, .inl (upd em r d))), (aVa, .inl (cL, 96, .inr (.inl va)))]) [0, 1, 2, 3, 4] (by decide) rfl
    exact W.iret (v := em r) hx hb hr (fun t ht hW => ⟨⟨em r, (), rfl, rfl, by rw [ht]; exact hP9, va_K.moved hW.alike hK, hD9⟩, hS.F ht⟩) hS.2.2 d_RR_embargo_35
  · refine lv_iload_n hx hb d_RR_embargo_10 rfl (lv_at hl 2 rfl) ?_
    have hPc := hP.sub (ws' := []) [] rfl
    have hKc := hK.sub (tys' := []) [] rfl
    refine va_callv (va_runS (As := [.int d]) (rest := []) ⟨hx, hb, hml, hown, hts⟩ (c_RR_requireDay l dC dI d ((hd.resolve_left c7).1) ((hd.resolve_left c7).2)) (va_cwS 1 hts (vz_gS wb_RR_embargo b_480 b_481 b_1 wc_RR_requireDay) rfl rfl rfl (by decide +kernel) ⟨Nat.le_of_ble_eq_true rfl, Nat.le_of_ble_eq_true rfl⟩) (vz_preS hPc hKc) rfl rfl hl.1 rfl (lv_room (Nat.le_of_ble_eq_true rfl)) d_RR_embargo_11 ⟨Nat.le_of_ble_eq_true rfl, Nat.le_of_ble_eq_true rfl⟩) hS (fun q _ h => False.elim h) (fun q h => False.elim h) (fun u9 t9 H1 locs ht hvm hr11 hB hzx9 hkx9 hS => ?_)
    try dsimp only at hr11
    have hP := vz_kept hP hkx9
    generalize H1 = H at hP hS ⊢
    refine lv_aload_n hx hb d_RR_embargo_14 rfl (lv_at hl 0 rfl) ?_
    refine va_get (D := (dC, dI)) (ci := 9) (v := .ref hHO) (C := R_RR) (T := T_RR) (N := 10) hx hb hts iRR hown hK hP 0 rfl rfl 4 (by decide) (hts _ (wb_RR_embargo _ b_228)) (fun _ h9 => h9) rfl d_RR_embargo_15 ?_
    refine va_get (D := (dC, dI)) (ci := 2) (v := .ref aEm) (C := R_HO) (T := T_HO) (N := 4) hx hb hts iHO hown hK hP 1 rfl rfl 1 (by decide) (hts _ (wb_RR_embargo _ b_138)) (fun _ h9 => h9) rfl d_RR_embargo_18 ?_
    refine lv_iload_n hx hb d_RR_embargo_21 rfl (lv_at hl 1 rfl) ?_
    refine vz_iald (k := r) hx hb hK hP 3 0 rfl rfl (by omega) (by decide) d_RR_embargo_22 ?_
    refine lv_istore_n (lv' := [(3, .int (em r)), (0, .ref h), (1, .int (nI r)), (2, .int d)]) hx hb d_RR_embargo_23 rfl hl (by decide) rfl (fun ls hl => ?_)
    refine lv_aload_n hx hb d_RR_embargo_24 rfl (lv_at hl 1 rfl) ?_
    refine va_get (D := (dC, dI)) (ci := 9) (v := .ref hHO) (C := R_RR) (T := T_RR) (N := 10) hx hb hts iRR hown hK hP 0 rfl rfl 4 (by decide) (hts _ (wb_RR_embargo _ b_228)) (fun _ h9 => h9) rfl d_RR_embargo_25 ?_
    refine va_get (D := (dC, dI)) (ci := 2) (v := .ref aEm) (C := R_HO) (T := T_HO) (N := 4) hx hb hts iHO hown hK hP 1 rfl rfl 1 (by decide) (hts _ (wb_RR_embargo _ b_138)) (fun _ h9 => h9) rfl d_RR_embargo_28 ?_
    refine lv_iload_n hx hb d_RR_embargo_31 rfl (lv_at hl 2 rfl) ?_
    refine lv_iload_n hx hb d_RR_embargo_32 rfl (lv_at hl 3 rfl) ?_
    refine vz_iast (k := r) hx hb hK hP hD hS 3 0 rfl rfl (by omega) (by decide) d_RR_embargo_33 (fun H locs hP hD hS => ?_)
    have hP : va_P (dC, dI) vwCl [(h, .inr (9, [.ref hPA, .ref hRD, .ref hRB, .ref hPE, .ref hHO, .ref hAG, .ref hLO, .ref hRQ, .ref hEX, .ref aFR])), (hHO, .inr (2, [.ref aFa, .ref aEm, .ref aVa, .int (nI hn)])), (aFa, .inl (cI, 16, .inl fa)), (aEm, .inl (cI, 16, .inl (upd em r d))), (aVa, .inl (cL, 96, .inr (.inl va)))] H := hP
    have hD : va_D A [(h, .inr (9, [.ref hPA, .ref hRD, .ref hRB, .ref hPE, .ref hHO, .ref hAG, .ref hLO, .ref hRQ, .ref hEX, .ref aFR])), (hHO, .inr (2, [.ref aFa, .ref aEm, .ref aVa, .int (nI hn)])), (aFa, .inl (cI, 16, .inl fa)), (aEm, .inl (cI, 16, .inl (upd em r d))), (aVa, .inl (cL, 96, .inr (.inl va)))] := hD
    refine lv_iload_n hx hb d_RR_embargo_34 rfl (lv_at hl 0 rfl) ?_
    have hP9 := hP.sub (ws' := [(h, .inr (9, [.ref hPA, .ref hRD, .ref hRB, .ref hPE, .ref hHO, .ref hAG, .ref hLO, .ref hRQ, .ref hEX, .ref aFR])), (hHO, .inr (2, [.ref aFa, .ref aEm, .ref aVa, .int (nI hn)])), (aFa, .inl (cI, 16, .inl fa)), (aEm, .inl (cI, 16, .inl (upd em r d))), (aVa, .inl (cL, 96, .inr (.inl va)))]) [0, 1, 2, 3, 4] rfl
    have hD9 := hD.sub (ws' := [(h, .inr (9, [.ref hPA, .ref hRD, .ref hRB, .ref hPE, .ref hHO, .ref hAG, .ref hLO, .ref hRQ, .ref hEX, .ref aFR])), (hHO, .inr (2, [.ref aFa, .ref aEm, .ref aVa, .int (nI hn)])), (aFa, .inl (cI, 16, .inl fa)), (aEm, .inl (cI, 16, .inl (upd em r d))), (aVa, .inl (cL, 96, .inr (.inl va)))]) [0, 1, 2, 3, 4] (by decide) rfl
    exact W.iret (v := em r) hx hb hr (fun t ht hW => ⟨⟨em r, (), rfl, rfl, by rw [ht]; exact hP9, va_K.moved hW.alike hK, hD9⟩, hS.F ht⟩) hS.2.2 d_RR_embargo_35

set_option maxHeartbeats 4000000 in
set_option maxRecDepth 100000 in
/-- RecordRights.agreement, where it may be -/
theorem c_RR_agreement (l : Launch) (dC : Nat → ClassId) (dI : Nat → Nat → Nat) (sz : Nat) (h hPA hRD hRB hPE hHO hAG hLO hRQ hEX aFR : Nat) (cI : ClassId) (aRo aLi : Nat) (en : Nat) (aFa aEm aVa : Nat) (hn : Nat) (aAP aAR aAF aAT : Nat) (ap ar af at_ : Nat → Int32) (an : Nat) (hen : en ≤ 12) (hhn : hn ≤ 16) (han : an < 40) (u r : Nat) (hu : u < en) (hr : r < hn) (f t1 : Int32) (hf0 : ¬ f < 0) (hf1 : f ≤ 100000) (ht0 : ¬ t1 < 0) (ht1 : t1 ≤ 100000) (hft : f ≤ t1) : Met l y_RR_agreement ws_RR_agreement ({ frames := 1, cells := 0, slots := 0, locals := 24 }) (va_Pc [.ref h, .int (nI u), .int (nI r), .int f, .int t1] (fun U => U.heap.size = sz ∧ va_P (dC, dI) vwCl [(h, .inr (9, [.ref hPA, .ref hRD, .ref hRB, .ref hPE, .ref hHO, .ref hAG, .ref hLO, .ref hRQ, .ref hEX, .ref aFR])), (hPE, .inr (5, [.ref aRo, .ref aLi, .int (nI en)])), (hHO, .inr (2, [.ref aFa, .ref aEm, .ref aVa, .int (nI hn)])), (hAG, .inr (0, [.ref aAP, .ref aAR, .ref aAF, .ref aAT, .int (nI an)])), (aAP, .inl (cI, 40, .inl ap)), (aAR, .inl (cI, 40, .inl ar)), (aAF, .inl (cI, 40, .inl af)), (aAT, .inl (cI, 40, .inl at_))] U.heap ∧ va_K (dC, dI) vwCl [(cI, .int)] U ∧ va_D (fun _ => True) [(h, .inr (9, [.ref hPA, .ref hRD, .ref hRB, .ref hPE, .ref hHO, .ref hAG, .ref hLO, .ref hRQ, .ref hEX, .ref aFR])), (hPE, .inr (5, [.ref aRo, .ref aLi, .int (nI en)])), (hHO, .inr (2, [.ref aFa, .ref aEm, .ref aVa, .int (nI hn)])), (hAG, .inr (0, [.ref aAP, .ref aAR, .ref aAF, .ref aAT, .int (nI an)])), (aAP, .inl (cI, 40, .inl ap)), (aAR, .inl (cI, 40, .inl ar)), (aAF, .inl (cI, 40, .inl af)), (aAT, .inl (cI, 40, .inl at_))])) (va_Qi (fun (res : Int32) (_ : Unit) => res = nI (an + 1)) (fun _ t => va_P (dC, dI) vwCl [(h, .inr (9, [.ref hPA, .ref hRD, .ref hRB, .ref hPE, .ref hHO, .ref hAG, .ref hLO, .ref hRQ, .ref hEX, .ref aFR])), (hPE, .inr (5, [.ref aRo, .ref aLi, .int (nI en)])), (hHO, .inr (2, [.ref aFa, .ref aEm, .ref aVa, .int (nI hn)])), (hAG, .inr (0, [.ref aAP, .ref aAR, .ref aAF, .ref aAT, .int (nI (an + 1))])), (aAP, .inl (cI, 40, .inl (upd ap an (nI u)))), (aAR, .inl (cI, 40, .inl (upd ar an (nI r)))), (aAF, .inl (cI, 40, .inl (upd af an f))), (aAT, .inl (cI, 40, .inl (upd at_ an t1)))] t.heap ∧ va_K (dC, dI) vwCl [(cI, .int)] t ∧ va_D (va_A [(h, .inr (9, [.ref hPA, .ref hRD, .ref hRB, .ref hPE, .ref hHO, .ref hAG, .ref hLO, .ref hRQ, .ref hEX, .ref aFR])), (hPE, .inr (5, [.ref aRo, .ref aLi, .int (nI en)])), (hHO, .inr (2, [.ref aFa, .ref aEm, .ref aVa, .int (nI hn)])), (hAG, .inr (0, [.ref aAP, .ref aAR, .ref aAF, .ref aAT, .int (nI an)])), (aAP, .inl (cI, 40, .inl ap)), (aAR, .inl (cI, 40, .inl ar)), (aAF, .inl (cI, 40, .inl af)), (aAT, .inl (cI, 40, .inl at_))] sz) [(h, .inr (9, [.ref hPA, .ref hRD, .ref hRB, .ref hPE, .ref hHO, .ref hAG, .ref hLO, .ref hRQ, .ref hEX, .ref aFR])), (hPE, .inr (5, [.ref aRo, .ref aLi, .int (nI en)])), (hHO, .inr (2, [.ref aFa, .ref aEm, .ref aVa, .int (nI hn)])), (hAG, .inr (0, [.ref aAP, .ref aAR, .ref aAF, .ref aAT, .int (nI (an + 1))])), (aAP, .inl (cI, 40, .inl (upd ap an (nI u)))), (aAR, .inl (cI, 40, .inl (upd ar an (nI r)))), (aAF, .inl (cI, 40, .inl (upd af an f))), (aAT, .inl (cI, 40, .inl (upd at_ an t1)))]) (va_A [(h, .inr (9, [.ref hPA, .ref hRD, .ref hRB, .ref hPE, .ref hHO, .ref hAG, .ref hLO, .ref hRQ, .ref hEX, .ref aFR])), (hPE, .inr (5, [.ref aRo, .ref aLi, .int (nI en)])), (hHO, .inr (2, [.ref aFa, .ref aEm, .ref aVa, .int (nI hn)])), (hAG, .inr (0, [.ref aAP, .ref aAR, .ref aAF, .ref aAT, .int (nI an)])), (aAP, .inl (cI, 40, .inl ap)), (aAR, .inl (cI, 40, .inl ar)), (aAF, .inl (cI, 40, .inl af)), (aAT, .inl (cI, 40, .inl at_))] sz)) 0 0 (va_A [(h, .inr (9, [.ref hPA, .ref hRD, .ref hRB, .ref hPE, .ref hHO, .ref hAG, .ref hLO, .ref hRQ, .ref hEX, .ref aFR])), (hPE, .inr (5, [.ref aRo, .ref aLi, .int (nI en)])), (hHO, .inr (2, [.ref aFa, .ref aEm, .ref aVa, .int (nI hn)])), (hAG, .inr (0, [.ref aAP, .ref aAR, .ref aAF, .ref aAT, .int (nI an)])), (aAP, .inl (cI, 40, .inl ap)), (aAR, .inl (cI, 40, .inl ar)), (aAF, .inl (cI, 40, .inl af)), (aAT, .inl (cI, 40, .inl at_))] sz) := by
  refine Met.ofW (cc := k_RR_agreement) (maxL := 5) (ret := (some .int)) (by decide) rfl ?_
  intro p e s m args below meth c s₁ B hml hv
  obtain ⟨rfl, hsz, hP, hK, hD0⟩ := hv
  have hx := B.exec
  have hb := B.bytes
  have hr := B.returns
  have hts := atoms_spec (ws := ws_RR_agreement) B.pre
  have hown : s.vm.findClass R_RR = some m.cls := findClass_of_methodNamed B.named
  have hlocks := B.notSynchronized
  subst hsz
  have hD := hD0.self (sz := s.heap.size)
  generalize hAe : va_A [(h, .inr (9, [.ref hPA, .ref hRD, .ref hRB, .ref hPE, .ref hHO, .ref hAG, .ref hLO, .ref hRQ, .ref hEX, .ref aFR])), (hPE, .inr (5, [.ref aRo, .ref aLi, .int (nI en)])), (hHO, .inr (2, [.ref aFa, .ref aEm, .ref aVa, .int (nI hn)])), (hAG, .inr (0, [.ref aAP, .ref aAR, .ref aAF, .ref aAT, .int (nI an)])), (aAP, .inl (cI, 40, .inl ap)), (aAR, .inl (cI, 40, .inl ar)), (aAF, .inl (cI, 40, .inl af)), (aAT, .inl (cI, 40, .inl at_))] s.heap.size = A at hD ⊢
  have hA : ∀ q : Nat, s.heap.size ≤ q → A q := fun q h => by rw [← hAe]; exact Or.inr h
  have hS : va_S A s.heap s.heap [] := va_S.rf
  have hP : va_P (dC, dI) vwCl [(h, .inr (9, [.ref hPA, .ref hRD, .ref hRB, .ref hPE, .ref hHO, .ref hAG, .ref hLO, .ref hRQ, .ref hEX, .ref aFR])), (hPE, .inr (5, [.ref aRo, .ref aLi, .int (nI en)])), (hHO, .inr (2, [.ref aFa, .ref aEm, .ref aVa, .int (nI hn)])), (hAG, .inr (0, [.ref aAP, .ref aAR, .ref aAF, .ref aAT, .int (nI an)])), (aAP, .inl (cI, 40, .inl ap)), (aAR, .inl (cI, 40, .inl ar)), (aAF, .inl (cI, 40, .inl af)), (aAT, .inl (cI, 40, .inl at_))] s.heap := hP
  have iAG : ∀ w ∈ u_ws R_AG T_AG 5, w ∈ ws_RR_agreement := fun w h => wb_RR_agreement w (in_AG w h)
  have iHO : ∀ w ∈ u_ws R_HO T_HO 4, w ∈ ws_RR_agreement := fun w h => wb_RR_agreement w (in_HO w h)
  have iPE : ∀ w ∈ u_ws R_PE T_PE 3, w ∈ ws_RR_agreement := fun w h => wb_RR_agreement w (in_PE w h)
  have iRR : ∀ w ∈ u_ws R_RR T_RR 10, w ∈ ws_RR_agreement := fun w h => wb_RR_agreement w (in_RR w h)
  have hl := lv_entry ([.ref h, .int (nI u), .int (nI r), .int f, .int t1]) (n := 5) (Nat.le_of_ble_eq_true rfl)
  rw [lg_entry_eq]
  generalize (lg_sl ([.ref h, .int (nI u), .int (nI r), .int f, .int t1]) ++ List.replicate (5 - (lg_sl ([.ref h, .int (nI u), .int (nI r), .int f, .int t1])).length) Slot.unset).toArray = ls at hl ⊢
  have hl : lv_has ls 5 [(0, .ref h), (1, .int (nI u)), (2, .int (nI r)), (3, .int f), (4, .int t1)] := hl
  refine lv_aload_n hx hb d_RR_agreement_0 rfl (lv_at hl 0 rfl) ?_
  refine lv_iload_n hx hb d_RR_agreement_1 rfl (lv_at hl 1 rfl) ?_
  have hPc := hP.sub (ws' := [(h, .inr (9, [.ref hPA, .ref hRD, .ref hRB, .ref hPE, .ref hHO, .ref hAG, .ref hLO, .ref hRQ, .ref hEX, .ref aFR])), (hPE, .inr (5, [.ref aRo, .ref aLi, .int (nI en)]))]) [0, 1] rfl
  have hKc := hK.sub (tys' := []) [] rfl
  refine va_callv (va_runV (As := [.int (nI u)]) (rest := []) ⟨hx, hb, hml, hown, hts⟩ (c_RR_requirePerson l dC dI h hPA hRD hRB hPE hHO hAG hLO hRQ hEX aFR aRo aLi en (by first | assumption | omega) u (by first | assumption | omega)) (cwV 1 hts (vz_gV wb_RR_agreement b_492 b_494 bs_8 b_1 wc_RR_requirePerson) rfl rfl rfl (by decide +kernel) ⟨Nat.le_of_ble_eq_true rfl, Nat.le_of_ble_eq_true rfl⟩) (vz_preV hPc hKc (ci := 9) (q0 := 0) rfl rfl) rfl rfl hl.1 rfl (lv_room (Nat.le_of_ble_eq_true rfl)) d_RR_agreement_2 ⟨Nat.le_of_ble_eq_true rfl, Nat.le_of_ble_eq_true rfl⟩) hS (fun q _ h => False.elim h) (fun q h => False.elim h) (fun u9 t9 H1 locs ht hvm hr2 hB hzx9 hkx9 hS => ?_)
  try dsimp only at hr2
  have hP := vz_kept hP hkx9
  generalize H1 = H at hP hS ⊢
  refine lv_aload_n hx hb d_RR_agreement_5 rfl (lv_at hl 0 rfl) ?_
  refine lv_iload_n hx hb d_RR_agreement_6 rfl (lv_at hl 2 rfl) ?_
  have hPc := hP.sub (ws' := [(h, .inr (9, [.ref hPA, .ref hRD, .ref hRB, .ref hPE, .ref hHO, .ref hAG, .ref hLO, .ref hRQ, .ref hEX, .ref aFR])), (hHO, .inr (2, [.ref aFa, .ref aEm, .ref aVa, .int (nI hn)]))]) [0, 2] rfl
  have hKc := hK.sub (tys' := []) [] rfl
  refine va_callv (va_runV (As := [.int (nI r)]) (rest := []) ⟨hx, hb, hml, hown, hts⟩ (c_RR_requireRecord l dC dI h hPA hRD hRB hPE hHO hAG hLO hRQ hEX aFR aFa aEm aVa hn (by first | assumption | omega) r (by first | assumption | omega)) (cwV 1 hts (vz_gV wb_RR_agreement b_456 b_458 bs_7 b_1 wc_RR_requireRecord) rfl rfl rfl (by decide +kernel) ⟨Nat.le_of_ble_eq_true rfl, Nat.le_of_ble_eq_true rfl⟩) (vz_preV hPc hKc (ci := 9) (q0 := 0) rfl rfl) rfl rfl hl.1 rfl (lv_room (Nat.le_of_ble_eq_true rfl)) d_RR_agreement_7 ⟨Nat.le_of_ble_eq_true rfl, Nat.le_of_ble_eq_true rfl⟩) hS (fun q _ h => False.elim h) (fun q h => False.elim h) (fun u9 t9 H1 locs ht hvm hr7 hB hzx9 hkx9 hS => ?_)
  try dsimp only at hr7
  have hP := vz_kept hP hkx9
  generalize H1 = H at hP hS ⊢
  refine lv_iload_n hx hb d_RR_agreement_10 rfl (lv_at hl 3 rfl) ?_
  have hPc := hP.sub (ws' := []) [] rfl
  have hKc := hK.sub (tys' := []) [] rfl
  refine va_callv (va_runS (As := [.int f]) (rest := []) ⟨hx, hb, hml, hown, hts⟩ (c_RR_requireDay l dC dI f (by first | assumption | omega) (by first | assumption | omega)) (va_cwS 1 hts (vz_gS wb_RR_agreement b_480 b_481 b_1 wc_RR_requireDay) rfl rfl rfl (by decide +kernel) ⟨Nat.le_of_ble_eq_true rfl, Nat.le_of_ble_eq_true rfl⟩) (vz_preS hPc hKc) rfl rfl hl.1 rfl (lv_room (Nat.le_of_ble_eq_true rfl)) d_RR_agreement_11 ⟨Nat.le_of_ble_eq_true rfl, Nat.le_of_ble_eq_true rfl⟩) hS (fun q _ h => False.elim h) (fun q h => False.elim h) (fun u9 t9 H1 locs ht hvm hr11 hB hzx9 hkx9 hS => ?_)
  try dsimp only at hr11
  have hP := vz_kept hP hkx9
  generalize H1 = H at hP hS ⊢
  refine lv_iload hx hb d_RR_agreement_14 (lv_at hl 4 rfl) ?_
  have hPc := hP.sub (ws' := []) [] rfl
  have hKc := hK.sub (tys' := []) [] rfl
  refine va_callv (va_runS (As := [.int t1]) (rest := []) ⟨hx, hb, hml, hown, hts⟩ (c_RR_requireDay l dC dI t1 (by first | assumption | omega) (by first | assumption | omega)) (va_cwS 1 hts (vz_gS wb_RR_agreement b_480 b_481 b_1 wc_RR_requireDay) rfl rfl rfl (by decide +kernel) ⟨Nat.le_of_ble_eq_true rfl, Nat.le_of_ble_eq_true rfl⟩) (vz_preS hPc hKc) rfl rfl hl.1 rfl (lv_room (Nat.le_of_ble_eq_true rfl)) d_RR_agreement_16 ⟨Nat.le_of_ble_eq_true rfl, Nat.le_of_ble_eq_true rfl⟩) hS (fun q _ h => False.elim h) (fun q h => False.elim h) (fun u9 t9 H1 locs ht hvm hr16 hB hzx9 hkx9 hS => ?_)
  try dsimp only at hr16
  have hP := vz_kept hP hkx9
  generalize H1 = H at hP hS ⊢
  refine lv_iload_n hx hb d_RR_agreement_19 rfl (lv_at hl 3 rfl) ?_
  refine lv_iload hx hb d_RR_agreement_20 (lv_at hl 4 rfl) ?_
  refine lv_icmp_le (tgt := 35) hx hb d_RR_agreement_22 (by decide) (fun c22 => ?_) (fun c22 => ?_)
  · refine lv_aload_n hx hb d_RR_agreement_35 rfl (lv_at hl 0 rfl) ?_
    refine va_get (D := (dC, dI)) (ci := 9) (v := .ref hAG) (C := R_RR) (T := T_RR) (N := 10) hx hb hts iRR hown hK hP 0 rfl rfl 5 (by decide) (hts _ (wb_RR_agreement _ b_229)) (fun _ h9 => h9) rfl d_RR_agreement_36 ?_
    refine va_get (D := (dC, dI)) (ci := 0) (v := .int (nI an)) (C := R_AG) (T := T_AG) (N := 5) hx hb hts iAG hown hK hP 3 rfl rfl 4 (by decide) (hts _ (wb_RR_agreement _ b_163)) (fun _ h9 => h9) rfl d_RR_agreement_39 ?_
    refine lv_bipush (v := 40) hx hb d_RR_agreement_42 (by decide) ?_
    refine lv_icmp_lt (tgt := 57) hx hb d_RR_agreement_44 (by decide) (fun c44 => ?_) (fun c44 => ?_)
    · refine lv_aload_n hx hb d_RR_agreement_57 rfl (lv_at hl 0 rfl) ?_
      refine va_get (D := (dC, dI)) (ci := 9) (v := .ref hAG) (C := R_RR) (T := T_RR) (N := 10) hx hb hts iRR hown hK hP 0 rfl rfl 5 (by decide) (hts _ (wb_RR_agreement _ b_229)) (fun _ h9 => h9) rfl d_RR_agreement_58 ?_
      refine lv_iload_n hx hb d_RR_agreement_61 rfl (lv_at hl 1 rfl) ?_
      refine lv_iload_n hx hb d_RR_agreement_62 rfl (lv_at hl 2 rfl) ?_
      refine lv_iload_n hx hb d_RR_agreement_63 rfl (lv_at hl 3 rfl) ?_
      refine lv_iload hx hb d_RR_agreement_64 (lv_at hl 4 rfl) ?_
      have hPc := hP.sub (ws' := [(hAG, .inr (0, [.ref aAP, .ref aAR, .ref aAF, .ref aAT, .int (nI an)])), (aAP, .inl (cI, 40, .inl ap)), (aAR, .inl (cI, 40, .inl ar)), (aAF, .inl (cI, 40, .inl af)), (aAT, .inl (cI, 40, .inl at_))]) [3, 4, 5, 6, 7] rfl
      have hKc := hK.sub (tys' := [(cI, .int)]) [0] rfl
      have hDc := hD.sub (ws' := [(hAG, .inr (0, [.ref aAP, .ref aAR, .ref aAF, .ref aAT, .int (nI an)])), (aAP, .inl (cI, 40, .inl ap)), (aAR, .inl (cI, 40, .inl ar)), (aAF, .inl (cI, 40, .inl af)), (aAT, .inl (cI, 40, .inl at_))]) [3, 4, 5, 6, 7] (by decide) rfl
      have hFc := va_free (wc := [(hAG, .inr (0, [.ref aAP, .ref aAR, .ref aAF, .ref aAT, .int (nI an)])), (aAP, .inl (cI, 40, .inl ap)), (aAR, .inl (cI, 40, .inl ar)), (aAF, .inl (cI, 40, .inl af)), (aAT, .inl (cI, 40, .inl at_))]) hD hS hA [3, 4, 5, 6, 7] rfl
      refine va_callv (va_runV (As := [.int (nI u), .int (nI r), .int f, .int t1]) (rest := []) ⟨hx, hb, hml, hown, hts⟩ (c_AG_add l dC dI H.size cI hAG aAP aAR aAF aAT ap ar af at_ an (by first | assumption | omega) (nI u) (nI r) f t1) (cwV 4 hts (vz_gV wb_RR_agreement b_499 b_500 b_501 b_7 wc_AG_add) rfl rfl rfl (by decide +kernel) ⟨Nat.le_of_ble_eq_true rfl, Nat.le_of_ble_eq_true rfl⟩) (vz_preVw (A := A) hPc hKc hDc (ci := 0) (q0 := 0) rfl rfl) rfl rfl hl.1 rfl (lv_room (Nat.le_of_ble_eq_true rfl)) d_RR_agreement_66 ⟨Nat.le_of_ble_eq_true rfl, Nat.le_of_ble_eq_true rfl⟩) hS (fun q _ h => hFc q h) hFc (fun u9 t9 H1 locs ht hvm hr66 hB hzx9 hkx9 hS => ?_)
      try dsimp only at hr66
      obtain ⟨hP1, hK1, hD1⟩ := hB
      rw [ht] at hP1
      obtain ⟨hP, hD⟩ := va_join (wr := [(h, .inr (9, [.ref hPA, .ref hRD, .ref hRB, .ref hPE, .ref hHO, .ref hAG, .ref hLO, .ref hRQ, .ref hEX, .ref aFR])), (hPE, .inr (5, [.ref aRo, .ref aLi, .int (nI en)])), (hHO, .inr (2, [.ref aFa, .ref aEm, .ref aVa, .int (nI hn)]))]) (w1 := [(hAG, .inr (0, [.ref aAP, .ref aAR, .ref aAF, .ref aAT, .int (nI (an + 1))])), (aAP, .inl (cI, 40, .inl (upd ap an (nI u)))), (aAR, .inl (cI, 40, .inl (upd ar an (nI r)))), (aAF, .inl (cI, 40, .inl (upd af an f))), (aAT, .inl (cI, 40, .inl (upd at_ an t1)))]) hP hD [3, 4, 5, 6, 7] [0, 1, 2] rfl rfl (by decide) (by decide) hkx9 hFc hP1 hD1
      generalize H1 = H at hP hS ⊢
      have hP : va_P (dC, dI) vwCl [(h, .inr (9, [.ref hPA, .ref hRD, .ref hRB, .ref hPE, .ref hHO, .ref hAG, .ref hLO, .ref hRQ, .ref hEX, .ref aFR])), (hPE, .inr (5, [.ref aRo, .ref aLi, .int (nI en)])), (hHO, .inr (2, [.ref aFa, .ref aEm, .ref aVa, .int (nI hn)])), (hAG, .inr (0, [.ref aAP, .ref aAR, .ref aAF, .ref aAT, .int (nI (an + 1))])), (aAP, .inl (cI, 40, .inl (upd ap an (nI u)))), (aAR, .inl (cI, 40, .inl (upd ar an (nI r)))), (aAF, .inl (cI, 40, .inl (upd af an f))), (aAT, .inl (cI, 40, .inl (upd at_ an t1)))] H := hP
      have hD : va_D A [(h, .inr (9, [.ref hPA, .ref hRD, .ref hRB, .ref hPE, .ref hHO, .ref hAG, .ref hLO, .ref hRQ, .ref hEX, .ref aFR])), (hPE, .inr (5, [.ref aRo, .ref aLi, .int (nI en)])), (hHO, .inr (2, [.ref aFa, .ref aEm, .ref aVa, .int (nI hn)])), (hAG, .inr (0, [.ref aAP, .ref aAR, .ref aAF, .ref aAT, .int (nI (an + 1))])), (aAP, .inl (cI, 40, .inl (upd ap an (nI u)))), (aAR, .inl (cI, 40, .inl (upd ar an (nI r)))), (aAF, .inl (cI, 40, .inl (upd af an f))), (aAT, .inl (cI, 40, .inl (upd at_ an t1)))] := hD
      refine lv_aload_n hx hb d_RR_agreement_69 rfl (lv_at hl 0 rfl) ?_
      refine va_get (D := (dC, dI)) (ci := 9) (v := .ref hAG) (C := R_RR) (T := T_RR) (N := 10) hx hb hts iRR hown hK hP 0 rfl rfl 5 (by decide) (hts _ (wb_RR_agreement _ b_229)) (fun _ h9 => h9) rfl d_RR_agreement_70 ?_
      refine va_get (D := (dC, dI)) (ci := 0) (v := .int (nI (an + 1))) (C := R_AG) (T := T_AG) (N := 5) hx hb hts iAG hown hK hP 3 rfl rfl 4 (by decide) (hts _ (wb_RR_agreement _ b_163)) (fun _ h9 => h9) rfl d_RR_agreement_73 ?_
      have hP9 := hP.sub (ws' := [(h, .inr (9, [.ref hPA, .ref hRD, .ref hRB, .ref hPE, .ref hHO, .ref hAG, .ref hLO, .ref hRQ, .ref hEX, .ref aFR])), (hPE, .inr (5, [.ref aRo, .ref aLi, .int (nI en)])), (hHO, .inr (2, [.ref aFa, .ref aEm, .ref aVa, .int (nI hn)])), (hAG, .inr (0, [.ref aAP, .ref aAR, .ref aAF, .ref aAT, .int (nI (an + 1))])), (aAP, .inl (cI, 40, .inl (upd ap an (nI u)))), (aAR, .inl (cI, 40, .inl (upd ar an (nI r)))), (aAF, .inl (cI, 40, .inl (upd af an f))), (aAT, .inl (cI, 40, .inl (upd at_ an t1)))]) [0, 1, 2, 3, 4, 5, 6, 7] rfl
      have hD9 := hD.sub (ws' := [(h, .inr (9, [.ref hPA, .ref hRD, .ref hRB, .ref hPE, .ref hHO, .ref hAG, .ref hLO, .ref hRQ, .ref hEX, .ref aFR])), (hPE, .inr (5, [.ref aRo, .ref aLi, .int (nI en)])), (hHO, .inr (2, [.ref aFa, .ref aEm, .ref aVa, .int (nI hn)])), (hAG, .inr (0, [.ref aAP, .ref aAR, .ref aAF, .ref aAT, .int (nI (an + 1))])), (aAP, .inl (cI, 40, .inl (upd ap an (nI u)))), (aAR, .inl (cI, 40, .inl (upd ar an (nI r)))), (aAF, .inl (cI, 40, .inl (upd af an f))), (aAT, .inl (cI, 40, .inl (upd at_ an t1)))]) [0, 1, 2, 3, 4, 5, 6, 7] (by decide) rfl
      exact W.iret (v := nI (an + 1)) hx hb hr (fun t ht hW => ⟨⟨nI (an + 1), (), rfl, rfl, by rw [ht]; exact hP9, va_K.moved hW.alike hK, hD9⟩, hS.F ht⟩) hS.2.2 d_RR_agreement_76
    · exact absurd ((nI_ltI (show an < 2147483648 by omega) (show 40 < 2147483648 by omega)).mpr han) c44
  · exact absurd hft c22

set_option maxHeartbeats 4000000 in
set_option maxRecDepth 100000 in
/-- RecordRights.asks, the look not kept -/
theorem c_RR_asksNo (l : Launch) (dC : Nat → ClassId) (dI : Nat → Nat → Nat) (sz : Nat) (h hPA hRD hRB hPE hHO hAG hLO hRQ hEX aFR : Nat) (cI cL : ClassId) (aN aB : Nat) (nd br : Nat → Int32) (bn : Nat) (tl ab mk sh : Int32) (aRo aLi : Nat) (ro li : Nat → Int32) (en : Nat) (aFa aEm aVa : Nat) (fa em : Nat → Int32) (va : Nat → Int64) (hn : Nat) (aAP aAR aAF aAT : Nat) (ap ar af at_ : Nat → Int32) (an : Nat) (aLP aLL : Nat) (lp lk : Nat → Int32) (ln : Nat) (hbn : bn ≤ 20) (hen : en ≤ 12) (hhn : hn ≤ 16) (han : an ≤ 40) (u r f q : Nat) (hu : u < en) (hr : r < hn) (hf : f < 6) (hq : q < 4) (d : Int32) (hd0 : ¬ d < 0) (hd1 : d ≤ 100000) (hln : ln ≤ 100) (hkp : ansF ab mk sh (openF nd br tl bn (ro u) (em r) (fa r) d (hasAg ap ar af at_ an (nI u) (nI r) d) &&& ruleFF nd br tl bn (nI f) (nI q)) = 0 ∨ 100 ≤ ln) : Met l y_RR_asks ws_RR_asks ({ frames := 2, cells := 0, slots := 0, locals := 50 }) (va_Pc [.ref h, .int (nI u), .int (nI r), .int (nI f), .int (nI q), .int d] (fun U => U.heap.size = sz ∧ va_P (dC, dI) vwCl [(h, .inr (9, [.ref hPA, .ref hRD, .ref hRB, .ref hPE, .ref hHO, .ref hAG, .ref hLO, .ref hRQ, .ref hEX, .ref aFR])), (hRB, .inr (7, [.ref aN, .ref aB, .int (nI bn), .int tl, .int ab, .int mk, .int sh])), (aN, .inl (cI, 20, .inl nd)), (aB, .inl (cI, 20, .inl br)), (hPE, .inr (5, [.ref aRo, .ref aLi, .int (nI en)])), (aRo, .inl (cI, 12, .inl ro)), (aLi, .inl (cI, 12, .inl li)), (hHO, .inr (2, [.ref aFa, .ref aEm, .ref aVa, .int (nI hn)])), (aFa, .inl (cI, 16, .inl fa)), (aEm, .inl (cI, 16, .inl em)), (aVa, .inl (cL, 96, .inr (.inl va))), (hAG, .inr (0, [.ref aAP, .ref aAR, .ref aAF, .ref aAT, .int (nI an)])), (aAP, .inl (cI, 40, .inl ap)), (aAR, .inl (cI, 40, .inl ar)), (aAF, .inl (cI, 40, .inl af)), (aAT, .inl (cI, 40, .inl at_)), (hLO, .inr (3, [.ref aLP, .ref aLL, .int (nI ln)])), (aLP, .inl (cI, 600, .inl lp)), (aLL, .inl (cI, 16, .inl lk))] U.heap ∧ va_K (dC, dI) vwCl [(cI, .int), (cL, .long)] U ∧ va_D (fun _ => True) [(h, .inr (9, [.ref hPA, .ref hRD, .ref hRB, .ref hPE, .ref hHO, .ref hAG, .ref hLO, .ref hRQ, .ref hEX, .ref aFR])), (hRB, .inr (7, [.ref aN, .ref aB, .int (nI bn), .int tl, .int ab, .int mk, .int sh])), (aN, .inl (cI, 20, .inl nd)), (aB, .inl (cI, 20, .inl br)), (hPE, .inr (5, [.ref aRo, .ref aLi, .int (nI en)])), (aRo, .inl (cI, 12, .inl ro)), (aLi, .inl (cI, 12, .inl li)), (hHO, .inr (2, [.ref aFa, .ref aEm, .ref aVa, .int (nI hn)])), (aFa, .inl (cI, 16, .inl fa)), (aEm, .inl (cI, 16, .inl em)), (aVa, .inl (cL, 96, .inr (.inl va))), (hAG, .inr (0, [.ref aAP, .ref aAR, .ref aAF, .ref aAT, .int (nI an)])), (aAP, .inl (cI, 40, .inl ap)), (aAR, .inl (cI, 40, .inl ar)), (aAF, .inl (cI, 40, .inl af)), (aAT, .inl (cI, 40, .inl at_)), (hLO, .inr (3, [.ref aLP, .ref aLL, .int (nI ln)])), (aLP, .inl (cI, 600, .inl lp)), (aLL, .inl (cI, 16, .inl lk))])) (va_Qi (fun (res : Int32) (_ : Unit) => res = ansF ab mk sh (openF nd br tl bn (ro u) (em r) (fa r) d (hasAg ap ar af at_ an (nI u) (nI r) d) &&& ruleFF nd br tl bn (nI f) (nI q))) (fun _ t => va_P (dC, dI) vwCl [(h, .inr (9, [.ref hPA, .ref hRD, .ref hRB, .ref hPE, .ref hHO, .ref hAG, .ref hLO, .ref hRQ, .ref hEX, .ref aFR])), (hRB, .inr (7, [.ref aN, .ref aB, .int (nI bn), .int tl, .int ab, .int mk, .int sh])), (aN, .inl (cI, 20, .inl nd)), (aB, .inl (cI, 20, .inl br)), (hPE, .inr (5, [.ref aRo, .ref aLi, .int (nI en)])), (aRo, .inl (cI, 12, .inl ro)), (aLi, .inl (cI, 12, .inl li)), (hHO, .inr (2, [.ref aFa, .ref aEm, .ref aVa, .int (nI hn)])), (aFa, .inl (cI, 16, .inl fa)), (aEm, .inl (cI, 16, .inl em)), (aVa, .inl (cL, 96, .inr (.inl va))), (hAG, .inr (0, [.ref aAP, .ref aAR, .ref aAF, .ref aAT, .int (nI an)])), (aAP, .inl (cI, 40, .inl ap)), (aAR, .inl (cI, 40, .inl ar)), (aAF, .inl (cI, 40, .inl af)), (aAT, .inl (cI, 40, .inl at_)), (hLO, .inr (3, [.ref aLP, .ref aLL, .int (nI ln)])), (aLP, .inl (cI, 600, .inl lp)), (aLL, .inl (cI, 16, .inl lk))] t.heap ∧ va_K (dC, dI) vwCl [(cI, .int), (cL, .long)] t ∧ va_D (va_A [(h, .inr (9, [.ref hPA, .ref hRD, .ref hRB, .ref hPE, .ref hHO, .ref hAG, .ref hLO, .ref hRQ, .ref hEX, .ref aFR])), (hRB, .inr (7, [.ref aN, .ref aB, .int (nI bn), .int tl, .int ab, .int mk, .int sh])), (aN, .inl (cI, 20, .inl nd)), (aB, .inl (cI, 20, .inl br)), (hPE, .inr (5, [.ref aRo, .ref aLi, .int (nI en)])), (aRo, .inl (cI, 12, .inl ro)), (aLi, .inl (cI, 12, .inl li)), (hHO, .inr (2, [.ref aFa, .ref aEm, .ref aVa, .int (nI hn)])), (aFa, .inl (cI, 16, .inl fa)), (aEm, .inl (cI, 16, .inl em)), (aVa, .inl (cL, 96, .inr (.inl va))), (hAG, .inr (0, [.ref aAP, .ref aAR, .ref aAF, .ref aAT, .int (nI an)])), (aAP, .inl (cI, 40, .inl ap)), (aAR, .inl (cI, 40, .inl ar)), (aAF, .inl (cI, 40, .inl af)), (aAT, .inl (cI, 40, .inl at_)), (hLO, .inr (3, [.ref aLP, .ref aLL, .int (nI ln)])), (aLP, .inl (cI, 600, .inl lp)), (aLL, .inl (cI, 16, .inl lk))] sz) [(h, .inr (9, [.ref hPA, .ref hRD, .ref hRB, .ref hPE, .ref hHO, .ref hAG, .ref hLO, .ref hRQ, .ref hEX, .ref aFR])), (hRB, .inr (7, [.ref aN, .ref aB, .int (nI bn), .int tl, .int ab, .int mk, .int sh])), (aN, .inl (cI, 20, .inl nd)), (aB, .inl (cI, 20, .inl br)), (hPE, .inr (5, [.ref aRo, .ref aLi, .int (nI en)])), (aRo, .inl (cI, 12, .inl ro)), (aLi, .inl (cI, 12, .inl li)), (hHO, .inr (2, [.ref aFa, .ref aEm, .ref aVa, .int (nI hn)])), (aFa, .inl (cI, 16, .inl fa)), (aEm, .inl (cI, 16, .inl em)), (aVa, .inl (cL, 96, .inr (.inl va))), (hAG, .inr (0, [.ref aAP, .ref aAR, .ref aAF, .ref aAT, .int (nI an)])), (aAP, .inl (cI, 40, .inl ap)), (aAR, .inl (cI, 40, .inl ar)), (aAF, .inl (cI, 40, .inl af)), (aAT, .inl (cI, 40, .inl at_)), (hLO, .inr (3, [.ref aLP, .ref aLL, .int (nI ln)])), (aLP, .inl (cI, 600, .inl lp)), (aLL, .inl (cI, 16, .inl lk))]) (va_A [(h, .inr (9, [.ref hPA, .ref hRD, .ref hRB, .ref hPE, .ref hHO, .ref hAG, .ref hLO, .ref hRQ, .ref hEX, .ref aFR])), (hRB, .inr (7, [.ref aN, .ref aB, .int (nI bn), .int tl, .int ab, .int mk, .int sh])), (aN, .inl (cI, 20, .inl nd)), (aB, .inl (cI, 20, .inl br)), (hPE, .inr (5, [.ref aRo, .ref aLi, .int (nI en)])), (aRo, .inl (cI, 12, .inl ro)), (aLi, .inl (cI, 12, .inl li)), (hHO, .inr (2, [.ref aFa, .ref aEm, .ref aVa, .int (nI hn)])), (aFa, .inl (cI, 16, .inl fa)), (aEm, .inl (cI, 16, .inl em)), (aVa, .inl (cL, 96, .inr (.inl va))), (hAG, .inr (0, [.ref aAP, .ref aAR, .ref aAF, .ref aAT, .int (nI an)])), (aAP, .inl (cI, 40, .inl ap)), (aAR, .inl (cI, 40, .inl ar)), (aAF, .inl (cI, 40, .inl af)), (aAT, .inl (cI, 40, .inl at_)), (hLO, .inr (3, [.ref aLP, .ref aLL, .int (nI ln)])), (aLP, .inl (cI, 600, .inl lp)), (aLL, .inl (cI, 16, .inl lk))] sz)) 0 0 (va_A [(h, .inr (9, [.ref hPA, .ref hRD, .ref hRB, .ref hPE, .ref hHO, .ref hAG, .ref hLO, .ref hRQ, .ref hEX, .ref aFR])), (hRB, .inr (7, [.ref aN, .ref aB, .int (nI bn), .int tl, .int ab, .int mk, .int sh])), (aN, .inl (cI, 20, .inl nd)), (aB, .inl (cI, 20, .inl br)), (hPE, .inr (5, [.ref aRo, .ref aLi, .int (nI en)])), (aRo, .inl (cI, 12, .inl ro)), (aLi, .inl (cI, 12, .inl li)), (hHO, .inr (2, [.ref aFa, .ref aEm, .ref aVa, .int (nI hn)])), (aFa, .inl (cI, 16, .inl fa)), (aEm, .inl (cI, 16, .inl em)), (aVa, .inl (cL, 96, .inr (.inl va))), (hAG, .inr (0, [.ref aAP, .ref aAR, .ref aAF, .ref aAT, .int (nI an)])), (aAP, .inl (cI, 40, .inl ap)), (aAR, .inl (cI, 40, .inl ar)), (aAF, .inl (cI, 40, .inl af)), (aAT, .inl (cI, 40, .inl at_)), (hLO, .inr (3, [.ref aLP, .ref aLL, .int (nI ln)])), (aLP, .inl (cI, 600, .inl lp)), (aLL, .inl (cI, 16, .inl lk))] sz) := by
  refine Met.ofW (cc := k_RR_asks) (maxL := 7) (ret := (some .int)) (by decide) rfl ?_
  intro p e s m args below meth c s₁ B hml hv
  obtain ⟨rfl, hsz, hP, hK, hD0⟩ := hv
  have hx := B.exec
  have hb := B.bytes
  have hr := B.returns
  have hts := atoms_spec (ws := ws_RR_asks) B.pre
  have hown : s.vm.findClass R_RR = some m.cls := findClass_of_methodNamed B.named
  have hlocks := B.notSynchronized
  subst hsz
  have hD := hD0.self (sz := s.heap.size)
  generalize hAe : va_A [(h, .inr (9, [.ref hPA, .ref hRD, .ref hRB, .ref hPE, .ref hHO, .ref hAG, .ref hLO, .ref hRQ, .ref hEX, .ref aFR])), (hRB, .inr (7, [.ref aN, .ref aB, .int (nI bn), .int tl, .int ab, .int mk, .int sh])), (aN, .inl (cI, 20, .inl nd)), (aB, .inl (cI, 20, .inl br)), (hPE, .inr (5, [.ref aRo, .ref aLi, .int (nI en)])), (aRo, .inl (cI, 12, .inl ro)), (aLi, .inl (cI, 12, .inl li)), (hHO, .inr (2, [.ref aFa, .ref aEm, .ref aVa, .int (nI hn)])), (aFa, .inl (cI, 16, .inl fa)), (aEm, .inl (cI, 16, .inl em)), (aVa, .inl (cL, 96, .inr (.inl va))), (hAG, .inr (0, [.ref aAP, .ref aAR, .ref aAF, .ref aAT, .int (nI an)])), (aAP, .inl (cI, 40, .inl ap)), (aAR, .inl (cI, 40, .inl ar)), (aAF, .inl (cI, 40, .inl af)), (aAT, .inl (cI, 40, .inl at_)), (hLO, .inr (3, [.ref aLP, .ref aLL, .int (nI ln)])), (aLP, .inl (cI, 600, .inl lp)), (aLL, .inl (cI, 16, .inl lk))] s.heap.size = A at hD ⊢
  have hA : ∀ q : Nat, s.heap.size ≤ q → A q := fun q h => by rw [← hAe]; exact Or.inr h
  have hS : va_S A s.heap s.heap [] := va_S.rf
  have hP : va_P (dC, dI) vwCl [(h, .inr (9, [.ref hPA, .ref hRD, .ref hRB, .ref hPE, .ref hHO, .ref hAG, .ref hLO, .ref hRQ, .ref hEX, .ref aFR])), (hRB, .inr (7, [.ref aN, .ref aB, .int (nI bn), .int tl, .int ab, .int mk, .int sh])), (aN, .inl (cI, 20, .inl nd)), (aB, .inl (cI, 20, .inl br)), (hPE, .inr (5, [.ref aRo, .ref aLi, .int (nI en)])), (aRo, .inl (cI, 12, .inl ro)), (aLi, .inl (cI, 12, .inl li)), (hHO, .inr (2, [.ref aFa, .ref aEm, .ref aVa, .int (nI hn)])), (aFa, .inl (cI, 16, .inl fa)), (aEm, .inl (cI, 16, .inl em)), (aVa, .inl (cL, 96, .inr (.inl va))), (hAG, .inr (0, [.ref aAP, .ref aAR, .ref aAF, .ref aAT, .int (nI an)])), (aAP, .inl (cI, 40, .inl ap)), (aAR, .inl (cI, 40, .inl ar)), (aAF, .inl (cI, 40, .inl af)), (aAT, .inl (cI, 40, .inl at_)), (hLO, .inr (3, [.ref aLP, .ref aLL, .int (nI ln)])), (aLP, .inl (cI, 600, .inl lp)), (aLL, .inl (cI, 16, .inl lk))] s.heap := hP
  have iAG : ∀ w ∈ u_ws R_AG T_AG 5, w ∈ ws_RR_asks := fun w h => wb_RR_asks w (in_AG w h)
  have iHO : ∀ w ∈ u_ws R_HO T_HO 4, w ∈ ws_RR_asks := fun w h => wb_RR_asks w (in_HO w h)
  have iLO : ∀ w ∈ u_ws R_LO T_LO 3, w ∈ ws_RR_asks := fun w h => wb_RR_asks w (in_LO w h)
  have iPE : ∀ w ∈ u_ws R_PE T_PE 3, w ∈ ws_RR_asks := fun w h => wb_RR_asks w (in_PE w h)
  have iRB : ∀ w ∈ u_ws R_RB T_RB 7, w ∈ ws_RR_asks := fun w h => wb_RR_asks w (in_RB w h)
  have iRR : ∀ w ∈ u_ws R_RR T_RR 10, w ∈ ws_RR_asks := fun w h => wb_RR_asks w (in_RR w h)
  have hl := lv_entry ([.ref h, .int (nI u), .int (nI r), .int (nI f), .int (nI q), .int d]) (n := 7) (Nat.le_of_ble_eq_true rfl)
  rw [lg_entry_eq]
  generalize (lg_sl ([.ref h, .int (nI u), .int (nI r), .int (nI f), .int (nI q), .int d]) ++ List.replicate (7 - (lg_sl ([.ref h, .int (nI u), .int (nI r), .int (nI f), .int (nI q), .int d])).length) Slot.unset).toArray = ls at hl ⊢
  have hl : lv_has ls 7 [(0, .ref h), (1, .int (nI u)), (2, .int (nI r)), (3, .int (nI f)), (4, .int (nI q)), (5, .int d)] := hl
  refine lv_aload_n hx hb d_RR_asks_0 rfl (lv_at hl 0 rfl) ?_
  refine lv_iload_n hx hb d_RR_asks_1 rfl (lv_at hl 1 rfl) ?_
  have hPc := hP.sub (ws' := [(h, .inr (9, [.ref hPA, .ref hRD, .ref hRB, .ref hPE, .ref hHO, .ref hAG, .ref hLO, .ref hRQ, .ref hEX, .ref aFR])), (hPE, .inr (5, [.ref aRo, .ref aLi, .int (nI en)]))]) [0, 4] rfl
  have hKc := hK.sub (tys' := []) [] rfl
  refine va_callv (va_runV (As := [.int (nI u)]) (rest := []) ⟨hx, hb, hml, hown, hts⟩ (c_RR_requirePerson l dC dI h hPA hRD hRB hPE hHO hAG hLO hRQ hEX aFR aRo aLi en (by first | assumption | omega) u (by first | assumption | omega)) (cwV 1 hts (vz_gV wb_RR_asks b_492 b_494 bs_8 b_1 wc_RR_requirePerson) rfl rfl rfl (by decide +kernel) ⟨Nat.le_of_ble_eq_true rfl, Nat.le_of_ble_eq_true rfl⟩) (vz_preV hPc hKc (ci := 9) (q0 := 0) rfl rfl) rfl rfl hl.1 rfl (lv_room (Nat.le_of_ble_eq_true rfl)) d_RR_asks_2 ⟨Nat.le_of_ble_eq_true rfl, Nat.le_of_ble_eq_true rfl⟩) hS (fun q _ h => False.elim h) (fun q h => False.elim h) (fun u9 t9 H1 locs ht hvm hr2 hB hzx9 hkx9 hS => ?_)
  try dsimp only at hr2
  have hP := vz_kept hP hkx9
  generalize H1 = H at hP hS ⊢
  refine lv_aload_n hx hb d_RR_asks_5 rfl (lv_at hl 0 rfl) ?_
  refine lv_iload_n hx hb d_RR_asks_6 rfl (lv_at hl 2 rfl) ?_
  have hPc := hP.sub (ws' := [(h, .inr (9, [.ref hPA, .ref hRD, .ref hRB, .ref hPE, .ref hHO, .ref hAG, .ref hLO, .ref hRQ, .ref hEX, .ref aFR])), (hHO, .inr (2, [.ref aFa, .ref aEm, .ref aVa, .int (nI hn)]))]) [0, 7] rfl
  have hKc := hK.sub (tys' := []) [] rfl
  refine va_callv (va_runV (As := [.int (nI r)]) (rest := []) ⟨hx, hb, hml, hown, hts⟩ (c_RR_requireRecord l dC dI h hPA hRD hRB hPE hHO hAG hLO hRQ hEX aFR aFa aEm aVa hn (by first | assumption | omega) r (by first | assumption | omega)) (cwV 1 hts (vz_gV wb_RR_asks b_456 b_458 bs_7 b_1 wc_RR_requireRecord) rfl rfl rfl (by decide +kernel) ⟨Nat.le_of_ble_eq_true rfl, Nat.le_of_ble_eq_true rfl⟩) (vz_preV hPc hKc (ci := 9) (q0 := 0) rfl rfl) rfl rfl hl.1 rfl (lv_room (Nat.le_of_ble_eq_true rfl)) d_RR_asks_7 ⟨Nat.le_of_ble_eq_true rfl, Nat.le_of_ble_eq_true rfl⟩) hS (fun q _ h => False.elim h) (fun q h => False.elim h) (fun u9 t9 H1 locs ht hvm hr7 hB hzx9 hkx9 hS => ?_)
  try dsimp only at hr7
  have hP := vz_kept hP hkx9
  generalize H1 = H at hP hS ⊢
  refine lv_iload_n hx hb d_RR_asks_10 rfl (lv_at hl 3 rfl) ?_
  have hPc := hP.sub (ws' := []) [] rfl
  have hKc := hK.sub (tys' := []) [] rfl
  refine va_callv (va_runS (As := [.int (nI f)]) (rest := []) ⟨hx, hb, hml, hown, hts⟩ (c_RR_requireField l dC dI f (by first | assumption | omega)) (va_cwS 1 hts (vz_gS wb_RR_asks b_461 b_462 b_1 wc_RR_requireField) rfl rfl rfl (by decide +kernel) ⟨Nat.le_of_ble_eq_true rfl, Nat.le_of_ble_eq_true rfl⟩) (vz_preS hPc hKc) rfl rfl hl.1 rfl (lv_room (Nat.le_of_ble_eq_true rfl)) d_RR_asks_11 ⟨Nat.le_of_ble_eq_true rfl, Nat.le_of_ble_eq_true rfl⟩) hS (fun q _ h => False.elim h) (fun q h => False.elim h) (fun u9 t9 H1 locs ht hvm hr11 hB hzx9 hkx9 hS => ?_)
  try dsimp only at hr11
  have hP := vz_kept hP hkx9
  generalize H1 = H at hP hS ⊢
  refine lv_iload hx hb d_RR_asks_14 (lv_at hl 4 rfl) ?_
  refine lv_if_lt (tgt := 25) hx hb d_RR_asks_16 (by decide) (fun c16 => ?_) (fun c16 => ?_)
  · exact absurd c16 (nI_pos (by omega))
  · refine lv_iload hx hb d_RR_asks_19 (lv_at hl 4 rfl) ?_
    refine lv_iconst (v := 4) hx hb d_RR_asks_21 (by decide) ?_
    refine lv_icmp_lt (tgt := 35) hx hb d_RR_asks_22 (by decide) (fun c22 => ?_) (fun c22 => ?_)
    · refine lv_iload hx hb d_RR_asks_35 (lv_at hl 5 rfl) ?_
      have hPc := hP.sub (ws' := []) [] rfl
      have hKc := hK.sub (tys' := []) [] rfl
      refine va_callv (va_runS (As := [.int d]) (rest := []) ⟨hx, hb, hml, hown, hts⟩ (c_RR_requireDay l dC dI d (by first | assumption | omega) (by first | assumption | omega)) (va_cwS 1 hts (vz_gS wb_RR_asks b_480 b_481 b_1 wc_RR_requireDay) rfl rfl rfl (by decide +kernel) ⟨Nat.le_of_ble_eq_true rfl, Nat.le_of_ble_eq_true rfl⟩) (vz_preS hPc hKc) rfl rfl hl.1 rfl (lv_room (Nat.le_of_ble_eq_true rfl)) d_RR_asks_37 ⟨Nat.le_of_ble_eq_true rfl, Nat.le_of_ble_eq_true rfl⟩) hS (fun q _ h => False.elim h) (fun q h => False.elim h) (fun u9 t9 H1 locs ht hvm hr37 hB hzx9 hkx9 hS => ?_)
      try dsimp only at hr37
      have hP := vz_kept hP hkx9
      generalize H1 = H at hP hS ⊢
      refine lv_aload_n hx hb d_RR_asks_40 rfl (lv_at hl 0 rfl) ?_
      refine va_get (D := (dC, dI)) (ci := 9) (v := .ref hRB) (C := R_RR) (T := T_RR) (N := 10) hx hb hts iRR hown hK hP 0 rfl rfl 2 (by decide) (hts _ (wb_RR_asks _ b_226)) (fun _ h9 => h9) rfl d_RR_asks_41 ?_
      refine lv_aload_n hx hb d_RR_asks_44 rfl (lv_at hl 0 rfl) ?_
      refine lv_iload_n hx hb d_RR_asks_45 rfl (lv_at hl 1 rfl) ?_
      refine lv_iload_n hx hb d_RR_asks_46 rfl (lv_at hl 2 rfl) ?_
      refine lv_iload hx hb d_RR_asks_47 (lv_at hl 5 rfl) ?_
      have hPc := hP.sub (ws' := [(h, .inr (9, [.ref hPA, .ref hRD, .ref hRB, .ref hPE, .ref hHO, .ref hAG, .ref hLO, .ref hRQ, .ref hEX, .ref aFR])), (hRB, .inr (7, [.ref aN, .ref aB, .int (nI bn), .int tl, .int ab, .int mk, .int sh])), (aN, .inl (cI, 20, .inl nd)), (aB, .inl (cI, 20, .inl br)), (hPE, .inr (5, [.ref aRo, .ref aLi, .int (nI en)])), (aRo, .inl (cI, 12, .inl ro)), (aLi, .inl (cI, 12, .inl li)), (hHO, .inr (2, [.ref aFa, .ref aEm, .ref aVa, .int (nI hn)])), (aFa, .inl (cI, 16, .inl fa)), (aEm, .inl (cI, 16, .inl em)), (aVa, .inl (cL, 96, .inr (.inl va))), (hAG, .inr (0, [.ref aAP, .ref aAR, .ref aAF, .ref aAT, .int (nI an)])), (aAP, .inl (cI, 40, .inl ap)), (aAR, .inl (cI, 40, .inl ar)), (aAF, .inl (cI, 40, .inl af)), (aAT, .inl (cI, 40, .inl at_))]) [0, 1, 2, 3, 4, 5, 6, 7, 8, 9, 10, 11, 12, 13, 14, 15] rfl
      have hKc := hK.sub (tys' := [(cI, .int), (cL, .long)]) [0, 1] rfl
      refine va_calli (va_runV (As := [.int (nI u), .int (nI r), .int d]) (rest := [.ref hRB]) ⟨hx, hb, hml, hown, hts⟩ (c_RR_openRules l dC dI h hPA hRD hRB hPE hHO hAG hLO hRQ hEX aFR cI cL aN aB nd br bn tl ab mk sh aRo aLi ro li en aFa aEm aVa fa em va hn aAP aAR aAF aAT ap ar af at_ an (by first | assumption | omega) (by first | assumption | omega) u r (by first | assumption | omega) (by first | assumption | omega) d) (cwV 3 hts (vz_gV wb_RR_asks b_511 b_513 bs_9 b_1 wc_RR_openRules) rfl rfl rfl (by decide +kernel) ⟨Nat.le_of_ble_eq_true rfl, Nat.le_of_ble_eq_true rfl⟩) (vz_preV hPc hKc (ci := 9) (q0 := 0) rfl rfl) rfl rfl hl.1 rfl (lv_room (Nat.le_of_ble_eq_true rfl)) d_RR_asks_49 ⟨Nat.le_of_ble_eq_true rfl, Nat.le_of_ble_eq_true rfl⟩) hS (fun q _ h => False.elim h) (fun q h => False.elim h) (fun r49 u9 t9 H1 locs ht hvm hr49 hB hzx9 hkx9 hS => ?_)
      try dsimp only at hr49
      have hP := vz_kept hP hkx9
      generalize H1 = H at hP hS ⊢
      refine lv_aload_n hx hb d_RR_asks_52 rfl (lv_at hl 0 rfl) ?_
      refine lv_iload_n hx hb d_RR_asks_53 rfl (lv_at hl 3 rfl) ?_
      refine lv_iload hx hb d_RR_asks_54 (lv_at hl 4 rfl) ?_
      have hPc := hP.sub (ws' := [(h, .inr (9, [.ref hPA, .ref hRD, .ref hRB, .ref hPE, .ref hHO, .ref hAG, .ref hLO, .ref hRQ, .ref hEX, .ref aFR])), (hRB, .inr (7, [.ref aN, .ref aB, .int (nI bn), .int tl, .int ab, .int mk, .int sh])), (aN, .inl (cI, 20, .inl nd)), (aB, .inl (cI, 20, .inl br))]) [0, 1, 2, 3] rfl
      have hKc := hK.sub (tys' := [(cI, .int)]) [0] rfl
      refine va_calli (va_runV (As := [.int (nI f), .int (nI q)]) (rest := [.int r49, .ref hRB]) ⟨hx, hb, hml, hown, hts⟩ (c_RR_rulesForField l dC dI h hPA hRD hRB hPE hHO hAG hLO hRQ hEX aFR cI aN aB nd br bn tl ab mk sh (by first | assumption | omega) (nI f) (nI q)) (cwV 2 hts (vz_gV wb_RR_asks b_525 b_527 bs_10 b_1 wc_RR_rulesForField) rfl rfl rfl (by decide +kernel) ⟨Nat.le_of_ble_eq_true rfl, Nat.le_of_ble_eq_true rfl⟩) (vz_preV hPc hKc (ci := 9) (q0 := 0) rfl rfl) rfl rfl hl.1 rfl (lv_room (Nat.le_of_ble_eq_true rfl)) d_RR_asks_56 ⟨Nat.le_of_ble_eq_true rfl, Nat.le_of_ble_eq_true rfl⟩) hS (fun q _ h => False.elim h) (fun q h => False.elim h) (fun r56 u9 t9 H1 locs ht hvm hr56 hB hzx9 hkx9 hS => ?_)
      try dsimp only at hr56
      have hP := vz_kept hP hkx9
      generalize H1 = H at hP hS ⊢
      refine lv_iand hx hb d_RR_asks_59 ?_
      have hPc := hP.sub (ws' := [(hRB, .inr (7, [.ref aN, .ref aB, .int (nI bn), .int tl, .int ab, .int mk, .int sh])), (aN, .inl (cI, 20, .inl nd)), (aB, .inl (cI, 20, .inl br))]) [1, 2, 3] rfl
      have hKc := hK.sub (tys' := [(cI, .int)]) [0] rfl
      refine va_calli (va_runV (As := [.int (r49 &&& r56)]) (rest := []) ⟨hx, hb, hml, hown, hts⟩ (c_RB_answerOf l dC dI cI hRB aN aB nd br bn (by first | assumption | omega) tl ab mk sh (r49 &&& r56)) (cwV 1 hts (vz_gV wb_RR_asks b_530 b_531 b_532 b_4 wc_RB_answerOf) rfl rfl rfl (by decide +kernel) ⟨Nat.le_of_ble_eq_true rfl, Nat.le_of_ble_eq_true rfl⟩) (vz_preV hPc hKc (ci := 7) (q0 := 0) rfl rfl) rfl rfl hl.1 rfl (lv_room (Nat.le_of_ble_eq_true rfl)) d_RR_asks_60 ⟨Nat.le_of_ble_eq_true rfl, Nat.le_of_ble_eq_true rfl⟩) hS (fun q _ h => False.elim h) (fun q h => False.elim h) (fun r60 u9 t9 H1 locs ht hvm hr60 hB hzx9 hkx9 hS => ?_)
      try dsimp only at hr60
      have hP := vz_kept hP hkx9
      generalize H1 = H at hP hS ⊢
      refine lv_topi (fun g0 eg0 => ?_)
      have hg0 : g0 = ansF ab mk sh (openF nd br tl bn (ro u) (em r) (fa r) d (hasAg ap ar af at_ an (nI u) (nI r) d) &&& ruleFF nd br tl bn (nI f) (nI q)) := by rw [eg0, hr60, hr49, hr56]
      refine lv_istore (lv' := [(6, .int g0), (0, .ref h), (1, .int (nI u)), (2, .int (nI r)), (3, .int (nI f)), (4, .int (nI q)), (5, .int d)]) hx hb d_RR_asks_63 hl (by decide) rfl (fun ls hl => ?_)
      refine lv_iload hx hb d_RR_asks_65 (lv_at hl 0 rfl) ?_
      refine lv_if_eq (tgt := 98) hx hb d_RR_asks_67 (by decide) (fun c67 => ?_) (fun c67 => ?_)
      · refine lv_iload hx hb d_RR_asks_98 (lv_at hl 0 rfl) ?_
        have hP9 := hP.sub (ws' := [(h, .inr (9, [.ref hPA, .ref hRD, .ref hRB, .ref hPE, .ref hHO, .ref hAG, .ref hLO, .ref hRQ, .ref hEX, .ref aFR])), (hRB, .inr (7, [.ref aN, .ref aB, .int (nI bn), .int tl, .int ab, .int mk, .int sh])), (aN, .inl (cI, 20, .inl nd)), (aB, .inl (cI, 20, .inl br)), (hPE, .inr (5, [.ref aRo, .ref aLi, .int (nI en)])), (aRo, .inl (cI, 12, .inl ro)), (aLi, .inl (cI, 12, .inl li)), (hHO, .inr (2, [.ref aFa, .ref aEm, .ref aVa, .int (nI hn)])), (aFa, .inl (cI, 16, .inl fa)), (aEm, .inl (cI, 16, .inl em)), (aVa, .inl (cL, 96, .inr (.inl va))), (hAG, .inr (0, [.ref aAP, .ref aAR, .ref aAF, .ref aAT, .int (nI an)])), (aAP, .inl (cI, 40, .inl ap)), (aAR, .inl (cI, 40, .inl ar)), (aAF, .inl (cI, 40, .inl af)), (aAT, .inl (cI, 40, .inl at_)), (hLO, .inr (3, [.ref aLP, .ref aLL, .int (nI ln)])), (aLP, .inl (cI, 600, .inl lp)), (aLL, .inl (cI, 16, .inl lk))]) [0, 1, 2, 3, 4, 5, 6, 7, 8, 9, 10, 11, 12, 13, 14, 15, 16, 17, 18] rfl
        have hD9 := hD.sub (ws' := [(h, .inr (9, [.ref hPA, .ref hRD, .ref hRB, .ref hPE, .ref hHO, .ref hAG, .ref hLO, .ref hRQ, .ref hEX, .ref aFR])), (hRB, .inr (7, [.ref aN, .ref aB, .int (nI bn), .int tl, .int ab, .int mk, .int sh])), (aN, .inl (cI, 20, .inl nd)), (aB, .inl (cI, 20, .inl br)), (hPE, .inr (5, [.ref aRo, .ref aLi, .int (nI en)])), (aRo, .inl (cI, 12, .inl ro)), (aLi, .inl (cI, 12, .inl li)), (hHO, .inr (2, [.ref aFa, .ref aEm, .ref aVa, .int (nI hn)])), (aFa, .inl (cI, 16, .inl fa)), (aEm, .inl (cI, 16, .inl em)), (aVa, .inl (cL, 96, .inr (.inl va))), (hAG, .inr (0, [.ref aAP, .ref aAR, .ref aAF, .ref aAT, .int (nI an)])), (aAP, .inl (cI, 40, .inl ap)), (aAR, .inl (cI, 40, .inl ar)), (aAF, .inl (cI, 40, .inl af)), (aAT, .inl (cI, 40, .inl at_)), (hLO, .inr (3, [.ref aLP, .ref aLL, .int (nI ln)])), (aLP, .inl (cI, 600, .inl lp)), (aLL, .inl (cI, 16, .inl lk))]) [0, 1, 2, 3, 4, 5, 6, 7, 8, 9, 10, 11, 12, 13, 14, 15, 16, 17, 18] (by decide) rfl
        exact W.iret (v := g0) hx hb hr (fun t ht hW => ⟨⟨g0, (), rfl, hg0, by rw [ht]; exact hP9, va_K.moved hW.alike hK, hD9⟩, hS.F ht⟩) hS.2.2 d_RR_asks_100
      · refine lv_aload_n hx hb d_RR_asks_70 rfl (lv_at hl 1 rfl) ?_
        refine va_get (D := (dC, dI)) (ci := 9) (v := .ref hLO) (C := R_RR) (T := T_RR) (N := 10) hx hb hts iRR hown hK hP 0 rfl rfl 6 (by decide) (hts _ (wb_RR_asks _ b_230)) (fun _ h9 => h9) rfl d_RR_asks_71 ?_
        refine va_get (D := (dC, dI)) (ci := 3) (v := .int (nI ln)) (C := R_LO) (T := T_LO) (N := 3) hx hb hts iLO hown hK hP 16 rfl rfl 2 (by decide) (hts _ (wb_RR_asks _ b_184)) (fun _ h9 => h9) rfl d_RR_asks_74 ?_
        refine lv_bipush (v := 100) hx hb d_RR_asks_77 (by decide) ?_
        refine lv_icmp_ge (tgt := 98) hx hb d_RR_asks_79 (by decide) (fun c79 => ?_) (fun c79 => ?_)
        · refine lv_iload hx hb d_RR_asks_98 (lv_at hl 0 rfl) ?_
          have hP9 := hP.sub (ws' := [(h, .inr (9, [.ref hPA, .ref hRD, .ref hRB, .ref hPE, .ref hHO, .ref hAG, .ref hLO, .ref hRQ, .ref hEX, .ref aFR])), (hRB, .inr (7, [.ref aN, .ref aB, .int (nI bn), .int tl, .int ab, .int mk, .int sh])), (aN, .inl (cI, 20, .inl nd)), (aB, .inl (cI, 20, .inl br)), (hPE, .inr (5, [.ref aRo, .ref aLi, .int (nI en)])), (aRo, .inl (cI, 12, .inl ro)), (aLi, .inl (cI, 12, .inl li)), (hHO, .inr (2, [.ref aFa, .ref aEm, .ref aVa, .int (nI hn)])), (aFa, .inl (cI, 16, .inl fa)), (aEm, .inl (cI, 16, .inl em)), (aVa, .inl (cL, 96, .inr (.inl va))), (hAG, .inr (0, [.ref aAP, .ref aAR, .ref aAF, .ref aAT, .int (nI an)])), (aAP, .inl (cI, 40, .inl ap)), (aAR, .inl (cI, 40, .inl ar)), (aAF, .inl (cI, 40, .inl af)), (aAT, .inl (cI, 40, .inl at_)), (hLO, .inr (3, [.ref aLP, .ref aLL, .int (nI ln)])), (aLP, .inl (cI, 600, .inl lp)), (aLL, .inl (cI, 16, .inl lk))]) [0, 1, 2, 3, 4, 5, 6, 7, 8, 9, 10, 11, 12, 13, 14, 15, 16, 17, 18] rfl
          have hD9 := hD.sub (ws' := [(h, .inr (9, [.ref hPA, .ref hRD, .ref hRB, .ref hPE, .ref hHO, .ref hAG, .ref hLO, .ref hRQ, .ref hEX, .ref aFR])), (hRB, .inr (7, [.ref aN, .ref aB, .int (nI bn), .int tl, .int ab, .int mk, .int sh])), (aN, .inl (cI, 20, .inl nd)), (aB, .inl (cI, 20, .inl br)), (hPE, .inr (5, [.ref aRo, .ref aLi, .int (nI en)])), (aRo, .inl (cI, 12, .inl ro)), (aLi, .inl (cI, 12, .inl li)), (hHO, .inr (2, [.ref aFa, .ref aEm, .ref aVa, .int (nI hn)])), (aFa, .inl (cI, 16, .inl fa)), (aEm, .inl (cI, 16, .inl em)), (aVa, .inl (cL, 96, .inr (.inl va))), (hAG, .inr (0, [.ref aAP, .ref aAR, .ref aAF, .ref aAT, .int (nI an)])), (aAP, .inl (cI, 40, .inl ap)), (aAR, .inl (cI, 40, .inl ar)), (aAF, .inl (cI, 40, .inl af)), (aAT, .inl (cI, 40, .inl at_)), (hLO, .inr (3, [.ref aLP, .ref aLL, .int (nI ln)])), (aLP, .inl (cI, 600, .inl lp)), (aLL, .inl (cI, 16, .inl lk))]) [0, 1, 2, 3, 4, 5, 6, 7, 8, 9, 10, 11, 12, 13, 14, 15, 16, 17, 18] (by decide) rfl
          exact W.iret (v := g0) hx hb hr (fun t ht hW => ⟨⟨g0, (), rfl, hg0, by rw [ht]; exact hP9, va_K.moved hW.alike hK, hD9⟩, hS.F ht⟩) hS.2.2 d_RR_asks_100
        · exact absurd ((nI_leI (show 100 < 2147483648 by omega) (show ln < 2147483648 by omega)).mpr (hkp.resolve_left (by rw [← hg0]; exact c67))) c79
    · exact absurd ((nI_ltI (show q < 2147483648 by omega) (show 4 < 2147483648 by omega)).mpr hq) c22

set_option maxHeartbeats 4000000 in
set_option maxRecDepth 100000 in
/-- RecordRights.asks, the look kept -/
theorem c_RR_asksKeep (l : Launch) (dC : Nat → ClassId) (dI : Nat → Nat → Nat) (sz : Nat) (h hPA hRD hRB hPE hHO hAG hLO hRQ hEX aFR : Nat) (cI cL : ClassId) (aN aB : Nat) (nd br : Nat → Int32) (bn : Nat) (tl ab mk sh : Int32) (aRo aLi : Nat) (ro li : Nat → Int32) (en : Nat) (aFa aEm aVa : Nat) (fa em : Nat → Int32) (va : Nat → Int64) (hn : Nat) (aAP aAR aAF aAT : Nat) (ap ar af at_ : Nat → Int32) (an : Nat) (aLP aLL : Nat) (lp lk : Nat → Int32) (ln : Nat) (hbn : bn ≤ 20) (hen : en ≤ 12) (hhn : hn ≤ 16) (han : an ≤ 40) (u r f q : Nat) (hu : u < en) (hr : r < hn) (hf : f < 6) (hq : q < 4) (d : Int32) (hd0 : ¬ d < 0) (hd1 : d ≤ 100000) (hkp : ¬ ansF ab mk sh (openF nd br tl bn (ro u) (em r) (fa r) d (hasAg ap ar af at_ an (nI u) (nI r) d) &&& ruleFF nd br tl bn (nI f) (nI q)) = 0) (hln : ln < 100) : Met l y_RR_asks ws_RR_asks ({ frames := 2, cells := 0, slots := 0, locals := 50 }) (va_Pc [.ref h, .int (nI u), .int (nI r), .int (nI f), .int (nI q), .int d] (fun U => U.heap.size = sz ∧ va_P (dC, dI) vwCl [(h, .inr (9, [.ref hPA, .ref hRD, .ref hRB, .ref hPE, .ref hHO, .ref hAG, .ref hLO, .ref hRQ, .ref hEX, .ref aFR])), (hRB, .inr (7, [.ref aN, .ref aB, .int (nI bn), .int tl, .int ab, .int mk, .int sh])), (aN, .inl (cI, 20, .inl nd)), (aB, .inl (cI, 20, .inl br)), (hPE, .inr (5, [.ref aRo, .ref aLi, .int (nI en)])), (aRo, .inl (cI, 12, .inl ro)), (aLi, .inl (cI, 12, .inl li)), (hHO, .inr (2, [.ref aFa, .ref aEm, .ref aVa, .int (nI hn)])), (aFa, .inl (cI, 16, .inl fa)), (aEm, .inl (cI, 16, .inl em)), (aVa, .inl (cL, 96, .inr (.inl va))), (hAG, .inr (0, [.ref aAP, .ref aAR, .ref aAF, .ref aAT, .int (nI an)])), (aAP, .inl (cI, 40, .inl ap)), (aAR, .inl (cI, 40, .inl ar)), (aAF, .inl (cI, 40, .inl af)), (aAT, .inl (cI, 40, .inl at_)), (hLO, .inr (3, [.ref aLP, .ref aLL, .int (nI ln)])), (aLP, .inl (cI, 600, .inl lp)), (aLL, .inl (cI, 16, .inl lk))] U.heap ∧ va_K (dC, dI) vwCl [(cI, .int), (cL, .long)] U ∧ va_D (fun _ => True) [(h, .inr (9, [.ref hPA, .ref hRD, .ref hRB, .ref hPE, .ref hHO, .ref hAG, .ref hLO, .ref hRQ, .ref hEX, .ref aFR])), (hRB, .inr (7, [.ref aN, .ref aB, .int (nI bn), .int tl, .int ab, .int mk, .int sh])), (aN, .inl (cI, 20, .inl nd)), (aB, .inl (cI, 20, .inl br)), (hPE, .inr (5, [.ref aRo, .ref aLi, .int (nI en)])), (aRo, .inl (cI, 12, .inl ro)), (aLi, .inl (cI, 12, .inl li)), (hHO, .inr (2, [.ref aFa, .ref aEm, .ref aVa, .int (nI hn)])), (aFa, .inl (cI, 16, .inl fa)), (aEm, .inl (cI, 16, .inl em)), (aVa, .inl (cL, 96, .inr (.inl va))), (hAG, .inr (0, [.ref aAP, .ref aAR, .ref aAF, .ref aAT, .int (nI an)])), (aAP, .inl (cI, 40, .inl ap)), (aAR, .inl (cI, 40, .inl ar)), (aAF, .inl (cI, 40, .inl af)), (aAT, .inl (cI, 40, .inl at_)), (hLO, .inr (3, [.ref aLP, .ref aLL, .int (nI ln)])), (aLP, .inl (cI, 600, .inl lp)), (aLL, .inl (cI, 16, .inl lk))])) (va_Qi (fun (res : Int32) (_ : Unit) => res = ansF ab mk sh (openF nd br tl bn (ro u) (em r) (fa r) d (hasAg ap ar af at_ an (nI u) (nI r) d) &&& ruleFF nd br tl bn (nI f) (nI q))) (fun _ t => va_P (dC, dI) vwCl [(h, .inr (9, [.ref hPA, .ref hRD, .ref hRB, .ref hPE, .ref hHO, .ref hAG, .ref hLO, .ref hRQ, .ref hEX, .ref aFR])), (hRB, .inr (7, [.ref aN, .ref aB, .int (nI bn), .int tl, .int ab, .int mk, .int sh])), (aN, .inl (cI, 20, .inl nd)), (aB, .inl (cI, 20, .inl br)), (hPE, .inr (5, [.ref aRo, .ref aLi, .int (nI en)])), (aRo, .inl (cI, 12, .inl ro)), (aLi, .inl (cI, 12, .inl li)), (hHO, .inr (2, [.ref aFa, .ref aEm, .ref aVa, .int (nI hn)])), (aFa, .inl (cI, 16, .inl fa)), (aEm, .inl (cI, 16, .inl em)), (aVa, .inl (cL, 96, .inr (.inl va))), (hAG, .inr (0, [.ref aAP, .ref aAR, .ref aAF, .ref aAT, .int (nI an)])), (aAP, .inl (cI, 40, .inl ap)), (aAR, .inl (cI, 40, .inl ar)), (aAF, .inl (cI, 40, .inl af)), (aAT, .inl (cI, 40, .inl at_)), (hLO, .inr (3, [.ref aLP, .ref aLL, .int (nI (ln + 1))])), (aLP, .inl (cI, 600, .inl (upd (upd (upd (upd (upd (upd (lp) (ln * 6) (nI u)) (ln * 6 + 1) (nI r)) (ln * 6 + 2) (nI f)) (ln * 6 + 3) (nI q)) (ln * 6 + 4) (d)) (ln * 6 + 5) (ansF ab mk sh (openF nd br tl bn (ro u) (em r) (fa r) d (hasAg ap ar af at_ an (nI u) (nI r) d) &&& ruleFF nd br tl bn (nI f) (nI q)))))), (aLL, .inl (cI, 16, .inl (upd lk r (lk r ||| ((1 : Int32) <<< (nI u &&& 31))))))] t.heap ∧ va_K (dC, dI) vwCl [(cI, .int), (cL, .long)] t ∧ va_D (va_A [(h, .inr (9, [.ref hPA, .ref hRD, .ref hRB, .ref hPE, .ref hHO, .ref hAG, .ref hLO, .ref hRQ, .ref hEX, .ref aFR])), (hRB, .inr (7, [.ref aN, .ref aB, .int (nI bn), .int tl, .int ab, .int mk, .int sh])), (aN, .inl (cI, 20, .inl nd)), (aB, .inl (cI, 20, .inl br)), (hPE, .inr (5, [.ref aRo, .ref aLi, .int (nI en)])), (aRo, .inl (cI, 12, .inl ro)), (aLi, .inl (cI, 12, .inl li)), (hHO, .inr (2, [.ref aFa, .ref aEm, .ref aVa, .int (nI hn)])), (aFa, .inl (cI, 16, .inl fa)), (aEm, .inl (cI, 16, .inl em)), (aVa, .inl (cL, 96, .inr (.inl va))), (hAG, .inr (0, [.ref aAP, .ref aAR, .ref aAF, .ref aAT, .int (nI an)])), (aAP, .inl (cI, 40, .inl ap)), (aAR, .inl (cI, 40, .inl ar)), (aAF, .inl (cI, 40, .inl af)), (aAT, .inl (cI, 40, .inl at_)), (hLO, .inr (3, [.ref aLP, .ref aLL, .int (nI ln)])), (aLP, .inl (cI, 600, .inl lp)), (aLL, .inl (cI, 16, .inl lk))] sz) [(h, .inr (9, [.ref hPA, .ref hRD, .ref hRB, .ref hPE, .ref hHO, .ref hAG, .ref hLO, .ref hRQ, .ref hEX, .ref aFR])), (hRB, .inr (7, [.ref aN, .ref aB, .int (nI bn), .int tl, .int ab, .int mk, .int sh])), (aN, .inl (cI, 20, .inl nd)), (aB, .inl (cI, 20, .inl br)), (hPE, .inr (5, [.ref aRo, .ref aLi, .int (nI en)])), (aRo, .inl (cI, 12, .inl ro)), (aLi, .inl (cI, 12, .inl li)), (hHO, .inr (2, [.ref aFa, .ref aEm, .ref aVa, .int (nI hn)])), (aFa, .inl (cI, 16, .inl fa)), (aEm, .inl (cI, 16, .inl em)), (aVa, .inl (cL, 96, .inr (.inl va))), (hAG, .inr (0, [.ref aAP, .ref aAR, .ref aAF, .ref aAT, .int (nI an)])), (aAP, .inl (cI, 40, .inl ap)), (aAR, .inl (cI, 40, .inl ar)), (aAF, .inl (cI, 40, .inl af)), (aAT, .inl (cI, 40, .inl at_)), (hLO, .inr (3, [.ref aLP, .ref aLL, .int (nI (ln + 1))])), (aLP, .inl (cI, 600, .inl (upd (upd (upd (upd (upd (upd (lp) (ln * 6) (nI u)) (ln * 6 + 1) (nI r)) (ln * 6 + 2) (nI f)) (ln * 6 + 3) (nI q)) (ln * 6 + 4) (d)) (ln * 6 + 5) (ansF ab mk sh (openF nd br tl bn (ro u) (em r) (fa r) d (hasAg ap ar af at_ an (nI u) (nI r) d) &&& ruleFF nd br tl bn (nI f) (nI q)))))), (aLL, .inl (cI, 16, .inl (upd lk r (lk r ||| ((1 : Int32) <<< (nI u &&& 31))))))]) (va_A [(h, .inr (9, [.ref hPA, .ref hRD, .ref hRB, .ref hPE, .ref hHO, .ref hAG, .ref hLO, .ref hRQ, .ref hEX, .ref aFR])), (hRB, .inr (7, [.ref aN, .ref aB, .int (nI bn), .int tl, .int ab, .int mk, .int sh])), (aN, .inl (cI, 20, .inl nd)), (aB, .inl (cI, 20, .inl br)), (hPE, .inr (5, [.ref aRo, .ref aLi, .int (nI en)])), (aRo, .inl (cI, 12, .inl ro)), (aLi, .inl (cI, 12, .inl li)), (hHO, .inr (2, [.ref aFa, .ref aEm, .ref aVa, .int (nI hn)])), (aFa, .inl (cI, 16, .inl fa)), (aEm, .inl (cI, 16, .inl em)), (aVa, .inl (cL, 96, .inr (.inl va))), (hAG, .inr (0, [.ref aAP, .ref aAR, .ref aAF, .ref aAT, .int (nI an)])), (aAP, .inl (cI, 40, .inl ap)), (aAR, .inl (cI, 40, .inl ar)), (aAF, .inl (cI, 40, .inl af)), (aAT, .inl (cI, 40, .inl at_)), (hLO, .inr (3, [.ref aLP, .ref aLL, .int (nI ln)])), (aLP, .inl (cI, 600, .inl lp)), (aLL, .inl (cI, 16, .inl lk))] sz)) 0 0 (va_A [(h, .inr (9, [.ref hPA, .ref hRD, .ref hRB, .ref hPE, .ref hHO, .ref hAG, .ref hLO, .ref hRQ, .ref hEX, .ref aFR])), (hRB, .inr (7, [.ref aN, .ref aB, .int (nI bn), .int tl, .int ab, .int mk, .int sh])), (aN, .inl (cI, 20, .inl nd)), (aB, .inl (cI, 20, .inl br)), (hPE, .inr (5, [.ref aRo, .ref aLi, .int (nI en)])), (aRo, .inl (cI, 12, .inl ro)), (aLi, .inl (cI, 12, .inl li)), (hHO, .inr (2, [.ref aFa, .ref aEm, .ref aVa, .int (nI hn)])), (aFa, .inl (cI, 16, .inl fa)), (aEm, .inl (cI, 16, .inl em)), (aVa, .inl (cL, 96, .inr (.inl va))), (hAG, .inr (0, [.ref aAP, .ref aAR, .ref aAF, .ref aAT, .int (nI an)])), (aAP, .inl (cI, 40, .inl ap)), (aAR, .inl (cI, 40, .inl ar)), (aAF, .inl (cI, 40, .inl af)), (aAT, .inl (cI, 40, .inl at_)), (hLO, .inr (3, [.ref aLP, .ref aLL, .int (nI ln)])), (aLP, .inl (cI, 600, .inl lp)), (aLL, .inl (cI, 16, .inl lk))] sz) := by
  refine Met.ofW (cc := k_RR_asks) (maxL := 7) (ret := (some .int)) (by decide) rfl ?_
  intro p e s m args below meth c s₁ B hml hv
  obtain ⟨rfl, hsz, hP, hK, hD0⟩ := hv
  have hx := B.exec
  have hb := B.bytes
  have hr := B.returns
  have hts := atoms_spec (ws := ws_RR_asks) B.pre
  have hown : s.vm.findClass R_RR = some m.cls := findClass_of_methodNamed B.named
  have hlocks := B.notSynchronized
  subst hsz
  have hD := hD0.self (sz := s.heap.size)
  generalize hAe : va_A [(h, .inr (9, [.ref hPA, .ref hRD, .ref hRB, .ref hPE, .ref hHO, .ref hAG, .ref hLO, .ref hRQ, .ref hEX, .ref aFR])), (hRB, .inr (7, [.ref aN, .ref aB, .int (nI bn), .int tl, .int ab, .int mk, .int sh])), (aN, .inl (cI, 20, .inl nd)), (aB, .inl (cI, 20, .inl br)), (hPE, .inr (5, [.ref aRo, .ref aLi, .int (nI en)])), (aRo, .inl (cI, 12, .inl ro)), (aLi, .inl (cI, 12, .inl li)), (hHO, .inr (2, [.ref aFa, .ref aEm, .ref aVa, .int (nI hn)])), (aFa, .inl (cI, 16, .inl fa)), (aEm, .inl (cI, 16, .inl em)), (aVa, .inl (cL, 96, .inr (.inl va))), (hAG, .inr (0, [.ref aAP, .ref aAR, .ref aAF, .ref aAT, .int (nI an)])), (aAP, .inl (cI, 40, .inl ap)), (aAR, .inl (cI, 40, .inl ar)), (aAF, .inl (cI, 40, .inl af)), (aAT, .inl (cI, 40, .inl at_)), (hLO, .inr (3, [.ref aLP, .ref aLL, .int (nI ln)])), (aLP, .inl (cI, 600, .inl lp)), (aLL, .inl (cI, 16, .inl lk))] s.heap.size = A at hD ⊢
  have hA : ∀ q : Nat, s.heap.size ≤ q → A q := fun q h => by rw [← hAe]; exact Or.inr h
  have hS : va_S A s.heap s.heap [] := va_S.rf
  have hP : va_P (dC, dI) vwCl [(h, .inr (9, [.ref hPA, .ref hRD, .ref hRB, .ref hPE, .ref hHO, .ref hAG, .ref hLO, .ref hRQ, .ref hEX, .ref aFR])), (hRB, .inr (7, [.ref aN, .ref aB, .int (nI bn), .int tl, .int ab, .int mk, .int sh])), (aN, .inl (cI, 20, .inl nd)), (aB, .inl (cI, 20, .inl br)), (hPE, .inr (5, [.ref aRo, .ref aLi, .int (nI en)])), (aRo, .inl (cI, 12, .inl ro)), (aLi, .inl (cI, 12, .inl li)), (hHO, .inr (2, [.ref aFa, .ref aEm, .ref aVa, .int (nI hn)])), (aFa, .inl (cI, 16, .inl fa)), (aEm, .inl (cI, 16, .inl em)), (aVa, .inl (cL, 96, .inr (.inl va))), (hAG, .inr (0, [.ref aAP, .ref aAR, .ref aAF, .ref aAT, .int (nI an)])), (aAP, .inl (cI, 40, .inl ap)), (aAR, .inl (cI, 40, .inl ar)), (aAF, .inl (cI, 40, .inl af)), (aAT, .inl (cI, 40, .inl at_)), (hLO, .inr (3, [.ref aLP, .ref aLL, .int (nI ln)])), (aLP, .inl (cI, 600, .inl lp)), (aLL, .inl (cI, 16, .inl lk))] s.heap := hP
  have iAG : ∀ w ∈ u_ws R_AG T_AG 5, w ∈ ws_RR_asks := fun w h => wb_RR_asks w (in_AG w h)
  have iHO : ∀ w ∈ u_ws R_HO T_HO 4, w ∈ ws_RR_asks := fun w h => wb_RR_asks w (in_HO w h)
  have iLO : ∀ w ∈ u_ws R_LO T_LO 3, w ∈ ws_RR_asks := fun w h => wb_RR_asks w (in_LO w h)
  have iPE : ∀ w ∈ u_ws R_PE T_PE 3, w ∈ ws_RR_asks := fun w h => wb_RR_asks w (in_PE w h)
  have iRB : ∀ w ∈ u_ws R_RB T_RB 7, w ∈ ws_RR_asks := fun w h => wb_RR_asks w (in_RB w h)
  have iRR : ∀ w ∈ u_ws R_RR T_RR 10, w ∈ ws_RR_asks := fun w h => wb_RR_asks w (in_RR w h)
  have hl := lv_entry ([.ref h, .int (nI u), .int (nI r), .int (nI f), .int (nI q), .int d]) (n := 7) (Nat.le_of_ble_eq_true rfl)
  rw [lg_entry_eq]
  generalize (lg_sl ([.ref h, .int (nI u), .int (nI r), .int (nI f), .int (nI q), .int d]) ++ List.replicate (7 - (lg_sl ([.ref h, .int (nI u), .int (nI r), .int (nI f), .int (nI q), .int d])).length) Slot.unset).toArray = ls at hl ⊢
  have hl : lv_has ls 7 [(0, .ref h), (1, .int (nI u)), (2, .int (nI r)), (3, .int (nI f)), (4, .int (nI q)), (5, .int d)] := hl
  refine lv_aload_n hx hb d_RR_asks_0 rfl (lv_at hl 0 rfl) ?_
  refine lv_iload_n hx hb d_RR_asks_1 rfl (lv_at hl 1 rfl) ?_
  have hPc := hP.sub (ws' := [(h, .inr (9, [.ref hPA, .ref hRD, .ref hRB, .ref hPE, .ref hHO, .ref hAG, .ref hLO, .ref hRQ, .ref hEX, .ref aFR])), (hPE, .inr (5, [.ref aRo, .ref aLi, .int (nI en)]))]) [0, 4] rfl
  have hKc := hK.sub (tys' := []) [] rfl
  refine va_callv (va_runV (As := [.int (nI u)]) (rest := []) ⟨hx, hb, hml, hown, hts⟩ (c_RR_requirePerson l dC dI h hPA hRD hRB hPE hHO hAG hLO hRQ hEX aFR aRo aLi en (by first | assumption | omega) u (by first | assumption | omega)) (cwV 1 hts (vz_gV wb_RR_asks b_492 b_494 bs_8 b_1 wc_RR_requirePerson) rfl rfl rfl (by decide +kernel) ⟨Nat.le_of_ble_eq_true rfl, Nat.le_of_ble_eq_true rfl⟩) (vz_preV hPc hKc (ci := 9) (q0 := 0) rfl rfl) rfl rfl hl.1 rfl (lv_room (Nat.le_of_ble_eq_true rfl)) d_RR_asks_2 ⟨Nat.le_of_ble_eq_true rfl, Nat.le_of_ble_eq_true rfl⟩) hS (fun q _ h => False.elim h) (fun q h => False.elim h) (fun u9 t9 H1 locs ht hvm hr2 hB hzx9 hkx9 hS => ?_)
  try dsimp only at hr2
  have hP := vz_kept hP hkx9
  generalize H1 = H at hP hS ⊢
  refine lv_aload_n hx hb d_RR_asks_5 rfl (lv_at hl 0 rfl) ?_
  refine lv_iload_n hx hb d_RR_asks_6 rfl (lv_at hl 2 rfl) ?_
  have hPc := hP.sub (ws' := [(h, .inr (9, [.ref hPA, .ref hRD, .ref hRB, .ref hPE, .ref hHO, .ref hAG, .ref hLO, .ref hRQ, .ref hEX, .ref aFR])), (hHO, .inr (2, [.ref aFa, .ref aEm, .ref aVa, .int (nI hn)]))]) [0, 7] rfl
  have hKc := hK.sub (tys' := []) [] rfl
  refine va_callv (va_runV (As := [.int (nI r)]) (rest := []) ⟨hx, hb, hml, hown, hts⟩ (c_RR_requireRecord l dC dI h hPA hRD hRB hPE hHO hAG hLO hRQ hEX aFR aFa aEm aVa hn (by first | assumption | omega) r (by first | assumption | omega)) (cwV 1 hts (vz_gV wb_RR_asks b_456 b_458 bs_7 b_1 wc_RR_requireRecord) rfl rfl rfl (by decide +kernel) ⟨Nat.le_of_ble_eq_true rfl, Nat.le_of_ble_eq_true rfl⟩) (vz_preV hPc hKc (ci := 9) (q0 := 0) rfl rfl) rfl rfl hl.1 rfl (lv_room (Nat.le_of_ble_eq_true rfl)) d_RR_asks_7 ⟨Nat.le_of_ble_eq_true rfl, Nat.le_of_ble_eq_true rfl⟩) hS (fun q _ h => False.elim h) (fun q h => False.elim h) (fun u9 t9 H1 locs ht hvm hr7 hB hzx9 hkx9 hS => ?_)
  try dsimp only at hr7
  have hP := vz_kept hP hkx9
  generalize H1 = H at hP hS ⊢
  refine lv_iload_n hx hb d_RR_asks_10 rfl (lv_at hl 3 rfl) ?_
  have hPc := hP.sub (ws' := []) [] rfl
  have hKc := hK.sub (tys' := []) [] rfl
  refine va_callv (va_runS (As := [.int (nI f)]) (rest := []) ⟨hx, hb, hml, hown, hts⟩ (c_RR_requireField l dC dI f (by first | assumption | omega)) (va_cwS 1 hts (vz_gS wb_RR_asks b_461 b_462 b_1 wc_RR_requireField) rfl rfl rfl (by decide +kernel) ⟨Nat.le_of_ble_eq_true rfl, Nat.le_of_ble_eq_true rfl⟩) (vz_preS hPc hKc) rfl rfl hl.1 rfl (lv_room (Nat.le_of_ble_eq_true rfl)) d_RR_asks_11 ⟨Nat.le_of_ble_eq_true rfl, Nat.le_of_ble_eq_true rfl⟩) hS (fun q _ h => False.elim h) (fun q h => False.elim h) (fun u9 t9 H1 locs ht hvm hr11 hB hzx9 hkx9 hS => ?_)
  try dsimp only at hr11
  have hP := vz_kept hP hkx9
  generalize H1 = H at hP hS ⊢
  refine lv_iload hx hb d_RR_asks_14 (lv_at hl 4 rfl) ?_
  refine lv_if_lt (tgt := 25) hx hb d_RR_asks_16 (by decide) (fun c16 => ?_) (fun c16 => ?_)
  · exact absurd c16 (nI_pos (by omega))
  · refine lv_iload hx hb d_RR_asks_19 (lv_at hl 4 rfl) ?_
    refine lv_iconst (v := 4) hx hb d_RR_asks_21 (by decide) ?_
    refine lv_icmp_lt (tgt := 35) hx hb d_RR_asks_22 (by decide) (fun c22 => ?_) (fun c22 => ?_)
    · refine lv_iload hx hb d_RR_asks_35 (lv_at hl 5 rfl) ?_
      have hPc := hP.sub (ws' := []) [] rfl
      have hKc := hK.sub (tys' := []) [] rfl
      refine va_callv (va_runS (As := [.int d]) (rest := []) ⟨hx, hb, hml, hown, hts⟩ (c_RR_requireDay l dC dI d (by first | assumption | omega) (by first | assumption | omega)) (va_cwS 1 hts (vz_gS wb_RR_asks b_480 b_481 b_1 wc_RR_requireDay) rfl rfl rfl (by decide +kernel) ⟨Nat.le_of_ble_eq_true rfl, Nat.le_of_ble_eq_true rfl⟩) (vz_preS hPc hKc) rfl rfl hl.1 rfl (lv_room (Nat.le_of_ble_eq_true rfl)) d_RR_asks_37 ⟨Nat.le_of_ble_eq_true rfl, Nat.le_of_ble_eq_true rfl⟩) hS (fun q _ h => False.elim h) (fun q h => False.elim h) (fun u9 t9 H1 locs ht hvm hr37 hB hzx9 hkx9 hS => ?_)
      try dsimp only at hr37
      have hP := vz_kept hP hkx9
      generalize H1 = H at hP hS ⊢
      refine lv_aload_n hx hb d_RR_asks_40 rfl (lv_at hl 0 rfl) ?_
      refine va_get (D := (dC, dI)) (ci := 9) (v := .ref hRB) (C := R_RR) (T := T_RR) (N := 10) hx hb hts iRR hown hK hP 0 rfl rfl 2 (by decide) (hts _ (wb_RR_asks _ b_226)) (fun _ h9 => h9) rfl d_RR_asks_41 ?_
      refine lv_aload_n hx hb d_RR_asks_44 rfl (lv_at hl 0 rfl) ?_
      refine lv_iload_n hx hb d_RR_asks_45 rfl (lv_at hl 1 rfl) ?_
      refine lv_iload_n hx hb d_RR_asks_46 rfl (lv_at hl 2 rfl) ?_
      refine lv_iload hx hb d_RR_asks_47 (lv_at hl 5 rfl) ?_
      have hPc := hP.sub (ws' := [(h, .inr (9, [.ref hPA, .ref hRD, .ref hRB, .ref hPE, .ref hHO, .ref hAG, .ref hLO, .ref hRQ, .ref hEX, .ref aFR])), (hRB, .inr (7, [.ref aN, .ref aB, .int (nI bn), .int tl, .int ab, .int mk, .int sh])), (aN, .inl (cI, 20, .inl nd)), (aB, .inl (cI, 20, .inl br)), (hPE, .inr (5, [.ref aRo, .ref aLi, .int (nI en)])), (aRo, .inl (cI, 12, .inl ro)), (aLi, .inl (cI, 12, .inl li)), (hHO, .inr (2, [.ref aFa, .ref aEm, .ref aVa, .int (nI hn)])), (aFa, .inl (cI, 16, .inl fa)), (aEm, .inl (cI, 16, .inl em)), (aVa, .inl (cL, 96, .inr (.inl va))), (hAG, .inr (0, [.ref aAP, .ref aAR, .ref aAF, .ref aAT, .int (nI an)])), (aAP, .inl (cI, 40, .inl ap)), (aAR, .inl (cI, 40, .inl ar)), (aAF, .inl (cI, 40, .inl af)), (aAT, .inl (cI, 40, .inl at_))]) [0, 1, 2, 3, 4, 5, 6, 7, 8, 9, 10, 11, 12, 13, 14, 15] rfl
      have hKc := hK.sub (tys' := [(cI, .int), (cL, .long)]) [0, 1] rfl
      refine va_calli (va_runV (As := [.int (nI u), .int (nI r), .int d]) (rest := [.ref hRB]) ⟨hx, hb, hml, hown, hts⟩ (c_RR_openRules l dC dI h hPA hRD hRB hPE hHO hAG hLO hRQ hEX aFR cI cL aN aB nd br bn tl ab mk sh aRo aLi ro li en aFa aEm aVa fa em va hn aAP aAR aAF aAT ap ar af at_ an (by first | assumption | omega) (by first | assumption | omega) u r (by first | assumption | omega) (by first | assumption | omega) d) (cwV 3 hts (vz_gV wb_RR_asks b_511 b_513 bs_9 b_1 wc_RR_openRules) rfl rfl rfl (by decide +kernel) ⟨Nat.le_of_ble_eq_true rfl, Nat.le_of_ble_eq_true rfl⟩) (vz_preV hPc hKc (ci := 9) (q0 := 0) rfl rfl) rfl rfl hl.1 rfl (lv_room (Nat.le_of_ble_eq_true rfl)) d_RR_asks_49 ⟨Nat.le_of_ble_eq_true rfl, Nat.le_of_ble_eq_true rfl⟩) hS (fun q _ h => False.elim h) (fun q h => False.elim h) (fun r49 u9 t9 H1 locs ht hvm hr49 hB hzx9 hkx9 hS => ?_)
      try dsimp only at hr49
      have hP := vz_kept hP hkx9
      generalize H1 = H at hP hS ⊢
      refine lv_aload_n hx hb d_RR_asks_52 rfl (lv_at hl 0 rfl) ?_
      refine lv_iload_n hx hb d_RR_asks_53 rfl (lv_at hl 3 rfl) ?_
      refine lv_iload hx hb d_RR_asks_54 (lv_at hl 4 rfl) ?_
      have hPc := hP.sub (ws' := [(h, .inr (9, [.ref hPA, .ref hRD, .ref hRB, .ref hPE, .ref hHO, .ref hAG, .ref hLO, .ref hRQ, .ref hEX, .ref aFR])), (hRB, .inr (7, [.ref aN, .ref aB, .int (nI bn), .int tl, .int ab, .int mk, .int sh])), (aN, .inl (cI, 20, .inl nd)), (aB, .inl (cI, 20, .inl br))]) [0, 1, 2, 3] rfl
      have hKc := hK.sub (tys' := [(cI, .int)]) [0] rfl
      refine va_calli (va_runV (As := [.int (nI f), .int (nI q)]) (rest := [.int r49, .ref hRB]) ⟨hx, hb, hml, hown, hts⟩ (c_RR_rulesForField l dC dI h hPA hRD hRB hPE hHO hAG hLO hRQ hEX aFR cI aN aB nd br bn tl ab mk sh (by first | assumption | omega) (nI f) (nI q)) (cwV 2 hts (vz_gV wb_RR_asks b_525 b_527 bs_10 b_1 wc_RR_rulesForField) rfl rfl rfl (by decide +kernel) ⟨Nat.le_of_ble_eq_true rfl, Nat.le_of_ble_eq_true rfl⟩) (vz_preV hPc hKc (ci := 9) (q0 := 0) rfl rfl) rfl rfl hl.1 rfl (lv_room (Nat.le_of_ble_eq_true rfl)) d_RR_asks_56 ⟨Nat.le_of_ble_eq_true rfl, Nat.le_of_ble_eq_true rfl⟩) hS (fun q _ h => False.elim h) (fun q h => False.elim h) (fun r56 u9 t9 H1 locs ht hvm hr56 hB hzx9 hkx9 hS => ?_)
      try dsimp only at hr56
      have hP := vz_kept hP hkx9
      generalize H1 = H at hP hS ⊢
      refine lv_iand hx hb d_RR_asks_59 ?_
      have hPc := hP.sub (ws' := [(hRB, .inr (7, [.ref aN, .ref aB, .int (nI bn), .int tl, .int ab, .int mk, .int sh])), (aN, .inl (cI, 20, .inl nd)), (aB, .inl (cI, 20, .inl br))]) [1, 2, 3] rfl
      have hKc := hK.sub (tys' := [(cI, .int)]) [0] rfl
      refine va_calli (va_runV (As := [.int (r49 &&& r56)]) (rest := []) ⟨hx, hb, hml, hown, hts⟩ (c_RB_answerOf l dC dI cI hRB aN aB nd br bn (by first | assumption | omega) tl ab mk sh (r49 &&& r56)) (cwV 1 hts (vz_gV wb_RR_asks b_530 b_531 b_532 b_4 wc_RB_answerOf) rfl rfl rfl (by decide +kernel) ⟨Nat.le_of_ble_eq_true rfl, Nat.le_of_ble_eq_true rfl⟩) (vz_preV hPc hKc (ci := 7) (q0 := 0) rfl rfl) rfl rfl hl.1 rfl (lv_room (Nat.le_of_ble_eq_true rfl)) d_RR_asks_60 ⟨Nat.le_of_ble_eq_true rfl, Nat.le_of_ble_eq_true rfl⟩) hS (fun q _ h => False.elim h) (fun q h => False.elim h) (fun r60 u9 t9 H1 locs ht hvm hr60 hB hzx9 hkx9 hS => ?_)
      try dsimp only at hr60
      have hP := vz_kept hP hkx9
      generalize H1 = H at hP hS ⊢
      refine lv_topi (fun g0 eg0 => ?_)
      have hg0 : g0 = ansF ab mk sh (openF nd br tl bn (ro u) (em r) (fa r) d (hasAg ap ar af at_ an (nI u) (nI r) d) &&& ruleFF nd br tl bn (nI f) (nI q)) := by rw [eg0, hr60, hr49, hr56]
      refine lv_istore (lv' := [(6, .int g0), (0, .ref h), (1, .int (nI u)), (2, .int (nI r)), (3, .int (nI f)), (4, .int (nI q)), (5, .int d)]) hx hb d_RR_asks_63 hl (by decide) rfl (fun ls hl => ?_)
      refine lv_iload hx hb d_RR_asks_65 (lv_at hl 0 rfl) ?_
      refine lv_if_eq (tgt := 98) hx hb d_RR_asks_67 (by decide) (fun c67 => ?_) (fun c67 => ?_)
      · exact absurd (hg0.symm.trans c67) hkp
      · refine lv_aload_n hx hb d_RR_asks_70 rfl (lv_at hl 1 rfl) ?_
        refine va_get (D := (dC, dI)) (ci := 9) (v := .ref hLO) (C := R_RR) (T := T_RR) (N := 10) hx hb hts iRR hown hK hP 0 rfl rfl 6 (by decide) (hts _ (wb_RR_asks _ b_230)) (fun _ h9 => h9) rfl d_RR_asks_71 ?_
        refine va_get (D := (dC, dI)) (ci := 3) (v := .int (nI ln)) (C := R_LO) (T := T_LO) (N := 3) hx hb hts iLO hown hK hP 16 rfl rfl 2 (by decide) (hts _ (wb_RR_asks _ b_184)) (fun _ h9 => h9) rfl d_RR_asks_74 ?_
        refine lv_bipush (v := 100) hx hb d_RR_asks_77 (by decide) ?_
        refine lv_icmp_ge (tgt := 98) hx hb d_RR_asks_79 (by decide) (fun c79 => ?_) (fun c79 => ?_)
        · exact absurd ((nI_leI (show 100 < 2147483648 by omega) (show ln < 2147483648 by omega)).mp c79) (by omega)
        · refine lv_aload_n hx hb d_RR_asks_82 rfl (lv_at hl 1 rfl) ?_
          refine va_get (D := (dC, dI)) (ci := 9) (v := .ref hLO) (C := R_RR) (T := T_RR) (N := 10) hx hb hts iRR hown hK hP 0 rfl rfl 6 (by decide) (hts _ (wb_RR_asks _ b_230)) (fun _ h9 => h9) rfl d_RR_asks_83 ?_
          refine lv_iload_n hx hb d_RR_asks_86 rfl (lv_at hl 2 rfl) ?_
          refine lv_iload_n hx hb d_RR_asks_87 rfl (lv_at hl 3 rfl) ?_
          refine lv_iload_n hx hb d_RR_asks_88 rfl (lv_at hl 4 rfl) ?_
          refine lv_iload hx hb d_RR_asks_89 (lv_at hl 5 rfl) ?_
          refine lv_iload hx hb d_RR_asks_91 (lv_at hl 6 rfl) ?_
          refine lv_iload hx hb d_RR_asks_93 (lv_at hl 0 rfl) ?_
          have hPc := hP.sub (ws' := [(hLO, .inr (3, [.ref aLP, .ref aLL, .int (nI ln)])), (aLP, .inl (cI, 600, .inl lp)), (aLL, .inl (cI, 16, .inl lk))]) [16, 17, 18] rfl
          have hKc := hK.sub (tys' := [(cI, .int)]) [0] rfl
          have hDc := hD.sub (ws' := [(hLO, .inr (3, [.ref aLP, .ref aLL, .int (nI ln)])), (aLP, .inl (cI, 600, .inl lp)), (aLL, .inl (cI, 16, .inl lk))]) [16, 17, 18] (by decide) rfl
          have hFc := va_free (wc := [(hLO, .inr (3, [.ref aLP, .ref aLL, .int (nI ln)])), (aLP, .inl (cI, 600, .inl lp)), (aLL, .inl (cI, 16, .inl lk))]) hD hS hA [16, 17, 18] rfl
          refine va_callv (va_runV (As := [.int (nI u), .int (nI r), .int (nI f), .int (nI q), .int d, .int g0]) (rest := []) ⟨hx, hb, hml, hown, hts⟩ (c_LO_keep l dC dI H.size cI hLO aLP aLL lp lk ln (by first | assumption | omega) (nI u) r (by first | assumption | omega) (nI f) (nI q) d g0) (cwV 6 hts (vz_gV wb_RR_asks b_534 b_535 b_536 b_8 wc_LO_keep) rfl rfl rfl (by decide +kernel) ⟨Nat.le_of_ble_eq_true rfl, Nat.le_of_ble_eq_true rfl⟩) (vz_preVw (A := A) hPc hKc hDc (ci := 3) (q0 := 0) rfl rfl) rfl rfl hl.1 rfl (lv_room (Nat.le_of_ble_eq_true rfl)) d_RR_asks_95 ⟨Nat.le_of_ble_eq_true rfl, Nat.le_of_ble_eq_true rfl⟩) hS (fun q _ h => hFc q h) hFc (fun u9 t9 H1 locs ht hvm hr95 hB hzx9 hkx9 hS => ?_)
          try dsimp only at hr95
          obtain ⟨hP1, hK1, hD1⟩ := hB
          rw [ht] at hP1
          obtain ⟨hP, hD⟩ := va_join (wr := [(h, .inr (9, [.ref hPA, .ref hRD, .ref hRB, .ref hPE, .ref hHO, .ref hAG, .ref hLO, .ref hRQ, .ref hEX, .ref aFR])), (hRB, .inr (7, [.ref aN, .ref aB, .int (nI bn), .int tl, .int ab, .int mk, .int sh])), (aN, .inl (cI, 20, .inl nd)), (aB, .inl (cI, 20, .inl br)), (hPE, .inr (5, [.ref aRo, .ref aLi, .int (nI en)])), (aRo, .inl (cI, 12, .inl ro)), (aLi, .inl (cI, 12, .inl li)), (hHO, .inr (2, [.ref aFa, .ref aEm, .ref aVa, .int (nI hn)])), (aFa, .inl (cI, 16, .inl fa)), (aEm, .inl (cI, 16, .inl em)), (aVa, .inl (cL, 96, .inr (.inl va))), (hAG, .inr (0, [.ref aAP, .ref aAR, .ref aAF, .ref aAT, .int (nI an)])), (aAP, .inl (cI, 40, .inl ap)), (aAR, .inl (cI, 40, .inl ar)), (aAF, .inl (cI, 40, .inl af)), (aAT, .inl (cI, 40, .inl at_))]) (w1 := [(hLO, .inr (3, [.ref aLP, .ref aLL, .int (nI (ln + 1))])), (aLP, .inl (cI, 600, .inl (upd (upd (upd (upd (upd (upd (lp) (ln * 6) ((nI u))) (ln * 6 + 1) (nI r)) (ln * 6 + 2) ((nI f))) (ln * 6 + 3) ((nI q))) (ln * 6 + 4) (d)) (ln * 6 + 5) (g0)))), (aLL, .inl (cI, 16, .inl (upd lk r (lk r ||| ((1 : Int32) <<< ((nI u) &&& 31))))))]) hP hD [16, 17, 18] [0, 1, 2, 3, 4, 5, 6, 7, 8, 9, 10, 11, 12, 13, 14, 15] rfl rfl (by decide) (by decide) hkx9 hFc hP1 hD1
          generalize H1 = H at hP hS ⊢
          have hP : va_P (dC, dI) vwCl [(h, .inr (9, [.ref hPA, .ref hRD, .ref hRB, .ref hPE, .ref hHO, .ref hAG, .ref hLO, .ref hRQ, .ref hEX, .ref aFR])), (hRB, .inr (7, [.ref aN, .ref aB, .int (nI bn), .int tl, .int ab, .int mk, .int sh])), (aN, .inl (cI, 20, .inl nd)), (aB, .inl (cI, 20, .inl br)), (hPE, .inr (5, [.ref aRo, .ref aLi, .int (nI en)])), (aRo, .inl (cI, 12, .inl ro)), (aLi, .inl (cI, 12, .inl li)), (hHO, .inr (2, [.ref aFa, .ref aEm, .ref aVa, .int (nI hn)])), (aFa, .inl (cI, 16, .inl fa)), (aEm, .inl (cI, 16, .inl em)), (aVa, .inl (cL, 96, .inr (.inl va))), (hAG, .inr (0, [.ref aAP, .ref aAR, .ref aAF, .ref aAT, .int (nI an)])), (aAP, .inl (cI, 40, .inl ap)), (aAR, .inl (cI, 40, .inl ar)), (aAF, .inl (cI, 40, .inl af)), (aAT, .inl (cI, 40, .inl at_)), (hLO, .inr (3, [.ref aLP, .ref aLL, .int (nI (ln + 1))])), (aLP, .inl (cI, 600, .inl (upd (upd (upd (upd (upd (upd (lp) (ln * 6) ((nI u))) (ln * 6 + 1) (nI r)) (ln * 6 + 2) ((nI f))) (ln * 6 + 3) ((nI q))) (ln * 6 + 4) (d)) (ln * 6 + 5) (g0)))), (aLL, .inl (cI, 16, .inl (upd lk r (lk r ||| ((1 : Int32) <<< ((nI u) &&& 31))))))] H := hP
          have hD : va_D A [(h, .inr (9, [.ref hPA, .ref hRD, .ref hRB, .ref hPE, .ref hHO, .ref hAG, .ref hLO, .ref hRQ, .ref hEX, .ref aFR])), (hRB, .inr (7, [.ref aN, .ref aB, .int (nI bn), .int tl, .int ab, .int mk, .int sh])), (aN, .inl (cI, 20, .inl nd)), (aB, .inl (cI, 20, .inl br)), (hPE, .inr (5, [.ref aRo, .ref aLi, .int (nI en)])), (aRo, .inl (cI, 12, .inl ro)), (aLi, .inl (cI, 12, .inl li)), (hHO, .inr (2, [.ref aFa, .ref aEm, .ref aVa, .int (nI hn)])), (aFa, .inl (cI, 16, .inl fa)), (aEm, .inl (cI, 16, .inl em)), (aVa, .inl (cL, 96, .inr (.inl va))), (hAG, .inr (0, [.ref aAP, .ref aAR, .ref aAF, .ref aAT, .int (nI an)])), (aAP, .inl (cI, 40, .inl ap)), (aAR, .inl (cI, 40, .inl ar)), (aAF, .inl (cI, 40, .inl af)), (aAT, .inl (cI, 40, .inl at_)), (hLO, .inr (3, [.ref aLP, .ref aLL, .int (nI (ln + 1))])), (aLP, .inl (cI, 600, .inl (upd (upd (upd (upd (upd (upd (lp) (ln * 6) ((nI u))) (ln * 6 + 1) (nI r)) (ln * 6 + 2) ((nI f))) (ln * 6 + 3) ((nI q))) (ln * 6 + 4) (d)) (ln * 6 + 5) (g0)))), (aLL, .inl (cI, 16, .inl (upd lk r (lk r ||| ((1 : Int32) <<< ((nI u) &&& 31))))))] := hD
          refine lv_iload hx hb d_RR_asks_98 (lv_at hl 0 rfl) ?_
          have hP9 := hP.sub (ws' := [(h, .inr (9, [.ref hPA, .ref hRD, .ref hRB, .ref hPE, .ref hHO, .ref hAG, .ref hLO, .ref hRQ, .ref hEX, .ref aFR])), (hRB, .inr (7, [.ref aN, .ref aB, .int (nI bn), .int tl, .int ab, .int mk, .int sh])), (aN, .inl (cI, 20, .inl nd)), (aB, .inl (cI, 20, .inl br)), (hPE, .inr (5, [.ref aRo, .ref aLi, .int (nI en)])), (aRo, .inl (cI, 12, .inl ro)), (aLi, .inl (cI, 12, .inl li)), (hHO, .inr (2, [.ref aFa, .ref aEm, .ref aVa, .int (nI hn)])), (aFa, .inl (cI, 16, .inl fa)), (aEm, .inl (cI, 16, .inl em)), (aVa, .inl (cL, 96, .inr (.inl va))), (hAG, .inr (0, [.ref aAP, .ref aAR, .ref aAF, .ref aAT, .int (nI an)])), (aAP, .inl (cI, 40, .inl ap)), (aAR, .inl (cI, 40, .inl ar)), (aAF, .inl (cI, 40, .inl af)), (aAT, .inl (cI, 40, .inl at_)), (hLO, .inr (3, [.ref aLP, .ref aLL, .int (nI (ln + 1))])), (aLP, .inl (cI, 600, .inl (upd (upd (upd (upd (upd (upd (lp) (ln * 6) ((nI u))) (ln * 6 + 1) (nI r)) (ln * 6 + 2) ((nI f))) (ln * 6 + 3) ((nI q))) (ln * 6 + 4) (d)) (ln * 6 + 5) (g0)))), (aLL, .inl (cI, 16, .inl (upd lk r (lk r ||| ((1 : Int32) <<< ((nI u) &&& 31))))))]) [0, 1, 2, 3, 4, 5, 6, 7, 8, 9, 10, 11, 12, 13, 14, 15, 16, 17, 18] rfl
          have hD9 := hD.sub (ws' := [(h, .inr (9, [.ref hPA, .ref hRD, .ref hRB, .ref hPE, .ref hHO, .ref hAG, .ref hLO, .ref hRQ, .ref hEX, .ref aFR])), (hRB, .inr (7, [.ref aN, .ref aB, .int (nI bn), .int tl, .int ab, .int mk, .int sh])), (aN, .inl (cI, 20, .inl nd)), (aB, .inl (cI, 20, .inl br)), (hPE, .inr (5, [.ref aRo, .ref aLi, .int (nI en)])), (aRo, .inl (cI, 12, .inl ro)), (aLi, .inl (cI, 12, .inl li)), (hHO, .inr (2, [.ref aFa, .ref aEm, .ref aVa, .int (nI hn)])), (aFa, .inl (cI, 16, .inl fa)), (aEm, .inl (cI, 16, .inl em)), (aVa, .inl (cL, 96, .inr (.inl va))), (hAG, .inr (0, [.ref aAP, .ref aAR, .ref aAF, .ref aAT, .int (nI an)])), (aAP, .inl (cI, 40, .inl ap)), (aAR, .inl (cI, 40, .inl ar)), (aAF, .inl (cI, 40, .inl af)), (aAT, .inl (cI, 40, .inl at_)), (hLO, .inr (3, [.ref aLP, .ref aLL, .int (nI (ln + 1))])), (aLP, .inl (cI, 600, .inl (upd (upd (upd (upd (upd (upd (lp) (ln * 6) ((nI u))) (ln * 6 + 1) (nI r)) (ln * 6 + 2) ((nI f))) (ln * 6 + 3) ((nI q))) (ln * 6 + 4) (d)) (ln * 6 + 5) (g0)))), (aLL, .inl (cI, 16, .inl (upd lk r (lk r ||| ((1 : Int32) <<< ((nI u) &&& 31))))))]) [0, 1, 2, 3, 4, 5, 6, 7, 8, 9, 10, 11, 12, 13, 14, 15, 16, 17, 18] (by decide) rfl
          have e9 : ([(h, .inr (9, [.ref hPA, .ref hRD, .ref hRB, .ref hPE, .ref hHO, .ref hAG, .ref hLO, .ref hRQ, .ref hEX, .ref aFR])), (hRB, .inr (7, [.ref aN, .ref aB, .int (nI bn), .int tl, .int ab, .int mk, .int sh])), (aN, .inl (cI, 20, .inl nd)), (aB, .inl (cI, 20, .inl br)), (hPE, .inr (5, [.ref aRo, .ref aLi, .int (nI en)])), (aRo, .inl (cI, 12, .inl ro)), (aLi, .inl (cI, 12, .inl li)), (hHO, .inr (2, [.ref aFa, .ref aEm, .ref aVa, .int (nI hn)])), (aFa, .inl (cI, 16, .inl fa)), (aEm, .inl (cI, 16, .inl em)), (aVa, .inl (cL, 96, .inr (.inl va))), (hAG, .inr (0, [.ref aAP, .ref aAR, .ref aAF, .ref aAT, .int (nI an)])), (aAP, .inl (cI, 40, .inl ap)), (aAR, .inl (cI, 40, .inl ar)), (aAF, .inl (cI, 40, .inl af)), (aAT, .inl (cI, 40, .inl at_)), (hLO, .inr (3, [.ref aLP, .ref aLL, .int (nI (ln + 1))])), (aLP, .inl (cI, 600, .inl (upd (upd (upd (upd (upd (upd (lp) (ln * 6) ((nI u))) (ln * 6 + 1) (nI r)) (ln * 6 + 2) ((nI f))) (ln * 6 + 3) ((nI q))) (ln * 6 + 4) (d)) (ln * 6 + 5) (g0)))), (aLL, .inl (cI, 16, .inl (upd lk r (lk r ||| ((1 : Int32) <<< ((nI u) &&& 31))))))] : va_W) = [(h, .inr (9, [.ref hPA, .ref hRD, .ref hRB, .ref hPE, .ref hHO, .ref hAG, .ref hLO, .ref hRQ, .ref hEX, .ref aFR])), (hRB, .inr (7, [.ref aN, .ref aB, .int (nI bn), .int tl, .int ab, .int mk, .int sh])), (aN, .inl (cI, 20, .inl nd)), (aB, .inl (cI, 20, .inl br)), (hPE, .inr (5, [.ref aRo, .ref aLi, .int (nI en)])), (aRo, .inl (cI, 12, .inl ro)), (aLi, .inl (cI, 12, .inl li)), (hHO, .inr (2, [.ref aFa, .ref aEm, .ref aVa, .int (nI hn)])), (aFa, .inl (cI, 16, .inl fa)), (aEm, .inl (cI, 16, .inl em)), (aVa, .inl (cL, 96, .inr (.inl va))), (hAG, .inr (0, [.ref aAP, .ref aAR, .ref aAF, .ref aAT, .int (nI an)])), (aAP, .inl (cI, 40, .inl ap)), (aAR, .inl (cI, 40, .inl ar)), (aAF, .inl (cI, 40, .inl af)), (aAT, .inl (cI, 40, .inl at_)), (hLO, .inr (3, [.ref aLP, .ref aLL, .int (nI (ln + 1))])), (aLP, .inl (cI, 600, .inl (upd (upd (upd (upd (upd (upd (lp) (ln * 6) (nI u)) (ln * 6 + 1) (nI r)) (ln * 6 + 2) (nI f)) (ln * 6 + 3) (nI q)) (ln * 6 + 4) (d)) (ln * 6 + 5) (ansF ab mk sh (openF nd br tl bn (ro u) (em r) (fa r) d (hasAg ap ar af at_ an (nI u) (nI r) d) &&& ruleFF nd br tl bn (nI f) (nI q)))))), (aLL, .inl (cI, 16, .inl (upd lk r (lk r ||| ((1 : Int32) <<< (nI u &&& 31))))))] := by rw [hg0]
          rw [e9] at hP9 hD9
          exact W.iret (v := g0) hx hb hr (fun t ht hW => ⟨⟨g0, (), rfl, hg0, by rw [ht]; exact hP9, va_K.moved hW.alike hK, hD9⟩, hS.F ht⟩) hS.2.2 d_RR_asks_100
    · exact absurd ((nI_ltI (show q < 2147483648 by omega) (show 4 < 2147483648 by omega)).mpr hq) c22

set_option maxHeartbeats 4000000 in
set_option maxRecDepth 100000 in
/-- RecordRights.look, where there is one -/
theorem c_RR_look (l : Launch) (dC : Nat → ClassId) (dI : Nat → Nat → Nat) (h hPA hRD hRB hPE hHO hAG hLO hRQ hEX aFR : Nat) (cI : ClassId) (aLP aLL : Nat) (lp lk : Nat → Int32) (ln : Nat) (hln : ln ≤ 100) (k j : Nat) (hk : k < ln) (hj : j < 6) : Met l y_RR_look ws_RR_look ({ frames := 1, cells := 0, slots := 0, locals := 22 }) (va_Pc [.ref h, .int (nI k), .int (nI j)] (fun U => va_P (dC, dI) vwCl [(h, .inr (9, [.ref hPA, .ref hRD, .ref hRB, .ref hPE, .ref hHO, .ref hAG, .ref hLO, .ref hRQ, .ref hEX, .ref aFR])), (hLO, .inr (3, [.ref aLP, .ref aLL, .int (nI ln)])), (aLP, .inl (cI, 600, .inl lp)), (aLL, .inl (cI, 16, .inl lk))] U.heap ∧ va_K (dC, dI) vwCl [(cI, .int)] U)) (va_Qi (fun (res : Int32) (_ : Unit) => res = lp (k * 6 + j)) (fun _ _ => True) (fun _ => False)) 0 0 (fun _ => False) := by
  refine Met.ofW (cc := k_RR_look) (maxL := 3) (ret := (some .int)) (by decide) rfl ?_
  intro p e s m args below meth c s₁ B hml hv
  obtain ⟨rfl, hP, hK⟩ := hv
  have hx := B.exec
  have hb := B.bytes
  have hr := B.returns
  have hts := atoms_spec (ws := ws_RR_look) B.pre
  have hown : s.vm.findClass R_RR = some m.cls := findClass_of_methodNamed B.named
  have hlocks := B.notSynchronized
  have hS : va_S (fun _ => False) s.heap s.heap [] := va_S.rf
  have hP : va_P (dC, dI) vwCl [(h, .inr (9, [.ref hPA, .ref hRD, .ref hRB, .ref hPE, .ref hHO, .ref hAG, .ref hLO, .ref hRQ, .ref hEX, .ref aFR])), (hLO, .inr (3, [.ref aLP, .ref aLL, .int (nI ln)])), (aLP, .inl (cI, 600, .inl lp)), (aLL, .inl (cI, 16, .inl lk))] s.heap := hP
  have iLO : ∀ w ∈ u_ws R_LO T_LO 3, w ∈ ws_RR_look := fun w h => wb_RR_look w (in_LO w h)
  have iRR : ∀ w ∈ u_ws R_RR T_RR 10, w ∈ ws_RR_look := fun w h => wb_RR_look w (in_RR w h)
  have hl := lv_entry ([.ref h, .int (nI k), .int (nI j)]) (n := 3) (Nat.le_of_ble_eq_true rfl)
  rw [lg_entry_eq]
  generalize (lg_sl ([.ref h, .int (nI k), .int (nI j)]) ++ List.replicate (3 - (lg_sl ([.ref h, .int (nI k), .int (nI j)])).length) Slot.unset).toArray = ls at hl ⊢
  have hl : lv_has ls 3 [(0, .ref h), (1, .int (nI k)), (2, .int (nI j))] := hl
  refine lv_iload_n hx hb d_RR_look_0 rfl (lv_at hl 1 rfl) ?_
  refine lv_if_lt (tgt := 15) hx hb d_RR_look_1 (by decide) (fun c1 => ?_) (fun c1 => ?_)
  · exact absurd c1 (nI_pos (by omega))
  · refine lv_iload_n hx hb d_RR_look_4 rfl (lv_at hl 1 rfl) ?_
    refine lv_aload_n hx hb d_RR_look_5 rfl (lv_at hl 0 rfl) ?_
    refine va_get (D := (dC, dI)) (ci := 9) (v := .ref hLO) (C := R_RR) (T := T_RR) (N := 10) hx hb hts iRR hown hK hP 0 rfl rfl 6 (by decide) (hts _ (wb_RR_look _ b_230)) (fun _ h9 => h9) rfl d_RR_look_6 ?_
    refine va_get (D := (dC, dI)) (ci := 3) (v := .int (nI ln)) (C := R_LO) (T := T_LO) (N := 3) hx hb hts iLO hown hK hP 1 rfl rfl 2 (by decide) (hts _ (wb_RR_look _ b_184)) (fun _ h9 => h9) rfl d_RR_look_9 ?_
    refine lv_icmp_lt (tgt := 25) hx hb d_RR_look_12 (by decide) (fun c12 => ?_) (fun c12 => ?_)
    · refine lv_iload_n hx hb d_RR_look_25 rfl (lv_at hl 2 rfl) ?_
      refine lv_if_lt (tgt := 35) hx hb d_RR_look_26 (by decide) (fun c26 => ?_) (fun c26 => ?_)
      · exact absurd c26 (nI_pos (by omega))
      · refine lv_iload_n hx hb d_RR_look_29 rfl (lv_at hl 2 rfl) ?_
        refine lv_bipush (v := 6) hx hb d_RR_look_30 (by decide) ?_
        refine lv_icmp_lt (tgt := 45) hx hb d_RR_look_32 (by decide) (fun c32 => ?_) (fun c32 => ?_)
        · refine lv_aload_n hx hb d_RR_look_45 rfl (lv_at hl 0 rfl) ?_
          refine va_get (D := (dC, dI)) (ci := 9) (v := .ref hLO) (C := R_RR) (T := T_RR) (N := 10) hx hb hts iRR hown hK hP 0 rfl rfl 6 (by decide) (hts _ (wb_RR_look _ b_230)) (fun _ h9 => h9) rfl d_RR_look_46 ?_
          refine lv_iload_n hx hb d_RR_look_49 rfl (lv_at hl 1 rfl) ?_
          refine lv_iload_n hx hb d_RR_look_50 rfl (lv_at hl 2 rfl) ?_
          have hPc := hP.sub (ws' := [(hLO, .inr (3, [.ref aLP, .ref aLL, .int (nI ln)])), (aLP, .inl (cI, 600, .inl lp)), (aLL, .inl (cI, 16, .inl lk))]) [1, 2, 3] rfl
          have hKc := hK.sub (tys' := [(cI, .int)]) [0] rfl
          refine va_calli (va_runV (As := [.int (nI k), .int (nI j)]) (rest := []) ⟨hx, hb, hml, hown, hts⟩ (c_LO_part l dC dI cI hLO aLP aLL lp lk ln (by first | assumption | omega) k j (by first | assumption | omega) (by first | assumption | omega)) (cwV 2 hts (vz_gV wb_RR_look b_556 b_557 b_558 b_8 wc_LO_part) rfl rfl rfl (by decide +kernel) ⟨Nat.le_of_ble_eq_true rfl, Nat.le_of_ble_eq_true rfl⟩) (vz_preV hPc hKc (ci := 3) (q0 := 0) rfl rfl) rfl rfl hl.1 rfl (lv_room (Nat.le_of_ble_eq_true rfl)) d_RR_look_51 ⟨Nat.le_of_ble_eq_true rfl, Nat.le_of_ble_eq_true rfl⟩) hS (fun q _ h => False.elim h) (fun q h => False.elim h) (fun r51 u9 t9 H1 locs ht hvm hr51 hB hzx9 hkx9 hS => ?_)
          try dsimp only at hr51
          have hP := vz_kept hP hkx9
          generalize H1 = H at hP hS ⊢
          exact W.iret (v := r51) hx hb hr (fun t ht hW => ⟨⟨r51, (), rfl, hr51, trivial⟩, hS.F ht⟩) hS.2.2 d_RR_look_54
        · exact absurd ((nI_ltI (show j < 2147483648 by omega) (show 6 < 2147483648 by omega)).mpr hj) c32
    · exact absurd ((nI_ltI (by omega) (by omega)).mpr hk) c12

set_option maxHeartbeats 4000000 in
set_option maxRecDepth 100000 in
/-- RecordRights.looked, where there is the record -/
theorem c_RR_looked (l : Launch) (dC : Nat → ClassId) (dI : Nat → Nat → Nat) (h hPA hRD hRB hPE hHO hAG hLO hRQ hEX aFR : Nat) (cI : ClassId) (aFa aEm aVa : Nat) (hn : Nat) (aLP aLL : Nat) (lp lk : Nat → Int32) (ln : Nat) (hhn : hn ≤ 16) (r : Nat) (hr : r < hn) (k : Int32) (hk : ¬ k < 0) : Met l y_RR_looked ws_RR_looked ({ frames := 1, cells := 0, slots := 0, locals := 24 }) (va_Pc [.ref h, .int (nI r), .int k] (fun U => va_P (dC, dI) vwCl [(h, .inr (9, [.ref hPA, .ref hRD, .ref hRB, .ref hPE, .ref hHO, .ref hAG, .ref hLO, .ref hRQ, .ref hEX, .ref aFR])), (hHO, .inr (2, [.ref aFa, .ref aEm, .ref aVa, .int (nI hn)])), (hLO, .inr (3, [.ref aLP, .ref aLL, .int (nI ln)])), (aLP, .inl (cI, 600, .inl lp)), (aLL, .inl (cI, 16, .inl lk))] U.heap ∧ va_K (dC, dI) vwCl [(cI, .int)] U)) (va_Qi (fun (res : Int32) (_ : Unit) => res = lookN (lk r) k 0 12 0) (fun _ _ => True) (fun _ => False)) 0 0 (fun _ => False) := by
  refine Met.ofW (cc := k_RR_looked) (maxL := 3) (ret := (some .int)) (by decide) rfl ?_
  intro p e s m args below meth c s₁ B hml hv
  obtain ⟨rfl, hP, hK⟩ := hv
  have hx := B.exec
  have hb := B.bytes
  have hr := B.returns
  have hts := atoms_spec (ws := ws_RR_looked) B.pre
  have hown : s.vm.findClass R_RR = some m.cls := findClass_of_methodNamed B.named
  have hlocks := B.notSynchronized
  have hS : va_S (fun _ => False) s.heap s.heap [] := va_S.rf
  have hP : va_P (dC, dI) vwCl [(h, .inr (9, [.ref hPA, .ref hRD, .ref hRB, .ref hPE, .ref hHO, .ref hAG, .ref hLO, .ref hRQ, .ref hEX, .ref aFR])), (hHO, .inr (2, [.ref aFa, .ref aEm, .ref aVa, .int (nI hn)])), (hLO, .inr (3, [.ref aLP, .ref aLL, .int (nI ln)])), (aLP, .inl (cI, 600, .inl lp)), (aLL, .inl (cI, 16, .inl lk))] s.heap := hP
  have iHO : ∀ w ∈ u_ws R_HO T_HO 4, w ∈ ws_RR_looked := fun w h => wb_RR_looked w (in_HO w h)
  have iLO : ∀ w ∈ u_ws R_LO T_LO 3, w ∈ ws_RR_looked := fun w h => wb_RR_looked w (in_LO w h)
  have iRR : ∀ w ∈ u_ws R_RR T_RR 10, w ∈ ws_RR_looked := fun w h => wb_RR_looked w (in_RR w h)
  have hl := lv_entry ([.ref h, .int (nI r), .int k]) (n := 3) (Nat.le_of_ble_eq_true rfl)
  rw [lg_entry_eq]
  generalize (lg_sl ([.ref h, .int (nI r), .int k]) ++ List.replicate (3 - (lg_sl ([.ref h, .int (nI r), .int k])).length) Slot.unset).toArray = ls at hl ⊢
  have hl : lv_has ls 3 [(0, .ref h), (1, .int (nI r)), (2, .int k)] := hl
  refine lv_aload_n hx hb d_RR_looked_0 rfl (lv_at hl 0 rfl) ?_
  refine lv_iload_n hx hb d_RR_looked_1 rfl (lv_at hl 1 rfl) ?_
  have hPc := hP.sub (ws' := [(h, .inr (9, [.ref hPA, .ref hRD, .ref hRB, .ref hPE, .ref hHO, .ref hAG, .ref hLO, .ref hRQ, .ref hEX, .ref aFR])), (hHO, .inr (2, [.ref aFa, .ref aEm, .ref aVa, .int (nI hn)]))]) [0, 1] rfl
  have hKc := hK.sub (tys' := []) [] rfl
  refine va_callv (va_runV (As := [.int (nI r)]) (rest := []) ⟨hx, hb, hml, hown, hts⟩ (c_RR_requireRecord l dC dI h hPA hRD hRB hPE hHO hAG hLO hRQ hEX aFR aFa aEm aVa hn (by first | assumption | omega) r (by first | assumption | omega)) (cwV 1 hts (vz_gV wb_RR_looked b_456 b_458 bs_7 b_1 wc_RR_requireRecord) rfl rfl rfl (by decide +kernel) ⟨Nat.le_of_ble_eq_true rfl, Nat.le_of_ble_eq_true rfl⟩) (vz_preV hPc hKc (ci := 9) (q0 := 0) rfl rfl) rfl rfl hl.1 rfl (lv_room (Nat.le_of_ble_eq_true rfl)) d_RR_looked_2 ⟨Nat.le_of_ble_eq_true rfl, Nat.le_of_ble_eq_true rfl⟩) hS (fun q _ h => False.elim h) (fun q h => False.elim h) (fun u9 t9 H1 locs ht hvm hr2 hB hzx9 hkx9 hS => ?_)
  try dsimp only at hr2
  have hP := vz_kept hP hkx9
  generalize H1 = H at hP hS ⊢
  refine lv_iload_n hx hb d_RR_looked_5 rfl (lv_at hl 2 rfl) ?_
  refine lv_if_ge (tgt := 19) hx hb d_RR_looked_6 (by decide) (fun c6 => ?_) (fun c6 => ?_)
  · refine lv_aload_n hx hb d_RR_looked_19 rfl (lv_at hl 0 rfl) ?_
    refine va_get (D := (dC, dI)) (ci := 9) (v := .ref hLO) (C := R_RR) (T := T_RR) (N := 10) hx hb hts iRR hown hK hP 0 rfl rfl 6 (by decide) (hts _ (wb_RR_looked _ b_230)) (fun _ h9 => h9) rfl d_RR_looked_20 ?_
    refine lv_iload_n hx hb d_RR_looked_23 rfl (lv_at hl 1 rfl) ?_
    refine lv_iload_n hx hb d_RR_looked_24 rfl (lv_at hl 2 rfl) ?_
    have hPc := hP.sub (ws' := [(hLO, .inr (3, [.ref aLP, .ref aLL, .int (nI ln)])), (aLP, .inl (cI, 600, .inl lp)), (aLL, .inl (cI, 16, .inl lk))]) [2, 3, 4] rfl
    have hKc := hK.sub (tys' := [(cI, .int)]) [0] rfl
    refine va_calli (va_runV (As := [.int (nI r), .int k]) (rest := []) ⟨hx, hb, hml, hown, hts⟩ (c_LO_looker l dC dI cI hLO aLP aLL lp lk ln r (by first | assumption | omega) k) (cwV 2 hts (vz_gV wb_RR_looked b_568 b_569 b_570 b_8 wc_LO_looker) rfl rfl rfl (by decide +kernel) ⟨Nat.le_of_ble_eq_true rfl, Nat.le_of_ble_eq_true rfl⟩) (vz_preV hPc hKc (ci := 3) (q0 := 0) rfl rfl) rfl rfl hl.1 rfl (lv_room (Nat.le_of_ble_eq_true rfl)) d_RR_looked_25 ⟨Nat.le_of_ble_eq_true rfl, Nat.le_of_ble_eq_true rfl⟩) hS (fun q _ h => False.elim h) (fun q h => False.elim h) (fun r25 u9 t9 H1 locs ht hvm hr25 hB hzx9 hkx9 hS => ?_)
    try dsimp only at hr25
    have hP := vz_kept hP hkx9
    generalize H1 = H at hP hS ⊢
    exact W.iret (v := r25) hx hb hr (fun t ht hW => ⟨⟨r25, (), rfl, hr25, trivial⟩, hS.F ht⟩) hS.2.2 d_RR_looked_28
  · exact absurd (Int32.not_lt.mp hk) c6

set_option maxHeartbeats 4000000 in
set_option maxRecDepth 100000 in
/-- RecordRights.exported, where there is one -/
theorem c_RR_exported (l : Launch) (dC : Nat → ClassId) (dI : Nat → Nat → Nat) (h hPA hRD hRB hPE hHO hAG hLO hRQ hEX aFR : Nat) (cI : ClassId) (aER : Nat) (er : Nat → Int32) (xn : Nat) (hxn : xn ≤ 16) (k : Nat) (hk : k < xn) : Met l y_RR_exported ws_RR_exported ({ frames := 0, cells := 0, slots := 0, locals := 0 }) (va_Pc [.ref h, .int (nI k)] (fun U => va_P (dC, dI) vwCl [(h, .inr (9, [.ref hPA, .ref hRD, .ref hRB, .ref hPE, .ref hHO, .ref hAG, .ref hLO, .ref hRQ, .ref hEX, .ref aFR])), (hEX, .inr (1, [.ref aER, .int (nI xn)])), (aER, .inl (cI, 16, .inl er))] U.heap ∧ va_K (dC, dI) vwCl [(cI, .int)] U)) (va_Qi (fun (res : Int32) (_ : Unit) => res = er k) (fun _ _ => True) (fun _ => False)) 0 0 (fun _ => False) := by
  refine Met.ofW (cc := k_RR_exported) (maxL := 2) (ret := (some .int)) (by decide) rfl ?_
  intro p e s m args below meth c s₁ B hml hv
  obtain ⟨rfl, hP, hK⟩ := hv
  have hx := B.exec
  have hb := B.bytes
  have hr := B.returns
  have hts := atoms_spec (ws := ws_RR_exported) B.pre
  have hown : s.vm.findClass R_RR = some m.cls := findClass_of_methodNamed B.named
  have hlocks := B.notSynchronized
  have hS : va_S (fun _ => False) s.heap s.heap [] := va_S.rf
  have hP : va_P (dC, dI) vwCl [(h, .inr (9, [.ref hPA, .ref hRD, .ref hRB, .ref hPE, .ref hHO, .ref hAG, .ref hLO, .ref hRQ, .ref hEX, .ref aFR])), (hEX, .inr (1, [.ref aER, .int (nI xn)])), (aER, .inl (cI, 16, .inl er))] s.heap := hP
  have iEX : ∀ w ∈ u_ws R_EX T_EX 2, w ∈ ws_RR_exported := fun w h => wb_RR_exported w (in_EX w h)
  have iRR : ∀ w ∈ u_ws R_RR T_RR 10, w ∈ ws_RR_exported := fun w h => wb_RR_exported w (in_RR w h)
  have hl := lv_entry ([.ref h, .int (nI k)]) (n := 2) (Nat.le_of_ble_eq_true rfl)
  rw [lg_entry_eq]
  generalize (lg_sl ([.ref h, .int (nI k)]) ++ List.replicate (2 - (lg_sl ([.ref h, .int (nI k)])).length) Slot.unset).toArray = ls at hl ⊢
  have hl : lv_has ls 2 [(0, .ref h), (1, .int (nI k))] := hl
  refine lv_iload_n hx hb d_RR_exported_0 rfl (lv_at hl 1 rfl) ?_
  refine lv_if_lt (tgt := 15) hx hb d_RR_exported_1 (by decide) (fun c1 => ?_) (fun c1 => ?_)
  · exact absurd c1 (nI_pos (by omega))
  · refine lv_iload_n hx hb d_RR_exported_4 rfl (lv_at hl 1 rfl) ?_
    refine lv_aload_n hx hb d_RR_exported_5 rfl (lv_at hl 0 rfl) ?_
    refine va_get (D := (dC, dI)) (ci := 9) (v := .ref hEX) (C := R_RR) (T := T_RR) (N := 10) hx hb hts iRR hown hK hP 0 rfl rfl 8 (by decide) (hts _ (wb_RR_exported _ b_232)) (fun _ h9 => h9) rfl d_RR_exported_6 ?_
    refine va_get (D := (dC, dI)) (ci := 1) (v := .int (nI xn)) (C := R_EX) (T := T_EX) (N := 2) hx hb hts iEX hown hK hP 1 rfl rfl 1 (by decide) (hts _ (wb_RR_exported _ b_218)) (fun _ h9 => h9) rfl d_RR_exported_9 ?_
    refine lv_icmp_lt (tgt := 25) hx hb d_RR_exported_12 (by decide) (fun c12 => ?_) (fun c12 => ?_)
    · refine lv_aload_n hx hb d_RR_exported_25 rfl (lv_at hl 0 rfl) ?_
      refine va_get (D := (dC, dI)) (ci := 9) (v := .ref hEX) (C := R_RR) (T := T_RR) (N := 10) hx hb hts iRR hown hK hP 0 rfl rfl 8 (by decide) (hts _ (wb_RR_exported _ b_232)) (fun _ h9 => h9) rfl d_RR_exported_26 ?_
      refine va_get (D := (dC, dI)) (ci := 1) (v := .ref aER) (C := R_EX) (T := T_EX) (N := 2) hx hb hts iEX hown hK hP 1 rfl rfl 0 (by decide) (hts _ (wb_RR_exported _ b_216)) (fun _ h9 => h9) rfl d_RR_exported_29 ?_
      refine lv_iload_n hx hb d_RR_exported_32 rfl (lv_at hl 1 rfl) ?_
      refine vz_iald (k := k) hx hb hK hP 2 0 rfl rfl (by omega) (by decide) d_RR_exported_33 ?_
      exact W.iret (v := er k) hx hb hr (fun t ht hW => ⟨⟨er k, (), rfl, rfl, trivial⟩, hS.F ht⟩) hS.2.2 d_RR_exported_34
    · exact absurd ((nI_ltI (by omega) (by omega)).mpr hk) c12

set_option maxHeartbeats 4000000 in
set_option maxRecDepth 100000 in
/-- RecordRights.limit, where it is one -/
theorem c_RR_limit (l : Launch) (dC : Nat → ClassId) (dI : Nat → Nat → Nat) (sz : Nat) (h hPA hRD hRB hPE hHO hAG hLO hRQ hEX aFR : Nat) (cI : ClassId) (aRo aLi : Nat) (ro li : Nat → Int32) (en : Nat) (hen : en ≤ 12) (u : Nat) (hu : u < en) (z : Int32) (hz0 : ¬ z < 0) (hz1 : z ≤ 60) : Met l y_RR_limit ws_RR_limit ({ frames := 1, cells := 0, slots := 0, locals := 21 }) (va_Pc [.ref h, .int (nI u), .int z] (fun U => U.heap.size = sz ∧ va_P (dC, dI) vwCl [(h, .inr (9, [.ref hPA, .ref hRD, .ref hRB, .ref hPE, .ref hHO, .ref hAG, .ref hLO, .ref hRQ, .ref hEX, .ref aFR])), (hPE, .inr (5, [.ref aRo, .ref aLi, .int (nI en)])), (aRo, .inl (cI, 12, .inl ro)), (aLi, .inl (cI, 12, .inl li))] U.heap ∧ va_K (dC, dI) vwCl [(cI, .int)] U ∧ va_D (fun _ => True) [(h, .inr (9, [.ref hPA, .ref hRD, .ref hRB, .ref hPE, .ref hHO, .ref hAG, .ref hLO, .ref hRQ, .ref hEX, .ref aFR])), (hPE, .inr (5, [.ref aRo, .ref aLi, .int (nI en)])), (aRo, .inl (cI, 12, .inl ro)), (aLi, .inl (cI, 12, .inl li))])) (va_Qi (fun (res : Int32) (_ : Unit) => res = li u) (fun _ t => va_P (dC, dI) vwCl [(h, .inr (9, [.ref hPA, .ref hRD, .ref hRB, .ref hPE, .ref hHO, .ref hAG, .ref hLO, .ref hRQ, .ref hEX, .ref aFR])), (hPE, .inr (5, [.ref aRo, .ref aLi, .int (nI en)])), (aRo, .inl (cI, 12, .inl ro)), (aLi, .inl (cI, 12, .inl (upd li u z)))] t.heap ∧ va_K (dC, dI) vwCl [(cI, .int)] t ∧ va_D (va_A [(h, .inr (9, [.ref hPA, .ref hRD, .ref hRB, .ref hPE, .ref hHO, .ref hAG, .ref hLO, .ref hRQ, .ref hEX, .ref aFR])), (hPE, .inr (5, [.ref aRo, .ref aLi, .int (nI en)])), (aRo, .inl (cI, 12, .inl ro)), (aLi, .inl (cI, 12, .inl li))] sz) [(h, .inr (9, [.ref hPA, .ref hRD, .ref hRB, .ref hPE, .ref hHO, .ref hAG, .ref hLO, .ref hRQ, .ref hEX, .ref aFR])), (hPE, .inr (5, [.ref aRo, .ref aLi, .int (nI en)])), (aRo, .inl (cI, 12, .inl ro)), (aLi, .inl (cI, 12, .inl (upd li u z)))]) (va_A [(h, .inr (9, [.ref hPA, .ref hRD, .ref hRB, .ref hPE, .ref hHO, .ref hAG, .ref hLO, .ref hRQ, .ref hEX, .ref aFR])), (hPE, .inr (5, [.ref aRo, .ref aLi, .int (nI en)])), (aRo, .inl (cI, 12, .inl ro)), (aLi, .inl (cI, 12, .inl li))] sz)) 0 0 (va_A [(h, .inr (9, [.ref hPA, .ref hRD, .ref hRB, .ref hPE, .ref hHO, .ref hAG, .ref hLO, .ref hRQ, .ref hEX, .ref aFR])), (hPE, .inr (5, [.ref aRo, .ref aLi, .int (nI en)])), (aRo, .inl (cI, 12, .inl ro)), (aLi, .inl (cI, 12, .inl li))] sz) := by
  refine Met.ofW (cc := k_RR_limit) (maxL := 4) (ret := (some .int)) (by decide) rfl ?_
  intro p e s m args below meth c s₁ B hml hv
  obtain ⟨rfl, hsz, hP, hK, hD0⟩ := hv
  have hx := B.exec
  have hb := B.bytes
  have hr := B.returns
  have hts := atoms_spec (ws := ws_RR_limit) B.pre
  have hown : s.vm.findClass R_RR = some m.cls := findClass_of_methodNamed B.named
  have hlocks := B.notSynchronized
  subst hsz
  have hD := hD0.self (sz := s.heap.size)
  generalize hAe : va_A [(h, .inr (9, [.ref hPA, .ref hRD, .ref hRB, .ref hPE, .ref hHO, .ref hAG, .ref hLO, .ref hRQ, .ref hEX, .ref aFR])), (hPE, .inr (5, [.ref aRo, .ref aLi, .int (nI en)])), (aRo, .inl (cI, 12, .inl ro)), (aLi, .inl (cI, 12, .inl li))] s.heap.size = A at hD ⊢
  have hA : ∀ q : Nat, s.heap.size ≤ q → A q := fun q h => by rw [← hAe]; exact Or.inr h
  have hS : va_S A s.heap s.heap [] := va_S.rf
  have hP : va_P (dC, dI) vwCl [(h, .inr (9, [.ref hPA, .ref hRD, .ref hRB, .ref hPE, .ref hHO, .ref hAG, .ref hLO, .ref hRQ, .ref hEX, .ref aFR])), (hPE, .inr (5, [.ref aRo, .ref aLi, .int (nI en)])), (aRo, .inl (cI, 12, .inl ro)), (aLi, .inl (cI, 12, .inl li))] s.heap := hP
  have iPE : ∀ w ∈ u_ws R_PE T_PE 3, w ∈ ws_RR_limit := fun w h => wb_RR_limit w (in_PE w h)
  have iRR : ∀ w ∈ u_ws R_RR T_RR 10, w ∈ ws_RR_limit := fun w h => wb_RR_limit w (in_RR w h)
  have hl := lv_entry ([.ref h, .int (nI u), .int z]) (n := 4) (Nat.le_of_ble_eq_true rfl)
  rw [lg_entry_eq]
  generalize (lg_sl ([.ref h, .int (nI u), .int z]) ++ List.replicate (4 - (lg_sl ([.ref h, .int (nI u), .int z])).length) Slot.unset).toArray = ls at hl ⊢
  have hl : lv_has ls 4 [(0, .ref h), (1, .int (nI u)), (2, .int z)] := hl
  refine lv_aload_n hx hb d_RR_limit_0 rfl (lv_at hl 0 rfl) ?_
  refine lv_iload_n hx hb d_RR_limit_1 rfl (lv_at hl 1 rfl) ?_
  have hPc := hP.sub (ws' := [(h, .inr (9, [.ref hPA, .ref hRD, .ref hRB, .ref hPE, .ref hHO, .ref hAG, .ref hLO, .ref hRQ, .ref hEX, .ref aFR])), (hPE, .inr (5, [.ref aRo, .ref aLi, .int (nI en)]))]) [0, 1] rfl
  have hKc := hK.sub (tys' := []) [] rfl
  refine va_callv (va_runV (As := [.int (nI u)]) (rest := []) ⟨hx, hb, hml, hown, hts⟩ (c_RR_requirePerson l dC dI h hPA hRD hRB hPE hHO hAG hLO hRQ hEX aFR aRo aLi en (by first | assumption | omega) u (by first | assumption | omega)) (cwV 1 hts (vz_gV wb_RR_limit b_492 b_494 bs_8 b_1 wc_RR_requirePerson) rfl rfl rfl (by decide +kernel) ⟨Nat.le_of_ble_eq_true rfl, Nat.le_of_ble_eq_true rfl⟩) (vz_preV hPc hKc (ci := 9) (q0 := 0) rfl rfl) rfl rfl hl.1 rfl (lv_room (Nat.le_of_ble_eq_true rfl)) d_RR_limit_2 ⟨Nat.le_of_ble_eq_true rfl, Nat.le_of_ble_eq_true rfl⟩) hS (fun q _ h => False.elim h) (fun q h => False.elim h) (fun u9 t9 H1 locs ht hvm hr2 hB hzx9 hkx9 hS => ?_)
  try dsimp only at hr2
  have hP := vz_kept hP hkx9
  generalize H1 = H at hP hS ⊢
  refine lv_iload_n hx hb d_RR_limit_5 rfl (lv_at hl 2 rfl) ?_
  refine lv_if_lt (tgt := 15) hx hb d_RR_limit_6 (by decide) (fun c6 => ?_) (fun c6 => ?_)
  · exact absurd c6 hz0
  · refine lv_iload_n hx hb d_RR_limit_9 rfl (lv_at hl 2 rfl) ?_
    refine lv_bipush (v := 60) hx hb d_RR_limit_10 (by decide) ?_
    refine lv_icmp_le (tgt := 25) hx hb d_RR_limit_12 (by decide) (fun c12 => ?_) (fun c12 => ?_)
    · refine lv_aload_n hx hb d_RR_limit_25 rfl (lv_at hl 0 rfl) ?_
      refine va_get (D := (dC, dI)) (ci := 9) (v := .ref hPE) (C := R_RR) (T := T_RR) (N := 10) hx hb hts iRR hown hK hP 0 rfl rfl 3 (by decide) (hts _ (wb_RR_limit _ b_227)) (fun _ h9 => h9) rfl d_RR_limit_26 ?_
      refine va_get (D := (dC, dI)) (ci := 5) (v := .ref aLi) (C := R_PE) (T := T_PE) (N := 3) hx hb hts iPE hown hK hP 1 rfl rfl 1 (by decide) (hts _ (wb_RR_limit _ b_119)) (fun _ h9 => h9) rfl d_RR_limit_29 ?_
      refine lv_iload_n hx hb d_RR_limit_32 rfl (lv_at hl 1 rfl) ?_
      refine vz_iald (k := u) hx hb hK hP 3 0 rfl rfl (by omega) (by decide) d_RR_limit_33 ?_
      refine lv_istore_n (lv' := [(3, .int (li u)), (0, .ref h), (1, .int (nI u)), (2, .int z)]) hx hb d_RR_limit_34 rfl hl (by decide) rfl (fun ls hl => ?_)
      refine lv_aload_n hx hb d_RR_limit_35 rfl (lv_at hl 1 rfl) ?_
      refine va_get (D := (dC, dI)) (ci := 9) (v := .ref hPE) (C := R_RR) (T := T_RR) (N := 10) hx hb hts iRR hown hK hP 0 rfl rfl 3 (by decide) (hts _ (wb_RR_limit _ b_227)) (fun _ h9 => h9) rfl d_RR_limit_36 ?_
      refine va_get (D := (dC, dI)) (ci := 5) (v := .ref aLi) (C := R_PE) (T := T_PE) (N := 3) hx hb hts iPE hown hK hP 1 rfl rfl 1 (by decide) (hts _ (wb_RR_limit _ b_119)) (fun _ h9 => h9) rfl d_RR_limit_39 ?_
      refine lv_iload_n hx hb d_RR_limit_42 rfl (lv_at hl 2 rfl) ?_
      refine lv_iload_n hx hb d_RR_limit_43 rfl (lv_at hl 3 rfl) ?_
      refine vz_iast (k := u) hx hb hK hP hD hS 3 0 rfl rfl (by omega) (by decide) d_RR_limit_44 (fun H locs hP hD hS => ?_)
      have hP : va_P (dC, dI) vwCl [(h, .inr (9, [.ref hPA, .ref hRD, .ref hRB, .ref hPE, .ref hHO, .ref hAG, .ref hLO, .ref hRQ, .ref hEX, .ref aFR])), (hPE, .inr (5, [.ref aRo, .ref aLi, .int (nI en)])), (aRo, .inl (cI, 12, .inl ro)), (aLi, .inl (cI, 12, .inl (upd li u z)))] H := hP
      have hD : va_D A [(h, .inr (9, [.ref hPA, .ref hRD, .ref hRB, .ref hPE, .ref hHO, .ref hAG, .ref hLO, .ref hRQ, .ref hEX, .ref aFR])), (hPE, .inr (5, [.ref aRo, .ref aLi, .int (nI en)])), (aRo, .inl (cI, 12, .inl ro)), (aLi, .inl (cI, 12, .inl (upd li u z)))] := hD
      refine lv_iload_n hx hb d_RR_limit_45 rfl (lv_at hl 0 rfl) ?_
      have hP9 := hP.sub (ws' := [(h, .inr (9, [.ref hPA, .ref hRD, .ref hRB, .ref hPE, .ref hHO, .ref hAG, .ref hLO, .ref hRQ, .ref hEX, .ref aFR])), (hPE, .inr (5, [.ref aRo, .ref aLi, .int (nI en)])), (aRo, .inl (cI, 12, .inl ro)), (aLi, .inl (cI, 12, .inl (upd li u z)))]) [0, 1, 2, 3] rfl
      have hD9 := hD.sub (ws' := [(h, .inr (9, [.ref hPA, .ref hRD, .ref hRB, .ref hPE, .ref hHO, .ref hAG, .ref hLO, .ref hRQ, .ref hEX, .ref aFR])), (hPE, .inr (5, [.ref aRo, .ref aLi, .int (nI en)])), (aRo, .inl (cI, 12, .inl ro)), (aLi, .inl (cI, 12, .inl (upd li u z)))]) [0, 1, 2, 3] (by decide) rfl
      exact W.iret (v := li u) hx hb hr (fun t ht hW => ⟨⟨li u, (), rfl, rfl, by rw [ht]; exact hP9, va_K.moved hW.alike hK, hD9⟩, hS.F ht⟩) hS.2.2 d_RR_limit_46
    · exact absurd hz1 c12

set_option maxHeartbeats 4000000 in
set_option maxRecDepth 100000 in
/-- RecordRights.request, too many -/
theorem c_RR_requestNo (l : Launch) (dC : Nat → ClassId) (dI : Nat → Nat → Nat) (sz : Nat) (h hPA hRD hRB hPE hHO hAG hLO hRQ hEX aFR : Nat) (cI : ClassId) (aRo aLi : Nat) (ro li : Nat → Int32) (en : Nat) (aFa aEm aVa : Nat) (hn : Nat) (aQP aQD : Nat) (qp qd : Nat → Int32) (qn : Nat) (hen : en ≤ 12) (hhn : hn ≤ 16) (hqn : qn < 60) (u r : Nat) (hu : u < en) (hr : r < hn) (d : Int32) (hd0 : ¬ d < 0) (hd1 : d ≤ 100000) (hkp : ¬ (nI (withN qp qd (nI u) d qn + 1) ≤ li u)) : Met l y_RR_request ws_RR_request ({ frames := 1, cells := 0, slots := 0, locals := 24 }) (va_Pc [.ref h, .int (nI u), .int (nI r), .int d] (fun U => U.heap.size = sz ∧ va_P (dC, dI) vwCl [(h, .inr (9, [.ref hPA, .ref hRD, .ref hRB, .ref hPE, .ref hHO, .ref hAG, .ref hLO, .ref hRQ, .ref hEX, .ref aFR])), (hPE, .inr (5, [.ref aRo, .ref aLi, .int (nI en)])), (aRo, .inl (cI, 12, .inl ro)), (aLi, .inl (cI, 12, .inl li)), (hHO, .inr (2, [.ref aFa, .ref aEm, .ref aVa, .int (nI hn)])), (hRQ, .inr (6, [.ref aQP, .ref aQD, .int (nI qn)])), (aQP, .inl (cI, 60, .inl qp)), (aQD, .inl (cI, 60, .inl qd))] U.heap ∧ va_K (dC, dI) vwCl [(cI, .int)] U ∧ va_D (fun _ => True) [(h, .inr (9, [.ref hPA, .ref hRD, .ref hRB, .ref hPE, .ref hHO, .ref hAG, .ref hLO, .ref hRQ, .ref hEX, .ref aFR])), (hPE, .inr (5, [.ref aRo, .ref aLi, .int (nI en)])), (aRo, .inl (cI, 12, .inl ro)), (aLi, .inl (cI, 12, .inl li)), (hHO, .inr (2, [.ref aFa, .ref aEm, .ref aVa, .int (nI hn)])), (hRQ, .inr (6, [.ref aQP, .ref aQD, .int (nI qn)])), (aQP, .inl (cI, 60, .inl qp)), (aQD, .inl (cI, 60, .inl qd))])) (va_Qi (fun (res : Int32) (_ : Unit) => res = -1) (fun _ t => va_P (dC, dI) vwCl [(h, .inr (9, [.ref hPA, .ref hRD, .ref hRB, .ref hPE, .ref hHO, .ref hAG, .ref hLO, .ref hRQ, .ref hEX, .ref aFR])), (hPE, .inr (5, [.ref aRo, .ref aLi, .int (nI en)])), (aRo, .inl (cI, 12, .inl ro)), (aLi, .inl (cI, 12, .inl li)), (hHO, .inr (2, [.ref aFa, .ref aEm, .ref aVa, .int (nI hn)])), (hRQ, .inr (6, [.ref aQP, .ref aQD, .int (nI qn)])), (aQP, .inl (cI, 60, .inl qp)), (aQD, .inl (cI, 60, .inl qd))] t.heap ∧ va_K (dC, dI) vwCl [(cI, .int)] t ∧ va_D (va_A [(h, .inr (9, [.ref hPA, .ref hRD, .ref hRB, .ref hPE, .ref hHO, .ref hAG, .ref hLO, .ref hRQ, .ref hEX, .ref aFR])), (hPE, .inr (5, [.ref aRo, .ref aLi, .int (nI en)])), (aRo, .inl (cI, 12, .inl ro)), (aLi, .inl (cI, 12, .inl li)), (hHO, .inr (2, [.ref aFa, .ref aEm, .ref aVa, .int (nI hn)])), (hRQ, .inr (6, [.ref aQP, .ref aQD, .int (nI qn)])), (aQP, .inl (cI, 60, .inl qp)), (aQD, .inl (cI, 60, .inl qd))] sz) [(h, .inr (9, [.ref hPA, .ref hRD, .ref hRB, .ref hPE, .ref hHO, .ref hAG, .ref hLO, .ref hRQ, .ref hEX, .ref aFR])), (hPE, .inr (5, [.ref aRo, .ref aLi, .int (nI en)])), (aRo, .inl (cI, 12, .inl ro)), (aLi, .inl (cI, 12, .inl li)), (hHO, .inr (2, [.ref aFa, .ref aEm, .ref aVa, .int (nI hn)])), (hRQ, .inr (6, [.ref aQP, .ref aQD, .int (nI qn)])), (aQP, .inl (cI, 60, .inl qp)), (aQD, .inl (cI, 60, .inl qd))]) (va_A [(h, .inr (9, [.ref hPA, .ref hRD, .ref hRB, .ref hPE, .ref hHO, .ref hAG, .ref hLO, .ref hRQ, .ref hEX, .ref aFR])), (hPE, .inr (5, [.ref aRo, .ref aLi, .int (nI en)])), (aRo, .inl (cI, 12, .inl ro)), (aLi, .inl (cI, 12, .inl li)), (hHO, .inr (2, [.ref aFa, .ref aEm, .ref aVa, .int (nI hn)])), (hRQ, .inr (6, [.ref aQP, .ref aQD, .int (nI qn)])), (aQP, .inl (cI, 60, .inl qp)), (aQD, .inl (cI, 60, .inl qd))] sz)) 0 0 (va_A [(h, .inr (9, [.ref hPA, .ref hRD, .ref hRB, .ref hPE, .ref hHO, .ref hAG, .ref hLO, .ref hRQ, .ref hEX, .ref aFR])), (hPE, .inr (5, [.ref aRo, .ref aLi, .int (nI en)])), (aRo, .inl (cI, 12, .inl ro)), (aLi, .inl (cI, 12, .inl li)), (hHO, .inr (2, [.ref aFa, .ref aEm, .ref aVa, .int (nI hn)])), (hRQ, .inr (6, [.ref aQP, .ref aQD, .int (nI qn)])), (aQP, .inl (cI, 60, .inl qp)), (aQD, .inl (cI, 60, .inl qd))] sz) := by
  refine Met.ofW (cc := k_RR_request) (maxL := 5) (ret := (some .int)) (by decide) rfl ?_
  intro p e s m args below meth c s₁ B hml hv
  obtain ⟨rfl, hsz, hP, hK, hD0⟩ := hv
  have hx := B.exec
  have hb := B.bytes
  have hr := B.returns
  have hts := atoms_spec (ws := ws_RR_request) B.pre
  have hown : s.vm.findClass R_RR = some m.cls := findClass_of_methodNamed B.named
  have hlocks := B.notSynchronized
  subst hsz
  have hD := hD0.self (sz := s.heap.size)
  generalize hAe : va_A [(h, .inr (9, [.ref hPA, .ref hRD, .ref hRB, .ref hPE, .ref hHO, .ref hAG, .ref hLO, .ref hRQ, .ref hEX, .ref aFR])), (hPE, .inr (5, [.ref aRo, .ref aLi, .int (nI en)])), (aRo, .inl (cI, 12, .inl ro)), (aLi, .inl (cI, 12, .inl li)), (hHO, .inr (2, [.ref aFa, .ref aEm, .ref aVa, .int (nI hn)])), (hRQ, .inr (6, [.ref aQP, .ref aQD, .int (nI qn)])), (aQP, .inl (cI, 60, .inl qp)), (aQD, .inl (cI, 60, .inl qd))] s.heap.size = A at hD ⊢
  have hA : ∀ q : Nat, s.heap.size ≤ q → A q := fun q h => by rw [← hAe]; exact Or.inr h
  have hS : va_S A s.heap s.heap [] := va_S.rf
  have hP : va_P (dC, dI) vwCl [(h, .inr (9, [.ref hPA, .ref hRD, .ref hRB, .ref hPE, .ref hHO, .ref hAG, .ref hLO, .ref hRQ, .ref hEX, .ref aFR])), (hPE, .inr (5, [.ref aRo, .ref aLi, .int (nI en)])), (aRo, .inl (cI, 12, .inl ro)), (aLi, .inl (cI, 12, .inl li)), (hHO, .inr (2, [.ref aFa, .ref aEm, .ref aVa, .int (nI hn)])), (hRQ, .inr (6, [.ref aQP, .ref aQD, .int (nI qn)])), (aQP, .inl (cI, 60, .inl qp)), (aQD, .inl (cI, 60, .inl qd))] s.heap := hP
  have iHO : ∀ w ∈ u_ws R_HO T_HO 4, w ∈ ws_RR_request := fun w h => wb_RR_request w (in_HO w h)
  have iPE : ∀ w ∈ u_ws R_PE T_PE 3, w ∈ ws_RR_request := fun w h => wb_RR_request w (in_PE w h)
  have iRQ : ∀ w ∈ u_ws R_RQ T_RQ 3, w ∈ ws_RR_request := fun w h => wb_RR_request w (in_RQ w h)
  have iRR : ∀ w ∈ u_ws R_RR T_RR 10, w ∈ ws_RR_request := fun w h => wb_RR_request w (in_RR w h)
  have hl := lv_entry ([.ref h, .int (nI u), .int (nI r), .int d]) (n := 5) (Nat.le_of_ble_eq_true rfl)
  rw [lg_entry_eq]
  generalize (lg_sl ([.ref h, .int (nI u), .int (nI r), .int d]) ++ List.replicate (5 - (lg_sl ([.ref h, .int (nI u), .int (nI r), .int d])).length) Slot.unset).toArray = ls at hl ⊢
  have hl : lv_has ls 5 [(0, .ref h), (1, .int (nI u)), (2, .int (nI r)), (3, .int d)] := hl
  refine lv_aload_n hx hb d_RR_request_0 rfl (lv_at hl 0 rfl) ?_
  refine lv_iload_n hx hb d_RR_request_1 rfl (lv_at hl 1 rfl) ?_
  have hPc := hP.sub (ws' := [(h, .inr (9, [.ref hPA, .ref hRD, .ref hRB, .ref hPE, .ref hHO, .ref hAG, .ref hLO, .ref hRQ, .ref hEX, .ref aFR])), (hPE, .inr (5, [.ref aRo, .ref aLi, .int (nI en)]))]) [0, 1] rfl
  have hKc := hK.sub (tys' := []) [] rfl
  refine va_callv (va_runV (As := [.int (nI u)]) (rest := []) ⟨hx, hb, hml, hown, hts⟩ (c_RR_requirePerson l dC dI h hPA hRD hRB hPE hHO hAG hLO hRQ hEX aFR aRo aLi en (by first | assumption | omega) u (by first | assumption | omega)) (cwV 1 hts (vz_gV wb_RR_request b_492 b_494 bs_8 b_1 wc_RR_requirePerson) rfl rfl rfl (by decide +kernel) ⟨Nat.le_of_ble_eq_true rfl, Nat.le_of_ble_eq_true rfl⟩) (vz_preV hPc hKc (ci := 9) (q0 := 0) rfl rfl) rfl rfl hl.1 rfl (lv_room (Nat.le_of_ble_eq_true rfl)) d_RR_request_2 ⟨Nat.le_of_ble_eq_true rfl, Nat.le_of_ble_eq_true rfl⟩) hS (fun q _ h => False.elim h) (fun q h => False.elim h) (fun u9 t9 H1 locs ht hvm hr2 hB hzx9 hkx9 hS => ?_)
  try dsimp only at hr2
  have hP := vz_kept hP hkx9
  generalize H1 = H at hP hS ⊢
  refine lv_aload_n hx hb d_RR_request_5 rfl (lv_at hl 0 rfl) ?_
  refine lv_iload_n hx hb d_RR_request_6 rfl (lv_at hl 2 rfl) ?_
  have hPc := hP.sub (ws' := [(h, .inr (9, [.ref hPA, .ref hRD, .ref hRB, .ref hPE, .ref hHO, .ref hAG, .ref hLO, .ref hRQ, .ref hEX, .ref aFR])), (hHO, .inr (2, [.ref aFa, .ref aEm, .ref aVa, .int (nI hn)]))]) [0, 4] rfl
  have hKc := hK.sub (tys' := []) [] rfl
  refine va_callv (va_runV (As := [.int (nI r)]) (rest := []) ⟨hx, hb, hml, hown, hts⟩ (c_RR_requireRecord l dC dI h hPA hRD hRB hPE hHO hAG hLO hRQ hEX aFR aFa aEm aVa hn (by first | assumption | omega) r (by first | assumption | omega)) (cwV 1 hts (vz_gV wb_RR_request b_456 b_458 bs_7 b_1 wc_RR_requireRecord) rfl rfl rfl (by decide +kernel) ⟨Nat.le_of_ble_eq_true rfl, Nat.le_of_ble_eq_true rfl⟩) (vz_preV hPc hKc (ci := 9) (q0 := 0) rfl rfl) rfl rfl hl.1 rfl (lv_room (Nat.le_of_ble_eq_true rfl)) d_RR_request_7 ⟨Nat.le_of_ble_eq_true rfl, Nat.le_of_ble_eq_true rfl⟩) hS (fun q _ h => False.elim h) (fun q h => False.elim h) (fun u9 t9 H1 locs ht hvm hr7 hB hzx9 hkx9 hS => ?_)
  try dsimp only at hr7
  have hP := vz_kept hP hkx9
  generalize H1 = H at hP hS ⊢
  refine lv_iload_n hx hb d_RR_request_10 rfl (lv_at hl 3 rfl) ?_
  have hPc := hP.sub (ws' := []) [] rfl
  have hKc := hK.sub (tys' := []) [] rfl
  refine va_callv (va_runS (As := [.int d]) (rest := []) ⟨hx, hb, hml, hown, hts⟩ (c_RR_requireDay l dC dI d (by first | assumption | omega) (by first | assumption | omega)) (va_cwS 1 hts (vz_gS wb_RR_request b_480 b_481 b_1 wc_RR_requireDay) rfl rfl rfl (by decide +kernel) ⟨Nat.le_of_ble_eq_true rfl, Nat.le_of_ble_eq_true rfl⟩) (vz_preS hPc hKc) rfl rfl hl.1 rfl (lv_room (Nat.le_of_ble_eq_true rfl)) d_RR_request_11 ⟨Nat.le_of_ble_eq_true rfl, Nat.le_of_ble_eq_true rfl⟩) hS (fun q _ h => False.elim h) (fun q h => False.elim h) (fun u9 t9 H1 locs ht hvm hr11 hB hzx9 hkx9 hS => ?_)
  try dsimp only at hr11
  have hP := vz_kept hP hkx9
  generalize H1 = H at hP hS ⊢
  refine lv_aload_n hx hb d_RR_request_14 rfl (lv_at hl 0 rfl) ?_
  refine va_get (D := (dC, dI)) (ci := 9) (v := .ref hRQ) (C := R_RR) (T := T_RR) (N := 10) hx hb hts iRR hown hK hP 0 rfl rfl 7 (by decide) (hts _ (wb_RR_request _ b_231)) (fun _ h9 => h9) rfl d_RR_request_15 ?_
  refine va_get (D := (dC, dI)) (ci := 6) (v := .int (nI qn)) (C := R_RQ) (T := T_RQ) (N := 3) hx hb hts iRQ hown hK hP 5 rfl rfl 2 (by decide) (hts _ (wb_RR_request _ b_201)) (fun _ h9 => h9) rfl d_RR_request_18 ?_
  refine lv_bipush (v := 60) hx hb d_RR_request_21 (by decide) ?_
  refine lv_icmp_lt (tgt := 36) hx hb d_RR_request_23 (by decide) (fun c23 => ?_) (fun c23 => ?_)
  · refine lv_aload_n hx hb d_RR_request_36 rfl (lv_at hl 0 rfl) ?_
    refine va_get (D := (dC, dI)) (ci := 9) (v := .ref hRQ) (C := R_RR) (T := T_RR) (N := 10) hx hb hts iRR hown hK hP 0 rfl rfl 7 (by decide) (hts _ (wb_RR_request _ b_231)) (fun _ h9 => h9) rfl d_RR_request_37 ?_
    refine lv_iload_n hx hb d_RR_request_40 rfl (lv_at hl 1 rfl) ?_
    refine lv_iload_n hx hb d_RR_request_41 rfl (lv_at hl 3 rfl) ?_
    have hPc := hP.sub (ws' := [(hRQ, .inr (6, [.ref aQP, .ref aQD, .int (nI qn)])), (aQP, .inl (cI, 60, .inl qp)), (aQD, .inl (cI, 60, .inl qd))]) [5, 6, 7] rfl
    have hKc := hK.sub (tys' := [(cI, .int)]) [0] rfl
    refine va_calli (va_runV (As := [.int (nI u), .int d]) (rest := []) ⟨hx, hb, hml, hown, hts⟩ (c_RQ_within l dC dI cI hRQ aQP aQD qp qd qn (by first | assumption | omega) (nI u) d) (cwV 2 hts (vz_gV wb_RR_request b_603 b_604 b_605 b_9 wc_RQ_within) rfl rfl rfl (by decide +kernel) ⟨Nat.le_of_ble_eq_true rfl, Nat.le_of_ble_eq_true rfl⟩) (vz_preV hPc hKc (ci := 6) (q0 := 0) rfl rfl) rfl rfl hl.1 rfl (lv_room (Nat.le_of_ble_eq_true rfl)) d_RR_request_42 ⟨Nat.le_of_ble_eq_true rfl, Nat.le_of_ble_eq_true rfl⟩) hS (fun q _ h => False.elim h) (fun q h => False.elim h) (fun r42 u9 t9 H1 locs ht hvm hr42 hB hzx9 hkx9 hS => ?_)
    try dsimp only at hr42
    have hP := vz_kept hP hkx9
    generalize H1 = H at hP hS ⊢
    refine lv_iconst (v := 1) hx hb d_RR_request_45 (by decide) ?_
    refine lv_iadd hx hb d_RR_request_46 ?_
    refine vz_top (y := nI (withN qp qd (nI u) d qn + 1)) (by rw [hr42, nI_1]) ?_
    refine lv_istore (lv' := [(4, .int (nI (withN qp qd (nI u) d qn + 1))), (0, .ref h), (1, .int (nI u)), (2, .int (nI r)), (3, .int d)]) hx hb d_RR_request_47 hl (by decide) rfl (fun ls hl => ?_)
    refine lv_iload hx hb d_RR_request_49 (lv_at hl 0 rfl) ?_
    refine lv_aload_n hx hb d_RR_request_51 rfl (lv_at hl 1 rfl) ?_
    refine va_get (D := (dC, dI)) (ci := 9) (v := .ref hPE) (C := R_RR) (T := T_RR) (N := 10) hx hb hts iRR hown hK hP 0 rfl rfl 3 (by decide) (hts _ (wb_RR_request _ b_227)) (fun _ h9 => h9) rfl d_RR_request_52 ?_
    refine va_get (D := (dC, dI)) (ci := 5) (v := .ref aLi) (C := R_PE) (T := T_PE) (N := 3) hx hb hts iPE hown hK hP 1 rfl rfl 1 (by decide) (hts _ (wb_RR_request _ b_119)) (fun _ h9 => h9) rfl d_RR_request_55 ?_
    refine lv_iload_n hx hb d_RR_request_58 rfl (lv_at hl 2 rfl) ?_
    refine vz_iald (k := u) hx hb hK hP 3 0 rfl rfl (by omega) (by decide) d_RR_request_59 ?_
    refine lv_icmp_le (tgt := 65) hx hb d_RR_request_60 (by decide) (fun c60 => ?_) (fun c60 => ?_)
    · exact absurd c60 hkp
    · refine lv_iconst (v := (-1)) hx hb d_RR_request_63 (by decide) ?_
      have hP9 := hP.sub (ws' := [(h, .inr (9, [.ref hPA, .ref hRD, .ref hRB, .ref hPE, .ref hHO, .ref hAG, .ref hLO, .ref hRQ, .ref hEX, .ref aFR])), (hPE, .inr (5, [.ref aRo, .ref aLi, .int (nI en)])), (aRo, .inl (cI, 12, .inl ro)), (aLi, .inl (cI, 12, .inl li)), (hHO, .inr (2, [.ref aFa, .ref aEm, .ref aVa, .int (nI hn)])), (hRQ, .inr (6, [.ref aQP, .ref aQD, .int (nI qn)])), (aQP, .inl (cI, 60, .inl qp)), (aQD, .inl (cI, 60, .inl qd))]) [0, 1, 2, 3, 4, 5, 6, 7] rfl
      have hD9 := hD.sub (ws' := [(h, .inr (9, [.ref hPA, .ref hRD, .ref hRB, .ref hPE, .ref hHO, .ref hAG, .ref hLO, .ref hRQ, .ref hEX, .ref aFR])), (hPE, .inr (5, [.ref aRo, .ref aLi, .int (nI en)])), (aRo, .inl (cI, 12, .inl ro)), (aLi, .inl (cI, 12, .inl li)), (hHO, .inr (2, [.ref aFa, .ref aEm, .ref aVa, .int (nI hn)])), (hRQ, .inr (6, [.ref aQP, .ref aQD, .int (nI qn)])), (aQP, .inl (cI, 60, .inl qp)), (aQD, .inl (cI, 60, .inl qd))]) [0, 1, 2, 3, 4, 5, 6, 7] (by decide) rfl
      exact W.iret (v := (-1)) hx hb hr (fun t ht hW => ⟨⟨(-1), (), rfl, rfl, by rw [ht]; exact hP9, va_K.moved hW.alike hK, hD9⟩, hS.F ht⟩) hS.2.2 d_RR_request_64
  · exact absurd ((nI_ltI (show qn < 2147483648 by omega) (show 60 < 2147483648 by omega)).mpr hqn) c23

set_option maxHeartbeats 4000000 in
set_option maxRecDepth 100000 in
/-- RecordRights.request, kept -/
theorem c_RR_requestKeep (l : Launch) (dC : Nat → ClassId) (dI : Nat → Nat → Nat) (sz : Nat) (h hPA hRD hRB hPE hHO hAG hLO hRQ hEX aFR : Nat) (cI : ClassId) (aRo aLi : Nat) (ro li : Nat → Int32) (en : Nat) (aFa aEm aVa : Nat) (hn : Nat) (aQP aQD : Nat) (qp qd : Nat → Int32) (qn : Nat) (hen : en ≤ 12) (hhn : hn ≤ 16) (hqn : qn < 60) (u r : Nat) (hu : u < en) (hr : r < hn) (d : Int32) (hd0 : ¬ d < 0) (hd1 : d ≤ 100000) (hkp :  (nI (withN qp qd (nI u) d qn + 1) ≤ li u)) : Met l y_RR_request ws_RR_request ({ frames := 1, cells := 0, slots := 0, locals := 24 }) (va_Pc [.ref h, .int (nI u), .int (nI r), .int d] (fun U => U.heap.size = sz ∧ va_P (dC, dI) vwCl [(h, .inr (9, [.ref hPA, .ref hRD, .ref hRB, .ref hPE, .ref hHO, .ref hAG, .ref hLO, .ref hRQ, .ref hEX, .ref aFR])), (hPE, .inr (5, [.ref aRo, .ref aLi, .int (nI en)])), (aRo, .inl (cI, 12, .inl ro)), (aLi, .inl (cI, 12, .inl li)), (hHO, .inr (2, [.ref aFa, .ref aEm, .ref aVa, .int (nI hn)])), (hRQ, .inr (6, [.ref aQP, .ref aQD, .int (nI qn)])), (aQP, .inl (cI, 60, .inl qp)), (aQD, .inl (cI, 60, .inl qd))] U.heap ∧ va_K (dC, dI) vwCl [(cI, .int)] U ∧ va_D (fun _ => True) [(h, .inr (9, [.ref hPA, .ref hRD, .ref hRB, .ref hPE, .ref hHO, .ref hAG, .ref hLO, .ref hRQ, .ref hEX, .ref aFR])), (hPE, .inr (5, [.ref aRo, .ref aLi, .int (nI en)])), (aRo, .inl (cI, 12, .inl ro)), (aLi, .inl (cI, 12, .inl li)), (hHO, .inr (2, [.ref aFa, .ref aEm, .ref aVa, .int (nI hn)])), (hRQ, .inr (6, [.ref aQP, .ref aQD, .int (nI qn)])), (aQP, .inl (cI, 60, .inl qp)), (aQD, .inl (cI, 60, .inl qd))])) (va_Qi (fun (res : Int32) (_ : Unit) => res = nI (withN qp qd (nI u) d qn + 1)) (fun _ t => va_P (dC, dI) vwCl [(h, .inr (9, [.ref hPA, .ref hRD, .ref hRB, .ref hPE, .ref hHO, .ref hAG, .ref hLO, .ref hRQ, .ref hEX, .ref aFR])), (hPE, .inr (5, [.ref aRo, .ref aLi, .int (nI en)])), (aRo, .inl (cI, 12, .inl ro)), (aLi, .inl (cI, 12, .inl li)), (hHO, .inr (2, [.ref aFa, .ref aEm, .ref aVa, .int (nI hn)])), (hRQ, .inr (6, [.ref aQP, .ref aQD, .int (nI (qn + 1))])), (aQP, .inl (cI, 60, .inl (upd qp qn (nI u)))), (aQD, .inl (cI, 60, .inl (upd qd qn d)))] t.heap ∧ va_K (dC, dI) vwCl [(cI, .int)] t ∧ va_D (va_A [(h, .inr (9, [.ref hPA, .ref hRD, .ref hRB, .ref hPE, .ref hHO, .ref hAG, .ref hLO, .ref hRQ, .ref hEX, .ref aFR])), (hPE, .inr (5, [.ref aRo, .ref aLi, .int (nI en)])), (aRo, .inl (cI, 12, .inl ro)), (aLi, .inl (cI, 12, .inl li)), (hHO, .inr (2, [.ref aFa, .ref aEm, .ref aVa, .int (nI hn)])), (hRQ, .inr (6, [.ref aQP, .ref aQD, .int (nI qn)])), (aQP, .inl (cI, 60, .inl qp)), (aQD, .inl (cI, 60, .inl qd))] sz) [(h, .inr (9, [.ref hPA, .ref hRD, .ref hRB, .ref hPE, .ref hHO, .ref hAG, .ref hLO, .ref hRQ, .ref hEX, .ref aFR])), (hPE, .inr (5, [.ref aRo, .ref aLi, .int (nI en)])), (aRo, .inl (cI, 12, .inl ro)), (aLi, .inl (cI, 12, .inl li)), (hHO, .inr (2, [.ref aFa, .ref aEm, .ref aVa, .int (nI hn)])), (hRQ, .inr (6, [.ref aQP, .ref aQD, .int (nI (qn + 1))])), (aQP, .inl (cI, 60, .inl (upd qp qn (nI u)))), (aQD, .inl (cI, 60, .inl (upd qd qn d)))]) (va_A [(h, .inr (9, [.ref hPA, .ref hRD, .ref hRB, .ref hPE, .ref hHO, .ref hAG, .ref hLO, .ref hRQ, .ref hEX, .ref aFR])), (hPE, .inr (5, [.ref aRo, .ref aLi, .int (nI en)])), (aRo, .inl (cI, 12, .inl ro)), (aLi, .inl (cI, 12, .inl li)), (hHO, .inr (2, [.ref aFa, .ref aEm, .ref aVa, .int (nI hn)])), (hRQ, .inr (6, [.ref aQP, .ref aQD, .int (nI qn)])), (aQP, .inl (cI, 60, .inl qp)), (aQD, .inl (cI, 60, .inl qd))] sz)) 0 0 (va_A [(h, .inr (9, [.ref hPA, .ref hRD, .ref hRB, .ref hPE, .ref hHO, .ref hAG, .ref hLO, .ref hRQ, .ref hEX, .ref aFR])), (hPE, .inr (5, [.ref aRo, .ref aLi, .int (nI en)])), (aRo, .inl (cI, 12, .inl ro)), (aLi, .inl (cI, 12, .inl li)), (hHO, .inr (2, [.ref aFa, .ref aEm, .ref aVa, .int (nI hn)])), (hRQ, .inr (6, [.ref aQP, .ref aQD, .int (nI qn)])), (aQP, .inl (cI, 60, .inl qp)), (aQD, .inl (cI, 60, .inl qd))] sz) := by
  refine Met.ofW (cc := k_RR_request) (maxL := 5) (ret := (some .int)) (by decide) rfl ?_
  intro p e s m args below meth c s₁ B hml hv
  obtain ⟨rfl, hsz, hP, hK, hD0⟩ := hv
  have hx := B.exec
  have hb := B.bytes
  have hr := B.returns
  have hts := atoms_spec (ws := ws_RR_request) B.pre
  have hown : s.vm.findClass R_RR = some m.cls := findClass_of_methodNamed B.named
  have hlocks := B.notSynchronized
  subst hsz
  have hD := hD0.self (sz := s.heap.size)
  generalize hAe : va_A [(h, .inr (9, [.ref hPA, .ref hRD, .ref hRB, .ref hPE, .ref hHO, .ref hAG, .ref hLO, .ref hRQ, .ref hEX, .ref aFR])), (hPE, .inr (5, [.ref aRo, .ref aLi, .int (nI en)])), (aRo, .inl (cI, 12, .inl ro)), (aLi, .inl (cI, 12, .inl li)), (hHO, .inr (2, [.ref aFa, .ref aEm, .ref aVa, .int (nI hn)])), (hRQ, .inr (6, [.ref aQP, .ref aQD, .int (nI qn)])), (aQP, .inl (cI, 60, .inl qp)), (aQD, .inl (cI, 60, .inl qd))] s.heap.size = A at hD ⊢
  have hA : ∀ q : Nat, s.heap.size ≤ q → A q := fun q h => by rw [← hAe]; exact Or.inr h
  have hS : va_S A s.heap s.heap [] := va_S.rf
  have hP : va_P (dC, dI) vwCl [(h, .inr (9, [.ref hPA, .ref hRD, .ref hRB, .ref hPE, .ref hHO, .ref hAG, .ref hLO, .ref hRQ, .ref hEX, .ref aFR])), (hPE, .inr (5, [.ref aRo, .ref aLi, .int (nI en)])), (aRo, .inl (cI, 12, .inl ro)), (aLi, .inl (cI, 12, .inl li)), (hHO, .inr (2, [.ref aFa, .ref aEm, .ref aVa, .int (nI hn)])), (hRQ, .inr (6, [.ref aQP, .ref aQD, .int (nI qn)])), (aQP, .inl (cI, 60, .inl qp)), (aQD, .inl (cI, 60, .inl qd))] s.heap := hP
  have iHO : ∀ w ∈ u_ws R_HO T_HO 4, w ∈ ws_RR_request := fun w h => wb_RR_request w (in_HO w h)
  have iPE : ∀ w ∈ u_ws R_PE T_PE 3, w ∈ ws_RR_request := fun w h => wb_RR_request w (in_PE w h)
  have iRQ : ∀ w ∈ u_ws R_RQ T_RQ 3, w ∈ ws_RR_request := fun w h => wb_RR_request w (in_RQ w h)
  have iRR : ∀ w ∈ u_ws R_RR T_RR 10, w ∈ ws_RR_request := fun w h => wb_RR_request w (in_RR w h)
  have hl := lv_entry ([.ref h, .int (nI u), .int (nI r), .int d]) (n := 5) (Nat.le_of_ble_eq_true rfl)
  rw [lg_entry_eq]
  generalize (lg_sl ([.ref h, .int (nI u), .int (nI r), .int d]) ++ List.replicate (5 - (lg_sl ([.ref h, .int (nI u), .int (nI r), .int d])).length) Slot.unset).toArray = ls at hl ⊢
  have hl : lv_has ls 5 [(0, .ref h), (1, .int (nI u)), (2, .int (nI r)), (3, .int d)] := hl
  refine lv_aload_n hx hb d_RR_request_0 rfl (lv_at hl 0 rfl) ?_
  refine lv_iload_n hx hb d_RR_request_1 rfl (lv_at hl 1 rfl) ?_
  have hPc := hP.sub (ws' := [(h, .inr (9, [.ref hPA, .ref hRD, .ref hRB, .ref hPE, .ref hHO, .ref hAG, .ref hLO, .ref hRQ, .ref hEX, .ref aFR])), (hPE, .inr (5, [.ref aRo, .ref aLi, .int (nI en)]))]) [0, 1] rfl
  have hKc := hK.sub (tys' := []) [] rfl
  refine va_callv (va_runV (As := [.int (nI u)]) (rest := []) ⟨hx, hb, hml, hown, hts⟩ (c_RR_requirePerson l dC dI h hPA hRD hRB hPE hHO hAG hLO hRQ hEX aFR aRo aLi en (by first | assumption | omega) u (by first | assumption | omega)) (cwV 1 hts (vz_gV wb_RR_request b_492 b_494 bs_8 b_1 wc_RR_requirePerson) rfl rfl rfl (by decide +kernel) ⟨Nat.le_of_ble_eq_true rfl, Nat.le_of_ble_eq_true rfl⟩) (vz_preV hPc hKc (ci := 9) (q0 := 0) rfl rfl) rfl rfl hl.1 rfl (lv_room (Nat.le_of_ble_eq_true rfl)) d_RR_request_2 ⟨Nat.le_of_ble_eq_true rfl, Nat.le_of_ble_eq_true rfl⟩) hS (fun q _ h => False.elim h) (fun q h => False.elim h) (fun u9 t9 H1 locs ht hvm hr2 hB hzx9 hkx9 hS => ?_)
  try dsimp only at hr2
  have hP := vz_kept hP hkx9
  generalize H1 = H at hP hS ⊢
  refine lv_aload_n hx hb d_RR_request_5 rfl (lv_at hl 0 rfl) ?_
  refine lv_iload_n hx hb d_RR_request_6 rfl (lv_at hl 2 rfl) ?_
  have hPc := hP.sub (ws' := [(h, .inr (9, [.ref hPA, .ref hRD, .ref hRB, .ref hPE, .ref hHO, .ref hAG, .ref hLO, .ref hRQ, .ref hEX, .ref aFR])), (hHO, .inr (2, [.ref aFa, .ref aEm, .ref aVa, .int (nI hn)]))]) [0, 4] rfl
  have hKc := hK.sub (tys' := []) [] rfl
  refine va_callv (va_runV (As := [.int (nI r)]) (rest := []) ⟨hx, hb, hml, hown, hts⟩ (c_RR_requireRecord l dC dI h hPA hRD hRB hPE hHO hAG hLO hRQ hEX aFR aFa aEm aVa hn (by first | assumption | omega) r (by first | assumption | omega)) (cwV 1 hts (vz_gV wb_RR_request b_456 b_458 bs_7 b_1 wc_RR_requireRecord) rfl rfl rfl (by decide +kernel) ⟨Nat.le_of_ble_eq_true rfl, Nat.le_of_ble_eq_true rfl⟩) (vz_preV hPc hKc (ci := 9) (q0 := 0) rfl rfl) rfl rfl hl.1 rfl (lv_room (Nat.le_of_ble_eq_true rfl)) d_RR_request_7 ⟨Nat.le_of_ble_eq_true rfl, Nat.le_of_ble_eq_true rfl⟩) hS (fun q _ h => False.elim h) (fun q h => False.elim h) (fun u9 t9 H1 locs ht hvm hr7 hB hzx9 hkx9 hS => ?_)
  try dsimp only at hr7
  have hP := vz_kept hP hkx9
  generalize H1 = H at hP hS ⊢
  refine lv_iload_n hx hb d_RR_request_10 rfl (lv_at hl 3 rfl) ?_
  have hPc := hP.sub (ws' := []) [] rfl
  have hKc := hK.sub (tys' := []) [] rfl
  refine va_callv (va_runS (As := [.int d]) (rest := []) ⟨hx, hb, hml, hown, hts⟩ (c_RR_requireDay l dC dI d (by first | assumption | omega) (by first | assumption | omega)) (va_cwS 1 hts (vz_gS wb_RR_request b_480 b_481 b_1 wc_RR_requireDay) rfl rfl rfl (by decide +kernel) ⟨Nat.le_of_ble_eq_true rfl, Nat.le_of_ble_eq_true rfl⟩) (vz_preS hPc hKc) rfl rfl hl.1 rfl (lv_room (Nat.le_of_ble_eq_true rfl)) d_RR_request_11 ⟨Nat.le_of_ble_eq_true rfl, Nat.le_of_ble_eq_true rfl⟩) hS (fun q _ h => False.elim h) (fun q h => False.elim h) (fun u9 t9 H1 locs ht hvm hr11 hB hzx9 hkx9 hS => ?_)
  try dsimp only at hr11
  have hP := vz_kept hP hkx9
  generalize H1 = H at hP hS ⊢
  refine lv_aload_n hx hb d_RR_request_14 rfl (lv_at hl 0 rfl) ?_
  refine va_get (D := (dC, dI)) (ci := 9) (v := .ref hRQ) (C := R_RR) (T := T_RR) (N := 10) hx hb hts iRR hown hK hP 0 rfl rfl 7 (by decide) (hts _ (wb_RR_request _ b_231)) (fun _ h9 => h9) rfl d_RR_request_15 ?_
  refine va_get (D := (dC, dI)) (ci := 6) (v := .int (nI qn)) (C := R_RQ) (T := T_RQ) (N := 3) hx hb hts iRQ hown hK hP 5 rfl rfl 2 (by decide) (hts _ (wb_RR_request _ b_201)) (fun _ h9 => h9) rfl d_RR_request_18 ?_
  refine lv_bipush (v := 60) hx hb d_RR_request_21 (by decide) ?_
  refine lv_icmp_lt (tgt := 36) hx hb d_RR_request_23 (by decide) (fun c23 => ?_) (fun c23 => ?_)
  · refine lv_aload_n hx hb d_RR_request_36 rfl (lv_at hl 0 rfl) ?_
    refine va_get (D := (dC, dI)) (ci := 9) (v := .ref hRQ) (C := R_RR) (T := T_RR) (N := 10) hx hb hts iRR hown hK hP 0 rfl rfl 7 (by decide) (hts _ (wb_RR_request _ b_231)) (fun _ h9 => h9) rfl d_RR_request_37 ?_
    refine lv_iload_n hx hb d_RR_request_40 rfl (lv_at hl 1 rfl) ?_
    refine lv_iload_n hx hb d_RR_request_41 rfl (lv_at hl 3 rfl) ?_
    have hPc := hP.sub (ws' := [(hRQ, .inr (6, [.ref aQP, .ref aQD, .int (nI qn)])), (aQP, .inl (cI, 60, .inl qp)), (aQD, .inl (cI, 60, .inl qd))]) [5, 6, 7] rfl
    have hKc := hK.sub (tys' := [(cI, .int)]) [0] rfl
    refine va_calli (va_runV (As := [.int (nI u), .int d]) (rest := []) ⟨hx, hb, hml, hown, hts⟩ (c_RQ_within l dC dI cI hRQ aQP aQD qp qd qn (by first | assumption | omega) (nI u) d) (cwV 2 hts (vz_gV wb_RR_request b_603 b_604 b_605 b_9 wc_RQ_within) rfl rfl rfl (by decide +kernel) ⟨Nat.le_of_ble_eq_true rfl, Nat.le_of_ble_eq_true rfl⟩) (vz_preV hPc hKc (ci := 6) (q0 := 0) rfl rfl) rfl rfl hl.1 rfl (lv_room (Nat.le_of_ble_eq_true rfl)) d_RR_request_42 ⟨Nat.le_of_ble_eq_true rfl, Nat.le_of_ble_eq_true rfl⟩) hS (fun q _ h => False.elim h) (fun q h => False.elim h) (fun r42 u9 t9 H1 locs ht hvm hr42 hB hzx9 hkx9 hS => ?_)
    try dsimp only at hr42
    have hP := vz_kept hP hkx9
    generalize H1 = H at hP hS ⊢
    refine lv_iconst (v := 1) hx hb d_RR_request_45 (by decide) ?_
    refine lv_iadd hx hb d_RR_request_46 ?_
    refine vz_top (y := nI (withN qp qd (nI u) d qn + 1)) (by rw [hr42, nI_1]) ?_
    refine lv_istore (lv' := [(4, .int (nI (withN qp qd (nI u) d qn + 1))), (0, .ref h), (1, .int (nI u)), (2, .int (nI r)), (3, .int d)]) hx hb d_RR_request_47 hl (by decide) rfl (fun ls hl => ?_)
    refine lv_iload hx hb d_RR_request_49 (lv_at hl 0 rfl) ?_
    refine lv_aload_n hx hb d_RR_request_51 rfl (lv_at hl 1 rfl) ?_
    refine va_get (D := (dC, dI)) (ci := 9) (v := .ref hPE) (C := R_RR) (T := T_RR) (N := 10) hx hb hts iRR hown hK hP 0 rfl rfl 3 (by decide) (hts _ (wb_RR_request _ b_227)) (fun _ h9 => h9) rfl d_RR_request_52 ?_
    refine va_get (D := (dC, dI)) (ci := 5) (v := .ref aLi) (C := R_PE) (T := T_PE) (N := 3) hx hb hts iPE hown hK hP 1 rfl rfl 1 (by decide) (hts _ (wb_RR_request _ b_119)) (fun _ h9 => h9) rfl d_RR_request_55 ?_
    refine lv_iload_n hx hb d_RR_request_58 rfl (lv_at hl 2 rfl) ?_
    refine vz_iald (k := u) hx hb hK hP 3 0 rfl rfl (by omega) (by decide) d_RR_request_59 ?_
    refine lv_icmp_le (tgt := 65) hx hb d_RR_request_60 (by decide) (fun c60 => ?_) (fun c60 => ?_)
    · refine lv_aload_n hx hb d_RR_request_65 rfl (lv_at hl 1 rfl) ?_
      refine va_get (D := (dC, dI)) (ci := 9) (v := .ref hRQ) (C := R_RR) (T := T_RR) (N := 10) hx hb hts iRR hown hK hP 0 rfl rfl 7 (by decide) (hts _ (wb_RR_request _ b_231)) (fun _ h9 => h9) rfl d_RR_request_66 ?_
      refine lv_iload_n hx hb d_RR_request_69 rfl (lv_at hl 2 rfl) ?_
      refine lv_iload_n hx hb d_RR_request_70 rfl (lv_at hl 4 rfl) ?_
      have hPc := hP.sub (ws' := [(hRQ, .inr (6, [.ref aQP, .ref aQD, .int (nI qn)])), (aQP, .inl (cI, 60, .inl qp)), (aQD, .inl (cI, 60, .inl qd))]) [5, 6, 7] rfl
      have hKc := hK.sub (tys' := [(cI, .int)]) [0] rfl
      have hDc := hD.sub (ws' := [(hRQ, .inr (6, [.ref aQP, .ref aQD, .int (nI qn)])), (aQP, .inl (cI, 60, .inl qp)), (aQD, .inl (cI, 60, .inl qd))]) [5, 6, 7] (by decide) rfl
      have hFc := va_free (wc := [(hRQ, .inr (6, [.ref aQP, .ref aQD, .int (nI qn)])), (aQP, .inl (cI, 60, .inl qp)), (aQD, .inl (cI, 60, .inl qd))]) hD hS hA [5, 6, 7] rfl
      refine va_callv (va_runV (As := [.int (nI u), .int d]) (rest := []) ⟨hx, hb, hml, hown, hts⟩ (c_RQ_keep l dC dI H.size cI hRQ aQP aQD qp qd qn (by first | assumption | omega) (nI u) d) (cwV 2 hts (vz_gV wb_RR_request b_607 b_608 b_609 b_9 wc_RQ_keep) rfl rfl rfl (by decide +kernel) ⟨Nat.le_of_ble_eq_true rfl, Nat.le_of_ble_eq_true rfl⟩) (vz_preVw (A := A) hPc hKc hDc (ci := 6) (q0 := 0) rfl rfl) rfl rfl hl.1 rfl (lv_room (Nat.le_of_ble_eq_true rfl)) d_RR_request_71 ⟨Nat.le_of_ble_eq_true rfl, Nat.le_of_ble_eq_true rfl⟩) hS (fun q _ h => hFc q h) hFc (fun u9 t9 H1 locs ht hvm hr71 hB hzx9 hkx9 hS => ?_)
      try dsimp only at hr71
      obtain ⟨hP1, hK1, hD1⟩ := hB
      rw [ht] at hP1
      obtain ⟨hP, hD⟩ := va_join (wr := [(h, .inr (9, [.ref hPA, .ref hRD, .ref hRB, .ref hPE, .ref hHO, .ref hAG, .ref hLO, .ref hRQ, .ref hEX, .ref aFR])), (hPE, .inr (5, [.ref aRo, .ref aLi, .int (nI en)])), (aRo, .inl (cI, 12, .inl ro)), (aLi, .inl (cI, 12, .inl li)), (hHO, .inr (2, [.ref aFa, .ref aEm, .ref aVa, .int (nI hn)]))]) (w1 := [(hRQ, .inr (6, [.ref aQP, .ref aQD, .int (nI (qn + 1))])), (aQP, .inl (cI, 60, .inl (upd qp qn (nI u)))), (aQD, .inl (cI, 60, .inl (upd qd qn d)))]) hP hD [5, 6, 7] [0, 1, 2, 3, 4] rfl rfl (by decide) (by decide) hkx9 hFc hP1 hD1
      generalize H1 = H at hP hS ⊢
      have hP : va_P (dC, dI) vwCl [(h, .inr (9, [.ref hPA, .ref hRD, .ref hRB, .ref hPE, .ref hHO, .ref hAG, .ref hLO, .ref hRQ, .ref hEX, .ref aFR])), (hPE, .inr (5, [.ref aRo, .ref aLi, .int (nI en)])), (aRo, .inl (cI, 12, .inl ro)), (aLi, .inl (cI, 12, .inl li)), (hHO, .inr (2, [.ref aFa, .ref aEm, .ref aVa, .int (nI hn)])), (hRQ, .inr (6, [.ref aQP, .ref aQD, .int (nI (qn + 1))])), (aQP, .inl (cI, 60, .inl (upd qp qn (nI u)))), (aQD, .inl (cI, 60, .inl (upd qd qn d)))] H := hP
      have hD : va_D A [(h, .inr (9, [.ref hPA, .ref hRD, .ref hRB, .ref hPE, .ref hHO, .ref hAG, .ref hLO, .ref hRQ, .ref hEX, .ref aFR])), (hPE, .inr (5, [.ref aRo, .ref aLi, .int (nI en)])), (aRo, .inl (cI, 12, .inl ro)), (aLi, .inl (cI, 12, .inl li)), (hHO, .inr (2, [.ref aFa, .ref aEm, .ref aVa, .int (nI hn)])), (hRQ, .inr (6, [.ref aQP, .ref aQD, .int (nI (qn + 1))])), (aQP, .inl (cI, 60, .inl (upd qp qn (nI u)))), (aQD, .inl (cI, 60, .inl (upd qd qn d)))] := hD
      refine lv_iload hx hb d_RR_request_74 (lv_at hl 0 rfl) ?_
      have hP9 := hP.sub (ws' := [(h, .inr (9, [.ref hPA, .ref hRD, .ref hRB, .ref hPE, .ref hHO, .ref hAG, .ref hLO, .ref hRQ, .ref hEX, .ref aFR])), (hPE, .inr (5, [.ref aRo, .ref aLi, .int (nI en)])), (aRo, .inl (cI, 12, .inl ro)), (aLi, .inl (cI, 12, .inl li)), (hHO, .inr (2, [.ref aFa, .ref aEm, .ref aVa, .int (nI hn)])), (hRQ, .inr (6, [.ref aQP, .ref aQD, .int (nI (qn + 1))])), (aQP, .inl (cI, 60, .inl (upd qp qn (nI u)))), (aQD, .inl (cI, 60, .inl (upd qd qn d)))]) [0, 1, 2, 3, 4, 5, 6, 7] rfl
      have hD9 := hD.sub (ws' := [(h, .inr (9, [.ref hPA, .ref hRD, .ref hRB, .ref hPE, .ref hHO, .ref hAG, .ref hLO, .ref hRQ, .ref hEX, .ref aFR])), (hPE, .inr (5, [.ref aRo, .ref aLi, .int (nI en)])), (aRo, .inl (cI, 12, .inl ro)), (aLi, .inl (cI, 12, .inl li)), (hHO, .inr (2, [.ref aFa, .ref aEm, .ref aVa, .int (nI hn)])), (hRQ, .inr (6, [.ref aQP, .ref aQD, .int (nI (qn + 1))])), (aQP, .inl (cI, 60, .inl (upd qp qn (nI u)))), (aQD, .inl (cI, 60, .inl (upd qd qn d)))]) [0, 1, 2, 3, 4, 5, 6, 7] (by decide) rfl
      exact W.iret (v := nI (withN qp qd (nI u) d qn + 1)) hx hb hr (fun t ht hW => ⟨⟨nI (withN qp qd (nI u) d qn + 1), (), rfl, rfl, by rw [ht]; exact hP9, va_K.moved hW.alike hK, hD9⟩, hS.F ht⟩) hS.2.2 d_RR_request_76
    · exact absurd hkp c60
  · exact absurd ((nI_ltI (show qn < 2147483648 by omega) (show 60 < 2147483648 by omega)).mpr hqn) c23

set_option maxHeartbeats 4000000 in
set_option maxRecDepth 100000 in
/-- RecordRights.count, where it is one -/
theorem c_RR_count (l : Launch) (dC : Nat → ClassId) (dI : Nat → Nat → Nat) (h hPA hRD hRB hPE hHO hAG hLO hRQ hEX aFR : Nat) (aS : Nat) (pn : Nat) (aN aB : Nat) (bn : Nat) (tl ab mk sh : Int32) (aRo aLi : Nat) (en : Nat) (aFa aEm aVa : Nat) (hn : Nat) (aLP aLL : Nat) (ln : Nat) (aQP aQD : Nat) (qn : Nat) (z : Int32) (hz0 : ¬ z < 0) (hz1 : z < 7) : Met l y_RR_count ws_RR_count ({ frames := 1, cells := 0, slots := 0, locals := 20 }) (va_Pc [.ref h, .int z] (fun U => va_P (dC, dI) vwCl [(h, .inr (9, [.ref hPA, .ref hRD, .ref hRB, .ref hPE, .ref hHO, .ref hAG, .ref hLO, .ref hRQ, .ref hEX, .ref aFR])), (hPA, .inr (4, [.ref aS, .int (nI pn)])), (hRB, .inr (7, [.ref aN, .ref aB, .int (nI bn), .int tl, .int ab, .int mk, .int sh])), (hPE, .inr (5, [.ref aRo, .ref aLi, .int (nI en)])), (hHO, .inr (2, [.ref aFa, .ref aEm, .ref aVa, .int (nI hn)])), (hLO, .inr (3, [.ref aLP, .ref aLL, .int (nI ln)])), (hRQ, .inr (6, [.ref aQP, .ref aQD, .int (nI qn)]))] U.heap ∧ va_K (dC, dI) vwCl [] U)) (va_Qi (fun (res : Int32) (_ : Unit) => res = if z = 0 then nI pn else if z = 1 then nI bn else if z = 2 then bcF tl else if z = 3 then nI en else if z = 4 then nI hn else if z = 5 then nI ln else nI qn) (fun _ _ => True) (fun _ => False)) 0 0 (fun _ => False) := by
  refine Met.ofW (cc := k_RR_count) (maxL := 2) (ret := (some .int)) (by decide) rfl ?_
  intro p e s m args below meth c s₁ B hml hv
  obtain ⟨rfl, hP, hK⟩ := hv
  have hx := B.exec
  have hb := B.bytes
  have hr := B.returns
  have hts := atoms_spec (ws := ws_RR_count) B.pre
  have hown : s.vm.findClass R_RR = some m.cls := findClass_of_methodNamed B.named
  have hlocks := B.notSynchronized
  have hS : va_S (fun _ => False) s.heap s.heap [] := va_S.rf
  have hP : va_P (dC, dI) vwCl [(h, .inr (9, [.ref hPA, .ref hRD, .ref hRB, .ref hPE, .ref hHO, .ref hAG, .ref hLO, .ref hRQ, .ref hEX, .ref aFR])), (hPA, .inr (4, [.ref aS, .int (nI pn)])), (hRB, .inr (7, [.ref aN, .ref aB, .int (nI bn), .int tl, .int ab, .int mk, .int sh])), (hPE, .inr (5, [.ref aRo, .ref aLi, .int (nI en)])), (hHO, .inr (2, [.ref aFa, .ref aEm, .ref aVa, .int (nI hn)])), (hLO, .inr (3, [.ref aLP, .ref aLL, .int (nI ln)])), (hRQ, .inr (6, [.ref aQP, .ref aQD, .int (nI qn)]))] s.heap := hP
  have iHO : ∀ w ∈ u_ws R_HO T_HO 4, w ∈ ws_RR_count := fun w h => wb_RR_count w (in_HO w h)
  have iLO : ∀ w ∈ u_ws R_LO T_LO 3, w ∈ ws_RR_count := fun w h => wb_RR_count w (in_LO w h)
  have iPA : ∀ w ∈ u_ws R_PA T_PA 2, w ∈ ws_RR_count := fun w h => wb_RR_count w (in_PA w h)
  have iPE : ∀ w ∈ u_ws R_PE T_PE 3, w ∈ ws_RR_count := fun w h => wb_RR_count w (in_PE w h)
  have iRQ : ∀ w ∈ u_ws R_RQ T_RQ 3, w ∈ ws_RR_count := fun w h => wb_RR_count w (in_RQ w h)
  have iRB : ∀ w ∈ u_ws R_RB T_RB 7, w ∈ ws_RR_count := fun w h => wb_RR_count w (in_RB w h)
  have iRR : ∀ w ∈ u_ws R_RR T_RR 10, w ∈ ws_RR_count := fun w h => wb_RR_count w (in_RR w h)
  have hl := lv_entry ([.ref h, .int z]) (n := 2) (Nat.le_of_ble_eq_true rfl)
  rw [lg_entry_eq]
  generalize (lg_sl ([.ref h, .int z]) ++ List.replicate (2 - (lg_sl ([.ref h, .int z])).length) Slot.unset).toArray = ls at hl ⊢
  have hl : lv_has ls 2 [(0, .ref h), (1, .int z)] := hl
  refine lv_iload_n hx hb d_RR_count_0 rfl (lv_at hl 1 rfl) ?_
  by_cases e1_0 : z = 0
  · refine vz_top (y := 0) e1_0 ?_
    refine lv_tableIn (off := 43) (tgt := 44) hx hb d_RR_count_1 (by decide) (by decide) (by decide) (by decide) ?_
    refine lv_aload_n hx hb d_RR_count_44 rfl (lv_at hl 0 rfl) ?_
    refine va_get (D := (dC, dI)) (ci := 9) (v := .ref hPA) (C := R_RR) (T := T_RR) (N := 10) hx hb hts iRR hown hK hP 0 rfl rfl 0 (by decide) (hts _ (wb_RR_count _ b_224)) (fun _ h9 => h9) rfl d_RR_count_45 ?_
    refine va_get (D := (dC, dI)) (ci := 4) (v := .int (nI pn)) (C := R_PA) (T := T_PA) (N := 2) hx hb hts iPA hown hK hP 1 rfl rfl 1 (by decide) (hts _ (wb_RR_count _ b_36)) (fun _ h9 => h9) rfl d_RR_count_48 ?_
    exact W.iret (v := nI pn) hx hb hr (fun t ht hW => ⟨⟨nI pn, (), rfl, by simp [e1_0], trivial⟩, hS.F ht⟩) hS.2.2 d_RR_count_51
  by_cases e1_1 : z = 1
  · refine vz_top (y := 1) e1_1 ?_
    refine lv_tableIn (off := 51) (tgt := 52) hx hb d_RR_count_1 (by decide) (by decide) (by decide) (by decide) ?_
    refine lv_aload_n hx hb d_RR_count_52 rfl (lv_at hl 0 rfl) ?_
    refine va_get (D := (dC, dI)) (ci := 9) (v := .ref hRB) (C := R_RR) (T := T_RR) (N := 10) hx hb hts iRR hown hK hP 0 rfl rfl 2 (by decide) (hts _ (wb_RR_count _ b_226)) (fun _ h9 => h9) rfl d_RR_count_53 ?_
    refine va_get (D := (dC, dI)) (ci := 7) (v := .int (nI bn)) (C := R_RB) (T := T_RB) (N := 7) hx hb hts iRB hown hK hP 2 rfl rfl 2 (by decide) (hts _ (wb_RR_count _ b_88)) (fun _ h9 => h9) rfl d_RR_count_56 ?_
    exact W.iret (v := nI bn) hx hb hr (fun t ht hW => ⟨⟨nI bn, (), rfl, by simp [e1_1], trivial⟩, hS.F ht⟩) hS.2.2 d_RR_count_59
  by_cases e1_2 : z = 2
  · refine vz_top (y := 2) e1_2 ?_
    refine lv_tableIn (off := 59) (tgt := 60) hx hb d_RR_count_1 (by decide) (by decide) (by decide) (by decide) ?_
    refine lv_aload_n hx hb d_RR_count_60 rfl (lv_at hl 0 rfl) ?_
    refine va_get (D := (dC, dI)) (ci := 9) (v := .ref hRB) (C := R_RR) (T := T_RR) (N := 10) hx hb hts iRR hown hK hP 0 rfl rfl 2 (by decide) (hts _ (wb_RR_count _ b_226)) (fun _ h9 => h9) rfl d_RR_count_61 ?_
    refine va_get (D := (dC, dI)) (ci := 7) (v := .int tl) (C := R_RB) (T := T_RB) (N := 7) hx hb hts iRB hown hK hP 2 rfl rfl 3 (by decide) (hts _ (wb_RR_count _ b_90)) (fun _ h9 => h9) rfl d_RR_count_64 ?_
    have hPc := hP.sub (ws' := []) [] rfl
    have hKc := hK.sub (tys' := []) [] rfl
    refine va_calli (va_runS (As := [.int tl]) (rest := []) ⟨hx, hb, hml, hown, hts⟩ (c_JI_bitCount l dC dI tl) (va_cwS 1 hts (vz_gS wb_RR_count b_660 b_639 b_18 wc_JI_bitCount) rfl rfl rfl (by decide +kernel) ⟨Nat.le_of_ble_eq_true rfl, Nat.le_of_ble_eq_true rfl⟩) (vz_preS hPc hKc) rfl rfl hl.1 rfl (lv_room (Nat.le_of_ble_eq_true rfl)) d_RR_count_67 ⟨Nat.le_of_ble_eq_true rfl, Nat.le_of_ble_eq_true rfl⟩) hS (fun q _ h => False.elim h) (fun q h => False.elim h) (fun r67 u9 t9 H1 locs ht hvm hr67 hB hzx9 hkx9 hS => ?_)
    try dsimp only at hr67
    have hP := vz_kept hP hkx9
    generalize H1 = H at hP hS ⊢
    exact W.iret (v := r67) hx hb hr (fun t ht hW => ⟨⟨r67, (), rfl, by rw [hr67]; simp [e1_2], trivial⟩, hS.F ht⟩) hS.2.2 d_RR_count_70
  by_cases e1_3 : z = 3
  · refine vz_top (y := 3) e1_3 ?_
    refine lv_tableIn (off := 70) (tgt := 71) hx hb d_RR_count_1 (by decide) (by decide) (by decide) (by decide) ?_
    refine lv_aload_n hx hb d_RR_count_71 rfl (lv_at hl 0 rfl) ?_
    refine va_get (D := (dC, dI)) (ci := 9) (v := .ref hPE) (C := R_RR) (T := T_RR) (N := 10) hx hb hts iRR hown hK hP 0 rfl rfl 3 (by decide) (hts _ (wb_RR_count _ b_227)) (fun _ h9 => h9) rfl d_RR_count_72 ?_
    refine va_get (D := (dC, dI)) (ci := 5) (v := .int (nI en)) (C := R_PE) (T := T_PE) (N := 3) hx hb hts iPE hown hK hP 3 rfl rfl 2 (by decide) (hts _ (wb_RR_count _ b_121)) (fun _ h9 => h9) rfl d_RR_count_75 ?_
    exact W.iret (v := nI en) hx hb hr (fun t ht hW => ⟨⟨nI en, (), rfl, by simp [e1_3], trivial⟩, hS.F ht⟩) hS.2.2 d_RR_count_78
  by_cases e1_4 : z = 4
  · refine vz_top (y := 4) e1_4 ?_
    refine lv_tableIn (off := 78) (tgt := 79) hx hb d_RR_count_1 (by decide) (by decide) (by decide) (by decide) ?_
    refine lv_aload_n hx hb d_RR_count_79 rfl (lv_at hl 0 rfl) ?_
    refine va_get (D := (dC, dI)) (ci := 9) (v := .ref hHO) (C := R_RR) (T := T_RR) (N := 10) hx hb hts iRR hown hK hP 0 rfl rfl 4 (by decide) (hts _ (wb_RR_count _ b_228)) (fun _ h9 => h9) rfl d_RR_count_80 ?_
    refine va_get (D := (dC, dI)) (ci := 2) (v := .int (nI hn)) (C := R_HO) (T := T_HO) (N := 4) hx hb hts iHO hown hK hP 4 rfl rfl 3 (by decide) (hts _ (wb_RR_count _ b_141)) (fun _ h9 => h9) rfl d_RR_count_83 ?_
    exact W.iret (v := nI hn) hx hb hr (fun t ht hW => ⟨⟨nI hn, (), rfl, by simp [e1_4], trivial⟩, hS.F ht⟩) hS.2.2 d_RR_count_86
  by_cases e1_5 : z = 5
  · refine vz_top (y := 5) e1_5 ?_
    refine lv_tableIn (off := 86) (tgt := 87) hx hb d_RR_count_1 (by decide) (by decide) (by decide) (by decide) ?_
    refine lv_aload_n hx hb d_RR_count_87 rfl (lv_at hl 0 rfl) ?_
    refine va_get (D := (dC, dI)) (ci := 9) (v := .ref hLO) (C := R_RR) (T := T_RR) (N := 10) hx hb hts iRR hown hK hP 0 rfl rfl 6 (by decide) (hts _ (wb_RR_count _ b_230)) (fun _ h9 => h9) rfl d_RR_count_88 ?_
    refine va_get (D := (dC, dI)) (ci := 3) (v := .int (nI ln)) (C := R_LO) (T := T_LO) (N := 3) hx hb hts iLO hown hK hP 5 rfl rfl 2 (by decide) (hts _ (wb_RR_count _ b_184)) (fun _ h9 => h9) rfl d_RR_count_91 ?_
    exact W.iret (v := nI ln) hx hb hr (fun t ht hW => ⟨⟨nI ln, (), rfl, by simp [e1_5], trivial⟩, hS.F ht⟩) hS.2.2 d_RR_count_94
  by_cases e1_6 : z = 6
  · refine vz_top (y := 6) e1_6 ?_
    refine lv_tableIn (off := 94) (tgt := 95) hx hb d_RR_count_1 (by decide) (by decide) (by decide) (by decide) ?_
    refine lv_aload_n hx hb d_RR_count_95 rfl (lv_at hl 0 rfl) ?_
    refine va_get (D := (dC, dI)) (ci := 9) (v := .ref hRQ) (C := R_RR) (T := T_RR) (N := 10) hx hb hts iRR hown hK hP 0 rfl rfl 7 (by decide) (hts _ (wb_RR_count _ b_231)) (fun _ h9 => h9) rfl d_RR_count_96 ?_
    refine va_get (D := (dC, dI)) (ci := 6) (v := .int (nI qn)) (C := R_RQ) (T := T_RQ) (N := 3) hx hb hts iRQ hown hK hP 6 rfl rfl 2 (by decide) (hts _ (wb_RR_count _ b_201)) (fun _ h9 => h9) rfl d_RR_count_99 ?_
    exact W.iret (v := nI qn) hx hb hr (fun t ht hW => ⟨⟨nI qn, (), rfl, by simp [e1_6], trivial⟩, hS.F ht⟩) hS.2.2 d_RR_count_102
  refine lv_tableOut (tgt := 103) hx hb d_RR_count_1 (by have z0 := lv_neT e1_0 (show (0 : Int32).toInt = 0 by decide); have z1 := lv_neT e1_1 (show (1 : Int32).toInt = 1 by decide); have z2 := lv_neT e1_2 (show (2 : Int32).toInt = 2 by decide); have z3 := lv_neT e1_3 (show (3 : Int32).toInt = 3 by decide); have z4 := lv_neT e1_4 (show (4 : Int32).toInt = 4 by decide); have z5 := lv_neT e1_5 (show (5 : Int32).toInt = 5 by decide); have z6 := lv_neT e1_6 (show (6 : Int32).toInt = 6 by decide); omega) (by decide) ?_
  exact absurd hz1 (fun h7 => by have h1 := mt Int32.lt_iff_toInt_lt.mpr hz0; have h2 := Int32.lt_iff_toInt_lt.mp h7; have y0 : (0 : Int32).toInt = 0 := by decide
                                 have y7 : (7 : Int32).toInt = 7 := by decide
                                 have z0 := lv_neT e1_0 (show (0 : Int32).toInt = 0 by decide); have z1 := lv_neT e1_1 (show (1 : Int32).toInt = 1 by decide); have z2 := lv_neT e1_2 (show (2 : Int32).toInt = 2 by decide); have z3 := lv_neT e1_3 (show (3 : Int32).toInt = 3 by decide); have z4 := lv_neT e1_4 (show (4 : Int32).toInt = 4 by decide); have z5 := lv_neT e1_5 (show (5 : Int32).toInt = 5 by decide); have z6 := lv_neT e1_6 (show (6 : Int32).toInt = 6 by decide); omega)
