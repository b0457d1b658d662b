set_option maxHeartbeats 4000000 in
set_option maxRecDepth 100000 in
/-- RuleBook.tell -/
theorem c_RB_tell (l : Launch) (dC : Nat → ClassId) (dI : Nat → Nat → Nat) (sz : Nat) (cI : ClassId) (h0 aN aB : Nat) (nd br : Nat → Int32) (n : Nat) (hn20 : n < 20) (tl ab mk sh : Int32) (an ne ba : Int32) : Met l y_RB_tell ws_RB_tell ({ frames := 0, cells := 0, slots := 0, locals := 0 }) (va_Pc [.ref h0, .int an, .int ne, .int ba] (fun U => U.heap.size = sz ∧ va_P (dC, dI) vwCl [(h0, .inr (7, [.ref aN, .ref aB, .int (nI n), .int tl, .int ab, .int mk, .int sh])), (aN, .inl (cI, 20, .inl nd)), (aB, .inl (cI, 20, .inl br))] U.heap ∧ va_K (dC, dI) vwCl [(cI, .int)] U ∧ va_D (fun _ => True) [(h0, .inr (7, [.ref aN, .ref aB, .int (nI n), .int tl, .int ab, .int mk, .int sh])), (aN, .inl (cI, 20, .inl nd)), (aB, .inl (cI, 20, .inl br))])) (va_Qi (fun (res : Int32) (_ : Unit) => res = nI n) (fun _ t => va_P (dC, dI) vwCl [(h0, .inr (7, [.ref aN, .ref aB, .int (nI (n + 1)), .int (tl ||| ((1 : Int32) <<< (nI n &&& 31))), .int (if an = 0 then ab ||| ((1 : Int32) <<< (nI n &&& 31)) else ab), .int (if an = 0 then mk else if an = 1 then mk ||| ((1 : Int32) <<< (nI n &&& 31)) else mk), .int (if an = 0 then sh else if an = 1 then sh else sh ||| ((1 : Int32) <<< (nI n &&& 31)))])), (aN, .inl (cI, 20, .inl (upd nd n ne))), (aB, .inl (cI, 20, .inl (upd br n ba)))] t.heap ∧ va_K (dC, dI) vwCl [(cI, .int)] t ∧ va_D (va_A [(h0, .inr (7, [.ref aN, .ref aB, .int (nI n), .int tl, .int ab, .int mk, .int sh])), (aN, .inl (cI, 20, .inl nd)), (aB, .inl (cI, 20, .inl br))] sz) [(h0, .inr (7, [.ref aN, .ref aB, .int (nI (n + 1)), .int (tl ||| ((1 : Int32) <<< (nI n &&& 31))), .int (if an = 0 then ab ||| ((1 : Int32) <<< (nI n &&& 31)) else ab), .int (if an = 0 then mk else if an = 1 then mk ||| ((1 : Int32) <<< (nI n &&& 31)) else mk), .int (if an = 0 then sh else if an = 1 then sh else sh ||| ((1 : Int32) <<< (nI n &&& 31)))])), (aN, .inl (cI, 20, .inl (upd nd n ne))), (aB, .inl (cI, 20, .inl (upd br n ba)))]) (va_A [(h0, .inr (7, [.ref aN, .ref aB, .int (nI n), .int tl, .int ab, .int mk, .int sh])), (aN, .inl (cI, 20, .inl nd)), (aB, .inl (cI, 20, .inl br))] sz)) 0 0 (va_A [(h0, .inr (7, [.ref aN, .ref aB, .int (nI n), .int tl, .int ab, .int mk, .int sh])), (aN, .inl (cI, 20, .inl nd)), (aB, .inl (cI, 20, .inl br))] sz) := by
  refine Met.ofW (cc := k_RB_tell) (maxL := 5) (ret := (some .int)) (by decide) rfl ?_
  intro p e s m args below meth c s₁ B hml hv
  obtain ⟨rfl, hsz, hP, hK, hD0⟩ := hv
  have hx := B.exec
  have hb := B.bytes
  have hr := B.returns
  have hts := atoms_spec (ws := ws_RB_tell) B.pre
  have hown : s.vm.findClass R_RB = some m.cls := findClass_of_methodNamed B.named
  have hlocks := B.notSynchronized
  subst hsz
  have hD := hD0.self (sz := s.heap.size)
  generalize hAe : va_A [(h0, .inr (7, [.ref aN, .ref aB, .int (nI n), .int tl, .int ab, .int mk, .int sh])), (aN, .inl (cI, 20, .inl nd)), (aB, .inl (cI, 20, .inl br))] s.heap.size = A at hD ⊢
  have hA : ∀ q : Nat, s.heap.size ≤ q → A q := fun q h => by rw [← hAe]; exact Or.inr h
  have hS : va_S A s.heap s.heap [] := va_S.rf
  have hP : va_P (dC, dI) vwCl [(h0, .inr (7, [.ref aN, .ref aB, .int (nI n), .int tl, .int ab, .int mk, .int sh])), (aN, .inl (cI, 20, .inl nd)), (aB, .inl (cI, 20, .inl br))] s.heap := hP
  have iRB : ∀ w ∈ u_ws R_RB T_RB 7, w ∈ ws_RB_tell := fun w h => wb_RB_tell w (in_RB w h)
  have hl := lv_entry ([.ref h0, .int an, .int ne, .int ba]) (n := 5) (Nat.le_of_ble_eq_true rfl)
  rw [lg_entry_eq]
  generalize (lg_sl ([.ref h0, .int an, .int ne, .int ba]) ++ List.replicate (5 - (lg_sl ([.ref h0, .int an, .int ne, .int ba])).length) Slot.unset).toArray = ls at hl ⊢
  have hl : lv_has ls 5 [(0, .ref h0), (1, .int an), (2, .int ne), (3, .int ba)] := hl
  refine lv_iconst (v := 1) hx hb d_RB_tell_0 (by decide) ?_
  refine lv_aload_n hx hb d_RB_tell_1 rfl (lv_at hl 0 rfl) ?_
  refine va_get (D := (dC, dI)) (ci := 7) (v := .int (nI n)) (C := R_RB) (T := T_RB) (N := 7) hx hb hts iRB hown hK hP 0 rfl rfl 2 (by decide) (hts _ (wb_RB_tell _ b_87)) (fun _ h9 => h9) rfl d_RB_tell_2 ?_
  refine lv_ishl hx hb d_RB_tell_5 ?_
  refine lv_istore (lv' := [(4, .int (1 <<< ((nI n) &&& 31))), (0, .ref h0), (1, .int an), (2, .int ne), (3, .int ba)]) hx hb d_RB_tell_6 hl (by decide) rfl (fun ls hl => ?_)
  refine lv_aload_n hx hb d_RB_tell_8 rfl (lv_at hl 1 rfl) ?_
  refine va_get (D := (dC, dI)) (ci := 7) (v := .ref aN) (C := R_RB) (T := T_RB) (N := 7) hx hb hts iRB hown hK hP 0 rfl rfl 0 (by decide) (hts _ (wb_RB_tell _ b_85)) (fun _ h9 => h9) rfl d_RB_tell_9 ?_
  refine lv_aload_n hx hb d_RB_tell_12 rfl (lv_at hl 1 rfl) ?_
  refine va_get (D := (dC, dI)) (ci := 7) (v := .int (nI n)) (C := R_RB) (T := T_RB) (N := 7) hx hb hts iRB hown hK hP 0 rfl rfl 2 (by decide) (hts _ (wb_RB_tell _ b_87)) (fun _ h9 => h9) rfl d_RB_tell_13 ?_
  refine lv_iload_n hx hb d_RB_tell_16 rfl (lv_at hl 3 rfl) ?_
  refine vz_iast (k := n) hx hb hK hP hD hS 1 0 rfl rfl (by omega) (by decide) d_RB_tell_17 (fun H locs hP hD hS => ?_)
  have hP : va_P (dC, dI) vwCl [(h0, .inr (7, [.ref aN, .ref aB, .int (nI n), .int tl, .int ab, .int mk, .int sh])), (aN, .inl (cI, 20, .inl (upd nd n ne))), (aB, .inl (cI, 20, .inl br))] H := hP
  have hD : va_D A [(h0, .inr (7, [.ref aN, .ref aB, .int (nI n), .int tl, .int ab, .int mk, .int sh])), (aN, .inl (cI, 20, .inl (upd nd n ne))), (aB, .inl (cI, 20, .inl br))] := hD
  refine lv_aload_n hx hb d_RB_tell_18 rfl (lv_at hl 1 rfl) ?_
  refine va_get (D := (dC, dI)) (ci := 7) (v := .ref aB) (C := R_RB) (T := T_RB) (N := 7) hx hb hts iRB hown hK hP 0 rfl rfl 1 (by decide) (hts _ (wb_RB_tell _ b_86)) (fun _ h9 => h9) rfl d_RB_tell_19 ?_
  refine lv_aload_n hx hb d_RB_tell_22 rfl (lv_at hl 1 rfl) ?_
  refine va_get (D := (dC, dI)) (ci := 7) (v := .int (nI n)) (C := R_RB) (T := T_RB) (N := 7) hx hb hts iRB hown hK hP 0 rfl rfl 2 (by decide) (hts _ (wb_RB_tell _ b_87)) (fun _ h9 => h9) rfl d_RB_tell_23 ?_
  refine lv_iload_n hx hb d_RB_tell_26 rfl (lv_at hl 4 rfl) ?_
  refine vz_iast (k := n) hx hb hK hP hD hS 2 0 rfl rfl (by omega) (by decide) d_RB_tell_27 (fun H locs hP hD hS => ?_)
  have hP : va_P (dC, dI) vwCl [(h0, .inr (7, [.ref aN, .ref aB, .int (nI n), .int tl, .int ab, .int mk, .int sh])), (aN, .inl (cI, 20, .inl (upd nd n ne))), (aB, .inl (cI, 20, .inl (upd br n ba)))] H := hP
  have hD : va_D A [(h0, .inr (7, [.ref aN, .ref aB, .int (nI n), .int tl, .int ab, .int mk, .int sh])), (aN, .inl (cI, 20, .inl (upd nd n ne))), (aB, .inl (cI, 20, .inl (upd br n ba)))] := hD
  refine lv_iload_n hx hb d_RB_tell_28 rfl (lv_at hl 2 rfl) ?_
  refine lv_if_ne (tgt := 46) hx hb d_RB_tell_29 (by decide) (fun c29 => ?_) (fun c29 => ?_)
  · refine lv_iload_n hx hb d_RB_tell_46 rfl (lv_at hl 2 rfl) ?_
    refine lv_iconst (v := 1) hx hb d_RB_tell_47 (by decide) ?_
    refine lv_icmp_ne (tgt := 65) hx hb d_RB_tell_48 (by decide) (fun c48 => ?_) (fun c48 => ?_)
    · refine lv_aload_n hx hb d_RB_tell_65 rfl (lv_at hl 1 rfl) ?_
      refine lv_dup hx hb d_RB_tell_66 rfl ?_
      refine va_get (D := (dC, dI)) (ci := 7) (v := .int sh) (C := R_RB) (T := T_RB) (N := 7) hx hb hts iRB hown hK hP 0 rfl rfl 6 (by decide) (hts _ (wb_RB_tell _ b_93)) (fun _ h9 => h9) rfl d_RB_tell_67 ?_
      refine lv_iload hx hb d_RB_tell_70 (lv_at hl 0 rfl) ?_
      refine lv_ior hx hb d_RB_tell_72 ?_
      refine va_put (D := (dC, dI)) (ci := 7) (v := .int (sh ||| (1 <<< ((nI n) &&& 31)))) (ty := .int) (C := R_RB) (T := T_RB) (N := 7) hx hb hts iRB ty_RB tyok_RB nm_RB hown hK hP hD hS 0 rfl rfl 6 (by decide) (hts _ (wb_RB_tell _ b_93)) (fun _ h9 => h9) rfl rfl rfl rfl (Nat.le_of_ble_eq_true rfl) d_RB_tell_73 (fun H locs hP hD hS => ?_)
      have hP : va_P (dC, dI) vwCl [(h0, .inr (7, [.ref aN, .ref aB, .int (nI n), .int tl, .int ab, .int mk, .int (sh ||| (1 <<< ((nI n) &&& 31)))])), (aN, .inl (cI, 20, .inl (upd nd n ne))), (aB, .inl (cI, 20, .inl (upd br n ba)))] H := hP
      have hD : va_D A [(h0, .inr (7, [.ref aN, .ref aB, .int (nI n), .int tl, .int ab, .int mk, .int (sh ||| (1 <<< ((nI n) &&& 31)))])), (aN, .inl (cI, 20, .inl (upd nd n ne))), (aB, .inl (cI, 20, .inl (upd br n ba)))] := hD
      refine lv_aload_n hx hb d_RB_tell_76 rfl (lv_at hl 1 rfl) ?_
      refine lv_dup hx hb d_RB_tell_77 rfl ?_
      refine va_get (D := (dC, dI)) (ci := 7) (v := .int tl) (C := R_RB) (T := T_RB) (N := 7) hx hb hts iRB hown hK hP 0 rfl rfl 3 (by decide) (hts _ (wb_RB_tell _ b_89)) (fun _ h9 => h9) rfl d_RB_tell_78 ?_
      refine lv_iload hx hb d_RB_tell_81 (lv_at hl 0 rfl) ?_
      refine lv_ior hx hb d_RB_tell_83 ?_
      refine va_put (D := (dC, dI)) (ci := 7) (v := .int (tl ||| (1 <<< ((nI n) &&& 31)))) (ty := .int) (C := R_RB) (T := T_RB) (N := 7) hx hb hts iRB ty_RB tyok_RB nm_RB hown hK hP hD hS 0 rfl rfl 3 (by decide) (hts _ (wb_RB_tell _ b_89)) (fun _ h9 => h9) rfl rfl rfl rfl (Nat.le_of_ble_eq_true rfl) d_RB_tell_84 (fun H locs hP hD hS => ?_)
      have hP : va_P (dC, dI) vwCl [(h0, .inr (7, [.ref aN, .ref aB, .int (nI n), .int (tl ||| (1 <<< ((nI n) &&& 31))), .int ab, .int mk, .int (sh ||| (1 <<< ((nI n) &&& 31)))])), (aN, .inl (cI, 20, .inl (upd nd n ne))), (aB, .inl (cI, 20, .inl (upd br n ba)))] H := hP
      have hD : va_D A [(h0, .inr (7, [.ref aN, .ref aB, .int (nI n), .int (tl ||| (1 <<< ((nI n) &&& 31))), .int ab, .int mk, .int (sh ||| (1 <<< ((nI n) &&& 31)))])), (aN, .inl (cI, 20, .inl (upd nd n ne))), (aB, .inl (cI, 20, .inl (upd br n ba)))] := hD
      refine lv_aload_n hx hb d_RB_tell_87 rfl (lv_at hl 1 rfl) ?_
      refine lv_dup hx hb d_RB_tell_88 rfl ?_
      refine va_get (D := (dC, dI)) (ci := 7) (v := .int (nI n)) (C := R_RB) (T := T_RB) (N := 7) hx hb hts iRB hown hK hP 0 rfl rfl 2 (by decide) (hts _ (wb_RB_tell _ b_87)) (fun _ h9 => h9) rfl d_RB_tell_89 ?_
      refine lv_iconst (v := 1) hx hb d_RB_tell_92 (by decide) ?_
      refine lv_iadd hx hb d_RB_tell_93 ?_
      refine vz_top (y := nI (n + 1)) (nI_1 n) ?_
      refine va_put (D := (dC, dI)) (ci := 7) (v := .int (nI (n + 1))) (ty := .int) (C := R_RB) (T := T_RB) (N := 7) hx hb hts iRB ty_RB tyok_RB nm_RB hown hK hP hD hS 0 rfl rfl 2 (by decide) (hts _ (wb_RB_tell _ b_87)) (fun _ h9 => h9) rfl rfl rfl rfl (Nat.le_of_ble_eq_true rfl) d_RB_tell_94 (fun H locs hP hD hS => ?_)
      have hP : va_P (dC, dI) vwCl [(h0, .inr (7, [.ref aN, .ref aB, .int (nI (n + 1)), .int (tl ||| (1 <<< ((nI n) &&& 31))), .int ab, .int mk, .int (sh ||| (1 <<< ((nI n) &&& 31)))])), (aN, .inl (cI, 20, .inl (upd nd n ne))), (aB, .inl (cI, 20, .inl (upd br n ba)))] H := hP
      have hD : va_D A [(h0, .inr (7, [.ref aN, .ref aB, .int (nI (n + 1)), .int (tl ||| (1 <<< ((nI n) &&& 31))), .int ab, .int mk, .int (sh ||| (1 <<< ((nI n) &&& 31)))])), (aN, .inl (cI, 20, .inl (upd nd n ne))), (aB, .inl (cI, 20, .inl (upd br n ba)))] := hD
      refine lv_aload_n hx hb d_RB_tell_97 rfl (lv_at hl 1 rfl) ?_
      refine va_get (D := (dC, dI)) (ci := 7) (v := .int (nI (n + 1))) (C := R_RB) (T := T_RB) (N := 7) hx hb hts iRB hown hK hP 0 rfl rfl 2 (by decide) (hts _ (wb_RB_tell _ b_87)) (fun _ h9 => h9) rfl d_RB_tell_98 ?_
      refine lv_iconst (v := 1) hx hb d_RB_tell_101 (by decide) ?_
      refine lv_isub hx hb d_RB_tell_102 ?_
      have hP9 := hP.sub (ws' := [(h0, .inr (7, [.ref aN, .ref aB, .int (nI (n + 1)), .int (tl ||| (1 <<< ((nI n) &&& 31))), .int ab, .int mk, .int (sh ||| (1 <<< ((nI n) &&& 31)))])), (aN, .inl (cI, 20, .inl (upd nd n ne))), (aB, .inl (cI, 20, .inl (upd br n ba)))]) [0, 1, 2] rfl
      have hD9 := hD.sub (ws' := [(h0, .inr (7, [.ref aN, .ref aB, .int (nI (n + 1)), .int (tl ||| (1 <<< ((nI n) &&& 31))), .int ab, .int mk, .int (sh ||| (1 <<< ((nI n) &&& 31)))])), (aN, .inl (cI, 20, .inl (upd nd n ne))), (aB, .inl (cI, 20, .inl (upd br n ba)))]) [0, 1, 2] (by decide) rfl
      have e9 : ([(h0, .inr (7, [.ref aN, .ref aB, .int (nI (n + 1)), .int (tl ||| (1 <<< ((nI n) &&& 31))), .int ab, .int mk, .int (sh ||| (1 <<< ((nI n) &&& 31)))])), (aN, .inl (cI, 20, .inl (upd nd n ne))), (aB, .inl (cI, 20, .inl (upd br n ba)))] : va_W) = [(h0, .inr (7, [.ref aN, .ref aB, .int (nI (n + 1)), .int (tl ||| ((1 : Int32) <<< (nI n &&& 31))), .int (if an = 0 then ab ||| ((1 : Int32) <<< (nI n &&& 31)) else ab), .int (if an = 0 then mk else if an = 1 then mk ||| ((1 : Int32) <<< (nI n &&& 31)) else mk), .int (if an = 0 then sh else if an = 1 then sh else sh ||| ((1 : Int32) <<< (nI n &&& 31)))])), (aN, .inl (cI, 20, .inl (upd nd n ne))), (aB, .inl (cI, 20, .inl (upd br n ba)))] := by simp [c29, c48]
      rw [e9] at hP9 hD9
      exact W.iret (v := (nI (n + 1)) - 1) hx hb hr (fun t ht hW => ⟨⟨(nI (n + 1)) - 1, (), rfl, nI_pred n, by rw [ht]; exact hP9, va_K.moved hW.alike hK, hD9⟩, hS.F ht⟩) hS.2.2 d_RB_tell_103
    · refine lv_aload_n hx hb d_RB_tell_51 rfl (lv_at hl 1 rfl) ?_
      refine lv_dup hx hb d_RB_tell_52 rfl ?_
      refine va_get (D := (dC, dI)) (ci := 7) (v := .int mk) (C := R_RB) (T := T_RB) (N := 7) hx hb hts iRB hown hK hP 0 rfl rfl 5 (by decide) (hts _ (wb_RB_tell _ b_92)) (fun _ h9 => h9) rfl d_RB_tell_53 ?_
      refine lv_iload hx hb d_RB_tell_56 (lv_at hl 0 rfl) ?_
      refine lv_ior hx hb d_RB_tell_58 ?_
      refine va_put (D := (dC, dI)) (ci := 7) (v := .int (mk ||| (1 <<< ((nI n) &&& 31)))) (ty := .int) (C := R_RB) (T := T_RB) (N := 7) hx hb hts iRB ty_RB tyok_RB nm_RB hown hK hP hD hS 0 rfl rfl 5 (by decide) (hts _ (wb_RB_tell _ b_92)) (fun _ h9 => h9) rfl rfl rfl rfl (Nat.le_of_ble_eq_true rfl) d_RB_tell_59 (fun H locs hP hD hS => ?_)
      have hP : va_P (dC, dI) vwCl [(h0, .inr (7, [.ref aN, .ref aB, .int (nI n), .int tl, .int ab, .int (mk ||| (1 <<< ((nI n) &&& 31))), .int sh])), (aN, .inl (cI, 20, .inl (upd nd n ne))), (aB, .inl (cI, 20, .inl (upd br n ba)))] H := hP
      have hD : va_D A [(h0, .inr (7, [.ref aN, .ref aB, .int (nI n), .int tl, .int ab, .int (mk ||| (1 <<< ((nI n) &&& 31))), .int sh])), (aN, .inl (cI, 20, .inl (upd nd n ne))), (aB, .inl (cI, 20, .inl (upd br n ba)))] := hD
      refine lv_goto (tgt := 76) hx hb d_RB_tell_62 (by decide) ?_
      refine lv_aload_n hx hb d_RB_tell_76 rfl (lv_at hl 1 rfl) ?_
      refine lv_dup hx hb d_RB_tell_77 rfl ?_
      refine va_get (D := (dC, dI)) (ci := 7) (v := .int tl) (C := R_RB) (T := T_RB) (N := 7) hx hb hts iRB hown hK hP 0 rfl rfl 3 (by decide) (hts _ (wb_RB_tell _ b_89)) (fun _ h9 => h9) rfl d_RB_tell_78 ?_
      refine lv_iload hx hb d_RB_tell_81 (lv_at hl 0 rfl) ?_
      refine lv_ior hx hb d_RB_tell_83 ?_
      refine va_put (D := (dC, dI)) (ci := 7) (v := .int (tl ||| (1 <<< ((nI n) &&& 31)))) (ty := .int) (C := R_RB) (T := T_RB) (N := 7) hx hb hts iRB ty_RB tyok_RB nm_RB hown hK hP hD hS 0 rfl rfl 3 (by decide) (hts _ (wb_RB_tell _ b_89)) (fun _ h9 => h9) rfl rfl rfl rfl (Nat.le_of_ble_eq_true rfl) d_RB_tell_84 (fun H locs hP hD hS => ?_)
      have hP : va_P (dC, dI) vwCl [(h0, .inr (7, [.ref aN, .ref aB, .int (nI n), .int (tl ||| (1 <<< ((nI n) &&& 31))), .int ab, .int (mk ||| (1 <<< ((nI n) &&& 31))), .int sh])), (aN, .inl (cI, 20, .inl (upd nd n ne))), (aB, .inl (cI, 20, .inl (upd br n ba)))] H := hP
      have hD : va_D A [(h0, .inr (7, [.ref aN, .ref aB, .int (nI n), .int (tl ||| (1 <<< ((nI n) &&& 31))), .int ab, .int (mk ||| (1 <<< ((nI n) &&& 31))), .int sh])), (aN, .inl (cI, 20, .inl (upd nd n ne))), (aB, .inl (cI, 20, .inl (upd br n ba)))] := hD
      refine lv_aload_n hx hb d_RB_tell_87 rfl (lv_at hl 1 rfl) ?_
      refine lv_dup hx hb d_RB_tell_88 rfl ?_
      refine va_get (D := (dC, dI)) (ci := 7) (v := .int (nI n)) (C := R_RB) (T := T_RB) (N := 7) hx hb hts iRB hown hK hP 0 rfl rfl 2 (by decide) (hts _ (wb_RB_tell _ b_87)) (fun _ h9 => h9) rfl d_RB_tell_89 ?_
      refine lv_iconst (v := 1) hx hb d_RB_tell_92 (by decide) ?_
      refine lv_iadd hx hb d_RB_tell_93 ?_
      refine vz_top (y := nI (n + 1)) (nI_1 n) ?_
      refine va_put (D := (dC, dI)) (ci := 7) (v := .int (nI (n + 1))) (ty := .int) (C := R_RB) (T := T_RB) (N := 7) hx hb hts iRB ty_RB tyok_RB nm_RB hown hK hP hD hS 0 rfl rfl 2 (by decide) (hts _ (wb_RB_tell _ b_87)) (fun _ h9 => h9) rfl rfl rfl rfl (Nat.le_of_ble_eq_true rfl) d_RB_tell_94 (fun H locs hP hD hS => ?_)
      have hP : va_P (dC, dI) vwCl [(h0, .inr (7, [.ref aN, .ref aB, .int (nI (n + 1)), .int (tl ||| (1 <<< ((nI n) &&& 31))), .int ab, .int (mk ||| (1 <<< ((nI n) &&& 31))), .int sh])), (aN, .inl (cI, 20, .inl (upd nd n ne))), (aB, .inl (cI, 20, .inl (upd br n ba)))] H := hP
      have hD : va_D A [(h0, .inr (7, [.ref aN, .ref aB, .int (nI (n + 1)), .int (tl ||| (1 <<< ((nI n) &&& 31))), .int ab, .int (mk ||| (1 <<< ((nI n) &&& 31))), .int sh])), (aN, .inl (cI, 20, .inl (upd nd n ne))), (aB, .inl (cI, 20, .inl (upd br n ba)))] := hD
      refine lv_aload_n hx hb d_RB_tell_97 rfl (lv_at hl 1 rfl) ?_
      refine va_get (D := (dC, dI)) (ci := 7) (v := .int (nI (n + 1))) (C := R_RB) (T := T_RB) (N := 7) hx hb hts iRB hown hK hP 0 rfl rfl 2 (by decide) (hts _ (wb_RB_tell _ b_87)) (fun _ h9 => h9) rfl d_RB_tell_98 ?_
      refine lv_iconst (v := 1) hx hb d_RB_tell_101 (by decide) ?_
      refine lv_isub hx hb d_RB_tell_102 ?_
      have hP9 := hP.sub (ws' := [(h0, .inr (7, [.ref aN, .ref aB, .int (nI (n + 1)), .int (tl ||| (1 <<< ((nI n) &&& 31))), .int ab, .int (mk ||| (1 <<< ((nI n) &&& 31))), .int sh])), (aN, .inl (cI, 20, .inl (upd nd n ne))), (aB, .inl (cI, 20, .inl (upd br n ba)))]) [0, 1, 2] rfl
      have hD9 := hD.sub (ws' := [(h0, .inr (7, [.ref aN, .ref aB, .int (nI (n + 1)), .int (tl ||| (1 <<< ((nI n) &&& 31))), .int ab, .int (mk ||| (1 <<< ((nI n) &&& 31))), .int sh])), (aN, .inl (cI, 20, .inl (upd nd n ne))), (aB, .inl (cI, 20, .inl (upd br n ba)))]) [0, 1, 2] (by decide) rfl
      have e9 : ([(h0, .inr (7, [.ref aN, .ref aB, .int (nI (n + 1)), .int (tl ||| (1 <<< ((nI n) &&& 31))), .int ab, .int (mk ||| (1 <<< ((nI n) &&& 31))), .int sh])), (aN, .inl (cI, 20, .inl (upd nd n ne))), (aB, .inl (cI, 20, .inl (upd br n ba)))] : va_W) = [(h0, .inr (7, [.ref aN, .ref aB, .int (nI (n + 1)), .int (tl ||| ((1 : Int32) <<< (nI n &&& 31))), .int (if an = 0 then ab ||| ((1 : Int32) <<< (nI n &&& 31)) else ab), .int (if an = 0 then mk else if an = 1 then mk ||| ((1 : Int32) <<< (nI n &&& 31)) else mk), .int (if an = 0 then sh else if an = 1 then sh else sh ||| ((1 : Int32) <<< (nI n &&& 31)))])), (aN, .inl (cI, 20, .inl (upd nd n ne))), (aB, .inl (cI, 20, .inl (upd br n ba)))] := by simp [c29, c48]
      rw [e9] at hP9 hD9
      exact W.iret (v := (nI (n + 1)) - 1) hx hb hr (fun t ht hW => ⟨⟨(nI (n + 1)) - 1, (), rfl, nI_pred n, by rw [ht]; exact hP9, va_K.moved hW.alike hK, hD9⟩, hS.F ht⟩) hS.2.2 d_RB_tell_103
  · refine lv_aload_n hx hb d_RB_tell_32 rfl (lv_at hl 1 rfl) ?_
    refine lv_dup hx hb d_RB_tell_33 rfl ?_
    refine va_get (D := (dC, dI)) (ci := 7) (v := .int ab) (C := R_RB) (T := T_RB) (N := 7) hx hb hts iRB hown hK hP 0 rfl rfl 4 (by decide) (hts _ (wb_RB_tell _ b_91)) (fun _ h9 => h9) rfl d_RB_tell_34 ?_
    refine lv_iload hx hb d_RB_tell_37 (lv_at hl 0 rfl) ?_
    refine lv_ior hx hb d_RB_tell_39 ?_
    refine va_put (D := (dC, dI)) (ci := 7) (v := .int (ab ||| (1 <<< ((nI n) &&& 31)))) (ty := .int) (C := R_RB) (T := T_RB) (N := 7) hx hb hts iRB ty_RB tyok_RB nm_RB hown hK hP hD hS 0 rfl rfl 4 (by decide) (hts _ (wb_RB_tell _ b_91)) (fun _ h9 => h9) rfl rfl rfl rfl (Nat.le_of_ble_eq_true rfl) d_RB_tell_40 (fun H locs hP hD hS => ?_)
    have hP : va_P (dC, dI) vwCl [(h0, .inr (7, [.ref aN, .ref aB, .int (nI n), .int tl, .int (ab ||| (1 <<< ((nI n) &&& 31))), .int mk, .int sh])), (aN, .inl (cI, 20, .inl (upd nd n ne))), (aB, .inl (cI, 20, .inl (upd br n ba)))] H := hP
    have hD : va_D A [(h0, .inr (7, [.ref aN, .ref aB, .int (nI n), .int tl, .int (ab ||| (1 <<< ((nI n) &&& 31))), .int mk, .int sh])), (aN, .inl (cI, 20, .inl (upd nd n ne))), (aB, .inl (cI, 20, .inl (upd br n ba)))] := hD
    refine lv_goto (tgt := 76) hx hb d_RB_tell_43 (by decide) ?_
    refine lv_aload_n hx hb d_RB_tell_76 rfl (lv_at hl 1 rfl) ?_
    refine lv_dup hx hb d_RB_tell_77 rfl ?_
    refine va_get (D := (dC, dI)) (ci := 7) (v := .int tl) (C := R_RB) (T := T_RB) (N := 7) hx hb hts iRB hown hK hP 0 rfl rfl 3 (by decide) (hts _ (wb_RB_tell _ b_89)) (fun _ h9 => h9) rfl d_RB_tell_78 ?_
    refine lv_iload hx hb d_RB_tell_81 (lv_at hl 0 rfl) ?_
    refine lv_ior hx hb d_RB_tell_83 ?_
    refine va_put (D := (dC, dI)) (ci := 7) (v := .int (tl ||| (1 <<< ((nI n) &&& 31)))) (ty := .int) (C := R_RB) (T := T_RB) (N := 7) hx hb hts iRB ty_RB tyok_RB nm_RB hown hK hP hD hS 0 rfl rfl 3 (by decide) (hts _ (wb_RB_tell _ b_89)) (fun _ h9 => h9) rfl rfl rfl rfl (Nat.le_of_ble_eq_true rfl) d_RB_tell_84 (fun H locs hP hD hS => ?_)
    have hP : va_P (dC, dI) vwCl [(h0, .inr (7, [.ref aN, .ref aB, .int (nI n), .int (tl ||| (1 <<< ((nI n) &&& 31))), .int (ab ||| (1 <<< ((nI n) &&& 31))), .int mk, .int sh])), (aN, .inl (cI, 20, .inl (upd nd n ne))), (aB, .inl (cI, 20, .inl (upd br n ba)))] H := hP
    have hD : va_D A [(h0, .inr (7, [.ref aN, .ref aB, .int (nI n), .int (tl ||| (1 <<< ((nI n) &&& 31))), .int (ab ||| (1 <<< ((nI n) &&& 31))), .int mk, .int sh])), (aN, .inl (cI, 20, .inl (upd nd n ne))), (aB, .inl (cI, 20, .inl (upd br n ba)))] := hD
    refine lv_aload_n hx hb d_RB_tell_87 rfl (lv_at hl 1 rfl) ?_
    refine lv_dup hx hb d_RB_tell_88 rfl ?_
    refine va_get (D := (dC, dI)) (ci := 7) (v := .int (nI n)) (C := R_RB) (T := T_RB) (N := 7) hx hb hts iRB hown hK hP 0 rfl rfl 2 (by decide) (hts _ (wb_RB_tell _ b_87)) (fun _ h9 => h9) rfl d_RB_tell_89 ?_
    refine lv_iconst (v := 1) hx hb d_RB_tell_92 (by decide) ?_
    refine lv_iadd hx hb d_RB_tell_93 ?_
    refine vz_top (y := nI (n + 1)) (nI_1 n) ?_
    refine va_put (D := (dC, dI)) (ci := 7) (v := .int (nI (n + 1))) (ty := .int) (C := R_RB) (T := T_RB) (N := 7) hx hb hts iRB ty_RB tyok_RB nm_RB hown hK hP hD hS 0 rfl rfl 2 (by decide) (hts _ (wb_RB_tell _ b_87)) (fun _ h9 => h9) rfl rfl rfl rfl (Nat.le_of_ble_eq_true rfl) d_RB_tell_94 (fun H locs hP hD hS => ?_)
    have hP : va_P (dC, dI) vwCl [(h0, .inr (7, [.ref aN, .ref aB, .int (nI (n + 1)), .int (tl ||| (1 <<< ((nI n) &&& 31))), .int (ab ||| (1 <<< ((nI n) &&& 31))), .int mk, .int sh])), (aN, .inl (cI, 20, .inl (upd nd n ne))), (aB, .inl (cI, 20, .inl (upd br n ba)))] H := hP
    have hD : va_D A [(h0, .inr (7, [.ref aN, .ref aB, .int (nI (n + 1)), .int (tl ||| (1 <<< ((nI n) &&& 31))), .int (ab ||| (1 <<< ((nI n) &&& 31))), .int mk, .int sh])), (aN, .inl (cI, 20, .inl (upd nd n ne))), (aB, .inl (cI, 20, .inl (upd br n ba)))] := hD
    refine lv_aload_n hx hb d_RB_tell_97 rfl (lv_at hl 1 rfl) ?_
    refine va_get (D := (dC, dI)) (ci := 7) (v := .int (nI (n + 1))) (C := R_RB) (T := T_RB) (N := 7) hx hb hts iRB hown hK hP 0 rfl rfl 2 (by decide) (hts _ (wb_RB_tell _ b_87)) (fun _ h9 => h9) rfl d_RB_tell_98 ?_
    refine lv_iconst (v := 1) hx hb d_RB_tell_101 (by decide) ?_
    refine lv_isub hx hb d_RB_tell_102 ?_
    have hP9 := hP.sub (ws' := [(h0, .inr (7, [.ref aN, .ref aB, .int (nI (n + 1)), .int (tl ||| (1 <<< ((nI n) &&& 31))), .int (ab ||| (1 <<< ((nI n) &&& 31))), .int mk, .int sh])), (aN, .inl (cI, 20, .inl (upd nd n ne))), (aB, .inl (cI, 20, .inl (upd br n ba)))]) [0, 1, 2] rfl
    have hD9 := hD.sub (ws' := [(h0, .inr (7, [.ref aN, .ref aB, .int (nI (n + 1)), .int (tl ||| (1 <<< ((nI n) &&& 31))), .int (ab ||| (1 <<< ((nI n) &&& 31))), .int mk, .int sh])), (aN, .inl (cI, 20, .inl (upd nd n ne))), (aB, .inl (cI, 20, .inl (upd br n ba)))]) [0, 1, 2] (by decide) rfl
    have e9 : ([(h0, .inr (7, [.ref aN, .ref aB, .int (nI (n + 1)), .int (tl ||| (1 <<< ((nI n) &&& 31))), .int (ab ||| (1 <<< ((nI n) &&& 31))), .int mk, .int sh])), (aN, .inl (cI, 20, .inl (upd nd n ne))), (aB, .inl (cI, 20, .inl (upd br n ba)))] : va_W) = [(h0, .inr (7, [.ref aN, .ref aB, .int (nI (n + 1)), .int (tl ||| ((1 : Int32) <<< (nI n &&& 31))), .int (if an = 0 then ab ||| ((1 : Int32) <<< (nI n &&& 31)) else ab), .int (if an = 0 then mk else if an = 1 then mk ||| ((1 : Int32) <<< (nI n &&& 31)) else mk), .int (if an = 0 then sh else if an = 1 then sh else sh ||| ((1 : Int32) <<< (nI n &&& 31)))])), (aN, .inl (cI, 20, .inl (upd nd n ne))), (aB, .inl (cI, 20, .inl (upd br n ba)))] := by simp [c29]
    rw [e9] at hP9 hD9
    exact W.iret (v := (nI (n + 1)) - 1) hx hb hr (fun t ht hW => ⟨⟨(nI (n + 1)) - 1, (), rfl, nI_pred n, by rw [ht]; exact hP9, va_K.moved hW.alike hK, hD9⟩, hS.F ht⟩) hS.2.2 d_RB_tell_103

set_option maxHeartbeats 4000000 in
set_option maxRecDepth 100000 in
/-- RuleBook.untell -/
theorem c_RB_untell (l : Launch) (dC : Nat → ClassId) (dI : Nat → Nat → Nat) (sz : Nat) (cI : ClassId) (h0 aN aB : Nat) (nd br : Nat → Int32) (n : Nat) (hn20 : n ≤ 20) (tl ab mk sh : Int32) (j : Nat) : Met l y_RB_untell ws_RB_untell ({ frames := 0, cells := 0, slots := 0, locals := 0 }) (va_Pc [.ref h0, .int (nI j)] (fun U => U.heap.size = sz ∧ va_P (dC, dI) vwCl [(h0, .inr (7, [.ref aN, .ref aB, .int (nI n), .int tl, .int ab, .int mk, .int sh])), (aN, .inl (cI, 20, .inl nd)), (aB, .inl (cI, 20, .inl br))] U.heap ∧ va_K (dC, dI) vwCl [(cI, .int)] U ∧ va_D (fun _ => True) [(h0, .inr (7, [.ref aN, .ref aB, .int (nI n), .int tl, .int ab, .int mk, .int sh])), (aN, .inl (cI, 20, .inl nd)), (aB, .inl (cI, 20, .inl br))])) (va_Qi (fun (res : Int32) (_ : Unit) => res = if tl &&& ((1 : Int32) <<< (nI j &&& 31)) = 0 then 0 else 1) (fun _ t => va_P (dC, dI) vwCl [(h0, .inr (7, [.ref aN, .ref aB, .int (nI n), .int (tl &&& (((1 : Int32) <<< (nI j &&& 31)) ^^^ (-1))), .int ab, .int mk, .int sh])), (aN, .inl (cI, 20, .inl nd)), (aB, .inl (cI, 20, .inl br))] t.heap ∧ va_K (dC, dI) vwCl [(cI, .int)] t ∧ va_D (va_A [(h0, .inr (7, [.ref aN, .ref aB, .int (nI n), .int tl, .int ab, .int mk, .int sh])), (aN, .inl (cI, 20, .inl nd)), (aB, .inl (cI, 20, .inl br))] sz) [(h0, .inr (7, [.ref aN, .ref aB, .int (nI n), .int (tl &&& (((1 : Int32) <<< (nI j &&& 31)) ^^^ (-1))), .int ab, .int mk, .int sh])), (aN, .inl (cI, 20, .inl nd)), (aB, .inl (cI, 20, .inl br))]) (va_A [(h0, .inr (7, [.ref aN, .ref aB, .int (nI n), .int tl, .int ab, .int mk, .int sh])), (aN, .inl (cI, 20, .inl nd)), (aB, .inl (cI, 20, .inl br))] sz)) 0 0 (va_A [(h0, .inr (7, [.ref aN, .ref aB, .int (nI n), .int tl, .int ab, .int mk, .int sh])), (aN, .inl (cI, 20, .inl nd)), (aB, .inl (cI, 20, .inl br))] sz) := by
  refine Met.ofW (cc := k_RB_untell) (maxL := 4) (ret := (some .boolean)) (by decide) rfl ?_
  intro p e s m args below meth c s₁ B hml hv
  obtain ⟨rfl, hsz, hP, hK, hD0⟩ := hv
  have hx := B.exec
  have hb := B.bytes
  have hr := B.returns
  have hts := atoms_spec (ws := ws_RB_untell) B.pre
  have hown : s.vm.findClass R_RB = some m.cls := findClass_of_methodNamed B.named
  have hlocks := B.notSynchronized
  subst hsz
  have hD := hD0.self (sz := s.heap.size)
  generalize hAe : va_A [(h0, .inr (7, [.ref aN, .ref aB, .int (nI n), .int tl, .int ab, .int mk, .int sh])), (aN, .inl (cI, 20, .inl nd)), (aB, .inl (cI, 20, .inl br))] s.heap.size = A at hD ⊢
  have hA : ∀ q : Nat, s.heap.size ≤ q → A q := fun q h => by rw [← hAe]; exact Or.inr h
  have hS : va_S A s.heap s.heap [] := va_S.rf
  have hP : va_P (dC, dI) vwCl [(h0, .inr (7, [.ref aN, .ref aB, .int (nI n), .int tl, .int ab, .int mk, .int sh])), (aN, .inl (cI, 20, .inl nd)), (aB, .inl (cI, 20, .inl br))] s.heap := hP
  have iRB : ∀ w ∈ u_ws R_RB T_RB 7, w ∈ ws_RB_untell := fun w h => wb_RB_untell w (in_RB w h)
  have hl := lv_entry ([.ref h0, .int (nI j)]) (n := 4) (Nat.le_of_ble_eq_true rfl)
  rw [lg_entry_eq]
  generalize (lg_sl ([.ref h0, .int (nI j)]) ++ List.replicate (4 - (lg_sl ([.ref h0, .int (nI j)])).length) Slot.unset).toArray = ls at hl ⊢
  have hl : lv_has ls 4 [(0, .ref h0), (1, .int (nI j))] := hl
  refine lv_iconst (v := 1) hx hb d_RB_untell_0 (by decide) ?_
  refine lv_iload_n hx hb d_RB_untell_1 rfl (lv_at hl 1 rfl) ?_
  refine lv_ishl hx hb d_RB_untell_2 ?_
  refine lv_istore_n (lv' := [(2, .int (1 <<< ((nI j) &&& 31))), (0, .ref h0), (1, .int (nI j))]) hx hb d_RB_untell_3 rfl hl (by decide) rfl (fun ls hl => ?_)
  refine lv_aload_n hx hb d_RB_untell_4 rfl (lv_at hl 1 rfl) ?_
  refine va_get (D := (dC, dI)) (ci := 7) (v := .int tl) (C := R_RB) (T := T_RB) (N := 7) hx hb hts iRB hown hK hP 0 rfl rfl 3 (by decide) (hts _ (wb_RB_untell _ b_89)) (fun _ h9 => h9) rfl d_RB_untell_5 ?_
  refine lv_iload_n hx hb d_RB_untell_8 rfl (lv_at hl 0 rfl) ?_
  refine lv_iand hx hb d_RB_untell_9 ?_
  refine lv_if_eq (tgt := 17) hx hb d_RB_untell_10 (by decide) (fun c10 => ?_) (fun c10 => ?_)
  · refine lv_iconst (v := 0) hx hb d_RB_untell_17 (by decide) ?_
    refine lv_istore_n (lv' := [(3, .int 0), (2, .int (1 <<< ((nI j) &&& 31))), (0, .ref h0), (1, .int (nI j))]) hx hb d_RB_untell_18 rfl hl (by decide) rfl (fun ls hl => ?_)
    refine lv_aload_n hx hb d_RB_untell_19 rfl (lv_at hl 2 rfl) ?_
    refine lv_dup hx hb d_RB_untell_20 rfl ?_
    refine va_get (D := (dC, dI)) (ci := 7) (v := .int tl) (C := R_RB) (T := T_RB) (N := 7) hx hb hts iRB hown hK hP 0 rfl rfl 3 (by decide) (hts _ (wb_RB_untell _ b_89)) (fun _ h9 => h9) rfl d_RB_untell_21 ?_
    refine lv_iload_n hx hb d_RB_untell_24 rfl (lv_at hl 1 rfl) ?_
    refine lv_iconst (v := (-1)) hx hb d_RB_untell_25 (by decide) ?_
    refine lv_ixor hx hb d_RB_untell_26 ?_
    refine lv_iand hx hb d_RB_untell_27 ?_
    refine va_put (D := (dC, dI)) (ci := 7) (v := .int (tl &&& ((1 <<< ((nI j) &&& 31)) ^^^ (-1)))) (ty := .int) (C := R_RB) (T := T_RB) (N := 7) hx hb hts iRB ty_RB tyok_RB nm_RB hown hK hP hD hS 0 rfl rfl 3 (by decide) (hts _ (wb_RB_untell _ b_89)) (fun _ h9 => h9) rfl rfl rfl rfl (Nat.le_of_ble_eq_true rfl) d_RB_untell_28 (fun H locs hP hD hS => ?_)
    have hP : va_P (dC, dI) vwCl [(h0, .inr (7, [.ref aN, .ref aB, .int (nI n), .int (tl &&& ((1 <<< ((nI j) &&& 31)) ^^^ (-1))), .int ab, .int mk, .int sh])), (aN, .inl (cI, 20, .inl nd)), (aB, .inl (cI, 20, .inl br))] H := hP
    have hD : va_D A [(h0, .inr (7, [.ref aN, .ref aB, .int (nI n), .int (tl &&& ((1 <<< ((nI j) &&& 31)) ^^^ (-1))), .int ab, .int mk, .int sh])), (aN, .inl (cI, 20, .inl nd)), (aB, .inl (cI, 20, .inl br))] := hD
    refine lv_iload_n hx hb d_RB_untell_31 rfl (lv_at hl 0 rfl) ?_
    have hP9 := hP.sub (ws' := [(h0, .inr (7, [.ref aN, .ref aB, .int (nI n), .int (tl &&& ((1 <<< ((nI j) &&& 31)) ^^^ (-1))), .int ab, .int mk, .int sh])), (aN, .inl (cI, 20, .inl nd)), (aB, .inl (cI, 20, .inl br))]) [0, 1, 2] rfl
    have hD9 := hD.sub (ws' := [(h0, .inr (7, [.ref aN, .ref aB, .int (nI n), .int (tl &&& ((1 <<< ((nI j) &&& 31)) ^^^ (-1))), .int ab, .int mk, .int sh])), (aN, .inl (cI, 20, .inl nd)), (aB, .inl (cI, 20, .inl br))]) [0, 1, 2] (by decide) rfl
    exact W.zret (v := 0) hx hb hr (rfl) (fun t ht hW => ⟨⟨0, (), rfl, by simp [c10], by rw [ht]; exact hP9, va_K.moved hW.alike hK, hD9⟩, hS.F ht⟩) hS.2.2 d_RB_untell_32
  · refine lv_iconst (v := 1) hx hb d_RB_untell_13 (by decide) ?_
    refine lv_goto (tgt := 18) hx hb d_RB_untell_14 (by decide) ?_
    refine lv_istore_n (lv' := [(3, .int 1), (2, .int (1 <<< ((nI j) &&& 31))), (0, .ref h0), (1, .int (nI j))]) hx hb d_RB_untell_18 rfl hl (by decide) rfl (fun ls hl => ?_)
    refine lv_aload_n hx hb d_RB_untell_19 rfl (lv_at hl 2 rfl) ?_
    refine lv_dup hx hb d_RB_untell_20 rfl ?_
    refine va_get (D := (dC, dI)) (ci := 7) (v := .int tl) (C := R_RB) (T := T_RB) (N := 7) hx hb hts iRB hown hK hP 0 rfl rfl 3 (by decide) (hts _ (wb_RB_untell _ b_89)) (fun _ h9 => h9) rfl d_RB_untell_21 ?_
    refine lv_iload_n hx hb d_RB_untell_24 rfl (lv_at hl 1 rfl) ?_
    refine lv_iconst (v := (-1)) hx hb d_RB_untell_25 (by decide) ?_
    refine lv_ixor hx hb d_RB_untell_26 ?_
    refine lv_iand hx hb d_RB_untell_27 ?_
    refine va_put (D := (dC, dI)) (ci := 7) (v := .int (tl &&& ((1 <<< ((nI j) &&& 31)) ^^^ (-1)))) (ty := .int) (C := R_RB) (T := T_RB) (N := 7) hx hb hts iRB ty_RB tyok_RB nm_RB hown hK hP hD hS 0 rfl rfl 3 (by decide) (hts _ (wb_RB_untell _ b_89)) (fun _ h9 => h9) rfl rfl rfl rfl (Nat.le_of_ble_eq_true rfl) d_RB_untell_28 (fun H locs hP hD hS => ?_)
    have hP : va_P (dC, dI) vwCl [(h0, .inr (7, [.ref aN, .ref aB, .int (nI n), .int (tl &&& ((1 <<< ((nI j) &&& 31)) ^^^ (-1))), .int ab, .int mk, .int sh])), (aN, .inl (cI, 20, .inl nd)), (aB, .inl (cI, 20, .inl br))] H := hP
    have hD : va_D A [(h0, .inr (7, [.ref aN, .ref aB, .int (nI n), .int (tl &&& ((1 <<< ((nI j) &&& 31)) ^^^ (-1))), .int ab, .int mk, .int sh])), (aN, .inl (cI, 20, .inl nd)), (aB, .inl (cI, 20, .inl br))] := hD
    refine lv_iload_n hx hb d_RB_untell_31 rfl (lv_at hl 0 rfl) ?_
    have hP9 := hP.sub (ws' := [(h0, .inr (7, [.ref aN, .ref aB, .int (nI n), .int (tl &&& ((1 <<< ((nI j) &&& 31)) ^^^ (-1))), .int ab, .int mk, .int sh])), (aN, .inl (cI, 20, .inl nd)), (aB, .inl (cI, 20, .inl br))]) [0, 1, 2] rfl
    have hD9 := hD.sub (ws' := [(h0, .inr (7, [.ref aN, .ref aB, .int (nI n), .int (tl &&& ((1 <<< ((nI j) &&& 31)) ^^^ (-1))), .int ab, .int mk, .int sh])), (aN, .inl (cI, 20, .inl nd)), (aB, .inl (cI, 20, .inl br))]) [0, 1, 2] (by decide) rfl
    exact W.zret (v := 1) hx hb hr (rfl) (fun t ht hW => ⟨⟨1, (), rfl, by simp [c10], by rw [ht]; exact hP9, va_K.moved hW.alike hK, hD9⟩, hS.F ht⟩) hS.2.2 d_RB_untell_32

set_option maxHeartbeats 4000000 in
set_option maxRecDepth 100000 in
/-- People.add -/
theorem c_PE_add (l : Launch) (dC : Nat → ClassId) (dI : Nat → Nat → Nat) (sz : Nat) (cI : ClassId) (h0 aR aL : Nat) (ro li : Nat → Int32) (n : Nat) (hn : n < 12) (x : Int32) : Met l y_PE_add ws_PE_add ({ frames := 0, cells := 0, slots := 0, locals := 0 }) (va_Pc [.ref h0, .int x] (fun U => U.heap.size = sz ∧ va_P (dC, dI) vwCl [(h0, .inr (5, [.ref aR, .ref aL, .int (nI n)])), (aR, .inl (cI, 12, .inl ro)), (aL, .inl (cI, 12, .inl li))] U.heap ∧ va_K (dC, dI) vwCl [(cI, .int)] U ∧ va_D (fun _ => True) [(h0, .inr (5, [.ref aR, .ref aL, .int (nI n)])), (aR, .inl (cI, 12, .inl ro)), (aL, .inl (cI, 12, .inl li))])) (va_Qi (fun (res : Int32) (_ : Unit) => res = nI n) (fun _ t => va_P (dC, dI) vwCl [(h0, .inr (5, [.ref aR, .ref aL, .int (nI (n + 1))])), (aR, .inl (cI, 12, .inl (upd ro n x))), (aL, .inl (cI, 12, .inl (upd li n 3)))] t.heap ∧ va_K (dC, dI) vwCl [(cI, .int)] t ∧ va_D (va_A [(h0, .inr (5, [.ref aR, .ref aL, .int (nI n)])), (aR, .inl (cI, 12, .inl ro)), (aL, .inl (cI, 12, .inl li))] sz) [(h0, .inr (5, [.ref aR, .ref aL, .int (nI (n + 1))])), (aR, .inl (cI, 12, .inl (upd ro n x))), (aL, .inl (cI, 12, .inl (upd li n 3)))]) (va_A [(h0, .inr (5, [.ref aR, .ref aL, .int (nI n)])), (aR, .inl (cI, 12, .inl ro)), (aL, .inl (cI, 12, .inl li))] sz)) 0 0 (va_A [(h0, .inr (5, [.ref aR, .ref aL, .int (nI n)])), (aR, .inl (cI, 12, .inl ro)), (aL, .inl (cI, 12, .inl li))] sz) := by
  refine Met.ofW (cc := k_PE_add) (maxL := 2) (ret := (some .int)) (by decide) rfl ?_
  intro p e s m args below meth c s₁ B hml hv
  obtain ⟨rfl, hsz, hP, hK, hD0⟩ := hv
  have hx := B.exec
  have hb := B.bytes
  have hr := B.returns
  have hts := atoms_spec (ws := ws_PE_add) B.pre
  have hown : s.vm.findClass R_PE = some m.cls := findClass_of_methodNamed B.named
  have hlocks := B.notSynchronized
  subst hsz
  have hD := hD0.self (sz := s.heap.size)
  generalize hAe : va_A [(h0, .inr (5, [.ref aR, .ref aL, .int (nI n)])), (aR, .inl (cI, 12, .inl ro)), (aL, .inl (cI, 12, .inl li))] s.heap.size = A at hD ⊢
  have hA : ∀ q : Nat, s.heap.size ≤ q → A q := fun q h => by rw [← hAe]; exact Or.inr h
  have hS : va_S A s.heap s.heap [] := va_S.rf
  have hP : va_P (dC, dI) vwCl [(h0, .inr (5, [.ref aR, .ref aL, .int (nI n)])), (aR, .inl (cI, 12, .inl ro)), (aL, .inl (cI, 12, .inl li))] s.heap := hP
  have iPE : ∀ w ∈ u_ws R_PE T_PE 3, w ∈ ws_PE_add := fun w h => wb_PE_add w (in_PE w h)
  have hl := lv_entry ([.ref h0, .int x]) (n := 2) (Nat.le_of_ble_eq_true rfl)
  rw [lg_entry_eq]
  generalize (lg_sl ([.ref h0, .int x]) ++ List.replicate (2 - (lg_sl ([.ref h0, .int x])).length) Slot.unset).toArray = ls at hl ⊢
  have hl : lv_has ls 2 [(0, .ref h0), (1, .int x)] := hl
  refine lv_aload_n hx hb d_PE_add_0 rfl (lv_at hl 0 rfl) ?_
  refine va_get (D := (dC, dI)) (ci := 5) (v := .ref aR) (C := R_PE) (T := T_PE) (N := 3) hx hb hts iPE hown hK hP 0 rfl rfl 0 (by decide) (hts _ (wb_PE_add _ b_116)) (fun _ h9 => h9) rfl d_PE_add_1 ?_
  refine lv_aload_n hx hb d_PE_add_4 rfl (lv_at hl 0 rfl) ?_
  refine va_get (D := (dC, dI)) (ci := 5) (v := .int (nI n)) (C := R_PE) (T := T_PE) (N := 3) hx hb hts iPE hown hK hP 0 rfl rfl 2 (by decide) (hts _ (wb_PE_add _ b_120)) (fun _ h9 => h9) rfl d_PE_add_5 ?_
  refine lv_iload_n hx hb d_PE_add_8 rfl (lv_at hl 1 rfl) ?_
  refine vz_iast (k := n) hx hb hK hP hD hS 1 0 rfl rfl (by omega) (by decide) d_PE_add_9 (fun H locs hP hD hS => ?_)
  have hP : va_P (dC, dI) vwCl [(h0, .inr (5, [.ref aR, .ref aL, .int (nI n)])), (aR, .inl (cI, 12, .inl (upd ro n x))), (aL, .inl (cI, 12, .inl li))] H := hP
  have hD : va_D A [(h0, .inr (5, [.ref aR, .ref aL, .int (nI n)])), (aR, .inl (cI, 12, .inl (upd ro n x))), (aL, .inl (cI, 12, .inl li))] := hD
  refine lv_aload_n hx hb d_PE_add_10 rfl (lv_at hl 0 rfl) ?_
  refine va_get (D := (dC, dI)) (ci := 5) (v := .ref aL) (C := R_PE) (T := T_PE) (N := 3) hx hb hts iPE hown hK hP 0 rfl rfl 1 (by decide) (hts _ (wb_PE_add _ b_118)) (fun _ h9 => h9) rfl d_PE_add_11 ?_
  refine lv_aload_n hx hb d_PE_add_14 rfl (lv_at hl 0 rfl) ?_
  refine va_get (D := (dC, dI)) (ci := 5) (v := .int (nI n)) (C := R_PE) (T := T_PE) (N := 3) hx hb hts iPE hown hK hP 0 rfl rfl 2 (by decide) (hts _ (wb_PE_add _ b_120)) (fun _ h9 => h9) rfl d_PE_add_15 ?_
  refine lv_iconst (v := 3) hx hb d_PE_add_18 (by decide) ?_
  refine vz_iast (k := n) hx hb hK hP hD hS 2 0 rfl rfl (by omega) (by decide) d_PE_add_19 (fun H locs hP hD hS => ?_)
  have hP : va_P (dC, dI) vwCl [(h0, .inr (5, [.ref aR, .ref aL, .int (nI n)])), (aR, .inl (cI, 12, .inl (upd ro n x))), (aL, .inl (cI, 12, .inl (upd li n 3)))] H := hP
  have hD : va_D A [(h0, .inr (5, [.ref aR, .ref aL, .int (nI n)])), (aR, .inl (cI, 12, .inl (upd ro n x))), (aL, .inl (cI, 12, .inl (upd li n 3)))] := hD
  refine lv_aload_n hx hb d_PE_add_20 rfl (lv_at hl 0 rfl) ?_
  refine lv_dup hx hb d_PE_add_21 rfl ?_
  refine va_get (D := (dC, dI)) (ci := 5) (v := .int (nI n)) (C := R_PE) (T := T_PE) (N := 3) hx hb hts iPE hown hK hP 0 rfl rfl 2 (by decide) (hts _ (wb_PE_add _ b_120)) (fun _ h9 => h9) rfl d_PE_add_22 ?_
  refine lv_iconst (v := 1) hx hb d_PE_add_25 (by decide) ?_
  refine lv_iadd hx hb d_PE_add_26 ?_
  refine vz_top (y := nI (n + 1)) (nI_1 n) ?_
  refine va_put (D := (dC, dI)) (ci := 5) (v := .int (nI (n + 1))) (ty := .int) (C := R_PE) (T := T_PE) (N := 3) hx hb hts iPE ty_PE tyok_PE nm_PE hown hK hP hD hS 0 rfl rfl 2 (by decide) (hts _ (wb_PE_add _ b_120)) (fun _ h9 => h9) rfl rfl rfl rfl (Nat.le_of_ble_eq_true rfl) d_PE_add_27 (fun H locs hP hD hS => ?_)
  have hP : va_P (dC, dI) vwCl [(h0, .inr (5, [.ref aR, .ref aL, .int (nI (n + 1))])), (aR, .inl (cI, 12, .inl (upd ro n x))), (aL, .inl (cI, 12, .inl (upd li n 3)))] H := hP
  have hD : va_D A [(h0, .inr (5, [.ref aR, .ref aL, .int (nI (n + 1))])), (aR, .inl (cI, 12, .inl (upd ro n x))), (aL, .inl (cI, 12, .inl (upd li n 3)))] := hD
  refine lv_aload_n hx hb d_PE_add_30 rfl (lv_at hl 0 rfl) ?_
  refine va_get (D := (dC, dI)) (ci := 5) (v := .int (nI (n + 1))) (C := R_PE) (T := T_PE) (N := 3) hx hb hts iPE hown hK hP 0 rfl rfl 2 (by decide) (hts _ (wb_PE_add _ b_120)) (fun _ h9 => h9) rfl d_PE_add_31 ?_
  refine lv_iconst (v := 1) hx hb d_PE_add_34 (by decide) ?_
  refine lv_isub hx hb d_PE_add_35 ?_
  have hP9 := hP.sub (ws' := [(h0, .inr (5, [.ref aR, .ref aL, .int (nI (n + 1))])), (aR, .inl (cI, 12, .inl (upd ro n x))), (aL, .inl (cI, 12, .inl (upd li n 3)))]) [0, 1, 2] rfl
  have hD9 := hD.sub (ws' := [(h0, .inr (5, [.ref aR, .ref aL, .int (nI (n + 1))])), (aR, .inl (cI, 12, .inl (upd ro n x))), (aL, .inl (cI, 12, .inl (upd li n 3)))]) [0, 1, 2] (by decide) rfl
  exact W.iret (v := (nI (n + 1)) - 1) hx hb hr (fun t ht hW => ⟨⟨(nI (n + 1)) - 1, (), rfl, nI_pred n, by rw [ht]; exact hP9, va_K.moved hW.alike hK, hD9⟩, hS.F ht⟩) hS.2.2 d_PE_add_36

set_option maxHeartbeats 4000000 in
set_option maxRecDepth 100000 in
/-- Holdings.add -/
theorem c_HO_add (l : Launch) (dC : Nat → ClassId) (dI : Nat → Nat → Nat) (sz : Nat) (cI cL : ClassId) (h0 aF aE aV : Nat) (fa em : Nat → Int32) (va : Nat → Int64) (n : Nat) (hn : n < 16) (x : Int32) : Met l y_HO_add ws_HO_add ({ frames := 0, cells := 0, slots := 0, locals := 0 }) (va_Pc [.ref h0, .int x] (fun U => U.heap.size = sz ∧ va_P (dC, dI) vwCl [(h0, .inr (2, [.ref aF, .ref aE, .ref aV, .int (nI n)])), (aF, .inl (cI, 16, .inl fa)), (aE, .inl (cI, 16, .inl em)), (aV, .inl (cL, 96, .inr (.inl va)))] U.heap ∧ va_K (dC, dI) vwCl [(cI, .int), (cL, .long)] U ∧ va_D (fun _ => True) [(h0, .inr (2, [.ref aF, .ref aE, .ref aV, .int (nI n)])), (aF, .inl (cI, 16, .inl fa)), (aE, .inl (cI, 16, .inl em)), (aV, .inl (cL, 96, .inr (.inl va)))])) (va_Qi (fun (res : Int32) (_ : Unit) => res = nI n) (fun _ t => va_P (dC, dI) vwCl [(h0, .inr (2, [.ref aF, .ref aE, .ref aV, .int (nI (n + 1))])), (aF, .inl (cI, 16, .inl (upd fa n x))), (aE, .inl (cI, 16, .inl (upd em n (-1)))), (aV, .inl (cL, 96, .inr (.inl va)))] t.heap ∧ va_K (dC, dI) vwCl [(cI, .int), (cL, .long)] t ∧ va_D (va_A [(h0, .inr (2, [.ref aF, .ref aE, .ref aV, .int (nI n)])), (aF, .inl (cI, 16, .inl fa)), (aE, .inl (cI, 16, .inl em)), (aV, .inl (cL, 96, .inr (.inl va)))] sz) [(h0, .inr (2, [.ref aF, .ref aE, .ref aV, .int (nI (n + 1))])), (aF, .inl (cI, 16, .inl (upd fa n x))), (aE, .inl (cI, 16, .inl (upd em n (-1)))), (aV, .inl (cL, 96, .inr (.inl va)))]) (va_A [(h0, .inr (2, [.ref aF, .ref aE, .ref aV, .int (nI n)])), (aF, .inl (cI, 16, .inl fa)), (aE, .inl (cI, 16, .inl em)), (aV, .inl (cL, 96, .inr (.inl va)))] sz)) 0 0 (va_A [(h0, .inr (2, [.ref aF, .ref aE, .ref aV, .int (nI n)])), (aF, .inl (cI, 16, .inl fa)), (aE, .inl (cI, 16, .inl em)), (aV, .inl (cL, 96, .inr (.inl va)))] sz) := by
  refine Met.ofW (cc := k_HO_add) (maxL := 2) (ret := (some .int)) (by decide) rfl ?_
  intro p e s m args below meth c s₁ B hml hv
  obtain ⟨rfl, hsz, hP, hK, hD0⟩ := hv
  have hx := B.exec
  have hb := B.bytes
  have hr := B.returns
  have hts := atoms_spec (ws := ws_HO_add) B.pre
  have hown : s.vm.findClass R_HO = some m.cls := findClass_of_methodNamed B.named
  have hlocks := B.notSynchronized
  subst hsz
  have hD := hD0.self (sz := s.heap.size)
  generalize hAe : va_A [(h0, .inr (2, [.ref aF, .ref aE, .ref aV, .int (nI n)])), (aF, .inl (cI, 16, .inl fa)), (aE, .inl (cI, 16, .inl em)), (aV, .inl (cL, 96, .inr (.inl va)))] s.heap.size = A at hD ⊢
  have hA : ∀ q : Nat, s.heap.size ≤ q → A q := fun q h => by rw [← hAe]; exact Or.inr h
  have hS : va_S A s.heap s.heap [] := va_S.rf
  have hP : va_P (dC, dI) vwCl [(h0, .inr (2, [.ref aF, .ref aE, .ref aV, .int (nI n)])), (aF, .inl (cI, 16, .inl fa)), (aE, .inl (cI, 16, .inl em)), (aV, .inl (cL, 96, .inr (.inl va)))] s.heap := hP
  have iHO : ∀ w ∈ u_ws R_HO T_HO 4, w ∈ ws_HO_add := fun w h => wb_HO_add w (in_HO w h)
  have hl := lv_entry ([.ref h0, .int x]) (n := 2) (Nat.le_of_ble_eq_true rfl)
  rw [lg_entry_eq]
  generalize (lg_sl ([.ref h0, .int x]) ++ List.replicate (2 - (lg_sl ([.ref h0, .int x])).length) Slot.unset).toArray = ls at hl ⊢
  have hl : lv_has ls 2 [(0, .ref h0), (1, .int x)] := hl
  refine lv_aload_n hx hb d_HO_add_0 rfl (lv_at hl 0 rfl) ?_
  refine va_get (D := (dC, dI)) (ci := 2) (v := .ref aF) (C := R_HO) (T := T_HO) (N := 4) hx hb hts iHO hown hK hP 0 rfl rfl 0 (by decide) (hts _ (wb_HO_add _ b_135)) (fun _ h9 => h9) rfl d_HO_add_1 ?_
  refine lv_aload_n hx hb d_HO_add_4 rfl (lv_at hl 0 rfl) ?_
  refine va_get (D := (dC, dI)) (ci := 2) (v := .int (nI n)) (C := R_HO) (T := T_HO) (N := 4) hx hb hts iHO hown hK hP 0 rfl rfl 3 (by decide) (hts _ (wb_HO_add _ b_140)) (fun _ h9 => h9) rfl d_HO_add_5 ?_
  refine lv_iload_n hx hb d_HO_add_8 rfl (lv_at hl 1 rfl) ?_
  refine vz_iast (k := n) hx hb hK hP hD hS 1 0 rfl rfl (by omega) (by decide) d_HO_add_9 (fun H locs hP hD hS => ?_)
  have hP : va_P (dC, dI) vwCl [(h0, .inr (2, [.ref aF, .ref aE, .ref aV, .int (nI n)])), (aF, .inl (cI, 16, .inl (upd fa n x))), (aE, .inl (cI, 16, .inl em)), (aV, .inl (cL, 96, .inr (.inl va)))] H := hP
  have hD : va_D A [(h0, .inr (2, [.ref aF, .ref aE, .ref aV, .int (nI n)])), (aF, .inl (cI, 16, .inl (upd fa n x))), (aE, .inl (cI, 16, .inl em)), (aV, .inl (cL, 96, .inr (.inl va)))] := hD
  refine lv_aload_n hx hb d_HO_add_10 rfl (lv_at hl 0 rfl) ?_
  refine va_get (D := (dC, dI)) (ci := 2) (v := .ref aE) (C := R_HO) (T := T_HO) (N := 4) hx hb hts iHO hown hK hP 0 rfl rfl 1 (by decide) (hts _ (wb_HO_add _ b_137)) (fun _ h9 => h9) rfl d_HO_add_11 ?_
  refine lv_aload_n hx hb d_HO_add_14 rfl (lv_at hl 0 rfl) ?_
  refine va_get (D := (dC, dI)) (ci := 2) (v := .int (nI n)) (C := R_HO) (T := T_HO) (N := 4) hx hb hts iHO hown hK hP 0 rfl rfl 3 (by decide) (hts _ (wb_HO_add _ b_140)) (fun _ h9 => h9) rfl d_HO_add_15 ?_
  refine lv_iconst (v := (-1)) hx hb d_HO_add_18 (by decide) ?_
  refine vz_iast (k := n) hx hb hK hP hD hS 2 0 rfl rfl (by omega) (by decide) d_HO_add_19 (fun H locs hP hD hS => ?_)
  have hP : va_P (dC, dI) vwCl [(h0, .inr (2, [.ref aF, .ref aE, .ref aV, .int (nI n)])), (aF, .inl (cI, 16, .inl (upd fa n x))), (aE, .inl (cI, 16, .inl (upd em n (-1)))), (aV, .inl (cL, 96, .inr (.inl va)))] H := hP
  have hD : va_D A [(h0, .inr (2, [.ref aF, .ref aE, .ref aV, .int (nI n)])), (aF, .inl (cI, 16, .inl (upd fa n x))), (aE, .inl (cI, 16, .inl (upd em n (-1)))), (aV, .inl (cL, 96, .inr (.inl va)))] := hD
  refine lv_aload_n hx hb d_HO_add_20 rfl (lv_at hl 0 rfl) ?_
  refine lv_dup hx hb d_HO_add_21 rfl ?_
  refine va_get (D := (dC, dI)) (ci := 2) (v := .int (nI n)) (C := R_HO) (T := T_HO) (N := 4) hx hb hts iHO hown hK hP 0 rfl rfl 3 (by decide) (hts _ (wb_HO_add _ b_140)) (fun _ h9 => h9) rfl d_HO_add_22 ?_
  refine lv_iconst (v := 1) hx hb d_HO_add_25 (by decide) ?_
  refine lv_iadd hx hb d_HO_add_26 ?_
  refine vz_top (y := nI (n + 1)) (nI_1 n) ?_
  refine va_put (D := (dC, dI)) (ci := 2) (v := .int (nI (n + 1))) (ty := .int) (C := R_HO) (T := T_HO) (N := 4) hx hb hts iHO ty_HO tyok_HO nm_HO hown hK hP hD hS 0 rfl rfl 3 (by decide) (hts _ (wb_HO_add _ b_140)) (fun _ h9 => h9) rfl rfl rfl rfl (Nat.le_of_ble_eq_true rfl) d_HO_add_27 (fun H locs hP hD hS => ?_)
  have hP : va_P (dC, dI) vwCl [(h0, .inr (2, [.ref aF, .ref aE, .ref aV, .int (nI (n + 1))])), (aF, .inl (cI, 16, .inl (upd fa n x))), (aE, .inl (cI, 16, .inl (upd em n (-1)))), (aV, .inl (cL, 96, .inr (.inl va)))] H := hP
  have hD : va_D A [(h0, .inr (2, [.ref aF, .ref aE, .ref aV, .int (nI (n + 1))])), (aF, .inl (cI, 16, .inl (upd fa n x))), (aE, .inl (cI, 16, .inl (upd em n (-1)))), (aV, .inl (cL, 96, .inr (.inl va)))] := hD
  refine lv_aload_n hx hb d_HO_add_30 rfl (lv_at hl 0 rfl) ?_
  refine va_get (D := (dC, dI)) (ci := 2) (v := .int (nI (n + 1))) (C := R_HO) (T := T_HO) (N := 4) hx hb hts iHO hown hK hP 0 rfl rfl 3 (by decide) (hts _ (wb_HO_add _ b_140)) (fun _ h9 => h9) rfl d_HO_add_31 ?_
  refine lv_iconst (v := 1) hx hb d_HO_add_34 (by decide) ?_
  refine lv_isub hx hb d_HO_add_35 ?_
  have hP9 := hP.sub (ws' := [(h0, .inr (2, [.ref aF, .ref aE, .ref aV, .int (nI (n + 1))])), (aF, .inl (cI, 16, .inl (upd fa n x))), (aE, .inl (cI, 16, .inl (upd em n (-1)))), (aV, .inl (cL, 96, .inr (.inl va)))]) [0, 1, 2, 3] rfl
  have hD9 := hD.sub (ws' := [(h0, .inr (2, [.ref aF, .ref aE, .ref aV, .int (nI (n + 1))])), (aF, .inl (cI, 16, .inl (upd fa n x))), (aE, .inl (cI, 16, .inl (upd em n (-1)))), (aV, .inl (cL, 96, .inr (.inl va)))]) [0, 1, 2, 3] (by decide) rfl
  exact W.iret (v := (nI (n + 1)) - 1) hx hb hr (fun t ht hW => ⟨⟨(nI (n + 1)) - 1, (), rfl, nI_pred n, by rw [ht]; exact hP9, va_K.moved hW.alike hK, hD9⟩, hS.F ht⟩) hS.2.2 d_HO_add_36

set_option maxHeartbeats 4000000 in
set_option maxRecDepth 100000 in
/-- Holdings.at -/
theorem c_HO_at (l : Launch) (dC : Nat → ClassId) (dI : Nat → Nat → Nat) (cI cL : ClassId) (h0 aF aE aV : Nat) (fa em : Nat → Int32) (va : Nat → Int64) (n : Nat) (r f : Nat) (hr16 : r < 16) (hf6 : f < 6) : Met l y_HO_at ws_HO_at ({ frames := 0, cells := 0, slots := 0, locals := 0 }) (va_Pc [.ref h0, .int (nI r), .int (nI f)] (fun U => va_P (dC, dI) vwCl [(h0, .inr (2, [.ref aF, .ref aE, .ref aV, .int (nI n)])), (aF, .inl (cI, 16, .inl fa)), (aE, .inl (cI, 16, .inl em)), (aV, .inl (cL, 96, .inr (.inl va)))] U.heap ∧ va_K (dC, dI) vwCl [(cI, .int), (cL, .long)] U)) (va_Ql (fun (res : Int64) (_ : Unit) => res = va (r * 6 + f)) (fun _ _ => True) (fun _ => False)) 0 0 (fun _ => False) := by
  refine Met.ofW (cc := k_HO_at) (maxL := 3) (ret := (some .long)) (by decide) rfl ?_
  intro p e s m args below meth c s₁ B hml hv
  obtain ⟨rfl, hP, hK⟩ := hv
  have hx := B.exec
  have hb := B.bytes
  have hr := B.returns
  have hts := atoms_spec (ws := ws_HO_at) B.pre
  have hown : s.vm.findClass R_HO = some m.cls := findClass_of_methodNamed B.named
  have hlocks := B.notSynchronized
  have hS : va_S (fun _ => False) s.heap s.heap [] := va_S.rf
  have hP : va_P (dC, dI) vwCl [(h0, .inr (2, [.ref aF, .ref aE, .ref aV, .int (nI n)])), (aF, .inl (cI, 16, .inl fa)), (aE, .inl (cI, 16, .inl em)), (aV, .inl (cL, 96, .inr (.inl va)))] s.heap := hP
  have iHO : ∀ w ∈ u_ws R_HO T_HO 4, w ∈ ws_HO_at := fun w h => wb_HO_at w (in_HO w h)
  have hl := lv_entry ([.ref h0, .int (nI r), .int (nI f)]) (n := 3) (Nat.le_of_ble_eq_true rfl)
  rw [lg_entry_eq]
  generalize (lg_sl ([.ref h0, .int (nI r), .int (nI f)]) ++ List.replicate (3 - (lg_sl ([.ref h0, .int (nI r), .int (nI f)])).length) Slot.unset).toArray = ls at hl ⊢
  have hl : lv_has ls 3 [(0, .ref h0), (1, .int (nI r)), (2, .int (nI f))] := hl
  refine lv_aload_n hx hb d_HO_at_0 rfl (lv_at hl 0 rfl) ?_
  refine va_get (D := (dC, dI)) (ci := 2) (v := .ref aV) (C := R_HO) (T := T_HO) (N := 4) hx hb hts iHO hown hK hP 0 rfl rfl 2 (by decide) (hts _ (wb_HO_at _ b_139)) (fun _ h9 => h9) rfl d_HO_at_1 ?_
  refine lv_iload_n hx hb d_HO_at_4 rfl (lv_at hl 1 rfl) ?_
  refine lv_bipush (v := 6) hx hb d_HO_at_5 (by decide) ?_
  refine lv_imul hx hb d_HO_at_7 ?_
  refine lv_iload_n hx hb d_HO_at_8 rfl (lv_at hl 2 rfl) ?_
  refine lv_iadd hx hb d_HO_at_9 ?_
  refine vz_top (y := nI (r * 6 + f)) (by rw [show nI r * 6 = nI (r * 6) from pk_mul r 6, nI_add]) ?_
  refine vz_lald (k := (r * 6 + f)) hx hb hK hP 3 1 rfl rfl (by omega) (by decide) d_HO_at_10 ?_
  exact W.lret (v := va (r * 6 + f)) hx hb hr (fun t ht hW => ⟨⟨va (r * 6 + f), (), rfl, rfl, trivial⟩, hS.F ht⟩) hS.2.2 d_HO_at_11

set_option maxHeartbeats 4000000 in
set_option maxRecDepth 100000 in
/-- Holdings.put -/
theorem c_HO_put (l : Launch) (dC : Nat → ClassId) (dI : Nat → Nat → Nat) (sz : Nat) (cI cL : ClassId) (h0 aF aE aV : Nat) (fa em : Nat → Int32) (va : Nat → Int64) (n : Nat) (r f : Nat) (hr16 : r < 16) (hf6 : f < 6) (v : Int64) : Met l y_HO_put ws_HO_put ({ frames := 1, cells := 0, slots := 0, locals := 22 }) (va_Pc [.ref h0, .int (nI r), .int (nI f), .long v] (fun U => U.heap.size = sz ∧ va_P (dC, dI) vwCl [(h0, .inr (2, [.ref aF, .ref aE, .ref aV, .int (nI n)])), (aF, .inl (cI, 16, .inl fa)), (aE, .inl (cI, 16, .inl em)), (aV, .inl (cL, 96, .inr (.inl va)))] U.heap ∧ va_K (dC, dI) vwCl [(cI, .int), (cL, .long)] U ∧ va_D (fun _ => True) [(h0, .inr (2, [.ref aF, .ref aE, .ref aV, .int (nI n)])), (aF, .inl (cI, 16, .inl fa)), (aE, .inl (cI, 16, .inl em)), (aV, .inl (cL, 96, .inr (.inl va)))])) (va_Ql (fun (res : Int64) (_ : Unit) => res = va (r * 6 + f)) (fun _ t => va_P (dC, dI) vwCl [(h0, .inr (2, [.ref aF, .ref aE, .ref aV, .int (nI n)])), (aF, .inl (cI, 16, .inl fa)), (aE, .inl (cI, 16, .inl em)), (aV, .inl (cL, 96, .inr (.inl (vp_updL va (r * 6 + f) v))))] t.heap ∧ va_K (dC, dI) vwCl [(cI, .int), (cL, .long)] t ∧ va_D (va_A [(h0, .inr (2, [.ref aF, .ref aE, .ref aV, .int (nI n)])), (aF, .inl (cI, 16, .inl fa)), (aE, .inl (cI, 16, .inl em)), (aV, .inl (cL, 96, .inr (.inl va)))] sz) [(h0, .inr (2, [.ref aF, .ref aE, .ref aV, .int (nI n)])), (aF, .inl (cI, 16, .inl fa)), (aE, .inl (cI, 16, .inl em)), (aV, .inl (cL, 96, .inr (.inl (vp_updL va (r * 6 + f) v))))]) (va_A [(h0, .inr (2, [.ref aF, .ref aE, .ref aV, .int (nI n)])), (aF, .inl (cI, 16, .inl fa)), (aE, .inl (cI, 16, .inl em)), (aV, .inl (cL, 96, .inr (.inl va)))] sz)) 0 0 (va_A [(h0, .inr (2, [.ref aF, .ref aE, .ref aV, .int (nI n)])), (aF, .inl (cI, 16, .inl fa)), (aE, .inl (cI, 16, .inl em)), (aV, .inl (cL, 96, .inr (.inl va)))] sz) := by
  refine Met.ofW (cc := k_HO_put) (maxL := 7) (ret := (some .long)) (by decide) rfl ?_
  intro p e s m args below meth c s₁ B hml hv
  obtain ⟨rfl, hsz, hP, hK, hD0⟩ := hv
  have hx := B.exec
  have hb := B.bytes
  have hr := B.returns
  have hts := atoms_spec (ws := ws_HO_put) B.pre
  have hown : s.vm.findClass R_HO = some m.cls := findClass_of_methodNamed B.named
  have hlocks := B.notSynchronized
  subst hsz
  have hD := hD0.self (sz := s.heap.size)
  generalize hAe : va_A [(h0, .inr (2, [.ref aF, .ref aE, .ref aV, .int (nI n)])), (aF, .inl (cI, 16, .inl fa)), (aE, .inl (cI, 16, .inl em)), (aV, .inl (cL, 96, .inr (.inl va)))] s.heap.size = A at hD ⊢
  have hA : ∀ q : Nat, s.heap.size ≤ q → A q := fun q h => by rw [← hAe]; exact Or.inr h
  have hS : va_S A s.heap s.heap [] := va_S.rf
  have hP : va_P (dC, dI) vwCl [(h0, .inr (2, [.ref aF, .ref aE, .ref aV, .int (nI n)])), (aF, .inl (cI, 16, .inl fa)), (aE, .inl (cI, 16, .inl em)), (aV, .inl (cL, 96, .inr (.inl va)))] s.heap := hP
  have iHO : ∀ w ∈ u_ws R_HO T_HO 4, w ∈ ws_HO_put := fun w h => wb_HO_put w (in_HO w h)
  have hl := lv_entry ([.ref h0, .int (nI r), .int (nI f), .long v]) (n := 7) (Nat.le_of_ble_eq_true rfl)
  rw [lg_entry_eq]
  generalize (lg_sl ([.ref h0, .int (nI r), .int (nI f), .long v]) ++ List.replicate (7 - (lg_sl ([.ref h0, .int (nI r), .int (nI f), .long v])).length) Slot.unset).toArray = ls at hl ⊢
  have hl : lv_has ls 7 [(0, .ref h0), (1, .int (nI r)), (2, .int (nI f)), (3, .long v)] := hl
  refine lv_aload_n hx hb d_HO_put_0 rfl (lv_at hl 0 rfl) ?_
  refine lv_iload_n hx hb d_HO_put_1 rfl (lv_at hl 1 rfl) ?_
  refine lv_iload_n hx hb d_HO_put_2 rfl (lv_at hl 2 rfl) ?_
  have hPc := hP.sub (ws' := [(h0, .inr (2, [.ref aF, .ref aE, .ref aV, .int (nI n)])), (aF, .inl (cI, 16, .inl fa)), (aE, .inl (cI, 16, .inl em)), (aV, .inl (cL, 96, .inr (.inl va)))]) [0, 1, 2, 3] rfl
  have hKc := hK.sub (tys' := [(cI, .int), (cL, .long)]) [0, 1] rfl
  refine va_calll (va_runV (As := [.int (nI r), .int (nI f)]) (rest := []) ⟨hx, hb, hml, hown, hts⟩ (c_HO_at l dC dI cI cL h0 aF aE aV fa em va n r f (by first | assumption | omega) (by first | assumption | omega)) (cwV 2 hts (vz_gV wb_HO_put b_469 b_470 b_471 b_6 wc_HO_at) rfl rfl rfl (by decide +kernel) ⟨Nat.le_of_ble_eq_true rfl, Nat.le_of_ble_eq_true rfl⟩) (vz_preV hPc hKc (ci := 2) (q0 := 0) rfl rfl) rfl rfl hl.1 rfl (lv_room (Nat.le_of_ble_eq_true rfl)) d_HO_put_3 ⟨Nat.le_of_ble_eq_true rfl, Nat.le_of_ble_eq_true rfl⟩) hS (fun q _ h => False.elim h) (fun q h => False.elim h) (fun r3 u9 t9 H1 locs ht hvm hr3 hB hzx9 hkx9 hS => ?_)
  try dsimp only at hr3
  have hP := vz_kept hP hkx9
  generalize H1 = H at hP hS ⊢
  refine lv_lstore (lv' := [(5, .long r3), (0, .ref h0), (1, .int (nI r)), (2, .int (nI f)), (3, .long v)]) hx hb d_HO_put_6 hl (by decide) rfl (fun ls hl => ?_)
  refine lv_aload_n hx hb d_HO_put_8 rfl (lv_at hl 1 rfl) ?_
  refine va_get (D := (dC, dI)) (ci := 2) (v := .ref aV) (C := R_HO) (T := T_HO) (N := 4) hx hb hts iHO hown hK hP 0 rfl rfl 2 (by decide) (hts _ (wb_HO_put _ b_139)) (fun _ h9 => h9) rfl d_HO_put_9 ?_
  refine lv_iload_n hx hb d_HO_put_12 rfl (lv_at hl 2 rfl) ?_
  refine lv_bipush (v := 6) hx hb d_HO_put_13 (by decide) ?_
  refine lv_imul hx hb d_HO_put_15 ?_
  refine lv_iload_n hx hb d_HO_put_16 rfl (lv_at hl 3 rfl) ?_
  refine lv_iadd hx hb d_HO_put_17 ?_
  refine vz_top (y := nI (r * 6 + f)) (by rw [show nI r * 6 = nI (r * 6) from pk_mul r 6, nI_add]) ?_
  refine lv_lload_n hx hb d_HO_put_18 rfl (lv_at hl 4 rfl) ?_
  refine vz_last (k := (r * 6 + f)) hx hb hK hP hD hS 3 1 rfl rfl (by omega) (by decide) d_HO_put_19 (fun H locs hP hD hS => ?_)
  have hP : va_P (dC, dI) vwCl [(h0, .inr (2, [.ref aF, .ref aE, .ref aV, .int (nI n)])), (aF, .inl (cI, 16, .inl fa)), (aE, .inl (cI, 16, .inl em)), (aV, .inl (cL, 96, .inr (.inl (vp_updL va (r * 6 + f) v))))] H := hP
  have hD : va_D A [(h0, .inr (2, [.ref aF, .ref aE, .ref aV, .int (nI n)])), (aF, .inl (cI, 16, .inl fa)), (aE, .inl (cI, 16, .inl em)), (aV, .inl (cL, 96, .inr (.inl (vp_updL va (r * 6 + f) v))))] := hD
  refine lv_lload hx hb d_HO_put_20 (lv_at hl 0 rfl) ?_
  have hP9 := hP.sub (ws' := [(h0, .inr (2, [.ref aF, .ref aE, .ref aV, .int (nI n)])), (aF, .inl (cI, 16, .inl fa)), (aE, .inl (cI, 16, .inl em)), (aV, .inl (cL, 96, .inr (.inl (vp_updL va (r * 6 + f) v))))]) [0, 1, 2, 3] rfl
  have hD9 := hD.sub (ws' := [(h0, .inr (2, [.ref aF, .ref aE, .ref aV, .int (nI n)])), (aF, .inl (cI, 16, .inl fa)), (aE, .inl (cI, 16, .inl em)), (aV, .inl (cL, 96, .inr (.inl (vp_updL va (r * 6 + f) v))))]) [0, 1, 2, 3] (by decide) rfl
  exact W.lret (v := r3) hx hb hr (fun t ht hW => ⟨⟨r3, (), rfl, hr3, by rw [ht]; exact hP9, va_K.moved hW.alike hK, hD9⟩, hS.F ht⟩) hS.2.2 d_HO_put_22

set_option maxHeartbeats 4000000 in
set_option maxRecDepth 100000 in
/-- Agreements.add -/
theorem c_AG_add (l : Launch) (dC : Nat → ClassId) (dI : Nat → Nat → Nat) (sz : Nat) (cI : ClassId) (h0 aP aR aF aT : Nat) (ps rs fs ts : Nat → Int32) (n : Nat) (hn : n < 40) (w r f to : Int32) : Met l y_AG_add ws_AG_add ({ frames := 0, cells := 0, slots := 0, locals := 0 }) (va_Pc [.ref h0, .int w, .int r, .int f, .int to] (fun U => U.heap.size = sz ∧ va_P (dC, dI) vwCl [(h0, .inr (0, [.ref aP, .ref aR, .ref aF, .ref aT, .int (nI n)])), (aP, .inl (cI, 40, .inl ps)), (aR, .inl (cI, 40, .inl rs)), (aF, .inl (cI, 40, .inl fs)), (aT, .inl (cI, 40, .inl ts))] U.heap ∧ va_K (dC, dI) vwCl [(cI, .int)] U ∧ va_D (fun _ => True) [(h0, .inr (0, [.ref aP, .ref aR, .ref aF, .ref aT, .int (nI n)])), (aP, .inl (cI, 40, .inl ps)), (aR, .inl (cI, 40, .inl rs)), (aF, .inl (cI, 40, .inl fs)), (aT, .inl (cI, 40, .inl ts))])) (va_Qv (fun (_ : Unit) => True) (fun _ t => va_P (dC, dI) vwCl [(h0, .inr (0, [.ref aP, .ref aR, .ref aF, .ref aT, .int (nI (n + 1))])), (aP, .inl (cI, 40, .inl (upd ps n w))), (aR, .inl (cI, 40, .inl (upd rs n r))), (aF, .inl (cI, 40, .inl (upd fs n f))), (aT, .inl (cI, 40, .inl (upd ts n to)))] t.heap ∧ va_K (dC, dI) vwCl [(cI, .int)] t ∧ va_D (va_A [(h0, .inr (0, [.ref aP, .ref aR, .ref aF, .ref aT, .int (nI n)])), (aP, .inl (cI, 40, .inl ps)), (aR, .inl (cI, 40, .inl rs)), (aF, .inl (cI, 40, .inl fs)), (aT, .inl (cI, 40, .inl ts))] sz) [(h0, .inr (0, [.ref aP, .ref aR, .ref aF, .ref aT, .int (nI (n + 1))])), (aP, .inl (cI, 40, .inl (upd ps n w))), (aR, .inl (cI, 40, .inl (upd rs n r))), (aF, .inl (cI, 40, .inl (upd fs n f))), (aT, .inl (cI, 40, .inl (upd ts n to)))]) (va_A [(h0, .inr (0, [.ref aP, .ref aR, .ref aF, .ref aT, .int (nI n)])), (aP, .inl (cI, 40, .inl ps)), (aR, .inl (cI, 40, .inl rs)), (aF, .inl (cI, 40, .inl fs)), (aT, .inl (cI, 40, .inl ts))] sz)) 0 0 (va_A [(h0, .inr (0, [.ref aP, .ref aR, .ref aF, .ref aT, .int (nI n)])), (aP, .inl (cI, 40, .inl ps)), (aR, .inl (cI, 40, .inl rs)), (aF, .inl (cI, 40, .inl fs)), (aT, .inl (cI, 40, .inl ts))] sz) := by
  refine Met.ofW (cc := k_AG_add) (maxL := 5) (ret := none) (by decide) rfl ?_
  intro p e s m args below meth c s₁ B hml hv
  obtain ⟨rfl, hsz, hP, hK, hD0⟩ := hv
  have hx := B.exec
  have hb := B.bytes
  have hr := B.returns
  have hts := atoms_spec (ws := ws_AG_add) B.pre
  have hown : s.vm.findClass R_AG = some m.cls := findClass_of_methodNamed B.named
  have hlocks := B.notSynchronized
  subst hsz
  have hD := hD0.self (sz := s.heap.size)
  generalize hAe : va_A [(h0, .inr (0, [.ref aP, .ref aR, .ref aF, .ref aT, .int (nI n)])), (aP, .inl (cI, 40, .inl ps)), (aR, .inl (cI, 40, .inl rs)), (aF, .inl (cI, 40, .inl fs)), (aT, .inl (cI, 40, .inl ts))] s.heap.size = A at hD ⊢
  have hA : ∀ q : Nat, s.heap.size ≤ q → A q := fun q h => by rw [← hAe]; exact Or.inr h
  have hS : va_S A s.heap s.heap [] := va_S.rf
  have hP : va_P (dC, dI) vwCl [(h0, .inr (0, [.ref aP, .ref aR, .ref aF, .ref aT, .int (nI n)])), (aP, .inl (cI, 40, .inl ps)), (aR, .inl (cI, 40, .inl rs)), (aF, .inl (cI, 40, .inl fs)), (aT, .inl (cI, 40, .inl ts))] s.heap := hP
  have iAG : ∀ w ∈ u_ws R_AG T_AG 5, w ∈ ws_AG_add := fun w h => wb_AG_add w (in_AG w h)
  have hl := lv_entry ([.ref h0, .int w, .int r, .int f, .int to]) (n := 5) (Nat.le_of_ble_eq_true rfl)
  rw [lg_entry_eq]
  generalize (lg_sl ([.ref h0, .int w, .int r, .int f, .int to]) ++ List.replicate (5 - (lg_sl ([.ref h0, .int w, .int r, .int f, .int to])).length) Slot.unset).toArray = ls at hl ⊢
  have hl : lv_has ls 5 [(0, .ref h0), (1, .int w), (2, .int r), (3, .int f), (4, .int to)] := hl
  refine lv_aload_n hx hb d_AG_add_0 rfl (lv_at hl 0 rfl) ?_
  refine va_get (D := (dC, dI)) (ci := 0) (v := .ref aP) (C := R_AG) (T := T_AG) (N := 5) hx hb hts iAG hown hK hP 0 rfl rfl 0 (by decide) (hts _ (wb_AG_add _ b_158)) (fun _ h9 => h9) rfl d_AG_add_1 ?_
  refine lv_aload_n hx hb d_AG_add_4 rfl (lv_at hl 0 rfl) ?_
  refine va_get (D := (dC, dI)) (ci := 0) (v := .int (nI n)) (C := R_AG) (T := T_AG) (N := 5) hx hb hts iAG hown hK hP 0 rfl rfl 4 (by decide) (hts _ (wb_AG_add _ b_162)) (fun _ h9 => h9) rfl d_AG_add_5 ?_
  refine lv_iload_n hx hb d_AG_add_8 rfl (lv_at hl 1 rfl) ?_
  refine vz_iast (k := n) hx hb hK hP hD hS 1 0 rfl rfl (by omega) (by decide) d_AG_add_9 (fun H locs hP hD hS => ?_)
  have hP : va_P (dC, dI) vwCl [(h0, .inr (0, [.ref aP, .ref aR, .ref aF, .ref aT, .int (nI n)])), (aP, .inl (cI, 40, .inl (upd ps n w))), (aR, .inl (cI, 40, .inl rs)), (aF, .inl (cI, 40, .inl fs)), (aT, .inl (cI, 40, .inl ts))] H := hP
  have hD : va_D A [(h0, .inr (0, [.ref aP, .ref aR, .ref aF, .ref aT, .int (nI n)])), (aP, .inl (cI, 40, .inl (upd ps n w))), (aR, .inl (cI, 40, .inl rs)), (aF, .inl (cI, 40, .inl fs)), (aT, .inl (cI, 40, .inl ts))] := hD
  refine lv_aload_n hx hb d_AG_add_10 rfl (lv_at hl 0 rfl) ?_
  refine va_get (D := (dC, dI)) (ci := 0) (v := .ref aR) (C := R_AG) (T := T_AG) (N := 5) hx hb hts iAG hown hK hP 0 rfl rfl 1 (by decide) (hts _ (wb_AG_add _ b_159)) (fun _ h9 => h9) rfl d_AG_add_11 ?_
  refine lv_aload_n hx hb d_AG_add_14 rfl (lv_at hl 0 rfl) ?_
  refine va_get (D := (dC, dI)) (ci := 0) (v := .int (nI n)) (C := R_AG) (T := T_AG) (N := 5) hx hb hts iAG hown hK hP 0 rfl rfl 4 (by decide) (hts _ (wb_AG_add _ b_162)) (fun _ h9 => h9) rfl d_AG_add_15 ?_
  refine lv_iload_n hx hb d_AG_add_18 rfl (lv_at hl 2 rfl) ?_
  refine vz_iast (k := n) hx hb hK hP hD hS 2 0 rfl rfl (by omega) (by decide) d_AG_add_19 (fun H locs hP hD hS => ?_)
  have hP : va_P (dC, dI) vwCl [(h0, .inr (0, [.ref aP, .ref aR, .ref aF, .ref aT, .int (nI n)])), (aP, .inl (cI, 40, .inl (upd ps n w))), (aR, .inl (cI, 40, .inl (upd rs n r))), (aF, .inl (cI, 40, .inl fs)), (aT, .inl (cI, 40, .inl ts))] H := hP
  have hD : va_D A [(h0, .inr (0, [.ref aP, .ref aR, .ref aF, .ref aT, .int (nI n)])), (aP, .inl (cI, 40, .inl (upd ps n w))), (aR, .inl (cI, 40, .inl (upd rs n r))), (aF, .inl (cI, 40, .inl fs)), (aT, .inl (cI, 40, .inl ts))] := hD
  refine lv_aload_n hx hb d_AG_add_20 rfl (lv_at hl 0 rfl) ?_
  refine va_get (D := (dC, dI)) (ci := 0) (v := .ref aF) (C := R_AG) (T := T_AG) (N := 5) hx hb hts iAG hown hK hP 0 rfl rfl 2 (by decide) (hts _ (wb_AG_add _ b_160)) (fun _ h9 => h9) rfl d_AG_add_21 ?_
  refine lv_aload_n hx hb d_AG_add_24 rfl (lv_at hl 0 rfl) ?_
  refine va_get (D := (dC, dI)) (ci := 0) (v := .int (nI n)) (C := R_AG) (T := T_AG) (N := 5) hx hb hts iAG hown hK hP 0 rfl rfl 4 (by decide) (hts _ (wb_AG_add _ b_162)) (fun _ h9 => h9) rfl d_AG_add_25 ?_
  refine lv_iload_n hx hb d_AG_add_28 rfl (lv_at hl 3 rfl) ?_
  refine vz_iast (k := n) hx hb hK hP hD hS 3 0 rfl rfl (by omega) (by decide) d_AG_add_29 (fun H locs hP hD hS => ?_)
  have hP : va_P (dC, dI) vwCl [(h0, .inr (0, [.ref aP, .ref aR, .ref aF, .ref aT, .int (nI n)])), (aP, .inl (cI, 40, .inl (upd ps n w))), (aR, .inl (cI, 40, .inl (upd rs n r))), (aF, .inl (cI, 40, .inl (upd fs n f))), (aT, .inl (cI, 40, .inl ts))] H := hP
  have hD : va_D A [(h0, .inr (0, [.ref aP, .ref aR, .ref aF, .ref aT, .int (nI n)])), (aP, .inl (cI, 40, .inl (upd ps n w))), (aR, .inl (cI, 40, .inl (upd rs n r))), (aF, .inl (cI, 40, .inl (upd fs n f))), (aT, .inl (cI, 40, .inl ts))] := hD
  refine lv_aload_n hx hb d_AG_add_30 rfl (lv_at hl 0 rfl) ?_
  refine va_get (D := (dC, dI)) (ci := 0) (v := .ref aT) (C := R_AG) (T := T_AG) (N := 5) hx hb hts iAG hown hK hP 0 rfl rfl 3 (by decide) (hts _ (wb_AG_add _ b_161)) (fun _ h9 => h9) rfl d_AG_add_31 ?_
  refine lv_aload_n hx hb d_AG_add_34 rfl (lv_at hl 0 rfl) ?_
  refine va_get (D := (dC, dI)) (ci := 0) (v := .int (nI n)) (C := R_AG) (T := T_AG) (N := 5) hx hb hts iAG hown hK hP 0 rfl rfl 4 (by decide) (hts _ (wb_AG_add _ b_162)) (fun _ h9 => h9) rfl d_AG_add_35 ?_
  refine lv_iload hx hb d_AG_add_38 (lv_at hl 4 rfl) ?_
  refine vz_iast (k := n) hx hb hK hP hD hS 4 0 rfl rfl (by omega) (by decide) d_AG_add_40 (fun H locs hP hD hS => ?_)
  have hP : va_P (dC, dI) vwCl [(h0, .inr (0, [.ref aP, .ref aR, .ref aF, .ref aT, .int (nI n)])), (aP, .inl (cI, 40, .inl (upd ps n w))), (aR, .inl (cI, 40, .inl (upd rs n r))), (aF, .inl (cI, 40, .inl (upd fs n f))), (aT, .inl (cI, 40, .inl (upd ts n to)))] H := hP
  have hD : va_D A [(h0, .inr (0, [.ref aP, .ref aR, .ref aF, .ref aT, .int (nI n)])), (aP, .inl (cI, 40, .inl (upd ps n w))), (aR, .inl (cI, 40, .inl (upd rs n r))), (aF, .inl (cI, 40, .inl (upd fs n f))), (aT, .inl (cI, 40, .inl (upd ts n to)))] := hD
  refine lv_aload_n hx hb d_AG_add_41 rfl (lv_at hl 0 rfl) ?_
  refine lv_dup hx hb d_AG_add_42 rfl ?_
  refine va_get (D := (dC, dI)) (ci := 0) (v := .int (nI n)) (C := R_AG) (T := T_AG) (N := 5) hx hb hts iAG hown hK hP 0 rfl rfl 4 (by decide) (hts _ (wb_AG_add _ b_162)) (fun _ h9 => h9) rfl d_AG_add_43 ?_
  refine lv_iconst (v := 1) hx hb d_AG_add_46 (by decide) ?_
  refine lv_iadd hx hb d_AG_add_47 ?_
  refine vz_top (y := nI (n + 1)) (nI_1 n) ?_
  refine va_put (D := (dC, dI)) (ci := 0) (v := .int (nI (n + 1))) (ty := .int) (C := R_AG) (T := T_AG) (N := 5) hx hb hts iAG ty_AG tyok_AG nm_AG hown hK hP hD hS 0 rfl rfl 4 (by decide) (hts _ (wb_AG_add _ b_162)) (fun _ h9 => h9) rfl rfl rfl rfl (Nat.le_of_ble_eq_true rfl) d_AG_add_48 (fun H locs hP hD hS => ?_)
  have hP : va_P (dC, dI) vwCl [(h0, .inr (0, [.ref aP, .ref aR, .ref aF, .ref aT, .int (nI (n + 1))])), (aP, .inl (cI, 40, .inl (upd ps n w))), (aR, .inl (cI, 40, .inl (upd rs n r))), (aF, .inl (cI, 40, .inl (upd fs n f))), (aT, .inl (cI, 40, .inl (upd ts n to)))] H := hP
  have hD : va_D A [(h0, .inr (0, [.ref aP, .ref aR, .ref aF, .ref aT, .int (nI (n + 1))])), (aP, .inl (cI, 40, .inl (upd ps n w))), (aR, .inl (cI, 40, .inl (upd rs n r))), (aF, .inl (cI, 40, .inl (upd fs n f))), (aT, .inl (cI, 40, .inl (upd ts n to)))] := hD
  have hP9 := hP.sub (ws' := [(h0, .inr (0, [.ref aP, .ref aR, .ref aF, .ref aT, .int (nI (n + 1))])), (aP, .inl (cI, 40, .inl (upd ps n w))), (aR, .inl (cI, 40, .inl (upd rs n r))), (aF, .inl (cI, 40, .inl (upd fs n f))), (aT, .inl (cI, 40, .inl (upd ts n to)))]) [0, 1, 2, 3, 4] rfl
  have hD9 := hD.sub (ws' := [(h0, .inr (0, [.ref aP, .ref aR, .ref aF, .ref aT, .int (nI (n + 1))])), (aP, .inl (cI, 40, .inl (upd ps n w))), (aR, .inl (cI, 40, .inl (upd rs n r))), (aF, .inl (cI, 40, .inl (upd fs n f))), (aT, .inl (cI, 40, .inl (upd ts n to)))]) [0, 1, 2, 3, 4] (by decide) rfl
  exact W.vret hx hb hr (fun t ht hW => ⟨⟨(), rfl, trivial, by rw [ht]; exact hP9, va_K.moved hW.alike hK, hD9⟩, hS.F ht⟩) hS.2.2 d_AG_add_51

/-- the k-th agreement is one of a person for a record that holds on a day -/
def agM (ps rs fs ts : Nat → Int32) (w r d : Int32) (k : Nat) : Prop := ps k = w ∧ rs k = r ∧ fs k ≤ d ∧ d ≤ ts k

set_option maxHeartbeats 4000000 in
set_option maxRecDepth 100000 in
theorem lp_AG_hold_3 {p : Program} {l : Launch} {e : Env} {R : Room} {s : State} {m : MethodId} {args : Array Value} {below : List Frame} {meth : Method} {c : Code} {cells slots : Nat} {Q : State → Prop} {A : Nat → Prop} {H0 : Heap} (dC : Nat → ClassId) (dI : Nat → Nat → Nat) (cI : ClassId) (h0 aP aR aF aT : Nat) (ps rs fs ts : Nat → Int32) (n : Nat) (hn : n ≤ 40) (w r d : Int32)  (hx : p.tables.exec = Jvm.exec) (hb : c.code = k_AG_hold) (hml : c.maxLocals = 5) (hts : ∀ w ∈ ws_AG_hold, w.before args s = true) (hown : s.vm.findClass R_AG = some m.cls) (hK : va_K (dC, dI) vwCl [(cI, .int)] s) (kx64 : (∀ k, k < n → ¬ agM ps rs fs ts w r d k) → ∀ (H : Heap) (locs : List Loc), va_P (dC, dI) vwCl [(h0, .inr (0, [.ref aP, .ref aR, .ref aF, .ref aT, .int (nI n)])), (aP, .inl (cI, 40, .inl ps)), (aR, .inl (cI, 40, .inl rs)), (aF, .inl (cI, 40, .inl fs)), (aT, .inl (cI, 40, .inl ts))] H → va_S A H0 H locs → ∀ ls : Array Slot, lv_has ls 5 [(0, .ref h0)] → W p l e R s m args below meth c H locs cells slots Q (F0 m 64 ls [])) (kx56 : (∃ k, k < n ∧ agM ps rs fs ts w r d k) → ∀ (H : Heap) (locs : List Loc), va_P (dC, dI) vwCl [(h0, .inr (0, [.ref aP, .ref aR, .ref aF, .ref aT, .int (nI n)])), (aP, .inl (cI, 40, .inl ps)), (aR, .inl (cI, 40, .inl rs)), (aF, .inl (cI, 40, .inl fs)), (aT, .inl (cI, 40, .inl ts))] H → va_S A H0 H locs → ∀ ls : Array Slot, lv_has ls 5 [(0, .ref h0)] → W p l e R s m args below meth c H locs cells slots Q (F0 m 56 ls [])) : ∀ (N : Nat), ∀ (k : Nat), n + 1 ≤ k + N → (k ≤ n) → (∀ j, j < k → ¬ agM ps rs fs ts w r d j) → ∀ (H : Heap) (locs : List Loc), va_P (dC, dI) vwCl [(h0, .inr (0, [.ref aP, .ref aR, .ref aF, .ref aT, .int (nI n)])), (aP, .inl (cI, 40, .inl ps)), (aR, .inl (cI, 40, .inl rs)), (aF, .inl (cI, 40, .inl fs)), (aT, .inl (cI, 40, .inl ts))] H → va_S A H0 H locs → ∀ ls : Array Slot, lv_has ls 5 [(4, .int (nI k)), (0, .ref h0), (1, .int w), (2, .int r), (3, .int d)] → W p l e R s m args below meth c H locs cells slots Q (F0 m 3 ls []) := by
  have iAG : ∀ w ∈ u_ws R_AG T_AG 5, w ∈ ws_AG_hold := fun w h => wb_AG_hold w (in_AG w h)
  intro N
  induction N with
  | zero =>
    intro k hme hk hv
    exact absurd hme (by omega)
  | succ N ih =>
    intro k hme hk hv H locs hP hS ls hl
    refine lv_iload hx hb d_AG_hold_3 (lv_at hl 0 rfl) ?_
    refine lv_aload_n hx hb d_AG_hold_5 rfl (lv_at hl 1 rfl) ?_
    refine va_get (D := (dC, dI)) (ci := 0) (v := .int (nI n)) (C := R_AG) (T := T_AG) (N := 5) hx hb hts iAG hown hK hP 0 rfl rfl 4 (by decide) (hts _ (wb_AG_hold _ b_162)) (fun _ h9 => h9) rfl d_AG_hold_6 ?_
    refine lv_icmp_ge (tgt := 64) hx hb d_AG_hold_9 (by decide) (fun c9 => ?_) (fun c9 => ?_)
    · have hge : n ≤ k := (nI_leI (show n < 2147483648 by omega) (show k < 2147483648 by omega)).mp c9
      exact kx64 (fun j hj => hv j (by omega)) _ _ hP hS ls (lv_sub hl [1] rfl)
    · have hlt : k < n := Nat.lt_of_not_le (mt (nI_leI (show n < 2147483648 by omega) (show k < 2147483648 by omega)).mpr c9)
      refine lv_aload_n hx hb d_AG_hold_12 rfl (lv_at hl 1 rfl) ?_
      refine va_get (D := (dC, dI)) (ci := 0) (v := .ref aP) (C := R_AG) (T := T_AG) (N := 5) hx hb hts iAG hown hK hP 0 rfl rfl 0 (by decide) (hts _ (wb_AG_hold _ b_158)) (fun _ h9 => h9) rfl d_AG_hold_13 ?_
      refine lv_iload hx hb d_AG_hold_16 (lv_at hl 0 rfl) ?_
      refine vz_iald (k := k) hx hb hK hP 1 0 rfl rfl (by omega) (by decide) d_AG_hold_18 ?_
      refine lv_iload_n hx hb d_AG_hold_19 rfl (lv_at hl 2 rfl) ?_
      refine lv_icmp_ne (tgt := 58) hx hb d_AG_hold_20 (by decide) (fun c20 => ?_) (fun c20 => ?_)
      · refine lv_iinc (v := nI (k + 1)) (lv' := [(4, .int (nI (k + 1))), (0, .ref h0), (1, .int w), (2, .int r), (3, .int d)]) hx hb d_AG_hold_58 hl (k := 0) rfl (nI_1 k) (by decide) rfl (fun ls hl => ?_)
        refine lv_goto (tgt := 3) hx hb d_AG_hold_61 (by decide) ?_
        exact ih (k + 1) (by omega) (by omega) (lt_s hv (fun h => absurd h.1 c20)) _ _ hP hS ls (lv_sub hl [0, 1, 2, 3, 4] rfl)
      · refine lv_aload_n hx hb d_AG_hold_23 rfl (lv_at hl 1 rfl) ?_
        refine va_get (D := (dC, dI)) (ci := 0) (v := .ref aR) (C := R_AG) (T := T_AG) (N := 5) hx hb hts iAG hown hK hP 0 rfl rfl 1 (by decide) (hts _ (wb_AG_hold _ b_159)) (fun _ h9 => h9) rfl d_AG_hold_24 ?_
        refine lv_iload hx hb d_AG_hold_27 (lv_at hl 0 rfl) ?_
        refine vz_iald (k := k) hx hb hK hP 2 0 rfl rfl (by omega) (by decide) d_AG_hold_29 ?_
        refine lv_iload_n hx hb d_AG_hold_30 rfl (lv_at hl 3 rfl) ?_
        refine lv_icmp_ne (tgt := 58) hx hb d_AG_hold_31 (by decide) (fun c31 => ?_) (fun c31 => ?_)
        · refine lv_iinc (v := nI (k + 1)) (lv' := [(4, .int (nI (k + 1))), (0, .ref h0), (1, .int w), (2, .int r), (3, .int d)]) hx hb d_AG_hold_58 hl (k := 0) rfl (nI_1 k) (by decide) rfl (fun ls hl => ?_)
          refine lv_goto (tgt := 3) hx hb d_AG_hold_61 (by decide) ?_
          exact ih (k + 1) (by omega) (by omega) (lt_s hv (fun h => absurd h.2.1 c31)) _ _ hP hS ls (lv_sub hl [0, 1, 2, 3, 4] rfl)
        · refine lv_aload_n hx hb d_AG_hold_34 rfl (lv_at hl 1 rfl) ?_
          refine va_get (D := (dC, dI)) (ci := 0) (v := .ref aF) (C := R_AG) (T := T_AG) (N := 5) hx hb hts iAG hown hK hP 0 rfl rfl 2 (by decide) (hts _ (wb_AG_hold _ b_160)) (fun _ h9 => h9) rfl d_AG_hold_35 ?_
          refine lv_iload hx hb d_AG_hold_38 (lv_at hl 0 rfl) ?_
          refine vz_iald (k := k) hx hb hK hP 3 0 rfl rfl (by omega) (by decide) d_AG_hold_40 ?_
          refine lv_iload_n hx hb d_AG_hold_41 rfl (lv_at hl 4 rfl) ?_
          refine lv_icmp_gt (tgt := 58) hx hb d_AG_hold_42 (by decide) (fun c42 => ?_) (fun c42 => ?_)
          · refine lv_iinc (v := nI (k + 1)) (lv' := [(4, .int (nI (k + 1))), (0, .ref h0), (1, .int w), (2, .int r), (3, .int d)]) hx hb d_AG_hold_58 hl (k := 0) rfl (nI_1 k) (by decide) rfl (fun ls hl => ?_)
            refine lv_goto (tgt := 3) hx hb d_AG_hold_61 (by decide) ?_
            exact ih (k + 1) (by omega) (by omega) (lt_s hv (fun h => absurd h.2.2.1 (Int32.not_le.mpr c42))) _ _ hP hS ls (lv_sub hl [0, 1, 2, 3, 4] rfl)
          · refine lv_iload_n hx hb d_AG_hold_45 rfl (lv_at hl 4 rfl) ?_
            refine lv_aload_n hx hb d_AG_hold_46 rfl (lv_at hl 1 rfl) ?_
            refine va_get (D := (dC, dI)) (ci := 0) (v := .ref aT) (C := R_AG) (T := T_AG) (N := 5) hx hb hts iAG hown hK hP 0 rfl rfl 3 (by decide) (hts _ (wb_AG_hold _ b_161)) (fun _ h9 => h9) rfl d_AG_hold_47 ?_
            refine lv_iload hx hb d_AG_hold_50 (lv_at hl 0 rfl) ?_
            refine vz_iald (k := k) hx hb hK hP 4 0 rfl rfl (by omega) (by decide) d_AG_hold_52 ?_
            refine lv_icmp_gt (tgt := 58) hx hb d_AG_hold_53 (by decide) (fun c53 => ?_) (fun c53 => ?_)
            · refine lv_iinc (v := nI (k + 1)) (lv' := [(4, .int (nI (k + 1))), (0, .ref h0), (1, .int w), (2, .int r), (3, .int d)]) hx hb d_AG_hold_58 hl (k := 0) rfl (nI_1 k) (by decide) rfl (fun ls hl => ?_)
              refine lv_goto (tgt := 3) hx hb d_AG_hold_61 (by decide) ?_
              exact ih (k + 1) (by omega) (by omega) (lt_s hv (fun h => absurd h.2.2.2 (Int32.not_le.mpr c53))) _ _ hP hS ls (lv_sub hl [0, 1, 2, 3, 4] rfl)
            · exact kx56 (⟨k, hlt, c20, c31, Int32.not_lt.mp c42, Int32.not_lt.mp c53⟩) _ _ hP hS ls (lv_sub hl [1] rfl)
set_option maxHeartbeats 4000000 in
set_option maxRecDepth 100000 in
/-- Agreements.hold -/
theorem c_AG_hold (l : Launch) (dC : Nat → ClassId) (dI : Nat → Nat → Nat) (cI : ClassId) (h0 aP aR aF aT : Nat) (ps rs fs ts : Nat → Int32) (n : Nat) (hn : n ≤ 40) (w r d : Int32) : Met l y_AG_hold ws_AG_hold ({ frames := 0, cells := 0, slots := 0, locals := 0 }) (va_Pc [.ref h0, .int w, .int r, .int d] (fun U => va_P (dC, dI) vwCl [(h0, .inr (0, [.ref aP, .ref aR, .ref aF, .ref aT, .int (nI n)])), (aP, .inl (cI, 40, .inl ps)), (aR, .inl (cI, 40, .inl rs)), (aF, .inl (cI, 40, .inl fs)), (aT, .inl (cI, 40, .inl ts))] U.heap ∧ va_K (dC, dI) vwCl [(cI, .int)] U)) (va_Qi (fun (x : Int32) (_ : Unit) => (x = 1 ∧ ∃ k, k < n ∧ agM ps rs fs ts w r d k) ∨ (x = 0 ∧ ∀ k, k < n → ¬ agM ps rs fs ts w r d k)) (fun _ _ => True) (fun _ => False)) 0 0 (fun _ => False) := by
  refine Met.ofW (cc := k_AG_hold) (maxL := 5) (ret := (some .boolean)) (by decide) rfl ?_
  intro p e s m args below meth c s₁ B hml hv
  obtain ⟨rfl, hP, hK⟩ := hv
  have hx := B.exec
  have hb := B.bytes
  have hr := B.returns
  have hts := atoms_spec (ws := ws_AG_hold) B.pre
  have hown : s.vm.findClass R_AG = some m.cls := findClass_of_methodNamed B.named
  have hlocks := B.notSynchronized
  have hS : va_S (fun _ => False) s.heap s.heap [] := va_S.rf
  have hP : va_P (dC, dI) vwCl [(h0, .inr (0, [.ref aP, .ref aR, .ref aF, .ref aT, .int (nI n)])), (aP, .inl (cI, 40, .inl ps)), (aR, .inl (cI, 40, .inl rs)), (aF, .inl (cI, 40, .inl fs)), (aT, .inl (cI, 40, .inl ts))] s.heap := hP
  have iAG : ∀ w ∈ u_ws R_AG T_AG 5, w ∈ ws_AG_hold := fun w h => wb_AG_hold w (in_AG w h)
  have hl := lv_entry ([.ref h0, .int w, .int r, .int d]) (n := 5) (Nat.le_of_ble_eq_true rfl)
  rw [lg_entry_eq]
  generalize (lg_sl ([.ref h0, .int w, .int r, .int d]) ++ List.replicate (5 - (lg_sl ([.ref h0, .int w, .int r, .int d])).length) Slot.unset).toArray = ls at hl ⊢
  have hl : lv_has ls 5 [(0, .ref h0), (1, .int w), (2, .int r), (3, .int d)] := hl
  refine lv_iconst (v := 0) hx hb d_AG_hold_0 (by decide) ?_
  refine lv_istore (lv' := [(4, .int 0), (0, .ref h0), (1, .int w), (2, .int r), (3, .int d)]) hx hb d_AG_hold_1 hl (by decide) rfl (fun ls hl => ?_)
  refine lp_AG_hold_3 dC dI cI h0 aP aR aF aT ps rs fs ts n hn w r d hx hb hml hts hown hK (fun hv H locs hP hS ls hl => ?_) (fun hv H locs hP hS ls hl => ?_) (n + 1) 0 (by omega) (Nat.zero_le _) (lt_0) _ _ hP hS ls (lv_sub hl [0, 1, 2, 3, 4] rfl)
  · refine lv_iconst (v := 0) hx hb d_AG_hold_64 (by decide) ?_
    exact W.zret (v := 0) hx hb hr (rfl) (fun t ht hW => ⟨⟨0, (), rfl, Or.inr ⟨rfl, hv⟩, trivial⟩, hS.F ht⟩) hS.2.2 d_AG_hold_65
  · refine lv_iconst (v := 1) hx hb d_AG_hold_56 (by decide) ?_
    exact W.zret (v := 1) hx hb hr (rfl) (fun t ht hW => ⟨⟨1, (), rfl, Or.inl ⟨rfl, hv⟩, trivial⟩, hS.F ht⟩) hS.2.2 d_AG_hold_57

set_option maxHeartbeats 4000000 in
set_option maxRecDepth 100000 in
/-- Export.add -/
theorem c_EX_add (l : Launch) (dC : Nat → ClassId) (dI : Nat → Nat → Nat) (sz : Nat) (cI : ClassId) (h0 aR : Nat) (rs : Nat → Int32) (n : Nat) (hn : n < 16) (x : Int32) : Met l y_EX_add ws_EX_add ({ frames := 0, cells := 0, slots := 0, locals := 0 }) (va_Pc [.ref h0, .int x] (fun U => U.heap.size = sz ∧ va_P (dC, dI) vwCl [(h0, .inr (1, [.ref aR, .int (nI n)])), (aR, .inl (cI, 16, .inl rs))] U.heap ∧ va_K (dC, dI) vwCl [(cI, .int)] U ∧ va_D (fun _ => True) [(h0, .inr (1, [.ref aR, .int (nI n)])), (aR, .inl (cI, 16, .inl rs))])) (va_Qv (fun (_ : Unit) => True) (fun _ t => va_P (dC, dI) vwCl [(h0, .inr (1, [.ref aR, .int (nI (n + 1))])), (aR, .inl (cI, 16, .inl (upd rs n x)))] t.heap ∧ va_K (dC, dI) vwCl [(cI, .int)] t ∧ va_D (va_A [(h0, .inr (1, [.ref aR, .int (nI n)])), (aR, .inl (cI, 16, .inl rs))] sz) [(h0, .inr (1, [.ref aR, .int (nI (n + 1))])), (aR, .inl (cI, 16, .inl (upd rs n x)))]) (va_A [(h0, .inr (1, [.ref aR, .int (nI n)])), (aR, .inl (cI, 16, .inl rs))] sz)) 0 0 (va_A [(h0, .inr (1, [.ref aR, .int (nI n)])), (aR, .inl (cI, 16, .inl rs))] sz) := by
  refine Met.ofW (cc := k_EX_add) (maxL := 2) (ret := none) (by decide) rfl ?_
  intro p e s m args below meth c s₁ B hml hv
  obtain ⟨rfl, hsz, hP, hK, hD0⟩ := hv
  have hx := B.exec
  have hb := B.bytes
  have hr := B.returns
  have hts := atoms_spec (ws := ws_EX_add) B.pre
  have hown : s.vm.findClass R_EX = some m.cls := findClass_of_methodNamed B.named
  have hlocks := B.notSynchronized
  subst hsz
  have hD := hD0.self (sz := s.heap.size)
  generalize hAe : va_A [(h0, .inr (1, [.ref aR, .int (nI n)])), (aR, .inl (cI, 16, .inl rs))] s.heap.size = A at hD ⊢
  have hA : ∀ q : Nat, s.heap.size ≤ q → A q := fun q h => by rw [← hAe]; exact Or.inr h
  have hS : va_S A s.heap s.heap [] := va_S.rf
  have hP : va_P (dC, dI) vwCl [(h0, .inr (1, [.ref aR, .int (nI n)])), (aR, .inl (cI, 16, .inl rs))] s.heap := hP
  have iEX : ∀ w ∈ u_ws R_EX T_EX 2, w ∈ ws_EX_add := fun w h => wb_EX_add w (in_EX w h)
  have hl := lv_entry ([.ref h0, .int x]) (n := 2) (Nat.le_of_ble_eq_true rfl)
  rw [lg_entry_eq]
  generalize (lg_sl ([.ref h0, .int x]) ++ List.replicate (2 - (lg_sl ([.ref h0, .int x])).length) Slot.unset).toArray = ls at hl ⊢
  have hl : lv_has ls 2 [(0, .ref h0), (1, .int x)] := hl
  refine lv_aload_n hx hb d_EX_add_0 rfl (lv_at hl 0 rfl) ?_
  refine va_get (D := (dC, dI)) (ci := 1) (v := .ref aR) (C := R_EX) (T := T_EX) (N := 2) hx hb hts iEX hown hK hP 0 rfl rfl 0 (by decide) (hts _ (wb_EX_add _ b_215)) (fun _ h9 => h9) rfl d_EX_add_1 ?_
  refine lv_aload_n hx hb d_EX_add_4 rfl (lv_at hl 0 rfl) ?_
  refine va_get (D := (dC, dI)) (ci := 1) (v := .int (nI n)) (C := R_EX) (T := T_EX) (N := 2) hx hb hts iEX hown hK hP 0 rfl rfl 1 (by decide) (hts _ (wb_EX_add _ b_217)) (fun _ h9 => h9) rfl d_EX_add_5 ?_
  refine lv_iload_n hx hb d_EX_add_8 rfl (lv_at hl 1 rfl) ?_
  refine vz_iast (k := n) hx hb hK hP hD hS 1 0 rfl rfl (by omega) (by decide) d_EX_add_9 (fun H locs hP hD hS => ?_)
  have hP : va_P (dC, dI) vwCl [(h0, .inr (1, [.ref aR, .int (nI n)])), (aR, .inl (cI, 16, .inl (upd rs n x)))] H := hP
  have hD : va_D A [(h0, .inr (1, [.ref aR, .int (nI n)])), (aR, .inl (cI, 16, .inl (upd rs n x)))] := hD
  refine lv_aload_n hx hb d_EX_add_10 rfl (lv_at hl 0 rfl) ?_
  refine lv_dup hx hb d_EX_add_11 rfl ?_
  refine va_get (D := (dC, dI)) (ci := 1) (v := .int (nI n)) (C := R_EX) (T := T_EX) (N := 2) hx hb hts iEX hown hK hP 0 rfl rfl 1 (by decide) (hts _ (wb_EX_add _ b_217)) (fun _ h9 => h9) rfl d_EX_add_12 ?_
  refine lv_iconst (v := 1) hx hb d_EX_add_15 (by decide) ?_
  refine lv_iadd hx hb d_EX_add_16 ?_
  refine vz_top (y := nI (n + 1)) (nI_1 n) ?_
  refine va_put (D := (dC, dI)) (ci := 1) (v := .int (nI (n + 1))) (ty := .int) (C := R_EX) (T := T_EX) (N := 2) hx hb hts iEX ty_EX tyok_EX nm_EX hown hK hP hD hS 0 rfl rfl 1 (by decide) (hts _ (wb_EX_add _ b_217)) (fun _ h9 => h9) rfl rfl rfl rfl (Nat.le_of_ble_eq_true rfl) d_EX_add_17 (fun H locs hP hD hS => ?_)
  have hP : va_P (dC, dI) vwCl [(h0, .inr (1, [.ref aR, .int (nI (n + 1))])), (aR, .inl (cI, 16, .inl (upd rs n x)))] H := hP
  have hD : va_D A [(h0, .inr (1, [.ref aR, .int (nI (n + 1))])), (aR, .inl (cI, 16, .inl (upd rs n x)))] := hD
  have hP9 := hP.sub (ws' := [(h0, .inr (1, [.ref aR, .int (nI (n + 1))])), (aR, .inl (cI, 16, .inl (upd rs n x)))]) [0, 1] rfl
  have hD9 := hD.sub (ws' := [(h0, .inr (1, [.ref aR, .int (nI (n + 1))])), (aR, .inl (cI, 16, .inl (upd rs n x)))]) [0, 1] (by decide) rfl
  exact W.vret hx hb hr (fun t ht hW => ⟨⟨(), rfl, trivial, by rw [ht]; exact hP9, va_K.moved hW.alike hK, hD9⟩, hS.F ht⟩) hS.2.2 d_EX_add_20

set_option maxHeartbeats 4000000 in
set_option maxRecDepth 100000 in
/-- Requests.keep -/
theorem c_RQ_keep (l : Launch) (dC : Nat → ClassId) (dI : Nat → Nat → Nat) (sz : Nat) (cI : ClassId) (h0 aP aD : Nat) (ps ds : Nat → Int32) (n : Nat) (hn : n < 60) (w d : Int32) : Met l y_RQ_keep ws_RQ_keep ({ frames := 0, cells := 0, slots := 0, locals := 0 }) (va_Pc [.ref h0, .int w, .int d] (fun U => U.heap.size = sz ∧ va_P (dC, dI) vwCl [(h0, .inr (6, [.ref aP, .ref aD, .int (nI n)])), (aP, .inl (cI, 60, .inl ps)), (aD, .inl (cI, 60, .inl ds))] U.heap ∧ va_K (dC, dI) vwCl [(cI, .int)] U ∧ va_D (fun _ => True) [(h0, .inr (6, [.ref aP, .ref aD, .int (nI n)])), (aP, .inl (cI, 60, .inl ps)), (aD, .inl (cI, 60, .inl ds))])) (va_Qv (fun (_ : Unit) => True) (fun _ t => va_P (dC, dI) vwCl [(h0, .inr (6, [.ref aP, .ref aD, .int (nI (n + 1))])), (aP, .inl (cI, 60, .inl (upd ps n w))), (aD, .inl (cI, 60, .inl (upd ds n d)))] t.heap ∧ va_K (dC, dI) vwCl [(cI, .int)] t ∧ va_D (va_A [(h0, .inr (6, [.ref aP, .ref aD, .int (nI n)])), (aP, .inl (cI, 60, .inl ps)), (aD, .inl (cI, 60, .inl ds))] sz) [(h0, .inr (6, [.ref aP, .ref aD, .int (nI (n + 1))])), (aP, .inl (cI, 60, .inl (upd ps n w))), (aD, .inl (cI, 60, .inl (upd ds n d)))]) (va_A [(h0, .inr (6, [.ref aP, .ref aD, .int (nI n)])), (aP, .inl (cI, 60, .inl ps)), (aD, .inl (cI, 60, .inl ds))] sz)) 0 0 (va_A [(h0, .inr (6, [.ref aP, .ref aD, .int (nI n)])), (aP, .inl (cI, 60, .inl ps)), (aD, .inl (cI, 60, .inl ds))] sz) := by
  refine Met.ofW (cc := k_RQ_keep) (maxL := 3) (ret := none) (by decide) rfl ?_
  intro p e s m args below meth c s₁ B hml hv
  obtain ⟨rfl, hsz, hP, hK, hD0⟩ := hv
  have hx := B.exec
  have hb := B.bytes
  have hr := B.returns
  have hts := atoms_spec (ws := ws_RQ_keep) B.pre
  have hown : s.vm.findClass R_RQ = some m.cls := findClass_of_methodNamed B.named
  have hlocks := B.notSynchronized
  subst hsz
  have hD := hD0.self (sz := s.heap.size)
  generalize hAe : va_A [(h0, .inr (6, [.ref aP, .ref aD, .int (nI n)])), (aP, .inl (cI, 60, .inl ps)), (aD, .inl (cI, 60, .inl ds))] s.heap.size = A at hD ⊢
  have hA : ∀ q : Nat, s.heap.size ≤ q → A q := fun q h => by rw [← hAe]; exact Or.inr h
  have hS : va_S A s.heap s.heap [] := va_S.rf
  have hP : va_P (dC, dI) vwCl [(h0, .inr (6, [.ref aP, .ref aD, .int (nI n)])), (aP, .inl (cI, 60, .inl ps)), (aD, .inl (cI, 60, .inl ds))] s.heap := hP
  have iRQ : ∀ w ∈ u_ws R_RQ T_RQ 3, w ∈ ws_RQ_keep := fun w h => wb_RQ_keep w (in_RQ w h)
  have hl := lv_entry ([.ref h0, .int w, .int d]) (n := 3) (Nat.le_of_ble_eq_true rfl)
  rw [lg_entry_eq]
  generalize (lg_sl ([.ref h0, .int w, .int d]) ++ List.replicate (3 - (lg_sl ([.ref h0, .int w, .int d])).length) Slot.unset).toArray = ls at hl ⊢
  have hl : lv_has ls 3 [(0, .ref h0), (1, .int w), (2, .int d)] := hl
  refine lv_aload_n hx hb d_RQ_keep_0 rfl (lv_at hl 0 rfl) ?_
  refine va_get (D := (dC, dI)) (ci := 6) (v := .ref aP) (C := R_RQ) (T := T_RQ) (N := 3) hx hb hts iRQ hown hK hP 0 rfl rfl 0 (by decide) (hts _ (wb_RQ_keep _ b_198)) (fun _ h9 => h9) rfl d_RQ_keep_1 ?_
  refine lv_aload_n hx hb d_RQ_keep_4 rfl (lv_at hl 0 rfl) ?_
  refine va_get (D := (dC, dI)) (ci := 6) (v := .int (nI n)) (C := R_RQ) (T := T_RQ) (N := 3) hx hb hts iRQ hown hK hP 0 rfl rfl 2 (by decide) (hts _ (wb_RQ_keep _ b_200)) (fun _ h9 => h9) rfl d_RQ_keep_5 ?_
  refine lv_iload_n hx hb d_RQ_keep_8 rfl (lv_at hl 1 rfl) ?_
  refine vz_iast (k := n) hx hb hK hP hD hS 1 0 rfl rfl (by omega) (by decide) d_RQ_keep_9 (fun H locs hP hD hS => ?_)
  have hP : va_P (dC, dI) vwCl [(h0, .inr (6, [.ref aP, .ref aD, .int (nI n)])), (aP, .inl (cI, 60, .inl (upd ps n w))), (aD, .inl (cI, 60, .inl ds))] H := hP
  have hD : va_D A [(h0, .inr (6, [.ref aP, .ref aD, .int (nI n)])), (aP, .inl (cI, 60, .inl (upd ps n w))), (aD, .inl (cI, 60, .inl ds))] := hD
  refine lv_aload_n hx hb d_RQ_keep_10 rfl (lv_at hl 0 rfl) ?_
  refine va_get (D := (dC, dI)) (ci := 6) (v := .ref aD) (C := R_RQ) (T := T_RQ) (N := 3) hx hb hts iRQ hown hK hP 0 rfl rfl 1 (by decide) (hts _ (wb_RQ_keep _ b_199)) (fun _ h9 => h9) rfl d_RQ_keep_11 ?_
  refine lv_aload_n hx hb d_RQ_keep_14 rfl (lv_at hl 0 rfl) ?_
  refine va_get (D := (dC, dI)) (ci := 6) (v := .int (nI n)) (C := R_RQ) (T := T_RQ) (N := 3) hx hb hts iRQ hown hK hP 0 rfl rfl 2 (by decide) (hts _ (wb_RQ_keep _ b_200)) (fun _ h9 => h9) rfl d_RQ_keep_15 ?_
  refine lv_iload_n hx hb d_RQ_keep_18 rfl (lv_at hl 2 rfl) ?_
  refine vz_iast (k := n) hx hb hK hP hD hS 2 0 rfl rfl (by omega) (by decide) d_RQ_keep_19 (fun H locs hP hD hS => ?_)
  have hP : va_P (dC, dI) vwCl [(h0, .inr (6, [.ref aP, .ref aD, .int (nI n)])), (aP, .inl (cI, 60, .inl (upd ps n w))), (aD, .inl (cI, 60, .inl (upd ds n d)))] H := hP
  have hD : va_D A [(h0, .inr (6, [.ref aP, .ref aD, .int (nI n)])), (aP, .inl (cI, 60, .inl (upd ps n w))), (aD, .inl (cI, 60, .inl (upd ds n d)))] := hD
  refine lv_aload_n hx hb d_RQ_keep_20 rfl (lv_at hl 0 rfl) ?_
  refine lv_dup hx hb d_RQ_keep_21 rfl ?_
  refine va_get (D := (dC, dI)) (ci := 6) (v := .int (nI n)) (C := R_RQ) (T := T_RQ) (N := 3) hx hb hts iRQ hown hK hP 0 rfl rfl 2 (by decide) (hts _ (wb_RQ_keep _ b_200)) (fun _ h9 => h9) rfl d_RQ_keep_22 ?_
  refine lv_iconst (v := 1) hx hb d_RQ_keep_25 (by decide) ?_
  refine lv_iadd hx hb d_RQ_keep_26 ?_
  refine vz_top (y := nI (n + 1)) (nI_1 n) ?_
  refine va_put (D := (dC, dI)) (ci := 6) (v := .int (nI (n + 1))) (ty := .int) (C := R_RQ) (T := T_RQ) (N := 3) hx hb hts iRQ ty_RQ tyok_RQ nm_RQ hown hK hP hD hS 0 rfl rfl 2 (by decide) (hts _ (wb_RQ_keep _ b_200)) (fun _ h9 => h9) rfl rfl rfl rfl (Nat.le_of_ble_eq_true rfl) d_RQ_keep_27 (fun H locs hP hD hS => ?_)
  have hP : va_P (dC, dI) vwCl [(h0, .inr (6, [.ref aP, .ref aD, .int (nI (n + 1))])), (aP, .inl (cI, 60, .inl (upd ps n w))), (aD, .inl (cI, 60, .inl (upd ds n d)))] H := hP
  have hD : va_D A [(h0, .inr (6, [.ref aP, .ref aD, .int (nI (n + 1))])), (aP, .inl (cI, 60, .inl (upd ps n w))), (aD, .inl (cI, 60, .inl (upd ds n d)))] := hD
  have hP9 := hP.sub (ws' := [(h0, .inr (6, [.ref aP, .ref aD, .int (nI (n + 1))])), (aP, .inl (cI, 60, .inl (upd ps n w))), (aD, .inl (cI, 60, .inl (upd ds n d)))]) [0, 1, 2] rfl
  have hD9 := hD.sub (ws' := [(h0, .inr (6, [.ref aP, .ref aD, .int (nI (n + 1))])), (aP, .inl (cI, 60, .inl (upd ps n w))), (aD, .inl (cI, 60, .inl (upd ds n d)))]) [0, 1, 2] (by decide) rfl
  exact W.vret hx hb hr (fun t ht hW => ⟨⟨(), rfl, trivial, by rw [ht]; exact hP9, va_K.moved hW.alike hK, hD9⟩, hS.F ht⟩) hS.2.2 d_RQ_keep_30

/-- how many of the first k requests are a person's within the thirty days that end with d -/
def withN (ps ds : Nat → Int32) (w d : Int32) : Nat → Nat
  | 0 => 0
  | k + 1 => if ps k = w ∧ ds k ≤ d ∧ d - 30 < ds k then withN ps ds w d k + 1 else withN ps ds w d k
theorem withN_le (ps ds : Nat → Int32) (w d : Int32) (k : Nat) : withN ps ds w d k ≤ k := by
  induction k with
  | zero => exact Nat.le_refl 0
  | succ k ih => unfold withN; split <;> omega

set_option maxHeartbeats 4000000 in
set_option maxRecDepth 100000 in
theorem lp_RQ_within_5 {p : Program} {l : Launch} {e : Env} {R : Room} {s : State} {m : MethodId} {args : Array Value} {below : List Frame} {meth : Method} {c : Code} {cells slots : Nat} {Q : State → Prop} {A : Nat → Prop} {H0 : Heap} (dC : Nat → ClassId) (dI : Nat → Nat → Nat) (cI : ClassId) (h0 aP aD : Nat) (ps ds : Nat → Int32) (n : Nat) (hn : n ≤ 60) (w d : Int32)  (hx : p.tables.exec = Jvm.exec) (hb : c.code = k_RQ_within) (hml : c.maxLocals = 5) (hts : ∀ w ∈ ws_RQ_within, w.before args s = true) (hown : s.vm.findClass R_RQ = some m.cls) (hK : va_K (dC, dI) vwCl [(cI, .int)] s) (kx59 : ∀ (v : Nat), (v = withN ps ds w d n) → ∀ (H : Heap) (locs : List Loc), va_P (dC, dI) vwCl [(h0, .inr (6, [.ref aP, .ref aD, .int (nI n)])), (aP, .inl (cI, 60, .inl ps)), (aD, .inl (cI, 60, .inl ds))] H → va_S A H0 H locs → ∀ ls : Array Slot, lv_has ls 5 [(3, .int (nI v))] → W p l e R s m args below meth c H locs cells slots Q (F0 m 59 ls [])) : ∀ (N : Nat), ∀ (k : Nat), ∀ (v : Nat), n + 1 ≤ k + N → (k ≤ n) → (v = withN ps ds w d k) → ∀ (H : Heap) (locs : List Loc), va_P (dC, dI) vwCl [(h0, .inr (6, [.ref aP, .ref aD, .int (nI n)])), (aP, .inl (cI, 60, .inl ps)), (aD, .inl (cI, 60, .inl ds))] H → va_S A H0 H locs → ∀ ls : Array Slot, lv_has ls 5 [(4, .int (nI k)), (3, .int (nI v)), (0, .ref h0), (1, .int w), (2, .int d)] → W p l e R s m args below meth c H locs cells slots Q (F0 m 5 ls []) := by
  have iRQ : ∀ w ∈ u_ws R_RQ T_RQ 3, w ∈ ws_RQ_within := fun w h => wb_RQ_within w (in_RQ w h)
  intro N
  induction N with
  | zero =>
    intro k v hme hk hv
    exact absurd hme (by omega)
  | succ N ih =>
    intro k v hme hk hv H locs hP hS ls hl
    refine lv_iload hx hb d_RQ_within_5 (lv_at hl 0 rfl) ?_
    refine lv_aload_n hx hb d_RQ_within_7 rfl (lv_at hl 2 rfl) ?_
    refine va_get (D := (dC, dI)) (ci := 6) (v := .int (nI n)) (C := R_RQ) (T := T_RQ) (N := 3) hx hb hts iRQ hown hK hP 0 rfl rfl 2 (by decide) (hts _ (wb_RQ_within _ b_200)) (fun _ h9 => h9) rfl d_RQ_within_8 ?_
    refine lv_icmp_ge (tgt := 59) hx hb d_RQ_within_11 (by decide) (fun c11 => ?_) (fun c11 => ?_)
    · have hge : n ≤ k := (nI_leI (show n < 2147483648 by omega) (show k < 2147483648 by omega)).mp c11
      exact kx59 v (by rw [hv, show k = n by omega]) _ _ hP hS ls (lv_sub hl [1] rfl)
    · have hlt : k < n := Nat.lt_of_not_le (mt (nI_leI (show n < 2147483648 by omega) (show k < 2147483648 by omega)).mpr c11)
      refine lv_aload_n hx hb d_RQ_within_14 rfl (lv_at hl 2 rfl) ?_
      refine va_get (D := (dC, dI)) (ci := 6) (v := .ref aP) (C := R_RQ) (T := T_RQ) (N := 3) hx hb hts iRQ hown hK hP 0 rfl rfl 0 (by decide) (hts _ (wb_RQ_within _ b_198)) (fun _ h9 => h9) rfl d_RQ_within_15 ?_
      refine lv_iload hx hb d_RQ_within_18 (lv_at hl 0 rfl) ?_
      refine vz_iald (k := k) hx hb hK hP 1 0 rfl rfl (by omega) (by decide) d_RQ_within_20 ?_
      refine lv_iload_n hx hb d_RQ_within_21 rfl (lv_at hl 3 rfl) ?_
      refine lv_icmp_ne (tgt := 53) hx hb d_RQ_within_22 (by decide) (fun c22 => ?_) (fun c22 => ?_)
      · refine lv_iinc (v := nI (k + 1)) (lv' := [(4, .int (nI (k + 1))), (3, .int (nI v)), (0, .ref h0), (1, .int w), (2, .int d)]) hx hb d_RQ_within_53 hl (k := 0) rfl (nI_1 k) (by decide) rfl (fun ls hl => ?_)
        refine lv_goto (tgt := 5) hx hb d_RQ_within_56 (by decide) ?_
        exact ih (k + 1) v (by omega) (by omega) (hv.trans (if_neg (fun h => absurd h.1 c22)).symm) _ _ hP hS ls (lv_sub hl [0, 1, 2, 3, 4] rfl)
      · refine lv_aload_n hx hb d_RQ_within_25 rfl (lv_at hl 2 rfl) ?_
        refine va_get (D := (dC, dI)) (ci := 6) (v := .ref aD) (C := R_RQ) (T := T_RQ) (N := 3) hx hb hts iRQ hown hK hP 0 rfl rfl 1 (by decide) (hts _ (wb_RQ_within _ b_199)) (fun _ h9 => h9) rfl d_RQ_within_26 ?_
        refine lv_iload hx hb d_RQ_within_29 (lv_at hl 0 rfl) ?_
        refine vz_iald (k := k) hx hb hK hP 2 0 rfl rfl (by omega) (by decide) d_RQ_within_31 ?_
        refine lv_iload_n hx hb d_RQ_within_32 rfl (lv_at hl 4 rfl) ?_
        refine lv_icmp_gt (tgt := 53) hx hb d_RQ_within_33 (by decide) (fun c33 => ?_) (fun c33 => ?_)
        · refine lv_iinc (v := nI (k + 1)) (lv' := [(4, .int (nI (k + 1))), (3, .int (nI v)), (0, .ref h0), (1, .int w), (2, .int d)]) hx hb d_RQ_within_53 hl (k := 0) rfl (nI_1 k) (by decide) rfl (fun ls hl => ?_)
          refine lv_goto (tgt := 5) hx hb d_RQ_within_56 (by decide) ?_
          exact ih (k + 1) v (by omega) (by omega) (hv.trans (if_neg (fun h => absurd h.2.1 (Int32.not_le.mpr c33))).symm) _ _ hP hS ls (lv_sub hl [0, 1, 2, 3, 4] rfl)
        · refine lv_aload_n hx hb d_RQ_within_36 rfl (lv_at hl 2 rfl) ?_
          refine va_get (D := (dC, dI)) (ci := 6) (v := .ref aD) (C := R_RQ) (T := T_RQ) (N := 3) hx hb hts iRQ hown hK hP 0 rfl rfl 1 (by decide) (hts _ (wb_RQ_within _ b_199)) (fun _ h9 => h9) rfl d_RQ_within_37 ?_
          refine lv_iload hx hb d_RQ_within_40 (lv_at hl 0 rfl) ?_
          refine vz_iald (k := k) hx hb hK hP 2 0 rfl rfl (by omega) (by decide) d_RQ_within_42 ?_
          refine lv_iload_n hx hb d_RQ_within_43 rfl (lv_at hl 4 rfl) ?_
          refine lv_bipush (v := 30) hx hb d_RQ_within_44 (by decide) ?_
          refine lv_isub hx hb d_RQ_within_46 ?_
          refine lv_icmp_le (tgt := 53) hx hb d_RQ_within_47 (by decide) (fun c47 => ?_) (fun c47 => ?_)
          · refine lv_iinc (v := nI (k + 1)) (lv' := [(4, .int (nI (k + 1))), (3, .int (nI v)), (0, .ref h0), (1, .int w), (2, .int d)]) hx hb d_RQ_within_53 hl (k := 0) rfl (nI_1 k) (by decide) rfl (fun ls hl => ?_)
            refine lv_goto (tgt := 5) hx hb d_RQ_within_56 (by decide) ?_
            exact ih (k + 1) v (by omega) (by omega) (hv.trans (if_neg (fun h => absurd h.2.2 (Int32.not_lt.mpr c47))).symm) _ _ hP hS ls (lv_sub hl [0, 1, 2, 3, 4] rfl)
          · refine lv_iinc (v := nI (v + 1)) (lv' := [(3, .int (nI (v + 1))), (4, .int (nI k)), (0, .ref h0), (1, .int w), (2, .int d)]) hx hb d_RQ_within_50 hl (k := 1) rfl (nI_1 v) (by decide) rfl (fun ls hl => ?_)
            refine lv_iinc (v := nI (k + 1)) (lv' := [(4, .int (nI (k + 1))), (3, .int (nI (v + 1))), (0, .ref h0), (1, .int w), (2, .int d)]) hx hb d_RQ_within_53 hl (k := 1) rfl (nI_1 k) (by decide) rfl (fun ls hl => ?_)
            refine lv_goto (tgt := 5) hx hb d_RQ_within_56 (by decide) ?_
            exact ih (k + 1) (v + 1) (by omega) (by omega) ((congrArg (· + 1) hv).trans (if_pos (⟨c22, Int32.not_lt.mp c33, Int32.not_le.mp c47⟩ : ps k = w ∧ ds k ≤ d ∧ d - 30 < ds k)).symm) _ _ hP hS ls (lv_sub hl [0, 1, 2, 3, 4] rfl)
set_option maxHeartbeats 4000000 in
set_option maxRecDepth 100000 in
/-- Requests.within -/
theorem c_RQ_within (l : Launch) (dC : Nat → ClassId) (dI : Nat → Nat → Nat) (cI : ClassId) (h0 aP aD : Nat) (ps ds : Nat → Int32) (n : Nat) (hn : n ≤ 60) (w d : Int32) : Met l y_RQ_within ws_RQ_within ({ frames := 0, cells := 0, slots := 0, locals := 0 }) (va_Pc [.ref h0, .int w, .int d] (fun U => va_P (dC, dI) vwCl [(h0, .inr (6, [.ref aP, .ref aD, .int (nI n)])), (aP, .inl (cI, 60, .inl ps)), (aD, .inl (cI, 60, .inl ds))] U.heap ∧ va_K (dC, dI) vwCl [(cI, .int)] U)) (va_Qi (fun (res : Int32) (_ : Unit) => res = nI (withN ps ds w d n)) (fun _ _ => True) (fun _ => False)) 0 0 (fun _ => False) := by
  refine Met.ofW (cc := k_RQ_within) (maxL := 5) (ret := (some .int)) (by decide) rfl ?_
  intro p e s m args below meth c s₁ B hml hv
  obtain ⟨rfl, hP, hK⟩ := hv
  have hx := B.exec
  have hb := B.bytes
  have hr := B.returns
  have hts := atoms_spec (ws := ws_RQ_within) B.pre
  have hown : s.vm.findClass R_RQ = some m.cls := findClass_of_methodNamed B.named
  have hlocks := B.notSynchronized
  have hS : va_S (fun _ => False) s.heap s.heap [] := va_S.rf
  have hP : va_P (dC, dI) vwCl [(h0, .inr (6, [.ref aP, .ref aD, .int (nI n)])), (aP, .inl (cI, 60, .inl ps)), (aD, .inl (cI, 60, .inl ds))] s.heap := hP
  have iRQ : ∀ w ∈ u_ws R_RQ T_RQ 3, w ∈ ws_RQ_within := fun w h => wb_RQ_within w (in_RQ w h)
  have hl := lv_entry ([.ref h0, .int w, .int d]) (n := 5) (Nat.le_of_ble_eq_true rfl)
  rw [lg_entry_eq]
  generalize (lg_sl ([.ref h0, .int w, .int d]) ++ List.replicate (5 - (lg_sl ([.ref h0, .int w, .int d])).length) Slot.unset).toArray = ls at hl ⊢
  have hl : lv_has ls 5 [(0, .ref h0), (1, .int w), (2, .int d)] := hl
  refine lv_iconst (v := 0) hx hb d_RQ_within_0 (by decide) ?_
  refine lv_istore_n (lv' := [(3, .int 0), (0, .ref h0), (1, .int w), (2, .int d)]) hx hb d_RQ_within_1 rfl hl (by decide) rfl (fun ls hl => ?_)
  refine lv_iconst (v := 0) hx hb d_RQ_within_2 (by decide) ?_
  refine lv_istore (lv' := [(4, .int 0), (3, .int 0), (0, .ref h0), (1, .int w), (2, .int d)]) hx hb d_RQ_within_3 hl (by decide) rfl (fun ls hl => ?_)
  refine lp_RQ_within_5 dC dI cI h0 aP aD ps ds n hn w d hx hb hml hts hown hK (fun v hv H locs hP hS ls hl => ?_) (n + 1) 0 0 (by omega) (Nat.zero_le _) (rfl) _ _ hP hS ls (lv_sub hl [0, 1, 2, 3, 4] rfl)
  · refine lv_iload_n hx hb d_RQ_within_59 rfl (lv_at hl 0 rfl) ?_
    exact W.iret (v := nI v) hx hb hr (fun t ht hW => ⟨⟨nI v, (), rfl, by rw [hv], trivial⟩, hS.F ht⟩) hS.2.2 d_RQ_within_60

set_option maxHeartbeats 4000000 in
set_option maxRecDepth 100000 in
/-- Looks.keep -/
theorem c_LO_keep (l : Launch) (dC : Nat → ClassId) (dI : Nat → Nat → Nat) (sz : Nat) (cI : ClassId) (h0 aP aL : Nat) (pa lk : Nat → Int32) (n : Nat) (hn : n < 100) (w : Int32) (r : Nat) (hr16 : r < 16) (f q d g : Int32) : Met l y_LO_keep ws_LO_keep ({ frames := 0, cells := 0, slots := 0, locals := 0 }) (va_Pc [.ref h0, .int w, .int (nI r), .int f, .int q, .int d, .int g] (fun U => U.heap.size = sz ∧ va_P (dC, dI) vwCl [(h0, .inr (3, [.ref aP, .ref aL, .int (nI n)])), (aP, .inl (cI, 600, .inl pa)), (aL, .inl (cI, 16, .inl lk))] U.heap ∧ va_K (dC, dI) vwCl [(cI, .int)] U ∧ va_D (fun _ => True) [(h0, .inr (3, [.ref aP, .ref aL, .int (nI n)])), (aP, .inl (cI, 600, .inl pa)), (aL, .inl (cI, 16, .inl lk))])) (va_Qv (fun (_ : Unit) => True) (fun _ t => va_P (dC, dI) vwCl [(h0, .inr (3, [.ref aP, .ref aL, .int (nI (n + 1))])), (aP, .inl (cI, 600, .inl (upd (upd (upd (upd (upd (upd (pa) (n * 6) (w)) (n * 6 + 1) (nI r)) (n * 6 + 2) (f)) (n * 6 + 3) (q)) (n * 6 + 4) (d)) (n * 6 + 5) (g)))), (aL, .inl (cI, 16, .inl (upd lk r (lk r ||| ((1 : Int32) <<< (w &&& 31))))))] t.heap ∧ va_K (dC, dI) vwCl [(cI, .int)] t ∧ va_D (va_A [(h0, .inr (3, [.ref aP, .ref aL, .int (nI n)])), (aP, .inl (cI, 600, .inl pa)), (aL, .inl (cI, 16, .inl lk))] sz) [(h0, .inr (3, [.ref aP, .ref aL, .int (nI (n + 1))])), (aP, .inl (cI, 600, .inl (upd (upd (upd (upd (upd (upd (pa) (n * 6) (w)) (n * 6 + 1) (nI r)) (n * 6 + 2) (f)) (n * 6 + 3) (q)) (n * 6 + 4) (d)) (n * 6 + 5) (g)))), (aL, .inl (cI, 16, .inl (upd lk r (lk r ||| ((1 : Int32) <<< (w &&& 31))))))]) (va_A [(h0, .inr (3, [.ref aP, .ref aL, .int (nI n)])), (aP, .inl (cI, 600, .inl pa)), (aL, .inl (cI, 16, .inl lk))] sz)) 0 0 (va_A [(h0, .inr (3, [.ref aP, .ref aL, .int (nI n)])), (aP, .inl (cI, 600, .inl pa)), (aL, .inl (cI, 16, .inl lk))] sz) := by
  refine Met.ofW (cc := k_LO_keep) (maxL := 8) (ret := none) (by decide) rfl ?_
  intro p e s m args below meth c s₁ B hml hv
  obtain ⟨rfl, hsz, hP, hK, hD0⟩ := hv
  have hx := B.exec
  have hb := B.bytes
  have hr := B.returns
  have hts := atoms_spec (ws := ws_LO_keep) B.pre
  have hown : s.vm.findClass R_LO = some m.cls := findClass_of_methodNamed B.named
  have hlocks := B.notSynchronized
  subst hsz
  have hD := hD0.self (sz := s.heap.size)
  generalize hAe : va_A [(h0, .inr (3, [.ref aP, .ref aL, .int (nI n)])), (aP, .inl (cI, 600, .inl pa)), (aL, .inl (cI, 16, .inl lk))] s.heap.size = A at hD ⊢
  have hA : ∀ q : Nat, s.heap.size ≤ q → A q := fun q h => by rw [← hAe]; exact Or.inr h
  have hS : va_S A s.heap s.heap [] := va_S.rf
  have hP : va_P (dC, dI) vwCl [(h0, .inr (3, [.ref aP, .ref aL, .int (nI n)])), (aP, .inl (cI, 600, .inl pa)), (aL, .inl (cI, 16, .inl lk))] s.heap := hP
  have iLO : ∀ w ∈ u_ws R_LO T_LO 3, w ∈ ws_LO_keep := fun w h => wb_LO_keep w (in_LO w h)
  have hl := lv_entry ([.ref h0, .int w, .int (nI r), .int f, .int q, .int d, .int g]) (n := 8) (Nat.le_of_ble_eq_true rfl)
  rw [lg_entry_eq]
  generalize (lg_sl ([.ref h0, .int w, .int (nI r), .int f, .int q, .int d, .int g]) ++ List.replicate (8 - (lg_sl ([.ref h0, .int w, .int (nI r), .int f, .int q, .int d, .int g])).length) Slot.unset).toArray = ls at hl ⊢
  have hl : lv_has ls 8 [(0, .ref h0), (1, .int w), (2, .int (nI r)), (3, .int f), (4, .int q), (5, .int d), (6, .int g)] := hl
  refine lv_aload_n hx hb d_LO_keep_0 rfl (lv_at hl 0 rfl) ?_
  refine va_get (D := (dC, dI)) (ci := 3) (v := .int (nI n)) (C := R_LO) (T := T_LO) (N := 3) hx hb hts iLO hown hK hP 0 rfl rfl 2 (by decide) (hts _ (wb_LO_keep _ b_183)) (fun _ h9 => h9) rfl d_LO_keep_1 ?_
  refine lv_bipush (v := 6) hx hb d_LO_keep_4 (by decide) ?_
  refine lv_imul hx hb d_LO_keep_6 ?_
  refine vz_top (y := nI (n * 6)) (pk_mul n 6) ?_
  refine lv_istore (lv' := [(7, .int (nI (n * 6))), (0, .ref h0), (1, .int w), (2, .int (nI r)), (3, .int f), (4, .int q), (5, .int d), (6, .int g)]) hx hb d_LO_keep_7 hl (by decide) rfl (fun ls hl => ?_)
  refine lv_aload_n hx hb d_LO_keep_9 rfl (lv_at hl 1 rfl) ?_
  refine va_get (D := (dC, dI)) (ci := 3) (v := .ref aP) (C := R_LO) (T := T_LO) (N := 3) hx hb hts iLO hown hK hP 0 rfl rfl 0 (by decide) (hts _ (wb_LO_keep _ b_181)) (fun _ h9 => h9) rfl d_LO_keep_10 ?_
  refine lv_iload hx hb d_LO_keep_13 (lv_at hl 0 rfl) ?_
  refine lv_iload_n hx hb d_LO_keep_15 rfl (lv_at hl 2 rfl) ?_
  refine vz_iast (k := (n * 6)) hx hb hK hP hD hS 1 0 rfl rfl (by omega) (by decide) d_LO_keep_16 (fun H locs hP hD hS => ?_)
  have hP : va_P (dC, dI) vwCl [(h0, .inr (3, [.ref aP, .ref aL, .int (nI n)])), (aP, .inl (cI, 600, .inl (upd pa (n * 6) w))), (aL, .inl (cI, 16, .inl lk))] H := hP
  have hD : va_D A [(h0, .inr (3, [.ref aP, .ref aL, .int (nI n)])), (aP, .inl (cI, 600, .inl (upd pa (n * 6) w))), (aL, .inl (cI, 16, .inl lk))] := hD
  refine lv_aload_n hx hb d_LO_keep_17 rfl (lv_at hl 1 rfl) ?_
  refine va_get (D := (dC, dI)) (ci := 3) (v := .ref aP) (C := R_LO) (T := T_LO) (N := 3) hx hb hts iLO hown hK hP 0 rfl rfl 0 (by decide) (hts _ (wb_LO_keep _ b_181)) (fun _ h9 => h9) rfl d_LO_keep_18 ?_
  refine lv_iload hx hb d_LO_keep_21 (lv_at hl 0 rfl) ?_
  refine lv_iconst (v := 1) hx hb d_LO_keep_23 (by decide) ?_
  refine lv_iadd hx hb d_LO_keep_24 ?_
  refine vz_top (y := nI (n * 6 + 1)) (nI_add (n * 6) 1) ?_
  refine lv_iload_n hx hb d_LO_keep_25 rfl (lv_at hl 3 rfl) ?_
  refine vz_iast (k := (n * 6 + 1)) hx hb hK hP hD hS 1 0 rfl rfl (by omega) (by decide) d_LO_keep_26 (fun H locs hP hD hS => ?_)
  have hP : va_P (dC, dI) vwCl [(h0, .inr (3, [.ref aP, .ref aL, .int (nI n)])), (aP, .inl (cI, 600, .inl (upd (upd pa (n * 6) w) (n * 6 + 1) (nI r)))), (aL, .inl (cI, 16, .inl lk))] H := hP
  have hD : va_D A [(h0, .inr (3, [.ref aP, .ref aL, .int (nI n)])), (aP, .inl (cI, 600, .inl (upd (upd pa (n * 6) w) (n * 6 + 1) (nI r)))), (aL, .inl (cI, 16, .inl lk))] := hD
  refine lv_aload_n hx hb d_LO_keep_27 rfl (lv_at hl 1 rfl) ?_
  refine va_get (D := (dC, dI)) (ci := 3) (v := .ref aP) (C := R_LO) (T := T_LO) (N := 3) hx hb hts iLO hown hK hP 0 rfl rfl 0 (by decide) (hts _ (wb_LO_keep _ b_181)) (fun _ h9 => h9) rfl d_LO_keep_28 ?_
  refine lv_iload hx hb d_LO_keep_31 (lv_at hl 0 rfl) ?_
  refine lv_iconst (v := 2) hx hb d_LO_keep_33 (by decide) ?_
  refine lv_iadd hx hb d_LO_keep_34 ?_
  refine vz_top (y := nI (n * 6 + 2)) (nI_add (n * 6) 2) ?_
  refine lv_iload_n hx hb d_LO_keep_35 rfl (lv_at hl 4 rfl) ?_
  refine vz_iast (k := (n * 6 + 2)) hx hb hK hP hD hS 1 0 rfl rfl (by omega) (by decide) d_LO_keep_36 (fun H locs hP hD hS => ?_)
  have hP : va_P (dC, dI) vwCl [(h0, .inr (3, [.ref aP, .ref aL, .int (nI n)])), (aP, .inl (cI, 600, .inl (upd (upd (upd pa (n * 6) w) (n * 6 + 1) (nI r)) (n * 6 + 2) f))), (aL, .inl (cI, 16, .inl lk))] H := hP
  have hD : va_D A [(h0, .inr (3, [.ref aP, .ref aL, .int (nI n)])), (aP, .inl (cI, 600, .inl (upd (upd (upd pa (n * 6) w) (n * 6 + 1) (nI r)) (n * 6 + 2) f))), (aL, .inl (cI, 16, .inl lk))] := hD
  refine lv_aload_n hx hb d_LO_keep_37 rfl (lv_at hl 1 rfl) ?_
  refine va_get (D := (dC, dI)) (ci := 3) (v := .ref aP) (C := R_LO) (T := T_LO) (N := 3) hx hb hts iLO hown hK hP 0 rfl rfl 0 (by decide) (hts _ (wb_LO_keep _ b_181)) (fun _ h9 => h9) rfl d_LO_keep_38 ?_
  refine lv_iload hx hb d_LO_keep_41 (lv_at hl 0 rfl) ?_
  refine lv_iconst (v := 3) hx hb d_LO_keep_43 (by decide) ?_
  refine lv_iadd hx hb d_LO_keep_44 ?_
  refine vz_top (y := nI (n * 6 + 3)) (nI_add (n * 6) 3) ?_
  refine lv_iload hx hb d_LO_keep_45 (lv_at hl 5 rfl) ?_
  refine vz_iast (k := (n * 6 + 3)) hx hb hK hP hD hS 1 0 rfl rfl (by omega) (by decide) d_LO_keep_47 (fun H locs hP hD hS => ?_)
  have hP : va_P (dC, dI) vwCl [(h0, .inr (3, [.ref aP, .ref aL, .int (nI n)])), (aP, .inl (cI, 600, .inl (upd (upd (upd (upd pa (n * 6) w) (n * 6 + 1) (nI r)) (n * 6 + 2) f) (n * 6 + 3) q))), (aL, .inl (cI, 16, .inl lk))] H := hP
  have hD : va_D A [(h0, .inr (3, [.ref aP, .ref aL, .int (nI n)])), (aP, .inl (cI, 600, .inl (upd (upd (upd (upd pa (n * 6) w) (n * 6 + 1) (nI r)) (n * 6 + 2) f) (n * 6 + 3) q))), (aL, .inl (cI, 16, .inl lk))] := hD
  refine lv_aload_n hx hb d_LO_keep_48 rfl (lv_at hl 1 rfl) ?_
  refine va_get (D := (dC, dI)) (ci := 3) (v := .ref aP) (C := R_LO) (T := T_LO) (N := 3) hx hb hts iLO hown hK hP 0 rfl rfl 0 (by decide) (hts _ (wb_LO_keep _ b_181)) (fun _ h9 => h9) rfl d_LO_keep_49 ?_
  refine lv_iload hx hb d_LO_keep_52 (lv_at hl 0 rfl) ?_
  refine lv_iconst (v := 4) hx hb d_LO_keep_54 (by decide) ?_
  refine lv_iadd hx hb d_LO_keep_55 ?_
  refine vz_top (y := nI (n * 6 + 4)) (nI_add (n * 6) 4) ?_
  refine lv_iload hx hb d_LO_keep_56 (lv_at hl 6 rfl) ?_
  refine vz_iast (k := (n * 6 + 4)) hx hb hK hP hD hS 1 0 rfl rfl (by omega) (by decide) d_LO_keep_58 (fun H locs hP hD hS => ?_)
  have hP : va_P (dC, dI) vwCl [(h0, .inr (3, [.ref aP, .ref aL, .int (nI n)])), (aP, .inl (cI, 600, .inl (upd (upd (upd (upd (upd pa (n * 6) w) (n * 6 + 1) (nI r)) (n * 6 + 2) f) (n * 6 + 3) q) (n * 6 + 4) d))), (aL, .inl (cI, 16, .inl lk))] H := hP
  have hD : va_D A [(h0, .inr (3, [.ref aP, .ref aL, .int (nI n)])), (aP, .inl (cI, 600, .inl (upd (upd (upd (upd (upd pa (n * 6) w) (n * 6 + 1) (nI r)) (n * 6 + 2) f) (n * 6 + 3) q) (n * 6 + 4) d))), (aL, .inl (cI, 16, .inl lk))] := hD
  refine lv_aload_n hx hb d_LO_keep_59 rfl (lv_at hl 1 rfl) ?_
  refine va_get (D := (dC, dI)) (ci := 3) (v := .ref aP) (C := R_LO) (T := T_LO) (N := 3) hx hb hts iLO hown hK hP 0 rfl rfl 0 (by decide) (hts _ (wb_LO_keep _ b_181)) (fun _ h9 => h9) rfl d_LO_keep_60 ?_
  refine lv_iload hx hb d_LO_keep_63 (lv_at hl 0 rfl) ?_
  refine lv_iconst (v := 5) hx hb d_LO_keep_65 (by decide) ?_
  refine lv_iadd hx hb d_LO_keep_66 ?_
  refine vz_top (y := nI (n * 6 + 5)) (nI_add (n * 6) 5) ?_
  refine lv_iload hx hb d_LO_keep_67 (lv_at hl 7 rfl) ?_
  refine vz_iast (k := (n * 6 + 5)) hx hb hK hP hD hS 1 0 rfl rfl (by omega) (by decide) d_LO_keep_69 (fun H locs hP hD hS => ?_)
  have hP : va_P (dC, dI) vwCl [(h0, .inr (3, [.ref aP, .ref aL, .int (nI n)])), (aP, .inl (cI, 600, .inl (upd (upd (upd (upd (upd (upd pa (n * 6) w) (n * 6 + 1) (nI r)) (n * 6 + 2) f) (n * 6 + 3) q) (n * 6 + 4) d) (n * 6 + 5) g))), (aL, .inl (cI, 16, .inl lk))] H := hP
  have hD : va_D A [(h0, .inr (3, [.ref aP, .ref aL, .int (nI n)])), (aP, .inl (cI, 600, .inl (upd (upd (upd (upd (upd (upd pa (n * 6) w) (n * 6 + 1) (nI r)) (n * 6 + 2) f) (n * 6 + 3) q) (n * 6 + 4) d) (n * 6 + 5) g))), (aL, .inl (cI, 16, .inl lk))] := hD
  refine lv_aload_n hx hb d_LO_keep_70 rfl (lv_at hl 1 rfl) ?_
  refine va_get (D := (dC, dI)) (ci := 3) (v := .ref aL) (C := R_LO) (T := T_LO) (N := 3) hx hb hts iLO hown hK hP 0 rfl rfl 1 (by decide) (hts _ (wb_LO_keep _ b_182)) (fun _ h9 => h9) rfl d_LO_keep_71 ?_
  refine lv_iload_n hx hb d_LO_keep_74 rfl (lv_at hl 3 rfl) ?_
  refine lv_dup2_11 hx hb d_LO_keep_75 rfl rfl ?_
  refine vz_iald (k := r) hx hb hK hP 2 0 rfl rfl (by omega) (by decide) d_LO_keep_76 ?_
  refine lv_iconst (v := 1) hx hb d_LO_keep_77 (by decide) ?_
  refine lv_iload_n hx hb d_LO_keep_78 rfl (lv_at hl 2 rfl) ?_
  refine lv_ishl hx hb d_LO_keep_79 ?_
  refine lv_ior hx hb d_LO_keep_80 ?_
  refine vz_iast (k := r) hx hb hK hP hD hS 2 0 rfl rfl (by omega) (by decide) d_LO_keep_81 (fun H locs hP hD hS => ?_)
  have hP : va_P (dC, dI) vwCl [(h0, .inr (3, [.ref aP, .ref aL, .int (nI n)])), (aP, .inl (cI, 600, .inl (upd (upd (upd (upd (upd (upd pa (n * 6) w) (n * 6 + 1) (nI r)) (n * 6 + 2) f) (n * 6 + 3) q) (n * 6 + 4) d) (n * 6 + 5) g))), (aL, .inl (cI, 16, .inl (upd lk r ((lk r) ||| (1 <<< (w &&& 31))))))] H := hP
  have hD : va_D A [(h0, .inr (3, [.ref aP, .ref aL, .int (nI n)])), (aP, .inl (cI, 600, .inl (upd (upd (upd (upd (upd (upd pa (n * 6) w) (n * 6 + 1) (nI r)) (n * 6 + 2) f) (n * 6 + 3) q) (n * 6 + 4) d) (n * 6 + 5) g))), (aL, .inl (cI, 16, .inl (upd lk r ((lk r) ||| (1 <<< (w &&& 31))))))] := hD
  refine lv_aload_n hx hb d_LO_keep_82 rfl (lv_at hl 1 rfl) ?_
  refine lv_dup hx hb d_LO_keep_83 rfl ?_
  refine va_get (D := (dC, dI)) (ci := 3) (v := .int (nI n)) (C := R_LO) (T := T_LO) (N := 3) hx hb hts iLO hown hK hP 0 rfl rfl 2 (by decide) (hts _ (wb_LO_keep _ b_183)) (fun _ h9 => h9) rfl d_LO_keep_84 ?_
  refine lv_iconst (v := 1) hx hb d_LO_keep_87 (by decide) ?_
  refine lv_iadd hx hb d_LO_keep_88 ?_
  refine vz_top (y := nI (n + 1)) (nI_1 n) ?_
  refine va_put (D := (dC, dI)) (ci := 3) (v := .int (nI (n + 1))) (ty := .int) (C := R_LO) (T := T_LO) (N := 3) hx hb hts iLO ty_LO tyok_LO nm_LO hown hK hP hD hS 0 rfl rfl 2 (by decide) (hts _ (wb_LO_keep _ b_183)) (fun _ h9 => h9) rfl rfl rfl rfl (Nat.le_of_ble_eq_true rfl) d_LO_keep_89 (fun H locs hP hD hS => ?_)
  have hP : va_P (dC, dI) vwCl [(h0, .inr (3, [.ref aP, .ref aL, .int (nI (n + 1))])), (aP, .inl (cI, 600, .inl (upd (upd (upd (upd (upd (upd pa (n * 6) w) (n * 6 + 1) (nI r)) (n * 6 + 2) f) (n * 6 + 3) q) (n * 6 + 4) d) (n * 6 + 5) g))), (aL, .inl (cI, 16, .inl (upd lk r ((lk r) ||| (1 <<< (w &&& 31))))))] H := hP
  have hD : va_D A [(h0, .inr (3, [.ref aP, .ref aL, .int (nI (n + 1))])), (aP, .inl (cI, 600, .inl (upd (upd (upd (upd (upd (upd pa (n * 6) w) (n * 6 + 1) (nI r)) (n * 6 + 2) f) (n * 6 + 3) q) (n * 6 + 4) d) (n * 6 + 5) g))), (aL, .inl (cI, 16, .inl (upd lk r ((lk r) ||| (1 <<< (w &&& 31))))))] := hD
  have hP9 := hP.sub (ws' := [(h0, .inr (3, [.ref aP, .ref aL, .int (nI (n + 1))])), (aP, .inl (cI, 600, .inl (upd (upd (upd (upd (upd (upd pa (n * 6) w) (n * 6 + 1) (nI r)) (n * 6 + 2) f) (n * 6 + 3) q) (n * 6 + 4) d) (n * 6 + 5) g))), (aL, .inl (cI, 16, .inl (upd lk r ((lk r) ||| (1 <<< (w &&& 31))))))]) [0, 1, 2] rfl
  have hD9 := hD.sub (ws' := [(h0, .inr (3, [.ref aP, .ref aL, .int (nI (n + 1))])), (aP, .inl (cI, 600, .inl (upd (upd (upd (upd (upd (upd pa (n * 6) w) (n * 6 + 1) (nI r)) (n * 6 + 2) f) (n * 6 + 3) q) (n * 6 + 4) d) (n * 6 + 5) g))), (aL, .inl (cI, 16, .inl (upd lk r ((lk r) ||| (1 <<< (w &&& 31))))))]) [0, 1, 2] (by decide) rfl
  exact W.vret hx hb hr (fun t ht hW => ⟨⟨(), rfl, trivial, by rw [ht]; exact hP9, va_K.moved hW.alike hK, hD9⟩, hS.F ht⟩) hS.2.2 d_LO_keep_92

set_option maxHeartbeats 4000000 in
set_option maxRecDepth 100000 in
/-- Looks.part -/
theorem c_LO_part (l : Launch) (dC : Nat → ClassId) (dI : Nat → Nat → Nat) (cI : ClassId) (h0 aP aL : Nat) (pa lk : Nat → Int32) (n : Nat) (hn : n ≤ 100) (k j : Nat) (hk : k < 100) (hj : j < 6) : Met l y_LO_part ws_LO_part ({ frames := 0, cells := 0, slots := 0, locals := 0 }) (va_Pc [.ref h0, .int (nI k), .int (nI j)] (fun U => va_P (dC, dI) vwCl [(h0, .inr (3, [.ref aP, .ref aL, .int (nI n)])), (aP, .inl (cI, 600, .inl pa)), (aL, .inl (cI, 16, .inl lk))] U.heap ∧ va_K (dC, dI) vwCl [(cI, .int)] U)) (va_Qi (fun (res : Int32) (_ : Unit) => res = pa (k * 6 + j)) (fun _ _ => True) (fun _ => False)) 0 0 (fun _ => False) := by
  refine Met.ofW (cc := k_LO_part) (maxL := 3) (ret := (some .int)) (by decide) rfl ?_
  intro p e s m args below meth c s₁ B hml hv
  obtain ⟨rfl, hP, hK⟩ := hv
  have hx := B.exec
  have hb := B.bytes
  have hr := B.returns
  have hts := atoms_spec (ws := ws_LO_part) B.pre
  have hown : s.vm.findClass R_LO = some m.cls := findClass_of_methodNamed B.named
  have hlocks := B.notSynchronized
  have hS : va_S (fun _ => False) s.heap s.heap [] := va_S.rf
  have hP : va_P (dC, dI) vwCl [(h0, .inr (3, [.ref aP, .ref aL, .int (nI n)])), (aP, .inl (cI, 600, .inl pa)), (aL, .inl (cI, 16, .inl lk))] s.heap := hP
  have iLO : ∀ w ∈ u_ws R_LO T_LO 3, w ∈ ws_LO_part := fun w h => wb_LO_part w (in_LO w h)
  have hl := lv_entry ([.ref h0, .int (nI k), .int (nI j)]) (n := 3) (Nat.le_of_ble_eq_true rfl)
  rw [lg_entry_eq]
  generalize (lg_sl ([.ref h0, .int (nI k), .int (nI j)]) ++ List.replicate (3 - (lg_sl ([.ref h0, .int (nI k), .int (nI j)])).length) Slot.unset).toArray = ls at hl ⊢
  have hl : lv_has ls 3 [(0, .ref h0), (1, .int (nI k)), (2, .int (nI j))] := hl
  refine lv_aload_n hx hb d_LO_part_0 rfl (lv_at hl 0 rfl) ?_
  refine va_get (D := (dC, dI)) (ci := 3) (v := .ref aP) (C := R_LO) (T := T_LO) (N := 3) hx hb hts iLO hown hK hP 0 rfl rfl 0 (by decide) (hts _ (wb_LO_part _ b_181)) (fun _ h9 => h9) rfl d_LO_part_1 ?_
  refine lv_iload_n hx hb d_LO_part_4 rfl (lv_at hl 1 rfl) ?_
  refine lv_bipush (v := 6) hx hb d_LO_part_5 (by decide) ?_
  refine lv_imul hx hb d_LO_part_7 ?_
  refine lv_iload_n hx hb d_LO_part_8 rfl (lv_at hl 2 rfl) ?_
  refine lv_iadd hx hb d_LO_part_9 ?_
  refine vz_top (y := nI (k * 6 + j)) (by rw [show nI k * 6 = nI (k * 6) from pk_mul k 6, nI_add]) ?_
  refine vz_iald (k := (k * 6 + j)) hx hb hK hP 1 0 rfl rfl (by omega) (by decide) d_LO_part_10 ?_
  exact W.iret (v := pa (k * 6 + j)) hx hb hr (fun t ht hW => ⟨⟨pa (k * 6 + j), (), rfl, rfl, trivial⟩, hS.F ht⟩) hS.2.2 d_LO_part_11

/-- the k-th set bit of bs, b before w, d bits left -/
def lookN (bs k : Int32) : Nat → Nat → Int32 → Int32
  | _, 0, _ => -1
  | w, d + 1, b => if bs &&& ((1 : Int32) <<< (nI w &&& 31)) = 0 then lookN bs k (w + 1) d b else if b = k then nI w else lookN bs k (w + 1) d (b + 1)

set_option maxHeartbeats 4000000 in
set_option maxRecDepth 100000 in
theorem lp_LO_looker_5 {p : Program} {l : Launch} {e : Env} {R : Room} {s : State} {m : MethodId} {args : Array Value} {below : List Frame} {meth : Method} {c : Code} {cells slots : Nat} {Q : State → Prop} {A : Nat → Prop} {H0 : Heap} (dC : Nat → ClassId) (dI : Nat → Nat → Nat) (cI : ClassId) (h0 aP aL : Nat) (pa lk : Nat → Int32) (n : Nat) (r : Nat) (hr16 : r < 16) (k : Int32)  (hx : p.tables.exec = Jvm.exec) (hb : c.code = k_LO_looker) (hml : c.maxLocals = 5) (hts : ∀ w ∈ ws_LO_looker, w.before args s = true) (hown : s.vm.findClass R_LO = some m.cls) (hK : va_K (dC, dI) vwCl [(cI, .int)] s) (kx43 : (lookN (lk r) k 0 12 0 = -1) → ∀ (H : Heap) (locs : List Loc), va_P (dC, dI) vwCl [(h0, .inr (3, [.ref aP, .ref aL, .int (nI n)])), (aP, .inl (cI, 600, .inl pa)), (aL, .inl (cI, 16, .inl lk))] H → va_S A H0 H locs → ∀ ls : Array Slot, lv_has ls 5 [(0, .ref h0)] → W p l e R s m args below meth c H locs cells slots Q (F0 m 43 ls [])) (kx31 : ∀ (w : Nat), (lookN (lk r) k 0 12 0 = nI w) → ∀ (H : Heap) (locs : List Loc), va_P (dC, dI) vwCl [(h0, .inr (3, [.ref aP, .ref aL, .int (nI n)])), (aP, .inl (cI, 600, .inl pa)), (aL, .inl (cI, 16, .inl lk))] H → va_S A H0 H locs → ∀ ls : Array Slot, lv_has ls 5 [(4, .int (nI w))] → W p l e R s m args below meth c H locs cells slots Q (F0 m 31 ls [])) : ∀ (N : Nat), ∀ (w : Nat), ∀ (b : Int32), 12 + 1 ≤ w + N → (w ≤ 12) → (lookN (lk r) k 0 12 0 = lookN (lk r) k w (12 - w) b) → ∀ (H : Heap) (locs : List Loc), va_P (dC, dI) vwCl [(h0, .inr (3, [.ref aP, .ref aL, .int (nI n)])), (aP, .inl (cI, 600, .inl pa)), (aL, .inl (cI, 16, .inl lk))] H → va_S A H0 H locs → ∀ ls : Array Slot, lv_has ls 5 [(4, .int (nI w)), (3, .int b), (0, .ref h0), (1, .int (nI r)), (2, .int k)] → W p l e R s m args below meth c H locs cells slots Q (F0 m 5 ls []) := by
  have iLO : ∀ w ∈ u_ws R_LO T_LO 3, w ∈ ws_LO_looker := fun w h => wb_LO_looker w (in_LO w h)
  intro N
  induction N with
  | zero =>
    intro w b hme hk hv
    exact absurd hme (by omega)
  | succ N ih =>
    intro w b hme hk hv H locs hP hS ls hl
    refine lv_iload hx hb d_LO_looker_5 (lv_at hl 0 rfl) ?_
    refine lv_bipush (v := 12) hx hb d_LO_looker_7 (by decide) ?_
    refine lv_icmp_ge (tgt := 43) hx hb d_LO_looker_9 (by decide) (fun c9 => ?_) (fun c9 => ?_)
    · have hge : 12 ≤ w := (nI_leI (show 12 < 2147483648 by omega) (show w < 2147483648 by omega)).mp c9
      exact kx43 (by rw [hv, show w = 12 by omega]; rfl) _ _ hP hS ls (lv_sub hl [2] rfl)
    · have hlt : w < 12 := Nat.lt_of_not_le (mt (nI_leI (show 12 < 2147483648 by omega) (show w < 2147483648 by omega)).mpr c9)
      rw [show 12 - w = (12 - (w + 1)) + 1 by omega] at hv
      refine lv_aload_n hx hb d_LO_looker_12 rfl (lv_at hl 2 rfl) ?_
      refine va_get (D := (dC, dI)) (ci := 3) (v := .ref aL) (C := R_LO) (T := T_LO) (N := 3) hx hb hts iLO hown hK hP 0 rfl rfl 1 (by decide) (hts _ (wb_LO_looker _ b_182)) (fun _ h9 => h9) rfl d_LO_looker_13 ?_
      refine lv_iload_n hx hb d_LO_looker_16 rfl (lv_at hl 3 rfl) ?_
      refine vz_iald (k := r) hx hb hK hP 2 0 rfl rfl (by omega) (by decide) d_LO_looker_17 ?_
      refine lv_iconst (v := 1) hx hb d_LO_looker_18 (by decide) ?_
      refine lv_iload hx hb d_LO_looker_19 (lv_at hl 0 rfl) ?_
      refine lv_ishl hx hb d_LO_looker_21 ?_
      refine lv_iand hx hb d_LO_looker_22 ?_
      refine lv_if_eq (tgt := 37) hx hb d_LO_looker_23 (by decide) (fun c23 => ?_) (fun c23 => ?_)
      · refine lv_iinc (v := nI (w + 1)) (lv' := [(4, .int (nI (w + 1))), (3, .int b), (0, .ref h0), (1, .int (nI r)), (2, .int k)]) hx hb d_LO_looker_37 hl (k := 0) rfl (nI_1 w) (by decide) rfl (fun ls hl => ?_)
        refine lv_goto (tgt := 5) hx hb d_LO_looker_40 (by decide) ?_
        exact ih (w + 1) b (by omega) (by omega) (by rw [hv]; simp [lookN, c23]) _ _ hP hS ls (lv_sub hl [0, 1, 2, 3, 4] rfl)
      · refine lv_iload_n hx hb d_LO_looker_26 rfl (lv_at hl 1 rfl) ?_
        refine lv_iload_n hx hb d_LO_looker_27 rfl (lv_at hl 4 rfl) ?_
        refine lv_icmp_ne (tgt := 34) hx hb d_LO_looker_28 (by decide) (fun c28 => ?_) (fun c28 => ?_)
        · refine lv_iinc (v := b + 1) (lv' := [(3, .int (b + 1)), (4, .int (nI w)), (0, .ref h0), (1, .int (nI r)), (2, .int k)]) hx hb d_LO_looker_34 hl (k := 1) rfl (rfl) (by decide) rfl (fun ls hl => ?_)
          refine lv_iinc (v := nI (w + 1)) (lv' := [(4, .int (nI (w + 1))), (3, .int (b + 1)), (0, .ref h0), (1, .int (nI r)), (2, .int k)]) hx hb d_LO_looker_37 hl (k := 1) rfl (nI_1 w) (by decide) rfl (fun ls hl => ?_)
          refine lv_goto (tgt := 5) hx hb d_LO_looker_40 (by decide) ?_
          exact ih (w + 1) (b + 1) (by omega) (by omega) (by rw [hv]; simp [lookN, c23, c28]) _ _ hP hS ls (lv_sub hl [0, 1, 2, 3, 4] rfl)
        · exact kx31 w (by rw [hv]; simp [lookN, c23, c28]) _ _ hP hS ls (lv_sub hl [0] rfl)
set_option maxHeartbeats 4000000 in
set_option maxRecDepth 100000 in
/-- Looks.looker -/
theorem c_LO_looker (l : Launch) (dC : Nat → ClassId) (dI : Nat → Nat → Nat) (cI : ClassId) (h0 aP aL : Nat) (pa lk : Nat → Int32) (n : Nat) (r : Nat) (hr16 : r < 16) (k : Int32) : Met l y_LO_looker ws_LO_looker ({ frames := 0, cells := 0, slots := 0, locals := 0 }) (va_Pc [.ref h0, .int (nI r), .int k] (fun U => va_P (dC, dI) vwCl [(h0, .inr (3, [.ref aP, .ref aL, .int (nI n)])), (aP, .inl (cI, 600, .inl pa)), (aL, .inl (cI, 16, .inl lk))] U.heap ∧ va_K (dC, dI) vwCl [(cI, .int)] U)) (va_Qi (fun (res : Int32) (_ : Unit) => res = lookN (lk r) k 0 12 0) (fun _ _ => True) (fun _ => False)) 0 0 (fun _ => False) := by
  refine Met.ofW (cc := k_LO_looker) (maxL := 5) (ret := (some .int)) (by decide) rfl ?_
  intro p e s m args below meth c s₁ B hml hv
  obtain ⟨rfl, hP, hK⟩ := hv
  have hx := B.exec
  have hb := B.bytes
  have hr := B.returns
  have hts := atoms_spec (ws := ws_LO_looker) B.pre
  have hown : s.vm.findClass R_LO = some m.cls := findClass_of_methodNamed B.named
  have hlocks := B.notSynchronized
  have hS : va_S (fun _ => False) s.heap s.heap [] := va_S.rf
  have hP : va_P (dC, dI) vwCl [(h0, .inr (3, [.ref aP, .ref aL, .int (nI n)])), (aP, .inl (cI, 600, .inl pa)), (aL, .inl (cI, 16, .inl lk))] s.heap := hP
  have iLO : ∀ w ∈ u_ws R_LO T_LO 3, w ∈ ws_LO_looker := fun w h => wb_LO_looker w (in_LO w h)
  have hl := lv_entry ([.ref h0, .int (nI r), .int k]) (n := 5) (Nat.le_of_ble_eq_true rfl)
  rw [lg_entry_eq]
  generalize (lg_sl ([.ref h0, .int (nI r), .int k]) ++ List.replicate (5 - (lg_sl ([.ref h0, .int (nI r), .int k])).length) Slot.unset).toArray = ls at hl ⊢
  have hl : lv_has ls 5 [(0, .ref h0), (1, .int (nI r)), (2, .int k)] := hl
  refine lv_iconst (v := 0) hx hb d_LO_looker_0 (by decide) ?_
  refine lv_istore_n (lv' := [(3, .int 0), (0, .ref h0), (1, .int (nI r)), (2, .int k)]) hx hb d_LO_looker_1 rfl hl (by decide) rfl (fun ls hl => ?_)
  refine lv_iconst (v := 0) hx hb d_LO_looker_2 (by decide) ?_
  refine lv_istore (lv' := [(4, .int 0), (3, .int 0), (0, .ref h0), (1, .int (nI r)), (2, .int k)]) hx hb d_LO_looker_3 hl (by decide) rfl (fun ls hl => ?_)
  refine lp_LO_looker_5 dC dI cI h0 aP aL pa lk n r hr16 k hx hb hml hts hown hK (fun hv H locs hP hS ls hl => ?_) (fun w hv H locs hP hS ls hl => ?_) (12 + 1) 0 0 (by omega) (Nat.zero_le _) (rfl) _ _ hP hS ls (lv_sub hl [0, 1, 2, 3, 4] rfl)
  · refine lv_iconst (v := (-1)) hx hb d_LO_looker_43 (by decide) ?_
    exact W.iret (v := (-1)) hx hb hr (fun t ht hW => ⟨⟨(-1), (), rfl, hv.symm, trivial⟩, hS.F ht⟩) hS.2.2 d_LO_looker_44
  · refine lv_iload hx hb d_LO_looker_31 (lv_at hl 0 rfl) ?_
    exact W.iret (v := nI w) hx hb hr (fun t ht hW => ⟨⟨nI w, (), rfl, hv.symm, trivial⟩, hS.F ht⟩) hS.2.2 d_LO_looker_33

/-- the i-th sign of a word, and how many of its first i are none -/
def sgn (w : Int32) (i : Nat) : Int32 := (w.toUInt32 >>> (Int32.toUInt32 (nI (8 * i)) &&& Int32.toUInt32 31)).toInt32 &&& 255
def sgnC (w : Int32) : Nat → Nat
  | 0 => 0
  | i + 1 => if sgn w i = 0 then sgnC w i else sgnC w i + 1
/-- the pad behind the first i signs of a word -/
def appS (w : Int32) (f : Nat → Int32) (n : Nat) : Nat → (Nat → Int32) × Nat
  | 0 => (f, n)
  | i + 1 => if sgn w i = 0 then appS w f n i else if 40 ≤ (appS w f n i).2 then appS w f n i else (upd (appS w f n i).1 (appS w f n i).2 (vp_nar .char ((sgn w i).toUInt32 % 65536).toInt32), (appS w f n i).2 + 1)
theorem vz_inc8 (i : Nat) : nI (8 * i) + Int32.ofInt 8 = nI (8 * (i + 1)) := nI_add (8 * i) 8

set_option maxHeartbeats 4000000 in
set_option maxRecDepth 100000 in
theorem lp_PA_signsIn_4 {p : Program} {l : Launch} {e : Env} {R : Room} {s : State} {m : MethodId} {args : Array Value} {below : List Frame} {meth : Method} {c : Code} {cells slots : Nat} {Q : State → Prop} {A : Nat → Prop} {H0 : Heap} (dC : Nat → ClassId) (dI : Nat → Nat → Nat) (w : Int32)  (hx : p.tables.exec = Jvm.exec) (hb : c.code = k_PA_signsIn) (hml : c.maxLocals = 3) (hts : ∀ w ∈ ws_PA_signsIn, w.before args s = true) (hown : s.vm.findClass R_PA = some m.cls) (hK : va_K (dC, dI) vwCl [] s) (kx29 : ∀ (v : Nat), (v = sgnC w 4) → ∀ (H : Heap) (locs : List Loc), va_P (dC, dI) vwCl [] H → va_S A H0 H locs → ∀ ls : Array Slot, lv_has ls 3 [(1, .int (nI v))] → W p l e R s m args below meth c H locs cells slots Q (F0 m 29 ls [])) : ∀ (N : Nat), ∀ (i : Nat), ∀ (v : Nat), 4 + 1 ≤ i + N → (i ≤ 4) → (v = sgnC w i) → ∀ (H : Heap) (locs : List Loc), va_P (dC, dI) vwCl [] H → va_S A H0 H locs → ∀ ls : Array Slot, lv_has ls 3 [(2, .int (nI (8 * i))), (1, .int (nI v)), (0, .int w)] → W p l e R s m args below meth c H locs cells slots Q (F0 m 4 ls []) := by
  intro N
  induction N with
  | zero =>
    intro i v hme hk hv
    exact absurd hme (by omega)
  | succ N ih =>
    intro i v hme hk hv H locs hP hS ls hl
    refine lv_iload_n hx hb d_PA_signsIn_4 rfl (lv_at hl 0 rfl) ?_
    refine lv_bipush (v := 32) hx hb d_PA_signsIn_5 (by decide) ?_
    refine lv_icmp_ge (tgt := 29) hx hb d_PA_signsIn_7 (by decide) (fun c7 => ?_) (fun c7 => ?_)
    · have hge : 32 ≤ 8 * i := (nI_leI (show 32 < 2147483648 by omega) (show 8 * i < 2147483648 by omega)).mp c7
      exact kx29 v (by rw [hv, show i = 4 by omega]) _ _ hP hS ls (lv_sub hl [1] rfl)
    · have hlt : 8 * i < 32 := Nat.lt_of_not_le (mt (nI_leI (show 32 < 2147483648 by omega) (show 8 * i < 2147483648 by omega)).mpr c7)
      refine lv_iload_n hx hb d_PA_signsIn_10 rfl (lv_at hl 2 rfl) ?_
      refine lv_iload_n hx hb d_PA_signsIn_11 rfl (lv_at hl 0 rfl) ?_
      refine lv_iushr hx hb d_PA_signsIn_12 rfl ?_
      refine lv_sipush (v := 255) hx hb d_PA_signsIn_13 (by decide) ?_
      refine lv_iand hx hb d_PA_signsIn_16 ?_
      refine vz_top (y := sgn w i) (rfl) ?_
      refine lv_if_eq (tgt := 23) hx hb d_PA_signsIn_17 (by decide) (fun c17 => ?_) (fun c17 => ?_)
      · refine lv_iinc (v := nI (8 * (i + 1))) (lv' := [(2, .int (nI (8 * (i + 1)))), (1, .int (nI v)), (0, .int w)]) hx hb d_PA_signsIn_23 hl (k := 0) rfl (vz_inc8 i) (by decide) rfl (fun ls hl => ?_)
        refine lv_goto (tgt := 4) hx hb d_PA_signsIn_26 (by decide) ?_
        exact ih (i + 1) v (by omega) (by omega) (hv.trans (if_pos c17).symm) _ _ hP hS ls (lv_sub hl [0, 1, 2] rfl)
      · refine lv_iinc (v := nI (v + 1)) (lv' := [(1, .int (nI (v + 1))), (2, .int (nI (8 * i))), (0, .int w)]) hx hb d_PA_signsIn_20 hl (k := 1) rfl (nI_1 v) (by decide) rfl (fun ls hl => ?_)
        refine lv_iinc (v := nI (8 * (i + 1))) (lv' := [(2, .int (nI (8 * (i + 1)))), (1, .int (nI (v + 1))), (0, .int w)]) hx hb d_PA_signsIn_23 hl (k := 1) rfl (vz_inc8 i) (by decide) rfl (fun ls hl => ?_)
        refine lv_goto (tgt := 4) hx hb d_PA_signsIn_26 (by decide) ?_
        exact ih (i + 1) (v + 1) (by omega) (by omega) ((congrArg (· + 1) hv).trans (if_neg c17).symm) _ _ hP hS ls (lv_sub hl [0, 1, 2] rfl)
set_option maxHeartbeats 4000000 in
set_option maxRecDepth 100000 in
/-- Pad.signsIn -/
theorem c_PA_signsIn (l : Launch) (dC : Nat → ClassId) (dI : Nat → Nat → Nat) (w : Int32) : Met l y_PA_signsIn ws_PA_signsIn ({ frames := 0, cells := 0, slots := 0, locals := 0 }) (va_Pc [.int w] (fun U => va_P (dC, dI) vwCl [] U.heap ∧ va_K (dC, dI) vwCl [] U)) (va_Qi (fun (res : Int32) (_ : Unit) => res = nI (sgnC w 4)) (fun _ _ => True) (fun _ => False)) 0 0 (fun _ => False) := by
  refine Met.ofW (cc := k_PA_signsIn) (maxL := 3) (ret := (some .int)) (by decide) rfl ?_
  intro p e s m args below meth c s₁ B hml hv
  obtain ⟨rfl, hP, hK⟩ := hv
  have hx := B.exec
  have hb := B.bytes
  have hr := B.returns
  have hts := atoms_spec (ws := ws_PA_signsIn) B.pre
  have hown : s.vm.findClass R_PA = some m.cls := findClass_of_methodNamed B.named
  have hlocks := B.notSynchronized
  have hS : va_S (fun _ => False) s.heap s.heap [] := va_S.rf
  have hP : va_P (dC, dI) vwCl [] s.heap := hP
  have hl := lv_entry ([.int w]) (n := 3) (Nat.le_of_ble_eq_true rfl)
  rw [lg_entry_eq]
  generalize (lg_sl ([.int w]) ++ List.replicate (3 - (lg_sl ([.int w])).length) Slot.unset).toArray = ls at hl ⊢
  have hl : lv_has ls 3 [(0, .int w)] := hl
  refine lv_iconst (v := 0) hx hb d_PA_signsIn_0 (by decide) ?_
  refine lv_istore_n (lv' := [(1, .int 0), (0, .int w)]) hx hb d_PA_signsIn_1 rfl hl (by decide) rfl (fun ls hl => ?_)
  refine lv_iconst (v := 0) hx hb d_PA_signsIn_2 (by decide) ?_
  refine lv_istore_n (lv' := [(2, .int 0), (1, .int 0), (0, .int w)]) hx hb d_PA_signsIn_3 rfl hl (by decide) rfl (fun ls hl => ?_)
  refine lp_PA_signsIn_4 dC dI w hx hb hml hts hown hK (fun v hv H locs hP hS ls hl => ?_) (4 + 1) 0 0 (by omega) (Nat.zero_le _) (rfl) _ _ hP hS ls (lv_sub hl [0, 1, 2] rfl)
  · refine lv_iload_n hx hb d_PA_signsIn_29 rfl (lv_at hl 0 rfl) ?_
    exact W.iret (v := nI v) hx hb hr (fun t ht hW => ⟨⟨nI v, (), rfl, by rw [hv], trivial⟩, hS.F ht⟩) hS.2.2 d_PA_signsIn_30

set_option maxHeartbeats 4000000 in
set_option maxRecDepth 100000 in
theorem lp_PA_append_2 {p : Program} {l : Launch} {e : Env} {R : Room} {s : State} {m : MethodId} {args : Array Value} {below : List Frame} {meth : Method} {c : Code} {cells slots : Nat} {Q : State → Prop} {A : Nat → Prop} {H0 : Heap} (dC : Nat → ClassId) (dI : Nat → Nat → Nat) (cC : ClassId) (h0 aS : Nat) (f : Nat → Int32) (n : Nat) (hn : n ≤ 40) (w : Int32)  (hx : p.tables.exec = Jvm.exec) (hb : c.code = k_PA_append) (hml : c.maxLocals = 4) (hts : ∀ w ∈ ws_PA_append, w.before args s = true) (hown : s.vm.findClass R_PA = some m.cls) (hK : va_K (dC, dI) vwCl [(cC, .char)] s) (hA : ∀ q, H0.size ≤ q → A q) (kx56 : ∀ (g : Nat → Int32), ∀ (v : Nat), ((g, v) = appS w f n 4) → ∀ (H : Heap) (locs : List Loc), va_P (dC, dI) vwCl [(h0, .inr (4, [.ref aS, .int (nI v)])), (aS, .inl (cC, 40, .inl g))] H → va_D A [(h0, .inr (4, [.ref aS, .int (nI v)])), (aS, .inl (cC, 40, .inl g))] → va_S A H0 H locs → ∀ ls : Array Slot, lv_has ls 4 [(0, .ref h0)] → W p l e R s m args below meth c H locs cells slots Q (F0 m 56 ls [])) : ∀ (N : Nat), ∀ (i : Nat), ∀ (g : Nat → Int32), ∀ (v : Nat), 4 + 1 ≤ i + N → (i ≤ 4) → ((g, v) = appS w f n i) → (v ≤ 40) → ∀ (H : Heap) (locs : List Loc), va_P (dC, dI) vwCl [(h0, .inr (4, [.ref aS, .int (nI v)])), (aS, .inl (cC, 40, .inl g))] H → va_D A [(h0, .inr (4, [.ref aS, .int (nI v)])), (aS, .inl (cC, 40, .inl g))] → va_S A H0 H locs → ∀ ls : Array Slot, lv_has ls 4 [(2, .int (nI (8 * i))), (0, .ref h0), (1, .int w)] → W p l e R s m args below meth c H locs cells slots Q (F0 m 2 ls []) := by
  have iPA : ∀ w ∈ u_ws R_PA T_PA 2, w ∈ ws_PA_append := fun w h => wb_PA_append w (in_PA w h)
  intro N
  induction N with
  | zero =>
    intro i g v hme hk hv hv40
    exact absurd hme (by omega)
  | succ N ih =>
    intro i g v hme hk hv hv40 H locs hP hD hS ls hl
    refine lv_iload_n hx hb d_PA_append_2 rfl (lv_at hl 0 rfl) ?_
    refine lv_bipush (v := 32) hx hb d_PA_append_3 (by decide) ?_
    refine lv_icmp_ge (tgt := 56) hx hb d_PA_append_5 (by decide) (fun c5 => ?_) (fun c5 => ?_)
    · have hge : 32 ≤ 8 * i := (nI_leI (show 32 < 2147483648 by omega) (show 8 * i < 2147483648 by omega)).mp c5
      exact kx56 g v (by rw [hv, show i = 4 by omega]) _ _ hP hD hS ls (lv_sub hl [1] rfl)
    · have hlt : 8 * i < 32 := Nat.lt_of_not_le (mt (nI_leI (show 32 < 2147483648 by omega) (show 8 * i < 2147483648 by omega)).mpr c5)
      refine lv_iload_n hx hb d_PA_append_8 rfl (lv_at hl 2 rfl) ?_
      refine lv_iload_n hx hb d_PA_append_9 rfl (lv_at hl 0 rfl) ?_
      refine lv_iushr hx hb d_PA_append_10 rfl ?_
      refine lv_sipush (v := 255) hx hb d_PA_append_11 (by decide) ?_
      refine lv_iand hx hb d_PA_append_14 ?_
      refine vz_top (y := sgn w i) (rfl) ?_
      refine lv_istore_n (lv' := [(3, .int (sgn w i)), (2, .int (nI (8 * i))), (0, .ref h0), (1, .int w)]) hx hb d_PA_append_15 rfl hl (by decide) rfl (fun ls hl => ?_)
      refine lv_iload_n hx hb d_PA_append_16 rfl (lv_at hl 0 rfl) ?_
      refine lv_if_eq (tgt := 50) hx hb d_PA_append_17 (by decide) (fun c17 => ?_) (fun c17 => ?_)
      · refine lv_iinc (v := nI (8 * (i + 1))) (lv' := [(2, .int (nI (8 * (i + 1)))), (3, .int (sgn w i)), (0, .ref h0), (1, .int w)]) hx hb d_PA_append_50 hl (k := 1) rfl (vz_inc8 i) (by decide) rfl (fun ls hl => ?_)
        refine lv_goto (tgt := 2) hx hb d_PA_append_53 (by decide) ?_
        exact ih (i + 1) g v (by omega) (by omega) (hv.trans (if_pos c17).symm) (by omega) _ _ hP hD hS ls (lv_sub hl [0, 2, 3] rfl)
      · refine lv_aload_n hx hb d_PA_append_20 rfl (lv_at hl 2 rfl) ?_
        refine va_get (D := (dC, dI)) (ci := 4) (v := .int (nI v)) (C := R_PA) (T := T_PA) (N := 2) hx hb hts iPA hown hK hP 0 rfl rfl 1 (by decide) (hts _ (wb_PA_append _ b_37)) (fun _ h9 => h9) rfl d_PA_append_21 ?_
        refine lv_bipush (v := 40) hx hb d_PA_append_24 (by decide) ?_
        refine lv_icmp_ge (tgt := 50) hx hb d_PA_append_26 (by decide) (fun c26 => ?_) (fun c26 => ?_)
        · have hge : 40 ≤ v := (nI_leI (show 40 < 2147483648 by omega) (show v < 2147483648 by omega)).mp c26
          refine lv_iinc (v := nI (8 * (i + 1))) (lv' := [(2, .int (nI (8 * (i + 1)))), (3, .int (sgn w i)), (0, .ref h0), (1, .int w)]) hx hb d_PA_append_50 hl (k := 1) rfl (vz_inc8 i) (by decide) rfl (fun ls hl => ?_)
          refine lv_goto (tgt := 2) hx hb d_PA_append_53 (by decide) ?_
          exact ih (i + 1) g v (by omega) (by omega) (hv.trans ((if_neg c17).trans (if_pos (by rw [← hv]; exact hge))).symm) (by omega) _ _ hP hD hS ls (lv_sub hl [0, 2, 3] rfl)
        · have hlt4 : v < 40 := Nat.lt_of_not_le (mt (nI_leI (show 40 < 2147483648 by omega) (show v < 2147483648 by omega)).mpr c26)
          refine lv_aload_n hx hb d_PA_append_29 rfl (lv_at hl 2 rfl) ?_
          refine va_get (D := (dC, dI)) (ci := 4) (v := .ref aS) (C := R_PA) (T := T_PA) (N := 2) hx hb hts iPA hown hK hP 0 rfl rfl 0 (by decide) (hts _ (wb_PA_append _ b_33)) (fun _ h9 => h9) rfl d_PA_append_30 ?_
          refine lv_aload_n hx hb d_PA_append_33 rfl (lv_at hl 2 rfl) ?_
          refine va_get (D := (dC, dI)) (ci := 4) (v := .int (nI v)) (C := R_PA) (T := T_PA) (N := 2) hx hb hts iPA hown hK hP 0 rfl rfl 1 (by decide) (hts _ (wb_PA_append _ b_37)) (fun _ h9 => h9) rfl d_PA_append_34 ?_
          refine lv_iload_n hx hb d_PA_append_37 rfl (lv_at hl 0 rfl) ?_
          refine lv_i2c hx hb d_PA_append_38 rfl ?_
          refine vz_cast (k := v) hx hb hK hP hD hS 1 0 rfl rfl (by omega) (by decide) d_PA_append_39 (fun H locs hP hD hS => ?_)
          have hP : va_P (dC, dI) vwCl [(h0, .inr (4, [.ref aS, .int (nI v)])), (aS, .inl (cC, 40, .inl (upd g v (vp_nar .char ((Int32.toUInt32 (sgn w i) % 65536).toInt32)))))] H := hP
          have hD : va_D A [(h0, .inr (4, [.ref aS, .int (nI v)])), (aS, .inl (cC, 40, .inl (upd g v (vp_nar .char ((Int32.toUInt32 (sgn w i) % 65536).toInt32)))))] := hD
          refine lv_aload_n hx hb d_PA_append_40 rfl (lv_at hl 2 rfl) ?_
          refine lv_dup hx hb d_PA_append_41 rfl ?_
          refine va_get (D := (dC, dI)) (ci := 4) (v := .int (nI v)) (C := R_PA) (T := T_PA) (N := 2) hx hb hts iPA hown hK hP 0 rfl rfl 1 (by decide) (hts _ (wb_PA_append _ b_37)) (fun _ h9 => h9) rfl d_PA_append_42 ?_
          refine lv_iconst (v := 1) hx hb d_PA_append_45 (by decide) ?_
          refine lv_iadd hx hb d_PA_append_46 ?_
          refine vz_top (y := nI (v + 1)) (nI_1 v) ?_
          refine va_put (D := (dC, dI)) (ci := 4) (v := .int (nI (v + 1))) (ty := .int) (C := R_PA) (T := T_PA) (N := 2) hx hb hts iPA ty_PA tyok_PA nm_PA hown hK hP hD hS 0 rfl rfl 1 (by decide) (hts _ (wb_PA_append _ b_37)) (fun _ h9 => h9) rfl rfl rfl rfl (Nat.le_of_ble_eq_true rfl) d_PA_append_47 (fun H locs hP hD hS => ?_)
          have hP : va_P (dC, dI) vwCl [(h0, .inr (4, [.ref aS, .int (nI (v + 1))])), (aS, .inl (cC, 40, .inl (upd g v (vp_nar .char ((Int32.toUInt32 (sgn w i) % 65536).toInt32)))))] H := hP
          have hD : va_D A [(h0, .inr (4, [.ref aS, .int (nI (v + 1))])), (aS, .inl (cC, 40, .inl (upd g v (vp_nar .char ((Int32.toUInt32 (sgn w i) % 65536).toInt32)))))] := hD
          refine lv_iinc (v := nI (8 * (i + 1))) (lv' := [(2, .int (nI (8 * (i + 1)))), (3, .int (sgn w i)), (0, .ref h0), (1, .int w)]) hx hb d_PA_append_50 hl (k := 1) rfl (vz_inc8 i) (by decide) rfl (fun ls hl => ?_)
          refine lv_goto (tgt := 2) hx hb d_PA_append_53 (by decide) ?_
          exact ih (i + 1) (upd g v (vp_nar .char ((Int32.toUInt32 (sgn w i) % 65536).toInt32))) (v + 1) (by omega) (by omega) (((if_neg c17).trans ((if_neg (by rw [← hv]; exact Nat.not_le.mpr hlt4)).trans (by rw [← hv]))).symm) (by omega) _ _ hP hD hS ls (lv_sub hl [0, 2, 3] rfl)
set_option maxHeartbeats 4000000 in
set_option maxRecDepth 100000 in
/-- Pad.append -/
theorem c_PA_append (l : Launch) (dC : Nat → ClassId) (dI : Nat → Nat → Nat) (sz : Nat) (cC : ClassId) (h0 aS : Nat) (f : Nat → Int32) (n : Nat) (hn : n ≤ 40) (w : Int32) : Met l y_PA_append ws_PA_append ({ frames := 0, cells := 0, slots := 0, locals := 0 }) (va_Pc [.ref h0, .int w] (fun U => U.heap.size = sz ∧ va_P (dC, dI) vwCl [(h0, .inr (4, [.ref aS, .int (nI n)])), (aS, .inl (cC, 40, .inl f))] U.heap ∧ va_K (dC, dI) vwCl [(cC, .char)] U ∧ va_D (fun _ => True) [(h0, .inr (4, [.ref aS, .int (nI n)])), (aS, .inl (cC, 40, .inl f))])) (va_Qv (fun (_ : Unit) => True) (fun _ t => va_P (dC, dI) vwCl [(h0, .inr (4, [.ref aS, .int (nI (appS w f n 4).2)])), (aS, .inl (cC, 40, .inl ((appS w f n 4).1)))] t.heap ∧ va_K (dC, dI) vwCl [(cC, .char)] t ∧ va_D (va_A [(h0, .inr (4, [.ref aS, .int (nI n)])), (aS, .inl (cC, 40, .inl f))] sz) [(h0, .inr (4, [.ref aS, .int (nI (appS w f n 4).2)])), (aS, .inl (cC, 40, .inl ((appS w f n 4).1)))]) (va_A [(h0, .inr (4, [.ref aS, .int (nI n)])), (aS, .inl (cC, 40, .inl f))] sz)) 0 0 (va_A [(h0, .inr (4, [.ref aS, .int (nI n)])), (aS, .inl (cC, 40, .inl f))] sz) := by
  refine Met.ofW (cc := k_PA_append) (maxL := 4) (ret := none) (by decide) rfl ?_
  intro p e s m args below meth c s₁ B hml hv
  obtain ⟨rfl, hsz, hP, hK, hD0⟩ := hv
  have hx := B.exec
  have hb := B.bytes
  have hr := B.returns
  have hts := atoms_spec (ws := ws_PA_append) B.pre
  have hown : s.vm.findClass R_PA = some m.cls := findClass_of_methodNamed B.named
  have hlocks := B.notSynchronized
  subst hsz
  have hD := hD0.self (sz := s.heap.size)
  generalize hAe : va_A [(h0, .inr (4, [.ref aS, .int (nI n)])), (aS, .inl (cC, 40, .inl f))] s.heap.size = A at hD ⊢
  have hA : ∀ q : Nat, s.heap.size ≤ q → A q := fun q h => by rw [← hAe]; exact Or.inr h
  have hS : va_S A s.heap s.heap [] := va_S.rf
  have hP : va_P (dC, dI) vwCl [(h0, .inr (4, [.ref aS, .int (nI n)])), (aS, .inl (cC, 40, .inl f))] s.heap := hP
  have iPA : ∀ w ∈ u_ws R_PA T_PA 2, w ∈ ws_PA_append := fun w h => wb_PA_append w (in_PA w h)
  have hl := lv_entry ([.ref h0, .int w]) (n := 4) (Nat.le_of_ble_eq_true rfl)
  rw [lg_entry_eq]
  generalize (lg_sl ([.ref h0, .int w]) ++ List.replicate (4 - (lg_sl ([.ref h0, .int w])).length) Slot.unset).toArray = ls at hl ⊢
  have hl : lv_has ls 4 [(0, .ref h0), (1, .int w)] := hl
  refine lv_iconst (v := 0) hx hb d_PA_append_0 (by decide) ?_
  refine lv_istore_n (lv' := [(2, .int 0), (0, .ref h0), (1, .int w)]) hx hb d_PA_append_1 rfl hl (by decide) rfl (fun ls hl => ?_)
  refine lp_PA_append_2 dC dI cC h0 aS f n hn w hx hb hml hts hown hK hA (fun g v hv H locs hP hD hS ls hl => ?_) (4 + 1) 0 f n (by omega) (Nat.zero_le _) (rfl) (hn) _ _ hP hD hS ls (lv_sub hl [0, 1, 2] rfl)
  · have hP9 := hP.sub (ws' := [(h0, .inr (4, [.ref aS, .int (nI v)])), (aS, .inl (cC, 40, .inl g))]) [0, 1] rfl
    have hD9 := hD.sub (ws' := [(h0, .inr (4, [.ref aS, .int (nI v)])), (aS, .inl (cC, 40, .inl g))]) [0, 1] (by decide) rfl
    have e9 : ([(h0, .inr (4, [.ref aS, .int (nI v)])), (aS, .inl (cC, 40, .inl g))] : va_W) = [(h0, .inr (4, [.ref aS, .int (nI (appS w f n 4).2)])), (aS, .inl (cC, 40, .inl ((appS w f n 4).1)))] := by rw [← hv]
    rw [e9] at hP9 hD9
    exact W.vret hx hb hr (fun t ht hW => ⟨⟨(), rfl, trivial, by rw [ht]; exact hP9, va_K.moved hW.alike hK, hD9⟩, hS.F ht⟩) hS.2.2 d_PA_append_56
