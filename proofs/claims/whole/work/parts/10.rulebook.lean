/-- the rules of the first k that suit: no fact of ms needed, no fact of fc barred -/
def suitN (nd br : Nat → Int32) (ms fc : Int32) : Nat → Int32
  | 0 => 0
  | k + 1 => if nd k &&& ms = 0 ∧ br k &&& fc = 0 then suitN nd br ms fc k ||| ((1 : Int32) <<< (nI k &&& 31)) else suitN nd br ms fc k

set_option maxHeartbeats 4000000 in
set_option maxRecDepth 100000 in
theorem lp_RB_suiting_12 {p : Program} {l : Launch} {e : Env} {R : Room} {s : State} {m : MethodId} {args : Array Value} {below : List Frame} {meth : Method} {c : Code} {cells slots : Nat} {Q : State → Prop} {A : Nat → Prop} {H0 : Heap} (dC : Nat → ClassId) (dI : Nat → Nat → Nat) (cI : ClassId) (h0 aN aB : Nat) (nd br : Nat → Int32) (n : Nat) (hn20 : n ≤ 20) (tl ab mk sh : Int32) (fc sc : Int32) (ms : Int32) (hx : p.tables.exec = Jvm.exec) (hb : c.code = k_RB_suiting) (hml : c.maxLocals = 6) (hts : ∀ w ∈ ws_RB_suiting, w.before args s = true) (hown : s.vm.findClass R_RB = some m.cls) (hK : va_K (dC, dI) vwCl [(cI, .int)] s) (kx59 : ∀ (v : Int32), (v = suitN nd br ms fc n) → ∀ (H : Heap) (locs : List Loc), va_P (dC, dI) vwCl [(h0, .inr (7, [.ref aN, .ref aB, .int (nI n), .int tl, .int ab, .int mk, .int sh])), (aN, .inl (cI, 20, .inl nd)), (aB, .inl (cI, 20, .inl br))] H → va_S A H0 H locs → ∀ ls : Array Slot, lv_has ls 6 [(3, .int v), (0, .ref h0)] → W p l e R s m args below meth c H locs cells slots Q (F0 m 59 ls [])) : ∀ (N : Nat), ∀ (k : Nat), ∀ (v : Int32), n + 1 ≤ k + N → (k ≤ n) → (v = suitN nd br ms fc k) → ∀ (H : Heap) (locs : List Loc), va_P (dC, dI) vwCl [(h0, .inr (7, [.ref aN, .ref aB, .int (nI n), .int tl, .int ab, .int mk, .int sh])), (aN, .inl (cI, 20, .inl nd)), (aB, .inl (cI, 20, .inl br))] H → va_S A H0 H locs → ∀ ls : Array Slot, lv_has ls 6 [(5, .int (nI k)), (4, .int ms), (3, .int v), (0, .ref h0), (1, .int fc), (2, .int sc)] → W p l e R s m args below meth c H locs cells slots Q (F0 m 12 ls []) := by
  have iRB : ∀ w ∈ u_ws R_RB T_RB 7, w ∈ ws_RB_suiting := fun w h => wb_RB_suiting w (in_RB w h)
  intro N
  induction N with
  | zero =>
    intro k v hn hk hv
    exact absurd hn (by omega)
  | succ N ih =>
    intro k v hn hk hv H locs hP hS ls hl
    refine lv_iload hx hb d_RB_suiting_12 (lv_at hl 0 rfl) ?_
    refine lv_aload_n hx hb d_RB_suiting_14 rfl (lv_at hl 3 rfl) ?_
    refine va_get (D := (dC, dI)) (ci := 7) (v := .int (nI n)) (C := R_RB) (T := T_RB) (N := 7) hx hb hts iRB hown hK hP 0 rfl rfl 2 (by decide) (hts _ (wb_RB_suiting _ b_87)) (fun _ h9 => h9) rfl d_RB_suiting_15 ?_
    refine lv_icmp_ge (tgt := 59) hx hb d_RB_suiting_18 (by decide) (fun c18 => ?_) (fun c18 => ?_)
    · have hkn : k = n := by
        have h1 := (nI_leI (show n < 2147483648 by omega) (show k < 2147483648 by omega)).mp c18
        omega
      exact kx59 v (by rw [hv, show k = n by omega]) _ _ hP hS ls (lv_sub hl [2, 3] rfl)
    · have hkn : k < n := by
        have h1 := mt (nI_leI (show n < 2147483648 by omega) (show k < 2147483648 by omega)).mpr c18
        omega
      refine lv_aload_n hx hb d_RB_suiting_21 rfl (lv_at hl 3 rfl) ?_
      refine va_get (D := (dC, dI)) (ci := 7) (v := .ref aN) (C := R_RB) (T := T_RB) (N := 7) hx hb hts iRB hown hK hP 0 rfl rfl 0 (by decide) (hts _ (wb_RB_suiting _ b_85)) (fun _ h9 => h9) rfl d_RB_suiting_22 ?_
      refine lv_iload hx hb d_RB_suiting_25 (lv_at hl 0 rfl) ?_
      refine vz_iald (k := k) hx hb hK hP 1 0 rfl rfl (by omega) (by decide) d_RB_suiting_27 ?_
      refine lv_iload hx hb d_RB_suiting_28 (lv_at hl 1 rfl) ?_
      refine lv_iand hx hb d_RB_suiting_30 ?_
      refine lv_if_ne (tgt := 53) hx hb d_RB_suiting_31 (by decide) (fun c31 => ?_) (fun c31 => ?_)
      · refine lv_iinc (v := nI (k + 1)) (lv' := [(5, .int (nI (k + 1))), (4, .int ms), (3, .int v), (0, .ref h0), (1, .int fc), (2, .int sc)]) hx hb d_RB_suiting_53 hl (k := 0) rfl (nI_1 k) (by decide) rfl (fun ls hl => ?_)
        refine lv_goto (tgt := 12) hx hb d_RB_suiting_56 (by decide) ?_
        exact ih (k + 1) v (by omega) (by omega) (by simp [suitN, hv, c31]) _ _ hP hS ls (lv_sub hl [0, 1, 2, 3, 4, 5] rfl)
      · refine lv_aload_n hx hb d_RB_suiting_34 rfl (lv_at hl 3 rfl) ?_
        refine va_get (D := (dC, dI)) (ci := 7) (v := .ref aB) (C := R_RB) (T := T_RB) (N := 7) hx hb hts iRB hown hK hP 0 rfl rfl 1 (by decide) (hts _ (wb_RB_suiting _ b_86)) (fun _ h9 => h9) rfl d_RB_suiting_35 ?_
        refine lv_iload hx hb d_RB_suiting_38 (lv_at hl 0 rfl) ?_
        refine vz_iald (k := k) hx hb hK hP 2 0 rfl rfl (by omega) (by decide) d_RB_suiting_40 ?_
        refine lv_iload_n hx hb d_RB_suiting_41 rfl (lv_at hl 4 rfl) ?_
        refine lv_iand hx hb d_RB_suiting_42 ?_
        refine lv_if_ne (tgt := 53) hx hb d_RB_suiting_43 (by decide) (fun c43 => ?_) (fun c43 => ?_)
        · refine lv_iinc (v := nI (k + 1)) (lv' := [(5, .int (nI (k + 1))), (4, .int ms), (3, .int v), (0, .ref h0), (1, .int fc), (2, .int sc)]) hx hb d_RB_suiting_53 hl (k := 0) rfl (nI_1 k) (by decide) rfl (fun ls hl => ?_)
          refine lv_goto (tgt := 12) hx hb d_RB_suiting_56 (by decide) ?_
          exact ih (k + 1) v (by omega) (by omega) (by simp [suitN, hv, c43]) _ _ hP hS ls (lv_sub hl [0, 1, 2, 3, 4, 5] rfl)
        · refine lv_iload_n hx hb d_RB_suiting_46 rfl (lv_at hl 2 rfl) ?_
          refine lv_iconst (v := 1) hx hb d_RB_suiting_47 (by decide) ?_
          refine lv_iload hx hb d_RB_suiting_48 (lv_at hl 0 rfl) ?_
          refine lv_ishl hx hb d_RB_suiting_50 ?_
          refine lv_ior hx hb d_RB_suiting_51 ?_
          refine lv_istore_n (lv' := [(3, .int (v ||| (1 <<< ((nI k) &&& 31)))), (5, .int (nI k)), (4, .int ms), (0, .ref h0), (1, .int fc), (2, .int sc)]) hx hb d_RB_suiting_52 rfl hl (by decide) rfl (fun ls hl => ?_)
          refine lv_iinc (v := nI (k + 1)) (lv' := [(5, .int (nI (k + 1))), (3, .int (v ||| (1 <<< ((nI k) &&& 31)))), (4, .int ms), (0, .ref h0), (1, .int fc), (2, .int sc)]) hx hb d_RB_suiting_53 hl (k := 1) rfl (nI_1 k) (by decide) rfl (fun ls hl => ?_)
          refine lv_goto (tgt := 12) hx hb d_RB_suiting_56 (by decide) ?_
          exact ih (k + 1) (v ||| (1 <<< ((nI k) &&& 31))) (by omega) (by omega) (by simp [suitN, hv, c31, c43]) _ _ hP hS ls (lv_sub hl [0, 2, 1, 3, 4, 5] rfl)
set_option maxHeartbeats 4000000 in
set_option maxRecDepth 100000 in
/-- RuleBook.suiting: the told rules that suit, as a set of bits; nothing is written -/
theorem c_RB_suiting (l : Launch) (dC : Nat → ClassId) (dI : Nat → Nat → Nat) (cI : ClassId) (h0 aN aB : Nat) (nd br : Nat → Int32) (n : Nat) (hn20 : n ≤ 20) (tl ab mk sh : Int32) (fc sc : Int32) : Met l y_RB_suiting ws_RB_suiting ({ frames := 0, cells := 0, slots := 0, locals := 0 }) (va_Pc [.ref h0, .int fc, .int sc] (fun U => va_P (dC, dI) vwCl [(h0, .inr (7, [.ref aN, .ref aB, .int (nI n), .int tl, .int ab, .int mk, .int sh])), (aN, .inl (cI, 20, .inl nd)), (aB, .inl (cI, 20, .inl br))] U.heap ∧ va_K (dC, dI) vwCl [(cI, .int)] U)) (va_Qi (fun (r : Int32) (_ : Unit) => r = suitN nd br (sc &&& (fc ^^^ (-1))) fc n &&& tl) (fun _ _ => True) (fun _ => False)) 0 0 (fun _ => False) := by
  refine Met.ofW (cc := k_RB_suiting) (maxL := 6) (ret := (some .int)) (by decide) rfl ?_
  intro p e s m args below meth c s₁ B hml hv
  obtain ⟨rfl, hP, hK⟩ := hv
  have hx := B.exec
  have hb := B.bytes
  have hr := B.returns
  have hts := atoms_spec (ws := ws_RB_suiting) B.pre
  have hown : s.vm.findClass R_RB = some m.cls := findClass_of_methodNamed B.named
  have hlocks := B.notSynchronized
  have hS : va_S (fun _ => False) s.heap s.heap [] := va_S.rf
  have hP : va_P (dC, dI) vwCl [(h0, .inr (7, [.ref aN, .ref aB, .int (nI n), .int tl, .int ab, .int mk, .int sh])), (aN, .inl (cI, 20, .inl nd)), (aB, .inl (cI, 20, .inl br))] s.heap := hP
  have iRB : ∀ w ∈ u_ws R_RB T_RB 7, w ∈ ws_RB_suiting := fun w h => wb_RB_suiting w (in_RB w h)
  have hl := lv_entry ([.ref h0, .int fc, .int sc]) (n := 6) (Nat.le_of_ble_eq_true rfl)
  rw [lg_entry_eq]
  generalize (lg_sl ([.ref h0, .int fc, .int sc]) ++ List.replicate (6 - (lg_sl ([.ref h0, .int fc, .int sc])).length) Slot.unset).toArray = ls at hl ⊢
  have hl : lv_has ls 6 [(0, .ref h0), (1, .int fc), (2, .int sc)] := hl
  refine lv_iconst (v := 0) hx hb d_RB_suiting_0 (by decide) ?_
  refine lv_istore_n (lv' := [(3, .int 0), (0, .ref h0), (1, .int fc), (2, .int sc)]) hx hb d_RB_suiting_1 rfl hl (by decide) rfl (fun ls hl => ?_)
  refine lv_iload_n hx hb d_RB_suiting_2 rfl (lv_at hl 3 rfl) ?_
  refine lv_iload_n hx hb d_RB_suiting_3 rfl (lv_at hl 2 rfl) ?_
  refine lv_iconst (v := (-1)) hx hb d_RB_suiting_4 (by decide) ?_
  refine lv_ixor hx hb d_RB_suiting_5 ?_
  refine lv_iand hx hb d_RB_suiting_6 ?_
  refine lv_topi (fun ms ems => ?_)
  refine lv_istore (lv' := [(4, .int ms), (3, .int 0), (0, .ref h0), (1, .int fc), (2, .int sc)]) hx hb d_RB_suiting_7 hl (by decide) rfl (fun ls hl => ?_)
  refine lv_iconst (v := 0) hx hb d_RB_suiting_9 (by decide) ?_
  refine lv_istore (lv' := [(5, .int 0), (4, .int ms), (3, .int 0), (0, .ref h0), (1, .int fc), (2, .int sc)]) hx hb d_RB_suiting_10 hl (by decide) rfl (fun ls hl => ?_)
  refine lp_RB_suiting_12 dC dI cI h0 aN aB nd br n hn20 tl ab mk sh fc sc ms hx hb hml hts hown hK (fun v hv H locs hP hS ls hl => ?_) (n + 1) 0 0 (by omega) (Nat.zero_le _) (rfl) _ _ hP hS ls (lv_sub hl [0, 1, 2, 3, 4, 5] rfl)
  · refine lv_iload_n hx hb d_RB_suiting_59 rfl (lv_at hl 0 rfl) ?_
    refine lv_aload_n hx hb d_RB_suiting_60 rfl (lv_at hl 1 rfl) ?_
    refine va_get (D := (dC, dI)) (ci := 7) (v := .int tl) (C := R_RB) (T := T_RB) (N := 7) hx hb hts iRB hown hK hP 0 rfl rfl 3 (by decide) (hts _ (wb_RB_suiting _ b_89)) (fun _ h9 => h9) rfl d_RB_suiting_61 ?_
    refine lv_iand hx hb d_RB_suiting_64 ?_
    exact W.iret (v := v &&& tl) hx hb hr (fun t ht hW => ⟨⟨v &&& tl, (), rfl, by rw [hv, ems], trivial⟩, hS.F ht⟩) hS.2.2 d_RB_suiting_65
