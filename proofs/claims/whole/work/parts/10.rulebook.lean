/-- the rules of the first k that suit: no fact of ms needed, no fact of fc barred -/
def suitN (nd br : Nat → Int32) (ms fc : Int32) : Nat → Int32
  | 0 => 0
  | k + 1 => if nd k &&& ms = 0 ∧ br k &&& fc = 0 then suitN nd br ms fc k ||| ((1 : Int32) <<< (nI k &&& 31)) else suitN nd br ms fc k

set_option maxHeartbeats 4000000 in
set_option maxRecDepth 100000 in
theorem lp_RB_suiting_12 {p : Program} {l : Launch} {e : Env} {R : Room} {s : State} {m : MethodId} {args : Array Value} {below : List Frame} {meth : Method} {c : Code} {cells slots : Nat} {Q : State → Prop} {A : Nat → Prop} {H0 : Heap} (dC : Nat → ClassId) (dI : Nat → Nat → Nat) (cI : ClassId) (h0 aN aB : Nat) (nd br : Nat → Int32) (n : Nat) (hn20 : n ≤ 20) (tl ab mk sh : Int32) (fc sc : Int32) (ms : Int32) (hx : p.tables.exec = Jvm.exec) (hb : c.code = k_RB_suiting) (hml : c.maxLocals = 6) (hts : ∀ w ∈ ws_RB_suiting, w.before args s = true) (hown : s.vm.findClass R_RB = some m.cls) (hK : va_K (dC, dI) vwCl [(cI, .int)] s) (kx59 : ∀ (v : Int32), (v = suitN nd br ms fc n) → ∀ (H : Heap) (locs : List Loc), va_P (dC, dI) vwCl [(h0, .inr (7, [.ref aN, .ref aB, .int (nI n), .int tl, .int ab, .int mk, .int sh])), (aN, .inl (cI, 20, .inl nd)), (aB, .inl (cI, 20, .inl br))] H → va_S A H0 H locs → ∀ ls : Array Slot, lv_has ls 6 [(3, .int v), (0, .ref h0)] → W p l e R s m args below meth c H locs cells slots Q (F0 m 59 ls [])) : ∀ (N : Nat), ∀ (k : Nat), ∀ (v : Int32), n + 1 ≤ k + N → (k ≤ n) → (v = suitN nd br ms fc k) → ∀ (H : Heap) (locs : List Loc), va_P (dC, dI) vwCl [(h0, .inr (7, [.ref aN, .ref aB, .int (nI n), .int tl, .int ab, .int mk, .int sh])), (aN, .inl (cI, 20, .inl nd)), (aB, .inl (cI, 20, .inl br))] H → va_S A H0 H locs → ∀ ls : Array Slot, lv_has ls 6 [(5, .int (nI k)), (4, .int ms), (3, .int v), (0, .ref h0), (1, .int fc), (2, .int sc)] → W p l e R s m args below meth c H locs cells slots Q (F0 m 12 ls []) := by
  have iRB : ∀ w ∈ u_ws R_RB T_RB 7, w ∈ ws_RB_suiting := fun w h => wb_RB_suiting w (in_RB w h)
  intro N
  induction N with
  | zero =>
    intro k v hme hk hv
    exact absurd hme (by omega)
  | succ N ih =>
    intro k v hme hk hv H locs hP hS ls hl
    refine lv_iload hx hb d_RB_suiting_12 (lv_at hl 0 rfl) ?_
    refine lv_aload_n hx hb d_RB_suiting_14 rfl (lv_at hl 3 rfl) ?_
    refine va_get (D := (dC, dI)) (ci := 7) (v := .int (nI n)) (C := R_RB) (T := T_RB) (N := 7) hx hb hts iRB hown hK hP 0 rfl rfl 2 (by decide) (hts _ (wb_RB_suiting _ b_87)) (fun _ h9 => h9) rfl d_RB_suiting_15 ?_
    refine lv_icmp_ge (tgt := 59) hx hb d_RB_suiting_18 (by decide) (fun c18 => ?_) (fun c18 => ?_)
    · have hkn : k = n := by
        have h1 := (nI_leI (show n < 2147483648 by omega) (show k < 2147483648 by omega)).mp c18
        omega
      exact kx59 v (by rw [hv, show k = n by omega]) _ _ hP hS ls (lv_sub hl [2, 3] rfl)
    · have hkn : k < n := by
        have h1 := mt (nI_leI (show n < 2147483648 by omega) (show k < 2147483648 by omega)).mpr c18
        omega
      refine lv_aload_n hx hb d_RB_suiting_21 rfl (lv_at hl 3 rfl) ?_
      refine va_get (D := (dC, dI)) (ci := 7) (v := .ref aN) (C := R_RB) (T := T_RB) (N := 7) hx hb hts iRB hown hK hP 0 rfl rfl 0 (by decide) (hts _ (wb_RB_suiting _ b_85)) (fun _ h9 => h9) rfl d_RB_suiting_22 ?_
      refine lv_iload hx hb d_RB_suiting_25 (lv_at hl 0 rfl) ?_
      refine vz_iald (k := k) hx hb hK hP 1 0 rfl rfl (by omega) (by decide) d_RB_suiting_27 ?_
      refine lv_iload hx hb d_RB_suiting_28 (lv_at hl 1 rfl) ?_
      refine lv_iand hx hb d_RB_suiting_30 ?_
      refine lv_if_ne (tgt := 53) hx hb d_RB_suiting_31 (by decide) (fun c31 => ?_) (fun c31 => ?_)
      · refine lv_iinc (v := nI (k + 1)) (lv' := [(5, .int (nI (k + 1))), (4, .int ms), (3, .int v), (0, .ref h0), (1, .int fc), (2, .int sc)]) hx hb d_RB_suiting_53 hl (k := 0) rfl (nI_1 k) (by decide) rfl (fun ls hl => ?_)
        refine lv_goto (tgt := 12) hx hb d_RB_suiting_56 (by decide) ?_
        exact ih (k + 1) v (by omega) (by omega) (by simp [suitN, hv, c31]) _ _ hP hS ls (lv_sub hl [0, 1, 2, 3, 4, 5] rfl)
      · refine lv_aload_n hx hb d_RB_suiting_34 rfl (lv_at hl 3 rfl) ?_
        refine va_get (D := (dC, dI)) (ci := 7) (v := .ref aB) (C := R_RB) (T := T_RB) (N := 7) hx hb hts iRB hown hK hP 0 rfl rfl 1 (by decide) (hts _ (wb_RB_suiting _ b_86)) (fun _ h9 => h9) rfl d_RB_suiting_35 ?_
        refine lv_iload hx hb d_RB_suiting_38 (lv_at hl 0 rfl) ?_
        refine vz_iald (k := k) hx hb hK hP 2 0 rfl rfl (by omega) (by decide) d_RB_suiting_40 ?_
        refine lv_iload_n hx hb d_RB_suiting_41 rfl (lv_at hl 4 rfl) ?_
        refine lv_iand hx hb d_RB_suiting_42 ?_
        refine lv_if_ne (tgt := 53) hx hb d_RB_suiting_43 (by decide) (fun c43 => ?_) (fun c43 => ?_)
        · refine lv_iinc (v := nI (k + 1)) (lv' := [(5, .int (nI (k + 1))), (4, .int ms), (3, .int v), (0, .ref h0), (1, .int fc), (2, .int sc)]) hx hb d_RB_suiting_53 hl (k := 0) rfl (nI_1 k) (by decide) rfl (fun ls hl => ?_)
          refine lv_goto (tgt := 12) hx hb d_RB_suiting_56 (by decide) ?_
          exact ih (k + 1) v (by omega) (by omega) (by simp [suitN, hv, c43]) _ _ hP hS ls (lv_sub hl [0, 1, 2, 3, 4, 5] rfl)
        · refine lv_iload_n hx hb d_RB_suiting_46 rfl (lv_at hl 2 rfl) ?_
          refine lv_iconst (v := 1) hx hb d_RB_suiting_47 (by decide) ?_
          refine lv_iload hx hb d_RB_suiting_48 (lv_at hl 0 rfl) ?_
          refine lv_ishl hx hb d_RB_suiting_50 ?_
          refine lv_ior hx hb d_RB_suiting_51 ?_
          refine lv_istore_n (lv' := [(3, .int (v ||| (1 <<< ((nI k) &&& 31)))), (5, .int (nI k)), (4, .int ms), (0, .ref h0), (1, .int fc), (2, .int sc)]) hx hb d_RB_suiting_52 rfl hl (by decide) rfl (fun ls hl => ?_)
          refine lv_iinc (v := nI (k + 1)) (lv' := [(5, .int (nI (k + 1))), (3, .int (v ||| (1 <<< ((nI k) &&& 31)))), (4, .int ms), (0, .ref h0), (1, .int fc), (2, .int sc)]) hx hb d_RB_suiting_53 hl (k := 1) rfl (nI_1 k) (by decide) rfl (fun ls hl => ?_)
          refine lv_goto (tgt := 12) hx hb d_RB_suiting_56 (by decide) ?_
          exact ih (k + 1) (v ||| (1 <<< ((nI k) &&& 31))) (by omega) (by omega) (by simp [suitN, hv, c31, c43]) _ _ hP hS ls (lv_sub hl [0, 2, 1, 3, 4, 5] rfl)
set_option maxHeartbeats 4000000 in
set_option maxRecDepth 100000 in
/-- RuleBook.suiting: the told rules that suit, as a set of bits; nothing is written -/
theorem c_RB_suiting (l : Launch) (dC : Nat → ClassId) (dI : Nat → Nat → Nat) (cI : ClassId) (h0 aN aB : Nat) (nd br : Nat → Int32) (n : Nat) (hn20 : n ≤ 20) (tl ab mk sh : Int32) (fc sc : Int32) : Met l y_RB_suiting ws_RB_suiting ({ frames := 0, cells := 0, slots := 0, locals := 0 }) (va_Pc [.ref h0, .int fc, .int sc] (fun U => va_P (dC, dI) vwCl [(h0, .inr (7, [.ref aN, .ref aB, .int (nI n), .int tl, .int ab, .int mk, .int sh])), (aN, .inl (cI, 20, .inl nd)), (aB, .inl (cI, 20, .inl br))] U.heap ∧ va_K (dC, dI) vwCl [(cI, .int)] U)) (va_Qi (fun (res : Int32) (_ : Unit) => res = suitN nd br (sc &&& (fc ^^^ (-1))) fc n &&& tl) (fun _ _ => True) (fun _ => False)) 0 0 (fun _ => False) := by
  refine Met.ofW (cc := k_RB_suiting) (maxL := 6) (ret := (some .int)) (by decide) rfl ?_
  intro p e s m args below meth c s₁ B hml hv
  obtain ⟨rfl, hP, hK⟩ := hv
  have hx := B.exec
  have hb := B.bytes
  have hr := B.returns
  have hts := atoms_spec (ws := ws_RB_suiting) B.pre
  have hown : s.vm.findClass R_RB = some m.cls := findClass_of_methodNamed B.named
  have hlocks := B.notSynchronized
  have hS : va_S (fun _ => False) s.heap s.heap [] := va_S.rf
  have hP : va_P (dC, dI) vwCl [(h0, .inr (7, [.ref aN, .ref aB, .int (nI n), .int tl, .int ab, .int mk, .int sh])), (aN, .inl (cI, 20, .inl nd)), (aB, .inl (cI, 20, .inl br))] s.heap := hP
  have iRB : ∀ w ∈ u_ws R_RB T_RB 7, w ∈ ws_RB_suiting := fun w h => wb_RB_suiting w (in_RB w h)
  have hl := lv_entry ([.ref h0, .int fc, .int sc]) (n := 6) (Nat.le_of_ble_eq_true rfl)
  rw [lg_entry_eq]
  generalize (lg_sl ([.ref h0, .int fc, .int sc]) ++ List.replicate (6 - (lg_sl ([.ref h0, .int fc, .int sc])).length) Slot.unset).toArray = ls at hl ⊢
  have hl : lv_has ls 6 [(0, .ref h0), (1, .int fc), (2, .int sc)] := hl
  refine lv_iconst (v := 0) hx hb d_RB_suiting_0 (by decide) ?_
  refine lv_istore_n (lv' := [(3, .int 0), (0, .ref h0), (1, .int fc), (2, .int sc)]) hx hb d_RB_suiting_1 rfl hl (by decide) rfl (fun ls hl => ?_)
  refine lv_iload_n hx hb d_RB_suiting_2 rfl (lv_at hl 3 rfl) ?_
  refine lv_iload_n hx hb d_RB_suiting_3 rfl (lv_at hl 2 rfl) ?_
  refine lv_iconst (v := (-1)) hx hb d_RB_suiting_4 (by decide) ?_
  refine lv_ixor hx hb d_RB_suiting_5 ?_
  refine lv_iand hx hb d_RB_suiting_6 ?_
  refine lv_topi (fun ms ems => ?_)
  refine lv_istore (lv' := [(4, .int ms), (3, .int 0), (0, .ref h0), (1, .int fc), (2, .int sc)]) hx hb d_RB_suiting_7 hl (by decide) rfl (fun ls hl => ?_)
  refine lv_iconst (v := 0) hx hb d_RB_suiting_9 (by decide) ?_
  refine lv_istore (lv' := [(5, .int 0), (4, .int ms), (3, .int 0), (0, .ref h0), (1, .int fc), (2, .int sc)]) hx hb d_RB_suiting_10 hl (by decide) rfl (fun ls hl => ?_)
  refine lp_RB_suiting_12 dC dI cI h0 aN aB nd br n hn20 tl ab mk sh fc sc ms hx hb hml hts hown hK (fun v hv H locs hP hS ls hl => ?_) (n + 1) 0 0 (by omega) (Nat.zero_le _) (rfl) _ _ hP hS ls (lv_sub hl [0, 1, 2, 3, 4, 5] rfl)
  · refine lv_iload_n hx hb d_RB_suiting_59 rfl (lv_at hl 0 rfl) ?_
    refine lv_aload_n hx hb d_RB_suiting_60 rfl (lv_at hl 1 rfl) ?_
    refine va_get (D := (dC, dI)) (ci := 7) (v := .int tl) (C := R_RB) (T := T_RB) (N := 7) hx hb hts iRB hown hK hP 0 rfl rfl 3 (by decide) (hts _ (wb_RB_suiting _ b_89)) (fun _ h9 => h9) rfl d_RB_suiting_61 ?_
    refine lv_iand hx hb d_RB_suiting_64 ?_
    exact W.iret (v := v &&& tl) hx hb hr (fun t ht hW => ⟨⟨v &&& tl, (), rfl, by rw [hv, ems], trivial⟩, hS.F ht⟩) hS.2.2 d_RB_suiting_65

/-- Integer.bitCount, step by step -/
def bc1 (x : Int32) : Int32 := x - ((x.toUInt32 >>> (Int32.toUInt32 1 &&& Int32.toUInt32 31)).toInt32 &&& 1431655765)
def bc2 (x : Int32) : Int32 := (x &&& 858993459) + ((x.toUInt32 >>> (Int32.toUInt32 2 &&& Int32.toUInt32 31)).toInt32 &&& 858993459)
def bc3 (x : Int32) : Int32 := (x + (x.toUInt32 >>> (Int32.toUInt32 4 &&& Int32.toUInt32 31)).toInt32) &&& 252645135
def bc4 (x : Int32) : Int32 := x + (x.toUInt32 >>> (Int32.toUInt32 8 &&& Int32.toUInt32 31)).toInt32
def bc5 (x : Int32) : Int32 := x + (x.toUInt32 >>> (Int32.toUInt32 16 &&& Int32.toUInt32 31)).toInt32
def bcF (x : Int32) : Int32 := bc5 (bc4 (bc3 (bc2 (bc1 x)))) &&& 63

set_option maxHeartbeats 4000000 in
set_option maxRecDepth 100000 in
/-- Integer.bitCount: its five steps -/
theorem c_JI_bitCount (l : Launch) (dC : Nat → ClassId) (dI : Nat → Nat → Nat) (x : Int32) : Met l y_JI_bitCount ws_JI_bitCount ({ frames := 0, cells := 0, slots := 0, locals := 0 }) (va_Pc [.int x] (fun U => va_P (dC, dI) vwCl [] U.heap ∧ va_K (dC, dI) vwCl [] U)) (va_Qi (fun (res : Int32) (_ : Unit) => res = bcF x) (fun _ _ => True) (fun _ => False)) 0 0 (fun _ => False) := by
  refine Met.ofW (cc := k_JI_bitCount) (maxL := 1) (ret := (some .int)) (by decide) rfl ?_
  intro p e s m args below meth c s₁ B hml hv
  obtain ⟨rfl, hP, hK⟩ := hv
  have hx := B.exec
  have hb := B.bytes
  have hr := B.returns
  have hts := atoms_spec (ws := ws_JI_bitCount) B.pre
  have hown : s.vm.findClass R_JI = some m.cls := findClass_of_methodNamed B.named
  have hlocks := B.notSynchronized
  have hS : va_S (fun _ => False) s.heap s.heap [] := va_S.rf
  have hP : va_P (dC, dI) vwCl [] s.heap := hP
  have hl := lv_entry ([.int x]) (n := 1) (Nat.le_of_ble_eq_true rfl)
  rw [lg_entry_eq]
  generalize (lg_sl ([.int x]) ++ List.replicate (1 - (lg_sl ([.int x])).length) Slot.unset).toArray = ls at hl ⊢
  have hl : lv_has ls 1 [(0, .int x)] := hl
  refine lv_iload_n hx hb d_JI_bitCount_0 rfl (lv_at hl 0 rfl) ?_
  refine lv_iload_n hx hb d_JI_bitCount_1 rfl (lv_at hl 0 rfl) ?_
  refine lv_iconst (v := 1) hx hb d_JI_bitCount_2 (by decide) ?_
  refine lv_iushr hx hb d_JI_bitCount_3 rfl ?_
  refine lv_ldcw (v := 1431655765) hx hb hown (hts _ (wb_JI_bitCount _ b_641)) d_JI_bitCount_4 ?_
  refine lv_iand hx hb d_JI_bitCount_7 ?_
  refine lv_isub hx hb d_JI_bitCount_8 ?_
  refine lv_topi (fun x1 e1 => ?_)
  refine lv_istore_n (lv' := [(0, .int x1)]) hx hb d_JI_bitCount_9 rfl hl (by decide) rfl (fun ls hl => ?_)
  refine lv_iload_n hx hb d_JI_bitCount_10 rfl (lv_at hl 0 rfl) ?_
  refine lv_ldcw (v := 858993459) hx hb hown (hts _ (wb_JI_bitCount _ b_642)) d_JI_bitCount_11 ?_
  refine lv_iand hx hb d_JI_bitCount_14 ?_
  refine lv_iload_n hx hb d_JI_bitCount_15 rfl (lv_at hl 0 rfl) ?_
  refine lv_iconst (v := 2) hx hb d_JI_bitCount_16 (by decide) ?_
  refine lv_iushr hx hb d_JI_bitCount_17 rfl ?_
  refine lv_ldcw (v := 858993459) hx hb hown (hts _ (wb_JI_bitCount _ b_642)) d_JI_bitCount_18 ?_
  refine lv_iand hx hb d_JI_bitCount_21 ?_
  refine lv_iadd hx hb d_JI_bitCount_22 ?_
  refine lv_topi (fun x2 e2 => ?_)
  refine lv_istore_n (lv' := [(0, .int x2)]) hx hb d_JI_bitCount_23 rfl hl (by decide) rfl (fun ls hl => ?_)
  refine lv_iload_n hx hb d_JI_bitCount_24 rfl (lv_at hl 0 rfl) ?_
  refine lv_iload_n hx hb d_JI_bitCount_25 rfl (lv_at hl 0 rfl) ?_
  refine lv_iconst (v := 4) hx hb d_JI_bitCount_26 (by decide) ?_
  refine lv_iushr hx hb d_JI_bitCount_27 rfl ?_
  refine lv_iadd hx hb d_JI_bitCount_28 ?_
  refine lv_ldcw (v := 252645135) hx hb hown (hts _ (wb_JI_bitCount _ b_643)) d_JI_bitCount_29 ?_
  refine lv_iand hx hb d_JI_bitCount_32 ?_
  refine lv_topi (fun x3 e3 => ?_)
  refine lv_istore_n (lv' := [(0, .int x3)]) hx hb d_JI_bitCount_33 rfl hl (by decide) rfl (fun ls hl => ?_)
  refine lv_iload_n hx hb d_JI_bitCount_34 rfl (lv_at hl 0 rfl) ?_
  refine lv_iload_n hx hb d_JI_bitCount_35 rfl (lv_at hl 0 rfl) ?_
  refine lv_bipush (v := 8) hx hb d_JI_bitCount_36 (by decide) ?_
  refine lv_iushr hx hb d_JI_bitCount_38 rfl ?_
  refine lv_iadd hx hb d_JI_bitCount_39 ?_
  refine lv_topi (fun x4 e4 => ?_)
  refine lv_istore_n (lv' := [(0, .int x4)]) hx hb d_JI_bitCount_40 rfl hl (by decide) rfl (fun ls hl => ?_)
  refine lv_iload_n hx hb d_JI_bitCount_41 rfl (lv_at hl 0 rfl) ?_
  refine lv_iload_n hx hb d_JI_bitCount_42 rfl (lv_at hl 0 rfl) ?_
  refine lv_bipush (v := 16) hx hb d_JI_bitCount_43 (by decide) ?_
  refine lv_iushr hx hb d_JI_bitCount_45 rfl ?_
  refine lv_iadd hx hb d_JI_bitCount_46 ?_
  refine lv_topi (fun x5 e5 => ?_)
  refine lv_istore_n (lv' := [(0, .int x5)]) hx hb d_JI_bitCount_47 rfl hl (by decide) rfl (fun ls hl => ?_)
  refine lv_iload_n hx hb d_JI_bitCount_48 rfl (lv_at hl 0 rfl) ?_
  refine lv_bipush (v := 63) hx hb d_JI_bitCount_49 (by decide) ?_
  refine lv_iand hx hb d_JI_bitCount_51 ?_
  exact W.iret (v := x5 &&& 63) hx hb hr (fun t ht hW => ⟨⟨x5 &&& 63, (), rfl, by subst e1; subst e2; subst e3; subst e4; subst e5; rfl, trivial⟩, hS.F ht⟩) hS.2.2 d_JI_bitCount_52

/-- what a set of suiting rules says -/
def ansF (ab mk sh su : Int32) : Int32 := if su = 0 then 0 else if su &&& ab = 0 then (if su &&& sh ≤ su &&& mk then 1 else 2) else 0

set_option maxHeartbeats 4000000 in
set_option maxRecDepth 100000 in
/-- RuleBook.answerOf -/
theorem c_RB_answerOf (l : Launch) (dC : Nat → ClassId) (dI : Nat → Nat → Nat) (cI : ClassId) (h0 aN aB : Nat) (nd br : Nat → Int32) (n : Nat) (hn20 : n ≤ 20) (tl ab mk sh : Int32) (su : Int32) : Met l y_RB_answerOf ws_RB_answerOf ({ frames := 0, cells := 0, slots := 0, locals := 0 }) (va_Pc [.ref h0, .int su] (fun U => va_P (dC, dI) vwCl [(h0, .inr (7, [.ref aN, .ref aB, .int (nI n), .int tl, .int ab, .int mk, .int sh])), (aN, .inl (cI, 20, .inl nd)), (aB, .inl (cI, 20, .inl br))] U.heap ∧ va_K (dC, dI) vwCl [(cI, .int)] U)) (va_Qi (fun (res : Int32) (_ : Unit) => res = ansF ab mk sh su) (fun _ _ => True) (fun _ => False)) 0 0 (fun _ => False) := by
  refine Met.ofW (cc := k_RB_answerOf) (maxL := 2) (ret := (some .int)) (by decide) rfl ?_
  intro p e s m args below meth c s₁ B hml hv
  obtain ⟨rfl, hP, hK⟩ := hv
  have hx := B.exec
  have hb := B.bytes
  have hr := B.returns
  have hts := atoms_spec (ws := ws_RB_answerOf) B.pre
  have hown : s.vm.findClass R_RB = some m.cls := findClass_of_methodNamed B.named
  have hlocks := B.notSynchronized
  have hS : va_S (fun _ => False) s.heap s.heap [] := va_S.rf
  have hP : va_P (dC, dI) vwCl [(h0, .inr (7, [.ref aN, .ref aB, .int (nI n), .int tl, .int ab, .int mk, .int sh])), (aN, .inl (cI, 20, .inl nd)), (aB, .inl (cI, 20, .inl br))] s.heap := hP
  have iRB : ∀ w ∈ u_ws R_RB T_RB 7, w ∈ ws_RB_answerOf := fun w h => wb_RB_answerOf w (in_RB w h)
  have hl := lv_entry ([.ref h0, .int su]) (n := 2) (Nat.le_of_ble_eq_true rfl)
  rw [lg_entry_eq]
  generalize (lg_sl ([.ref h0, .int su]) ++ List.replicate (2 - (lg_sl ([.ref h0, .int su])).length) Slot.unset).toArray = ls at hl ⊢
  have hl : lv_has ls 2 [(0, .ref h0), (1, .int su)] := hl
  refine lv_iload_n hx hb d_RB_answerOf_0 rfl (lv_at hl 1 rfl) ?_
  refine lv_if_eq (tgt := 13) hx hb d_RB_answerOf_1 (by decide) (fun c1 => ?_) (fun c1 => ?_)
  · refine lv_iconst (v := 0) hx hb d_RB_answerOf_13 (by decide) ?_
    exact W.iret (v := 0) hx hb hr (fun t ht hW => ⟨⟨0, (), rfl, by simp [ansF, c1], trivial⟩, hS.F ht⟩) hS.2.2 d_RB_answerOf_14
  · refine lv_iload_n hx hb d_RB_answerOf_4 rfl (lv_at hl 1 rfl) ?_
    refine lv_aload_n hx hb d_RB_answerOf_5 rfl (lv_at hl 0 rfl) ?_
    refine va_get (D := (dC, dI)) (ci := 7) (v := .int ab) (C := R_RB) (T := T_RB) (N := 7) hx hb hts iRB hown hK hP 0 rfl rfl 4 (by decide) (hts _ (wb_RB_answerOf _ b_91)) (fun _ h9 => h9) rfl d_RB_answerOf_6 ?_
    refine lv_iand hx hb d_RB_answerOf_9 ?_
    refine lv_if_eq (tgt := 15) hx hb d_RB_answerOf_10 (by decide) (fun c10 => ?_) (fun c10 => ?_)
    · refine lv_iload_n hx hb d_RB_answerOf_15 rfl (lv_at hl 1 rfl) ?_
      refine lv_aload_n hx hb d_RB_answerOf_16 rfl (lv_at hl 0 rfl) ?_
      refine va_get (D := (dC, dI)) (ci := 7) (v := .int sh) (C := R_RB) (T := T_RB) (N := 7) hx hb hts iRB hown hK hP 0 rfl rfl 6 (by decide) (hts _ (wb_RB_answerOf _ b_93)) (fun _ h9 => h9) rfl d_RB_answerOf_17 ?_
      refine lv_iand hx hb d_RB_answerOf_20 ?_
      refine lv_iload_n hx hb d_RB_answerOf_21 rfl (lv_at hl 1 rfl) ?_
      refine lv_aload_n hx hb d_RB_answerOf_22 rfl (lv_at hl 0 rfl) ?_
      refine va_get (D := (dC, dI)) (ci := 7) (v := .int mk) (C := R_RB) (T := T_RB) (N := 7) hx hb hts iRB hown hK hP 0 rfl rfl 5 (by decide) (hts _ (wb_RB_answerOf _ b_92)) (fun _ h9 => h9) rfl d_RB_answerOf_23 ?_
      refine lv_iand hx hb d_RB_answerOf_26 ?_
      refine lv_icmp_le (tgt := 34) hx hb d_RB_answerOf_27 (by decide) (fun c27 => ?_) (fun c27 => ?_)
      · refine lv_iconst (v := 1) hx hb d_RB_answerOf_34 (by decide) ?_
        exact W.iret (v := 1) hx hb hr (fun t ht hW => ⟨⟨1, (), rfl, by simp [ansF, c1, c10, c27], trivial⟩, hS.F ht⟩) hS.2.2 d_RB_answerOf_35
      · refine lv_iconst (v := 2) hx hb d_RB_answerOf_30 (by decide) ?_
        refine lv_goto (tgt := 35) hx hb d_RB_answerOf_31 (by decide) ?_
        exact W.iret (v := 2) hx hb hr (fun t ht hW => ⟨⟨2, (), rfl, by simp [ansF, c1, c10, c27], trivial⟩, hS.F ht⟩) hS.2.2 d_RB_answerOf_35
    · refine lv_iconst (v := 0) hx hb d_RB_answerOf_13 (by decide) ?_
      exact W.iret (v := 0) hx hb hr (fun t ht hW => ⟨⟨0, (), rfl, by simp [ansF, c1, c10], trivial⟩, hS.F ht⟩) hS.2.2 d_RB_answerOf_14

/-- the highest of the first k bits that is set, as a set -/
def lastN (su : Int32) : Nat → Int32
  | 0 => 0
  | k + 1 => if su &&& ((1 : Int32) <<< (nI k &&& 31)) = 0 then lastN su k else (1 : Int32) <<< (nI k &&& 31)
theorem vz_dec (x : Int32) : x + Int32.ofInt (-1) = x - 1 := by rw [show (Int32.ofInt (-1)) = -1 from by decide +kernel, ← Int32.sub_eq_add_neg]
theorem vz_pred_neg {k : Nat} (hk : k < 2147483648) : nI k - 1 < 0 ↔ k = 0 := by
  constructor
  · intro h
    rcases Nat.eq_zero_or_pos k with e | e
    · exact e
    · obtain ⟨j, rfl⟩ : ∃ j, k = j + 1 := ⟨k - 1, by omega⟩
      rw [nI_pred] at h
      exact absurd h (nI_pos (by omega))
  · intro h
    subst h
    decide

set_option maxHeartbeats 4000000 in
set_option maxRecDepth 100000 in
theorem lp_RB_lastOf_7 {p : Program} {l : Launch} {e : Env} {R : Room} {s : State} {m : MethodId} {args : Array Value} {below : List Frame} {meth : Method} {c : Code} {cells slots : Nat} {Q : State → Prop} {A : Nat → Prop} {H0 : Heap} (dC : Nat → ClassId) (dI : Nat → Nat → Nat) (cI : ClassId) (h0 aN aB : Nat) (nd br : Nat → Int32) (n : Nat) (hn20 : n ≤ 20) (tl ab mk sh : Int32) (su : Int32)  (hx : p.tables.exec = Jvm.exec) (hb : c.code = k_RB_lastOf) (hml : c.maxLocals = 3) (hts : ∀ w ∈ ws_RB_lastOf, w.before args s = true) (hown : s.vm.findClass R_RB = some m.cls) (hK : va_K (dC, dI) vwCl [(cI, .int)] s) (kx29 : (lastN su n = 0) → ∀ (H : Heap) (locs : List Loc), va_P (dC, dI) vwCl [(h0, .inr (7, [.ref aN, .ref aB, .int (nI n), .int tl, .int ab, .int mk, .int sh])), (aN, .inl (cI, 20, .inl nd)), (aB, .inl (cI, 20, .inl br))] H → va_S A H0 H locs → ∀ ls : Array Slot, lv_has ls 3 [(0, .ref h0)] → W p l e R s m args below meth c H locs cells slots Q (F0 m 29 ls [])) (kx19 : ∀ (j : Nat), (lastN su n = (1 : Int32) <<< (nI j &&& 31)) → ∀ (H : Heap) (locs : List Loc), va_P (dC, dI) vwCl [(h0, .inr (7, [.ref aN, .ref aB, .int (nI n), .int tl, .int ab, .int mk, .int sh])), (aN, .inl (cI, 20, .inl nd)), (aB, .inl (cI, 20, .inl br))] H → va_S A H0 H locs → ∀ ls : Array Slot, lv_has ls 3 [(2, .int (nI j)), (0, .ref h0)] → W p l e R s m args below meth c H locs cells slots Q (F0 m 19 ls [])) : ∀ (N : Nat), ∀ (k : Nat), k + 1 ≤ N → (k ≤ n) → (lastN su n = lastN su k) → ∀ (H : Heap) (locs : List Loc), va_P (dC, dI) vwCl [(h0, .inr (7, [.ref aN, .ref aB, .int (nI n), .int tl, .int ab, .int mk, .int sh])), (aN, .inl (cI, 20, .inl nd)), (aB, .inl (cI, 20, .inl br))] H → va_S A H0 H locs → ∀ ls : Array Slot, lv_has ls 3 [(2, .int (nI k - 1)), (0, .ref h0), (1, .int su)] → W p l e R s m args below meth c H locs cells slots Q (F0 m 7 ls []) := by
  have iRB : ∀ w ∈ u_ws R_RB T_RB 7, w ∈ ws_RB_lastOf := fun w h => wb_RB_lastOf w (in_RB w h)
  intro N
  induction N with
  | zero =>
    intro k hme hk hv
    exact absurd hme (by omega)
  | succ N ih =>
    intro k hme hk hv H locs hP hS ls hl
    refine lv_iload_n hx hb d_RB_lastOf_7 rfl (lv_at hl 0 rfl) ?_
    refine lv_if_lt (tgt := 29) hx hb d_RB_lastOf_8 (by decide) (fun c8 => ?_) (fun c8 => ?_)
    · have hk0 : k = 0 := (vz_pred_neg (by omega)).mp c8
      exact kx29 (by rw [hv, hk0]; rfl) _ _ hP hS ls (lv_sub hl [1] rfl)
    · obtain ⟨j, rfl⟩ : ∃ j, k = j + 1 := ⟨k - 1, by have := mt (vz_pred_neg (show k < 2147483648 by omega)).mpr c8; omega⟩
      rw [nI_pred] at hl
      refine lv_iload_n hx hb d_RB_lastOf_11 rfl (lv_at hl 2 rfl) ?_
      refine lv_iconst (v := 1) hx hb d_RB_lastOf_12 (by decide) ?_
      refine lv_iload_n hx hb d_RB_lastOf_13 rfl (lv_at hl 0 rfl) ?_
      refine lv_ishl hx hb d_RB_lastOf_14 ?_
      refine lv_iand hx hb d_RB_lastOf_15 ?_
      refine lv_if_eq (tgt := 23) hx hb d_RB_lastOf_16 (by decide) (fun c16 => ?_) (fun c16 => ?_)
      · refine lv_iinc (v := nI j - 1) (lv' := [(2, .int (nI j - 1)), (0, .ref h0), (1, .int su)]) hx hb d_RB_lastOf_23 hl (k := 0) rfl (vz_dec _) (by decide) rfl (fun ls hl => ?_)
        refine lv_goto (tgt := 7) hx hb d_RB_lastOf_26 (by decide) ?_
        exact ih j (by omega) (by omega) (by rw [hv]; simp [lastN, c16]) _ _ hP hS ls (lv_sub hl [0, 1, 2] rfl)
      · exact kx19 j (by rw [hv]; simp [lastN, c16]) _ _ hP hS ls (lv_sub hl [0, 1] rfl)
set_option maxHeartbeats 4000000 in
set_option maxRecDepth 100000 in
/-- RuleBook.lastOf -/
theorem c_RB_lastOf (l : Launch) (dC : Nat → ClassId) (dI : Nat → Nat → Nat) (cI : ClassId) (h0 aN aB : Nat) (nd br : Nat → Int32) (n : Nat) (hn20 : n ≤ 20) (tl ab mk sh : Int32) (su : Int32) : Met l y_RB_lastOf ws_RB_lastOf ({ frames := 0, cells := 0, slots := 0, locals := 0 }) (va_Pc [.ref h0, .int su] (fun U => va_P (dC, dI) vwCl [(h0, .inr (7, [.ref aN, .ref aB, .int (nI n), .int tl, .int ab, .int mk, .int sh])), (aN, .inl (cI, 20, .inl nd)), (aB, .inl (cI, 20, .inl br))] U.heap ∧ va_K (dC, dI) vwCl [(cI, .int)] U)) (va_Qi (fun (res : Int32) (_ : Unit) => res = lastN su n) (fun _ _ => True) (fun _ => False)) 0 0 (fun _ => False) := by
  refine Met.ofW (cc := k_RB_lastOf) (maxL := 3) (ret := (some .int)) (by decide) rfl ?_
  intro p e s m args below meth c s₁ B hml hv
  obtain ⟨rfl, hP, hK⟩ := hv
  have hx := B.exec
  have hb := B.bytes
  have hr := B.returns
  have hts := atoms_spec (ws := ws_RB_lastOf) B.pre
  have hown : s.vm.findClass R_RB = some m.cls := findClass_of_methodNamed B.named
  have hlocks := B.notSynchronized
  have hS : va_S (fun _ => False) s.heap s.heap [] := va_S.rf
  have hP : va_P (dC, dI) vwCl [(h0, .inr (7, [.ref aN, .ref aB, .int (nI n), .int tl, .int ab, .int mk, .int sh])), (aN, .inl (cI, 20, .inl nd)), (aB, .inl (cI, 20, .inl br))] s.heap := hP
  have iRB : ∀ w ∈ u_ws R_RB T_RB 7, w ∈ ws_RB_lastOf := fun w h => wb_RB_lastOf w (in_RB w h)
  have hl := lv_entry ([.ref h0, .int su]) (n := 3) (Nat.le_of_ble_eq_true rfl)
  rw [lg_entry_eq]
  generalize (lg_sl ([.ref h0, .int su]) ++ List.replicate (3 - (lg_sl ([.ref h0, .int su])).length) Slot.unset).toArray = ls at hl ⊢
  have hl : lv_has ls 3 [(0, .ref h0), (1, .int su)] := hl
  refine lv_aload_n hx hb d_RB_lastOf_0 rfl (lv_at hl 0 rfl) ?_
  refine va_get (D := (dC, dI)) (ci := 7) (v := .int (nI n)) (C := R_RB) (T := T_RB) (N := 7) hx hb hts iRB hown hK hP 0 rfl rfl 2 (by decide) (hts _ (wb_RB_lastOf _ b_87)) (fun _ h9 => h9) rfl d_RB_lastOf_1 ?_
  refine lv_iconst (v := 1) hx hb d_RB_lastOf_4 (by decide) ?_
  refine lv_isub hx hb d_RB_lastOf_5 ?_
  refine lv_istore_n (lv' := [(2, .int ((nI n) - 1)), (0, .ref h0), (1, .int su)]) hx hb d_RB_lastOf_6 rfl hl (by decide) rfl (fun ls hl => ?_)
  refine lp_RB_lastOf_7 dC dI cI h0 aN aB nd br n hn20 tl ab mk sh su hx hb hml hts hown hK (fun hv H locs hP hS ls hl => ?_) (fun j hv H locs hP hS ls hl => ?_) (n + 1) n (by omega) (Nat.le_refl _) (rfl) _ _ hP hS ls (lv_sub hl [0, 1, 2] rfl)
  · refine lv_iconst (v := 0) hx hb d_RB_lastOf_29 (by decide) ?_
    exact W.iret (v := 0) hx hb hr (fun t ht hW => ⟨⟨0, (), rfl, hv.symm, trivial⟩, hS.F ht⟩) hS.2.2 d_RB_lastOf_30
  · refine lv_iconst (v := 1) hx hb d_RB_lastOf_19 (by decide) ?_
    refine lv_iload_n hx hb d_RB_lastOf_20 rfl (lv_at hl 0 rfl) ?_
    refine lv_ishl hx hb d_RB_lastOf_21 ?_
    exact W.iret (v := 1 <<< ((nI j) &&& 31)) hx hb hr (fun t ht hW => ⟨⟨1 <<< ((nI j) &&& 31), (), rfl, hv.symm, trivial⟩, hS.F ht⟩) hS.2.2 d_RB_lastOf_22

/-- the lowest set bit from k on, d of them, by its number; -1 -/
def firstN (su : Int32) : Nat → Nat → Int32
  | _, 0 => -1
  | k, d + 1 => if su &&& ((1 : Int32) <<< (nI k &&& 31)) = 0 then firstN su (k + 1) d else nI k

set_option maxHeartbeats 4000000 in
set_option maxRecDepth 100000 in
theorem lp_RB_firstOf_2 {p : Program} {l : Launch} {e : Env} {R : Room} {s : State} {m : MethodId} {args : Array Value} {below : List Frame} {meth : Method} {c : Code} {cells slots : Nat} {Q : State → Prop} {A : Nat → Prop} {H0 : Heap} (dC : Nat → ClassId) (dI : Nat → Nat → Nat) (cI : ClassId) (h0 aN aB : Nat) (nd br : Nat → Int32) (n : Nat) (hn20 : n ≤ 20) (tl ab mk sh : Int32) (su : Int32)  (hx : p.tables.exec = Jvm.exec) (hb : c.code = k_RB_firstOf) (hml : c.maxLocals = 3) (hts : ∀ w ∈ ws_RB_firstOf, w.before args s = true) (hown : s.vm.findClass R_RB = some m.cls) (hK : va_K (dC, dI) vwCl [(cI, .int)] s) (kx26 : (firstN su 0 n = -1) → ∀ (H : Heap) (locs : List Loc), va_P (dC, dI) vwCl [(h0, .inr (7, [.ref aN, .ref aB, .int (nI n), .int tl, .int ab, .int mk, .int sh])), (aN, .inl (cI, 20, .inl nd)), (aB, .inl (cI, 20, .inl br))] H → va_S A H0 H locs → ∀ ls : Array Slot, lv_has ls 3 [(0, .ref h0)] → W p l e R s m args below meth c H locs cells slots Q (F0 m 26 ls [])) (kx18 : ∀ (k : Nat), (firstN su 0 n = nI k) → ∀ (H : Heap) (locs : List Loc), va_P (dC, dI) vwCl [(h0, .inr (7, [.ref aN, .ref aB, .int (nI n), .int tl, .int ab, .int mk, .int sh])), (aN, .inl (cI, 20, .inl nd)), (aB, .inl (cI, 20, .inl br))] H → va_S A H0 H locs → ∀ ls : Array Slot, lv_has ls 3 [(2, .int (nI k))] → W p l e R s m args below meth c H locs cells slots Q (F0 m 18 ls [])) : ∀ (N : Nat), ∀ (k : Nat), n + 1 ≤ k + N → (k ≤ n) → (firstN su 0 n = firstN su k (n - k)) → ∀ (H : Heap) (locs : List Loc), va_P (dC, dI) vwCl [(h0, .inr (7, [.ref aN, .ref aB, .int (nI n), .int tl, .int ab, .int mk, .int sh])), (aN, .inl (cI, 20, .inl nd)), (aB, .inl (cI, 20, .inl br))] H → va_S A H0 H locs → ∀ ls : Array Slot, lv_has ls 3 [(2, .int (nI k)), (0, .ref h0), (1, .int su)] → W p l e R s m args below meth c H locs cells slots Q (F0 m 2 ls []) := by
  have iRB : ∀ w ∈ u_ws R_RB T_RB 7, w ∈ ws_RB_firstOf := fun w h => wb_RB_firstOf w (in_RB w h)
  intro N
  induction N with
  | zero =>
    intro k hme hk hv
    exact absurd hme (by omega)
  | succ N ih =>
    intro k hme hk hv H locs hP hS ls hl
    refine lv_iload_n hx hb d_RB_firstOf_2 rfl (lv_at hl 0 rfl) ?_
    refine lv_aload_n hx hb d_RB_firstOf_3 rfl (lv_at hl 1 rfl) ?_
    refine va_get (D := (dC, dI)) (ci := 7) (v := .int (nI n)) (C := R_RB) (T := T_RB) (N := 7) hx hb hts iRB hown hK hP 0 rfl rfl 2 (by decide) (hts _ (wb_RB_firstOf _ b_87)) (fun _ h9 => h9) rfl d_RB_firstOf_4 ?_
    refine lv_icmp_ge (tgt := 26) hx hb d_RB_firstOf_7 (by decide) (fun c7 => ?_) (fun c7 => ?_)
    · have hkn : k = n := by
        have h1 := (nI_leI (show n < 2147483648 by omega) (show k < 2147483648 by omega)).mp c7
        omega
      exact kx26 (by rw [hv, hkn, Nat.sub_self]; rfl) _ _ hP hS ls (lv_sub hl [1] rfl)
    · have hkn : k < n := by
        have h1 := mt (nI_leI (show n < 2147483648 by omega) (show k < 2147483648 by omega)).mpr c7
        omega
      rw [show n - k = (n - (k + 1)) + 1 by omega] at hv
      refine lv_iload_n hx hb d_RB_firstOf_10 rfl (lv_at hl 2 rfl) ?_
      refine lv_iconst (v := 1) hx hb d_RB_firstOf_11 (by decide) ?_
      refine lv_iload_n hx hb d_RB_firstOf_12 rfl (lv_at hl 0 rfl) ?_
      refine lv_ishl hx hb d_RB_firstOf_13 ?_
      refine lv_iand hx hb d_RB_firstOf_14 ?_
      refine lv_if_eq (tgt := 20) hx hb d_RB_firstOf_15 (by decide) (fun c15 => ?_) (fun c15 => ?_)
      · refine lv_iinc (v := nI (k + 1)) (lv' := [(2, .int (nI (k + 1))), (0, .ref h0), (1, .int su)]) hx hb d_RB_firstOf_20 hl (k := 0) rfl (nI_1 k) (by decide) rfl (fun ls hl => ?_)
        refine lv_goto (tgt := 2) hx hb d_RB_firstOf_23 (by decide) ?_
        exact ih (k + 1) (by omega) (by omega) (by rw [hv]; simp [firstN, c15]) _ _ hP hS ls (lv_sub hl [0, 1, 2] rfl)
      · exact kx18 k (by rw [hv]; simp [firstN, c15]) _ _ hP hS ls (lv_sub hl [0] rfl)
set_option maxHeartbeats 4000000 in
set_option maxRecDepth 100000 in
/-- RuleBook.firstOf -/
theorem c_RB_firstOf (l : Launch) (dC : Nat → ClassId) (dI : Nat → Nat → Nat) (cI : ClassId) (h0 aN aB : Nat) (nd br : Nat → Int32) (n : Nat) (hn20 : n ≤ 20) (tl ab mk sh : Int32) (su : Int32) : Met l y_RB_firstOf ws_RB_firstOf ({ frames := 0, cells := 0, slots := 0, locals := 0 }) (va_Pc [.ref h0, .int su] (fun U => va_P (dC, dI) vwCl [(h0, .inr (7, [.ref aN, .ref aB, .int (nI n), .int tl, .int ab, .int mk, .int sh])), (aN, .inl (cI, 20, .inl nd)), (aB, .inl (cI, 20, .inl br))] U.heap ∧ va_K (dC, dI) vwCl [(cI, .int)] U)) (va_Qi (fun (res : Int32) (_ : Unit) => res = firstN su 0 n) (fun _ _ => True) (fun _ => False)) 0 0 (fun _ => False) := by
  refine Met.ofW (cc := k_RB_firstOf) (maxL := 3) (ret := (some .int)) (by decide) rfl ?_
  intro p e s m args below meth c s₁ B hml hv
  obtain ⟨rfl, hP, hK⟩ := hv
  have hx := B.exec
  have hb := B.bytes
  have hr := B.returns
  have hts := atoms_spec (ws := ws_RB_firstOf) B.pre
  have hown : s.vm.findClass R_RB = some m.cls := findClass_of_methodNamed B.named
  have hlocks := B.notSynchronized
  have hS : va_S (fun _ => False) s.heap s.heap [] := va_S.rf
  have hP : va_P (dC, dI) vwCl [(h0, .inr (7, [.ref aN, .ref aB, .int (nI n), .int tl, .int ab, .int mk, .int sh])), (aN, .inl (cI, 20, .inl nd)), (aB, .inl (cI, 20, .inl br))] s.heap := hP
  have iRB : ∀ w ∈ u_ws R_RB T_RB 7, w ∈ ws_RB_firstOf := fun w h => wb_RB_firstOf w (in_RB w h)
  have hl := lv_entry ([.ref h0, .int su]) (n := 3) (Nat.le_of_ble_eq_true rfl)
  rw [lg_entry_eq]
  generalize (lg_sl ([.ref h0, .int su]) ++ List.replicate (3 - (lg_sl ([.ref h0, .int su])).length) Slot.unset).toArray = ls at hl ⊢
  have hl : lv_has ls 3 [(0, .ref h0), (1, .int su)] := hl
  refine lv_iconst (v := 0) hx hb d_RB_firstOf_0 (by decide) ?_
  refine lv_istore_n (lv' := [(2, .int 0), (0, .ref h0), (1, .int su)]) hx hb d_RB_firstOf_1 rfl hl (by decide) rfl (fun ls hl => ?_)
  refine lp_RB_firstOf_2 dC dI cI h0 aN aB nd br n hn20 tl ab mk sh su hx hb hml hts hown hK (fun hv H locs hP hS ls hl => ?_) (fun k hv H locs hP hS ls hl => ?_) (n + 1) 0 (by omega) (Nat.zero_le _) (rfl) _ _ hP hS ls (lv_sub hl [0, 1, 2] rfl)
  · refine lv_iconst (v := (-1)) hx hb d_RB_firstOf_26 (by decide) ?_
    exact W.iret (v := (-1)) hx hb hr (fun t ht hW => ⟨⟨(-1), (), rfl, hv.symm, trivial⟩, hS.F ht⟩) hS.2.2 d_RB_firstOf_27
  · refine lv_iload_n hx hb d_RB_firstOf_18 rfl (lv_at hl 0 rfl) ?_
    exact W.iret (v := nI k) hx hb hr (fun t ht hW => ⟨⟨nI k, (), rfl, hv.symm, trivial⟩, hS.F ht⟩) hS.2.2 d_RB_firstOf_19

/-- the rule that decides alone, if one does -/
def decF (ab : Int32) (n : Nat) (su : Int32) : Int32 := if su &&& ab = 0 then lastN su n else su &&& ab
def needF (ab mk sh : Int32) (n : Nat) (su : Int32) : Int32 := if bcF (su &&& ab) ≤ 1 then (if ansF ab mk sh (su &&& (decF ab n su ^^^ (-1))) = ansF ab mk sh su then 0 else decF ab n su) else 0

set_option maxHeartbeats 4000000 in
set_option maxRecDepth 100000 in
/-- RuleBook.neededOf -/
theorem c_RB_neededOf (l : Launch) (dC : Nat → ClassId) (dI : Nat → Nat → Nat) (cI : ClassId) (h0 aN aB : Nat) (nd br : Nat → Int32) (n : Nat) (hn20 : n ≤ 20) (tl ab mk sh : Int32) (su : Int32) : Met l y_RB_neededOf ws_RB_neededOf ({ frames := 1, cells := 0, slots := 0, locals := 22 }) (va_Pc [.ref h0, .int su] (fun U => va_P (dC, dI) vwCl [(h0, .inr (7, [.ref aN, .ref aB, .int (nI n), .int tl, .int ab, .int mk, .int sh])), (aN, .inl (cI, 20, .inl nd)), (aB, .inl (cI, 20, .inl br))] U.heap ∧ va_K (dC, dI) vwCl [(cI, .int)] U)) (va_Qi (fun (res : Int32) (_ : Unit) => res = needF ab mk sh n su) (fun _ _ => True) (fun _ => False)) 0 0 (fun _ => False) := by
  refine Met.ofW (cc := k_RB_neededOf) (maxL := 4) (ret := (some .int)) (by decide) rfl ?_
  intro p e s m args below meth c s₁ B hml hv
  obtain ⟨rfl, hP, hK⟩ := hv
  have hx := B.exec
  have hb := B.bytes
  have hr := B.returns
  have hts := atoms_spec (ws := ws_RB_neededOf) B.pre
  have hown : s.vm.findClass R_RB = some m.cls := findClass_of_methodNamed B.named
  have hlocks := B.notSynchronized
  have hS : va_S (fun _ => False) s.heap s.heap [] := va_S.rf
  have hP : va_P (dC, dI) vwCl [(h0, .inr (7, [.ref aN, .ref aB, .int (nI n), .int tl, .int ab, .int mk, .int sh])), (aN, .inl (cI, 20, .inl nd)), (aB, .inl (cI, 20, .inl br))] s.heap := hP
  have iRB : ∀ w ∈ u_ws R_RB T_RB 7, w ∈ ws_RB_neededOf := fun w h => wb_RB_neededOf w (in_RB w h)
  have hl := lv_entry ([.ref h0, .int su]) (n := 4) (Nat.le_of_ble_eq_true rfl)
  rw [lg_entry_eq]
  generalize (lg_sl ([.ref h0, .int su]) ++ List.replicate (4 - (lg_sl ([.ref h0, .int su])).length) Slot.unset).toArray = ls at hl ⊢
  have hl : lv_has ls 4 [(0, .ref h0), (1, .int su)] := hl
  refine lv_iload_n hx hb d_RB_neededOf_0 rfl (lv_at hl 1 rfl) ?_
  refine lv_aload_n hx hb d_RB_neededOf_1 rfl (lv_at hl 0 rfl) ?_
  refine va_get (D := (dC, dI)) (ci := 7) (v := .int ab) (C := R_RB) (T := T_RB) (N := 7) hx hb hts iRB hown hK hP 0 rfl rfl 4 (by decide) (hts _ (wb_RB_neededOf _ b_91)) (fun _ h9 => h9) rfl d_RB_neededOf_2 ?_
  refine lv_iand hx hb d_RB_neededOf_5 ?_
  refine lv_topi (fun z ez => ?_)
  refine lv_istore_n (lv' := [(2, .int z), (0, .ref h0), (1, .int su)]) hx hb d_RB_neededOf_6 rfl hl (by decide) rfl (fun ls hl => ?_)
  refine lv_iload_n hx hb d_RB_neededOf_7 rfl (lv_at hl 0 rfl) ?_
  have hPc := hP.sub (ws' := []) [] rfl
  have hKc := hK.sub (tys' := []) [] rfl
  refine va_calli (va_runS (As := [.int z]) (rest := []) ⟨hx, hb, hml, hown, hts⟩ (c_JI_bitCount l dC dI z) (va_cwS 1 hts (vz_gS wb_RB_neededOf b_638 b_639 b_18 wc_JI_bitCount) rfl rfl rfl (by decide +kernel) ⟨Nat.le_of_ble_eq_true rfl, Nat.le_of_ble_eq_true rfl⟩) (vz_preS hPc hKc) rfl rfl hl.1 rfl (lv_room (Nat.le_of_ble_eq_true rfl)) d_RB_neededOf_8 ⟨Nat.le_of_ble_eq_true rfl, Nat.le_of_ble_eq_true rfl⟩) hS (fun q _ h => False.elim h) (fun q h => False.elim h) (fun r8 u9 t9 H1 locs ht hvm hr8 hB hzx9 hkx9 hS => ?_)
  try dsimp only at hr8
  have hP := vz_kept hP hkx9
  generalize H1 = H at hP hS ⊢
  refine lv_iconst (v := 1) hx hb d_RB_neededOf_11 (by decide) ?_
  refine lv_icmp_le (tgt := 17) hx hb d_RB_neededOf_12 (by decide) (fun c12 => ?_) (fun c12 => ?_)
  · refine lv_iload_n hx hb d_RB_neededOf_17 rfl (lv_at hl 0 rfl) ?_
    refine lv_if_eq (tgt := 25) hx hb d_RB_neededOf_18 (by decide) (fun c18 => ?_) (fun c18 => ?_)
    · refine lv_aload_n hx hb d_RB_neededOf_25 rfl (lv_at hl 1 rfl) ?_
      refine lv_iload_n hx hb d_RB_neededOf_26 rfl (lv_at hl 2 rfl) ?_
      have hPc := hP.sub (ws' := [(h0, .inr (7, [.ref aN, .ref aB, .int (nI n), .int tl, .int ab, .int mk, .int sh])), (aN, .inl (cI, 20, .inl nd)), (aB, .inl (cI, 20, .inl br))]) [0, 1, 2] rfl
      have hKc := hK.sub (tys' := [(cI, .int)]) [0] rfl
      refine va_calli (va_runV (As := [.int su]) (rest := []) ⟨hx, hb, hml, hown, hts⟩ (c_RB_lastOf l dC dI cI h0 aN aB nd br n (by first | assumption | omega) tl ab mk sh su) (cwV 1 hts (vz_gV wb_RB_neededOf b_644 b_646 bs_14 b_4 wc_RB_lastOf) rfl rfl rfl (by decide +kernel) ⟨Nat.le_of_ble_eq_true rfl, Nat.le_of_ble_eq_true rfl⟩) (vz_preV hPc hKc (ci := 7) (q0 := 0) rfl rfl) rfl rfl hl.1 rfl (lv_room (Nat.le_of_ble_eq_true rfl)) d_RB_neededOf_27 ⟨Nat.le_of_ble_eq_true rfl, Nat.le_of_ble_eq_true rfl⟩) hS (fun q _ h => False.elim h) (fun q h => False.elim h) (fun r27 u9 t9 H1 locs ht hvm hr27 hB hzx9 hkx9 hS => ?_)
      try dsimp only at hr27
      have hP := vz_kept hP hkx9
      generalize H1 = H at hP hS ⊢
      refine lv_topi (fun dc edc => ?_)
      refine lv_istore_n (lv' := [(3, .int dc), (2, .int z), (0, .ref h0), (1, .int su)]) hx hb d_RB_neededOf_30 rfl hl (by decide) rfl (fun ls hl => ?_)
      refine lv_aload_n hx hb d_RB_neededOf_31 rfl (lv_at hl 2 rfl) ?_
      refine lv_iload_n hx hb d_RB_neededOf_32 rfl (lv_at hl 3 rfl) ?_
      refine lv_iload_n hx hb d_RB_neededOf_33 rfl (lv_at hl 0 rfl) ?_
      refine lv_iconst (v := (-1)) hx hb d_RB_neededOf_34 (by decide) ?_
      refine lv_ixor hx hb d_RB_neededOf_35 ?_
      refine lv_iand hx hb d_RB_neededOf_36 ?_
      have hPc := hP.sub (ws' := [(h0, .inr (7, [.ref aN, .ref aB, .int (nI n), .int tl, .int ab, .int mk, .int sh])), (aN, .inl (cI, 20, .inl nd)), (aB, .inl (cI, 20, .inl br))]) [0, 1, 2] rfl
      have hKc := hK.sub (tys' := [(cI, .int)]) [0] rfl
      refine va_calli (va_runV (As := [.int (su &&& (dc ^^^ (-1)))]) (rest := []) ⟨hx, hb, hml, hown, hts⟩ (c_RB_answerOf l dC dI cI h0 aN aB nd br n (by first | assumption | omega) tl ab mk sh (su &&& (dc ^^^ (-1)))) (cwV 1 hts (vz_gV wb_RB_neededOf b_648 b_531 b_532 b_4 wc_RB_answerOf) rfl rfl rfl (by decide +kernel) ⟨Nat.le_of_ble_eq_true rfl, Nat.le_of_ble_eq_true rfl⟩) (vz_preV hPc hKc (ci := 7) (q0 := 0) rfl rfl) rfl rfl hl.1 rfl (lv_room (Nat.le_of_ble_eq_true rfl)) d_RB_neededOf_37 ⟨Nat.le_of_ble_eq_true rfl, Nat.le_of_ble_eq_true rfl⟩) hS (fun q _ h => False.elim h) (fun q h => False.elim h) (fun r37 u9 t9 H1 locs ht hvm hr37 hB hzx9 hkx9 hS => ?_)
      try dsimp only at hr37
      have hP := vz_kept hP hkx9
      generalize H1 = H at hP hS ⊢
      refine lv_aload_n hx hb d_RB_neededOf_40 rfl (lv_at hl 2 rfl) ?_
      refine lv_iload_n hx hb d_RB_neededOf_41 rfl (lv_at hl 3 rfl) ?_
      have hPc := hP.sub (ws' := [(h0, .inr (7, [.ref aN, .ref aB, .int (nI n), .int tl, .int ab, .int mk, .int sh])), (aN, .inl (cI, 20, .inl nd)), (aB, .inl (cI, 20, .inl br))]) [0, 1, 2] rfl
      have hKc := hK.sub (tys' := [(cI, .int)]) [0] rfl
      refine va_calli (va_runV (As := [.int su]) (rest := [.int r37]) ⟨hx, hb, hml, hown, hts⟩ (c_RB_answerOf l dC dI cI h0 aN aB nd br n (by first | assumption | omega) tl ab mk sh su) (cwV 1 hts (vz_gV wb_RB_neededOf b_648 b_531 b_532 b_4 wc_RB_answerOf) rfl rfl rfl (by decide +kernel) ⟨Nat.le_of_ble_eq_true rfl, Nat.le_of_ble_eq_true rfl⟩) (vz_preV hPc hKc (ci := 7) (q0 := 0) rfl rfl) rfl rfl hl.1 rfl (lv_room (Nat.le_of_ble_eq_true rfl)) d_RB_neededOf_42 ⟨Nat.le_of_ble_eq_true rfl, Nat.le_of_ble_eq_true rfl⟩) hS (fun q _ h => False.elim h) (fun q h => False.elim h) (fun r42 u9 t9 H1 locs ht hvm hr42 hB hzx9 hkx9 hS => ?_)
      try dsimp only at hr42
      have hP := vz_kept hP hkx9
      generalize H1 = H at hP hS ⊢
      refine lv_icmp_ne (tgt := 52) hx hb d_RB_neededOf_45 (by decide) (fun c45 => ?_) (fun c45 => ?_)
      · refine lv_iload_n hx hb d_RB_neededOf_52 rfl (lv_at hl 0 rfl) ?_
        have hdc : dc = decF ab n su := by rw [edc]; simp only [decF, ← ez, if_pos c18, hr27]
        have hfin : needF ab mk sh n su = if r37 = r42 then 0 else dc := by simp only [needF, ← ez, ← hr8, if_pos c12, ← hdc, ← hr37, ← hr42]
        exact W.iret (v := dc) hx hb hr (fun t ht hW => ⟨⟨dc, (), rfl, by rw [hfin]; simp [c45], trivial⟩, hS.F ht⟩) hS.2.2 d_RB_neededOf_53
      · refine lv_iconst (v := 0) hx hb d_RB_neededOf_48 (by decide) ?_
        refine lv_goto (tgt := 53) hx hb d_RB_neededOf_49 (by decide) ?_
        have hdc : dc = decF ab n su := by rw [edc]; simp only [decF, ← ez, if_pos c18, hr27]
        have hfin : needF ab mk sh n su = if r37 = r42 then 0 else dc := by simp only [needF, ← ez, ← hr8, if_pos c12, ← hdc, ← hr37, ← hr42]
        exact W.iret (v := 0) hx hb hr (fun t ht hW => ⟨⟨0, (), rfl, by rw [hfin]; simp [c45], trivial⟩, hS.F ht⟩) hS.2.2 d_RB_neededOf_53
    · refine lv_iload_n hx hb d_RB_neededOf_21 rfl (lv_at hl 0 rfl) ?_
      refine lv_goto (tgt := 30) hx hb d_RB_neededOf_22 (by decide) ?_
      refine lv_topi (fun dc edc => ?_)
      refine lv_istore_n (lv' := [(3, .int dc), (2, .int z), (0, .ref h0), (1, .int su)]) hx hb d_RB_neededOf_30 rfl hl (by decide) rfl (fun ls hl => ?_)
      refine lv_aload_n hx hb d_RB_neededOf_31 rfl (lv_at hl 2 rfl) ?_
      refine lv_iload_n hx hb d_RB_neededOf_32 rfl (lv_at hl 3 rfl) ?_
      refine lv_iload_n hx hb d_RB_neededOf_33 rfl (lv_at hl 0 rfl) ?_
      refine lv_iconst (v := (-1)) hx hb d_RB_neededOf_34 (by decide) ?_
      refine lv_ixor hx hb d_RB_neededOf_35 ?_
      refine lv_iand hx hb d_RB_neededOf_36 ?_
      have hPc := hP.sub (ws' := [(h0, .inr (7, [.ref aN, .ref aB, .int (nI n), .int tl, .int ab, .int mk, .int sh])), (aN, .inl (cI, 20, .inl nd)), (aB, .inl (cI, 20, .inl br))]) [0, 1, 2] rfl
      have hKc := hK.sub (tys' := [(cI, .int)]) [0] rfl
      refine va_calli (va_runV (As := [.int (su &&& (dc ^^^ (-1)))]) (rest := []) ⟨hx, hb, hml, hown, hts⟩ (c_RB_answerOf l dC dI cI h0 aN aB nd br n (by first | assumption | omega) tl ab mk sh (su &&& (dc ^^^ (-1)))) (cwV 1 hts (vz_gV wb_RB_neededOf b_648 b_531 b_532 b_4 wc_RB_answerOf) rfl rfl rfl (by decide +kernel) ⟨Nat.le_of_ble_eq_true rfl, Nat.le_of_ble_eq_true rfl⟩) (vz_preV hPc hKc (ci := 7) (q0 := 0) rfl rfl) rfl rfl hl.1 rfl (lv_room (Nat.le_of_ble_eq_true rfl)) d_RB_neededOf_37 ⟨Nat.le_of_ble_eq_true rfl, Nat.le_of_ble_eq_true rfl⟩) hS (fun q _ h => False.elim h) (fun q h => False.elim h) (fun r37 u9 t9 H1 locs ht hvm hr37 hB hzx9 hkx9 hS => ?_)
      try dsimp only at hr37
      have hP := vz_kept hP hkx9
      generalize H1 = H at hP hS ⊢
      refine lv_aload_n hx hb d_RB_neededOf_40 rfl (lv_at hl 2 rfl) ?_
      refine lv_iload_n hx hb d_RB_neededOf_41 rfl (lv_at hl 3 rfl) ?_
      have hPc := hP.sub (ws' := [(h0, .inr (7, [.ref aN, .ref aB, .int (nI n), .int tl, .int ab, .int mk, .int sh])), (aN, .inl (cI, 20, .inl nd)), (aB, .inl (cI, 20, .inl br))]) [0, 1, 2] rfl
      have hKc := hK.sub (tys' := [(cI, .int)]) [0] rfl
      refine va_calli (va_runV (As := [.int su]) (rest := [.int r37]) ⟨hx, hb, hml, hown, hts⟩ (c_RB_answerOf l dC dI cI h0 aN aB nd br n (by first | assumption | omega) tl ab mk sh su) (cwV 1 hts (vz_gV wb_RB_neededOf b_648 b_531 b_532 b_4 wc_RB_answerOf) rfl rfl rfl (by decide +kernel) ⟨Nat.le_of_ble_eq_true rfl, Nat.le_of_ble_eq_true rfl⟩) (vz_preV hPc hKc (ci := 7) (q0 := 0) rfl rfl) rfl rfl hl.1 rfl (lv_room (Nat.le_of_ble_eq_true rfl)) d_RB_neededOf_42 ⟨Nat.le_of_ble_eq_true rfl, Nat.le_of_ble_eq_true rfl⟩) hS (fun q _ h => False.elim h) (fun q h => False.elim h) (fun r42 u9 t9 H1 locs ht hvm hr42 hB hzx9 hkx9 hS => ?_)
      try dsimp only at hr42
      have hP := vz_kept hP hkx9
      generalize H1 = H at hP hS ⊢
      refine lv_icmp_ne (tgt := 52) hx hb d_RB_neededOf_45 (by decide) (fun c45 => ?_) (fun c45 => ?_)
      · refine lv_iload_n hx hb d_RB_neededOf_52 rfl (lv_at hl 0 rfl) ?_
        have hdc : dc = decF ab n su := by rw [edc]; simp only [decF, ← ez, if_neg c18]
        have hfin : needF ab mk sh n su = if r37 = r42 then 0 else dc := by simp only [needF, ← ez, ← hr8, if_pos c12, ← hdc, ← hr37, ← hr42]
        exact W.iret (v := dc) hx hb hr (fun t ht hW => ⟨⟨dc, (), rfl, by rw [hfin]; simp [c45], trivial⟩, hS.F ht⟩) hS.2.2 d_RB_neededOf_53
      · refine lv_iconst (v := 0) hx hb d_RB_neededOf_48 (by decide) ?_
        refine lv_goto (tgt := 53) hx hb d_RB_neededOf_49 (by decide) ?_
        have hdc : dc = decF ab n su := by rw [edc]; simp only [decF, ← ez, if_neg c18]
        have hfin : needF ab mk sh n su = if r37 = r42 then 0 else dc := by simp only [needF, ← ez, ← hr8, if_pos c12, ← hdc, ← hr37, ← hr42]
        exact W.iret (v := 0) hx hb hr (fun t ht hW => ⟨⟨0, (), rfl, by rw [hfin]; simp [c45], trivial⟩, hS.F ht⟩) hS.2.2 d_RB_neededOf_53
  · refine lv_iconst (v := 0) hx hb d_RB_neededOf_15 (by decide) ?_
    exact W.iret (v := 0) hx hb hr (fun t ht hW => ⟨⟨0, (), rfl, by simp only [needF, ← ez, ← hr8, if_neg c12], trivial⟩, hS.F ht⟩) hS.2.2 d_RB_neededOf_16
