/-- a reader's state: answer, needs, bars, state, turned, first fact, digits -/
abbrev RdS : Type := Int32 × Int32 × Int32 × Int32 × Int32 × Int32 × Int32
def rdAdd (x : RdS) (fact : Int32) : RdS := (x.1, (if x.2.2.2.2.1 = 0 then x.2.1 ||| ((1 : Int32) <<< (fact &&& 31)) else x.2.1), (if x.2.2.2.2.1 = 0 then x.2.2.1 else x.2.2.1 ||| ((1 : Int32) <<< (fact &&& 31))), 1, x.2.2.2.2.1, x.2.2.2.2.2.1, x.2.2.2.2.2.2)
def rdWait (x : RdS) (first many : Int32) : RdS := (x.1, x.2.1, x.2.2.1, 4, x.2.2.2.2.1, first, many)
def rdDigS (x : RdS) (sg : Int32) : RdS := if sg < 48 then x else if sg < 48 + x.2.2.2.2.2.2 then rdAdd x (x.2.2.2.2.2.1 + (sg - 48)) else x
def rdDigR (x : RdS) (sg : Int32) : Int32 := if sg < 48 then 0 else if sg < 48 + x.2.2.2.2.2.2 then 1 else 0
def rdLetS (x : RdS) (sg : Int32) : RdS := if sg = 99 then rdWait x 22 8 else if sg = 102 then rdWait x 12 6 else if sg = 103 then rdAdd x 30 else if sg = 107 then rdWait x 8 4 else if sg = 112 then rdWait x 18 4 else if sg = 114 then rdWait x 0 8 else x
def rdLetR (sg : Int32) : Int32 := if sg = 99 then 1 else if sg = 102 then 1 else if sg = 103 then 1 else if sg = 107 then 1 else if sg = 112 then 1 else if sg = 114 then 1 else 0
def rdAnsS (x : RdS) (sg : Int32) : RdS := ((if sg = 97 then 0 else if sg = 109 then 1 else if sg = 115 then 2 else x.1), x.2.1, x.2.2.1, 1, x.2.2.2.2.1, x.2.2.2.2.2.1, x.2.2.2.2.2.2)
def rdAnsR (sg : Int32) : Int32 := if sg = 97 then 1 else if sg = 109 then 1 else if sg = 115 then 1 else 0
def rdGap (x : RdS) : RdS := (x.1, x.2.1, x.2.2.1, 2, 0, x.2.2.2.2.2.1, x.2.2.2.2.2.2)
def rdTurn (x : RdS) : RdS := (x.1, x.2.1, x.2.2.1, 3, 1, x.2.2.2.2.2.1, x.2.2.2.2.2.2)
def rdTake (x : RdS) (sg : Int32) : RdS := if x.2.2.2.1 = 0 then rdAnsS x sg else if x.2.2.2.1 = 1 then rdGap x else if x.2.2.2.1 = 2 then (if sg = 33 then rdTurn x else rdLetS x sg) else if x.2.2.2.1 = 3 then rdLetS x sg else rdDigS x sg
def rdTakR (x : RdS) (sg : Int32) : Int32 := if x.2.2.2.1 = 0 then rdAnsR sg else if x.2.2.2.1 = 1 then (if sg = 32 then 1 else 0) else if x.2.2.2.1 = 2 then (if sg = 33 then 1 else rdLetR sg) else if x.2.2.2.1 = 3 then rdLetR sg else rdDigR x sg
/-- the reader over d signs of f from k on: where it stops, its state, whether the text is a rule -/
def rdGo (f : Nat → Int32) : Nat → Nat → RdS → Int32 × RdS × Int32
  | k, 0, x => (nI k, x, if x.2.2.2.1 = 1 then 1 else 0)
  | k, d + 1, x => if rdTakR x (f k) = 0 then (nI k, rdTake x (f k), 0) else rdGo f (k + 1) d (rdTake x (f k))
theorem rdLetR_z (sg : Int32) : narrow .boolean (.int (rdLetR sg)) = .int (rdLetR sg) := by unfold rdLetR; (repeat' split) <;> rfl
theorem rdAnsR_z (sg : Int32) : narrow .boolean (.int (rdAnsR sg)) = .int (rdAnsR sg) := by unfold rdAnsR; (repeat' split) <;> rfl
theorem rdDigR_z (x : RdS) (sg : Int32) : narrow .boolean (.int (rdDigR x sg)) = .int (rdDigR x sg) := by unfold rdDigR; (repeat' split) <;> rfl

set_option maxHeartbeats 4000000 in
set_option maxRecDepth 100000 in
/-- RuleReader.addCondition -/
theorem c_RD_addCondition (l : Launch) (dC : Nat → ClassId) (dI : Nat → Nat → Nat) (sz : Nat) (h0 : Nat) (pl : Int32) (x : RdS) (fact : Int32) : Met l y_RD_addCondition ws_RD_addCondition ({ frames := 0, cells := 0, slots := 0, locals := 0 }) (va_Pc [.ref h0, .int fact] (fun U => U.heap.size = sz ∧ va_P (dC, dI) vwCl [(h0, .inr (8, [.int pl, .int x.1, .int x.2.1, .int x.2.2.1, .int x.2.2.2.1, .int x.2.2.2.2.1, .int x.2.2.2.2.2.1, .int x.2.2.2.2.2.2]))] U.heap ∧ va_K (dC, dI) vwCl [] U ∧ va_D (fun _ => True) [(h0, .inr (8, [.int pl, .int x.1, .int x.2.1, .int x.2.2.1, .int x.2.2.2.1, .int x.2.2.2.2.1, .int x.2.2.2.2.2.1, .int x.2.2.2.2.2.2]))])) (va_Qv (fun (_ : Unit) => True) (fun _ t => va_P (dC, dI) vwCl [(h0, .inr (8, [.int pl, .int ((rdAdd x fact).1), .int ((rdAdd x fact).2.1), .int ((rdAdd x fact).2.2.1), .int ((rdAdd x fact).2.2.2.1), .int ((rdAdd x fact).2.2.2.2.1), .int ((rdAdd x fact).2.2.2.2.2.1), .int ((rdAdd x fact).2.2.2.2.2.2)]))] t.heap ∧ va_K (dC, dI) vwCl [] t ∧ va_D (va_A [(h0, .inr (8, [.int pl, .int x.1, .int x.2.1, .int x.2.2.1, .int x.2.2.2.1, .int x.2.2.2.2.1, .int x.2.2.2.2.2.1, .int x.2.2.2.2.2.2]))] sz) [(h0, .inr (8, [.int pl, .int ((rdAdd x fact).1), .int ((rdAdd x fact).2.1), .int ((rdAdd x fact).2.2.1), .int ((rdAdd x fact).2.2.2.1), .int ((rdAdd x fact).2.2.2.2.1), .int ((rdAdd x fact).2.2.2.2.2.1), .int ((rdAdd x fact).2.2.2.2.2.2)]))]) (va_A [(h0, .inr (8, [.int pl, .int x.1, .int x.2.1, .int x.2.2.1, .int x.2.2.2.1, .int x.2.2.2.2.1, .int x.2.2.2.2.2.1, .int x.2.2.2.2.2.2]))] sz)) 0 0 (va_A [(h0, .inr (8, [.int pl, .int x.1, .int x.2.1, .int x.2.2.1, .int x.2.2.2.1, .int x.2.2.2.2.1, .int x.2.2.2.2.2.1, .int x.2.2.2.2.2.2]))] sz) := by
  refine Met.ofW (cc := k_RD_addCondition) (maxL := 2) (ret := none) (by decide) rfl ?_
  intro p e s m args below meth c s₁ B hml hv
  obtain ⟨rfl, hsz, hP, hK, hD0⟩ := hv
  have hx := B.exec
  have hb := B.bytes
  have hr := B.returns
  have hts := atoms_spec (ws := ws_RD_addCondition) B.pre
  have hown : s.vm.findClass R_RD = some m.cls := findClass_of_methodNamed B.named
  have hlocks := B.notSynchronized
  subst hsz
  have hD := hD0.self (sz := s.heap.size)
  generalize hAe : va_A [(h0, .inr (8, [.int pl, .int x.1, .int x.2.1, .int x.2.2.1, .int x.2.2.2.1, .int x.2.2.2.2.1, .int x.2.2.2.2.2.1, .int x.2.2.2.2.2.2]))] s.heap.size = A at hD ⊢
  have hA : ∀ q : Nat, s.heap.size ≤ q → A q := fun q h => by rw [← hAe]; exact Or.inr h
  have hS : va_S A s.heap s.heap [] := va_S.rf
  have hP : va_P (dC, dI) vwCl [(h0, .inr (8, [.int pl, .int x.1, .int x.2.1, .int x.2.2.1, .int x.2.2.2.1, .int x.2.2.2.2.1, .int x.2.2.2.2.2.1, .int x.2.2.2.2.2.2]))] s.heap := hP
  have iRD : ∀ w ∈ u_ws R_RD T_RD 8, w ∈ ws_RD_addCondition := fun w h => wb_RD_addCondition w (in_RD w h)
  have hl := lv_entry ([.ref h0, .int fact]) (n := 2) (Nat.le_of_ble_eq_true rfl)
  rw [lg_entry_eq]
  generalize (lg_sl ([.ref h0, .int fact]) ++ List.replicate (2 - (lg_sl ([.ref h0, .int fact])).length) Slot.unset).toArray = ls at hl ⊢
  have hl : lv_has ls 2 [(0, .ref h0), (1, .int fact)] := hl
  refine lv_aload_n hx hb d_RD_addCondition_0 rfl (lv_at hl 0 rfl) ?_
  refine va_get (D := (dC, dI)) (ci := 8) (v := .int x.2.2.2.2.1) (C := R_RD) (T := T_RD) (N := 8) hx hb hts iRD hown hK hP 0 rfl rfl 5 (by decide) (hts _ (wb_RD_addCondition _ b_59)) (fun _ h9 => h9) rfl d_RD_addCondition_1 ?_
  refine lv_if_eq (tgt := 22) hx hb d_RD_addCondition_4 (by decide) (fun c4 => ?_) (fun c4 => ?_)
  · refine lv_aload_n hx hb d_RD_addCondition_22 rfl (lv_at hl 0 rfl) ?_
    refine lv_dup hx hb d_RD_addCondition_23 rfl ?_
    refine va_get (D := (dC, dI)) (ci := 8) (v := .int x.2.1) (C := R_RD) (T := T_RD) (N := 8) hx hb hts iRD hown hK hP 0 rfl rfl 2 (by decide) (hts _ (wb_RD_addCondition _ b_54)) (fun _ h9 => h9) rfl d_RD_addCondition_24 ?_
    refine lv_iconst (v := 1) hx hb d_RD_addCondition_27 (by decide) ?_
    refine lv_iload_n hx hb d_RD_addCondition_28 rfl (lv_at hl 1 rfl) ?_
    refine lv_ishl hx hb d_RD_addCondition_29 ?_
    refine lv_ior hx hb d_RD_addCondition_30 ?_
    refine va_put (D := (dC, dI)) (ci := 8) (v := .int (x.2.1 ||| (1 <<< (fact &&& 31)))) (ty := .int) (C := R_RD) (T := T_RD) (N := 8) hx hb hts iRD ty_RD tyok_RD nm_RD hown hK hP hD hS 0 rfl rfl 2 (by decide) (hts _ (wb_RD_addCondition _ b_54)) (fun _ h9 => h9) rfl rfl rfl rfl (Nat.le_of_ble_eq_true rfl) d_RD_addCondition_31 (fun H locs hP hD hS => ?_)
    have hP : va_P (dC, dI) vwCl [(h0, .inr (8, [.int pl, .int x.1, .int (x.2.1 ||| (1 <<< (fact &&& 31))), .int x.2.2.1, .int x.2.2.2.1, .int x.2.2.2.2.1, .int x.2.2.2.2.2.1, .int x.2.2.2.2.2.2]))] H := hP
    have hD : va_D A [(h0, .inr (8, [.int pl, .int x.1, .int (x.2.1 ||| (1 <<< (fact &&& 31))), .int x.2.2.1, .int x.2.2.2.1, .int x.2.2.2.2.1, .int x.2.2.2.2.2.1, .int x.2.2.2.2.2.2]))] := hD
    refine lv_aload_n hx hb d_RD_addCondition_34 rfl (lv_at hl 0 rfl) ?_
    refine lv_iconst (v := 1) hx hb d_RD_addCondition_35 (by decide) ?_
    refine va_put (D := (dC, dI)) (ci := 8) (v := .int 1) (ty := .int) (C := R_RD) (T := T_RD) (N := 8) hx hb hts iRD ty_RD tyok_RD nm_RD hown hK hP hD hS 0 rfl rfl 4 (by decide) (hts _ (wb_RD_addCondition _ b_58)) (fun _ h9 => h9) rfl rfl rfl rfl (Nat.le_of_ble_eq_true rfl) d_RD_addCondition_36 (fun H locs hP hD hS => ?_)
    have hP : va_P (dC, dI) vwCl [(h0, .inr (8, [.int pl, .int x.1, .int (x.2.1 ||| (1 <<< (fact &&& 31))), .int x.2.2.1, .int 1, .int x.2.2.2.2.1, .int x.2.2.2.2.2.1, .int x.2.2.2.2.2.2]))] H := hP
    have hD : va_D A [(h0, .inr (8, [.int pl, .int x.1, .int (x.2.1 ||| (1 <<< (fact &&& 31))), .int x.2.2.1, .int 1, .int x.2.2.2.2.1, .int x.2.2.2.2.2.1, .int x.2.2.2.2.2.2]))] := hD
    have hP9 := hP.sub (ws' := [(h0, .inr (8, [.int pl, .int x.1, .int (x.2.1 ||| (1 <<< (fact &&& 31))), .int x.2.2.1, .int 1, .int x.2.2.2.2.1, .int x.2.2.2.2.2.1, .int x.2.2.2.2.2.2]))]) [0] rfl
    have hD9 := hD.sub (ws' := [(h0, .inr (8, [.int pl, .int x.1, .int (x.2.1 ||| (1 <<< (fact &&& 31))), .int x.2.2.1, .int 1, .int x.2.2.2.2.1, .int x.2.2.2.2.2.1, .int x.2.2.2.2.2.2]))]) [0] (by decide) rfl
    have e9 : ([(h0, .inr (8, [.int pl, .int x.1, .int (x.2.1 ||| (1 <<< (fact &&& 31))), .int x.2.2.1, .int 1, .int x.2.2.2.2.1, .int x.2.2.2.2.2.1, .int x.2.2.2.2.2.2]))] : va_W) = [(h0, .inr (8, [.int pl, .int ((rdAdd x fact).1), .int ((rdAdd x fact).2.1), .int ((rdAdd x fact).2.2.1), .int ((rdAdd x fact).2.2.2.1), .int ((rdAdd x fact).2.2.2.2.1), .int ((rdAdd x fact).2.2.2.2.2.1), .int ((rdAdd x fact).2.2.2.2.2.2)]))] := by simp [rdAdd, c4]
    rw [e9] at hP9 hD9
    exact W.vret hx hb hr (fun t ht hW => ⟨⟨(), rfl, trivial, by rw [ht]; exact hP9, va_K.moved hW.alike hK, hD9⟩, hS.F ht⟩) hS.2.2 d_RD_addCondition_39
  · refine lv_aload_n hx hb d_RD_addCondition_7 rfl (lv_at hl 0 rfl) ?_
    refine lv_dup hx hb d_RD_addCondition_8 rfl ?_
    refine va_get (D := (dC, dI)) (ci := 8) (v := .int x.2.2.1) (C := R_RD) (T := T_RD) (N := 8) hx hb hts iRD hown hK hP 0 rfl rfl 3 (by decide) (hts _ (wb_RD_addCondition _ b_56)) (fun _ h9 => h9) rfl d_RD_addCondition_9 ?_
    refine lv_iconst (v := 1) hx hb d_RD_addCondition_12 (by decide) ?_
    refine lv_iload_n hx hb d_RD_addCondition_13 rfl (lv_at hl 1 rfl) ?_
    refine lv_ishl hx hb d_RD_addCondition_14 ?_
    refine lv_ior hx hb d_RD_addCondition_15 ?_
    refine va_put (D := (dC, dI)) (ci := 8) (v := .int (x.2.2.1 ||| (1 <<< (fact &&& 31)))) (ty := .int) (C := R_RD) (T := T_RD) (N := 8) hx hb hts iRD ty_RD tyok_RD nm_RD hown hK hP hD hS 0 rfl rfl 3 (by decide) (hts _ (wb_RD_addCondition _ b_56)) (fun _ h9 => h9) rfl rfl rfl rfl (Nat.le_of_ble_eq_true rfl) d_RD_addCondition_16 (fun H locs hP hD hS => ?_)
    have hP : va_P (dC, dI) vwCl [(h0, .inr (8, [.int pl, .int x.1, .int x.2.1, .int (x.2.2.1 ||| (1 <<< (fact &&& 31))), .int x.2.2.2.1, .int x.2.2.2.2.1, .int x.2.2.2.2.2.1, .int x.2.2.2.2.2.2]))] H := hP
    have hD : va_D A [(h0, .inr (8, [.int pl, .int x.1, .int x.2.1, .int (x.2.2.1 ||| (1 <<< (fact &&& 31))), .int x.2.2.2.1, .int x.2.2.2.2.1, .int x.2.2.2.2.2.1, .int x.2.2.2.2.2.2]))] := hD
    refine lv_goto (tgt := 34) hx hb d_RD_addCondition_19 (by decide) ?_
    refine lv_aload_n hx hb d_RD_addCondition_34 rfl (lv_at hl 0 rfl) ?_
    refine lv_iconst (v := 1) hx hb d_RD_addCondition_35 (by decide) ?_
    refine va_put (D := (dC, dI)) (ci := 8) (v := .int 1) (ty := .int) (C := R_RD) (T := T_RD) (N := 8) hx hb hts iRD ty_RD tyok_RD nm_RD hown hK hP hD hS 0 rfl rfl 4 (by decide) (hts _ (wb_RD_addCondition _ b_58)) (fun _ h9 => h9) rfl rfl rfl rfl (Nat.le_of_ble_eq_true rfl) d_RD_addCondition_36 (fun H locs hP hD hS => ?_)
    have hP : va_P (dC, dI) vwCl [(h0, .inr (8, [.int pl, .int x.1, .int x.2.1, .int (x.2.2.1 ||| (1 <<< (fact &&& 31))), .int 1, .int x.2.2.2.2.1, .int x.2.2.2.2.2.1, .int x.2.2.2.2.2.2]))] H := hP
    have hD : va_D A [(h0, .inr (8, [.int pl, .int x.1, .int x.2.1, .int (x.2.2.1 ||| (1 <<< (fact &&& 31))), .int 1, .int x.2.2.2.2.1, .int x.2.2.2.2.2.1, .int x.2.2.2.2.2.2]))] := hD
    have hP9 := hP.sub (ws' := [(h0, .inr (8, [.int pl, .int x.1, .int x.2.1, .int (x.2.2.1 ||| (1 <<< (fact &&& 31))), .int 1, .int x.2.2.2.2.1, .int x.2.2.2.2.2.1, .int x.2.2.2.2.2.2]))]) [0] rfl
    have hD9 := hD.sub (ws' := [(h0, .inr (8, [.int pl, .int x.1, .int x.2.1, .int (x.2.2.1 ||| (1 <<< (fact &&& 31))), .int 1, .int x.2.2.2.2.1, .int x.2.2.2.2.2.1, .int x.2.2.2.2.2.2]))]) [0] (by decide) rfl
    have e9 : ([(h0, .inr (8, [.int pl, .int x.1, .int x.2.1, .int (x.2.2.1 ||| (1 <<< (fact &&& 31))), .int 1, .int x.2.2.2.2.1, .int x.2.2.2.2.2.1, .int x.2.2.2.2.2.2]))] : va_W) = [(h0, .inr (8, [.int pl, .int ((rdAdd x fact).1), .int ((rdAdd x fact).2.1), .int ((rdAdd x fact).2.2.1), .int ((rdAdd x fact).2.2.2.1), .int ((rdAdd x fact).2.2.2.2.1), .int ((rdAdd x fact).2.2.2.2.2.1), .int ((rdAdd x fact).2.2.2.2.2.2)]))] := by simp [rdAdd, c4]
    rw [e9] at hP9 hD9
    exact W.vret hx hb hr (fun t ht hW => ⟨⟨(), rfl, trivial, by rw [ht]; exact hP9, va_K.moved hW.alike hK, hD9⟩, hS.F ht⟩) hS.2.2 d_RD_addCondition_39

set_option maxHeartbeats 4000000 in
set_option maxRecDepth 100000 in
/-- RuleReader.awaitsDigit -/
theorem c_RD_awaitsDigit (l : Launch) (dC : Nat → ClassId) (dI : Nat → Nat → Nat) (sz : Nat) (h0 : Nat) (pl : Int32) (x : RdS) (first many : Int32) : Met l y_RD_awaitsDigit ws_RD_awaitsDigit ({ frames := 0, cells := 0, slots := 0, locals := 0 }) (va_Pc [.ref h0, .int first, .int many] (fun U => U.heap.size = sz ∧ va_P (dC, dI) vwCl [(h0, .inr (8, [.int pl, .int x.1, .int x.2.1, .int x.2.2.1, .int x.2.2.2.1, .int x.2.2.2.2.1, .int x.2.2.2.2.2.1, .int x.2.2.2.2.2.2]))] U.heap ∧ va_K (dC, dI) vwCl [] U ∧ va_D (fun _ => True) [(h0, .inr (8, [.int pl, .int x.1, .int x.2.1, .int x.2.2.1, .int x.2.2.2.1, .int x.2.2.2.2.1, .int x.2.2.2.2.2.1, .int x.2.2.2.2.2.2]))])) (va_Qi (fun (res : Int32) (_ : Unit) => res = 1) (fun _ t => va_P (dC, dI) vwCl [(h0, .inr (8, [.int pl, .int ((rdWait x first many).1), .int ((rdWait x first many).2.1), .int ((rdWait x first many).2.2.1), .int ((rdWait x first many).2.2.2.1), .int ((rdWait x first many).2.2.2.2.1), .int ((rdWait x first many).2.2.2.2.2.1), .int ((rdWait x first many).2.2.2.2.2.2)]))] t.heap ∧ va_K (dC, dI) vwCl [] t ∧ va_D (va_A [(h0, .inr (8, [.int pl, .int x.1, .int x.2.1, .int x.2.2.1, .int x.2.2.2.1, .int x.2.2.2.2.1, .int x.2.2.2.2.2.1, .int x.2.2.2.2.2.2]))] sz) [(h0, .inr (8, [.int pl, .int ((rdWait x first many).1), .int ((rdWait x first many).2.1), .int ((rdWait x first many).2.2.1), .int ((rdWait x first many).2.2.2.1), .int ((rdWait x first many).2.2.2.2.1), .int ((rdWait x first many).2.2.2.2.2.1), .int ((rdWait x first many).2.2.2.2.2.2)]))]) (va_A [(h0, .inr (8, [.int pl, .int x.1, .int x.2.1, .int x.2.2.1, .int x.2.2.2.1, .int x.2.2.2.2.1, .int x.2.2.2.2.2.1, .int x.2.2.2.2.2.2]))] sz)) 0 0 (va_A [(h0, .inr (8, [.int pl, .int x.1, .int x.2.1, .int x.2.2.1, .int x.2.2.2.1, .int x.2.2.2.2.1, .int x.2.2.2.2.2.1, .int x.2.2.2.2.2.2]))] sz) := by
  refine Met.ofW (cc := k_RD_awaitsDigit) (maxL := 3) (ret := (some .boolean)) (by decide) rfl ?_
  intro p e s m args below meth c s₁ B hml hv
  obtain ⟨rfl, hsz, hP, hK, hD0⟩ := hv
  have hx := B.exec
  have hb := B.bytes
  have hr := B.returns
  have hts := atoms_spec (ws := ws_RD_awaitsDigit) B.pre
  have hown : s.vm.findClass R_RD = some m.cls := findClass_of_methodNamed B.named
  have hlocks := B.notSynchronized
  subst hsz
  have hD := hD0.self (sz := s.heap.size)
  generalize hAe : va_A [(h0, .inr (8, [.int pl, .int x.1, .int x.2.1, .int x.2.2.1, .int x.2.2.2.1, .int x.2.2.2.2.1, .int x.2.2.2.2.2.1, .int x.2.2.2.2.2.2]))] s.heap.size = A at hD ⊢
  have hA : ∀ q : Nat, s.heap.size ≤ q → A q := fun q h => by rw [← hAe]; exact Or.inr h
  have hS : va_S A s.heap s.heap [] := va_S.rf
  have hP : va_P (dC, dI) vwCl [(h0, .inr (8, [.int pl, .int x.1, .int x.2.1, .int x.2.2.1, .int x.2.2.2.1, .int x.2.2.2.2.1, .int x.2.2.2.2.2.1, .int x.2.2.2.2.2.2]))] s.heap := hP
  have iRD : ∀ w ∈ u_ws R_RD T_RD 8, w ∈ ws_RD_awaitsDigit := fun w h => wb_RD_awaitsDigit w (in_RD w h)
  have hl := lv_entry ([.ref h0, .int first, .int many]) (n := 3) (Nat.le_of_ble_eq_true rfl)
  rw [lg_entry_eq]
  generalize (lg_sl ([.ref h0, .int first, .int many]) ++ List.replicate (3 - (lg_sl ([.ref h0, .int first, .int many])).length) Slot.unset).toArray = ls at hl ⊢
  have hl : lv_has ls 3 [(0, .ref h0), (1, .int first), (2, .int many)] := hl
  refine lv_aload_n hx hb d_RD_awaitsDigit_0 rfl (lv_at hl 0 rfl) ?_
  refine lv_iload_n hx hb d_RD_awaitsDigit_1 rfl (lv_at hl 1 rfl) ?_
  refine va_put (D := (dC, dI)) (ci := 8) (v := .int first) (ty := .int) (C := R_RD) (T := T_RD) (N := 8) hx hb hts iRD ty_RD tyok_RD nm_RD hown hK hP hD hS 0 rfl rfl 6 (by decide) (hts _ (wb_RD_awaitsDigit _ b_60)) (fun _ h9 => h9) rfl rfl rfl rfl (Nat.le_of_ble_eq_true rfl) d_RD_awaitsDigit_2 (fun H locs hP hD hS => ?_)
  have hP : va_P (dC, dI) vwCl [(h0, .inr (8, [.int pl, .int x.1, .int x.2.1, .int x.2.2.1, .int x.2.2.2.1, .int x.2.2.2.2.1, .int first, .int x.2.2.2.2.2.2]))] H := hP
  have hD : va_D A [(h0, .inr (8, [.int pl, .int x.1, .int x.2.1, .int x.2.2.1, .int x.2.2.2.1, .int x.2.2.2.2.1, .int first, .int x.2.2.2.2.2.2]))] := hD
  refine lv_aload_n hx hb d_RD_awaitsDigit_5 rfl (lv_at hl 0 rfl) ?_
  refine lv_iload_n hx hb d_RD_awaitsDigit_6 rfl (lv_at hl 2 rfl) ?_
  refine va_put (D := (dC, dI)) (ci := 8) (v := .int many) (ty := .int) (C := R_RD) (T := T_RD) (N := 8) hx hb hts iRD ty_RD tyok_RD nm_RD hown hK hP hD hS 0 rfl rfl 7 (by decide) (hts _ (wb_RD_awaitsDigit _ b_61)) (fun _ h9 => h9) rfl rfl rfl rfl (Nat.le_of_ble_eq_true rfl) d_RD_awaitsDigit_7 (fun H locs hP hD hS => ?_)
  have hP : va_P (dC, dI) vwCl [(h0, .inr (8, [.int pl, .int x.1, .int x.2.1, .int x.2.2.1, .int x.2.2.2.1, .int x.2.2.2.2.1, .int first, .int many]))] H := hP
  have hD : va_D A [(h0, .inr (8, [.int pl, .int x.1, .int x.2.1, .int x.2.2.1, .int x.2.2.2.1, .int x.2.2.2.2.1, .int first, .int many]))] := hD
  refine lv_aload_n hx hb d_RD_awaitsDigit_10 rfl (lv_at hl 0 rfl) ?_
  refine lv_iconst (v := 4) hx hb d_RD_awaitsDigit_11 (by decide) ?_
  refine va_put (D := (dC, dI)) (ci := 8) (v := .int 4) (ty := .int) (C := R_RD) (T := T_RD) (N := 8) hx hb hts iRD ty_RD tyok_RD nm_RD hown hK hP hD hS 0 rfl rfl 4 (by decide) (hts _ (wb_RD_awaitsDigit _ b_58)) (fun _ h9 => h9) rfl rfl rfl rfl (Nat.le_of_ble_eq_true rfl) d_RD_awaitsDigit_12 (fun H locs hP hD hS => ?_)
  have hP : va_P (dC, dI) vwCl [(h0, .inr (8, [.int pl, .int x.1, .int x.2.1, .int x.2.2.1, .int 4, .int x.2.2.2.2.1, .int first, .int many]))] H := hP
  have hD : va_D A [(h0, .inr (8, [.int pl, .int x.1, .int x.2.1, .int x.2.2.1, .int 4, .int x.2.2.2.2.1, .int first, .int many]))] := hD
  refine lv_iconst (v := 1) hx hb d_RD_awaitsDigit_15 (by decide) ?_
  have hP9 := hP.sub (ws' := [(h0, .inr (8, [.int pl, .int x.1, .int x.2.1, .int x.2.2.1, .int 4, .int x.2.2.2.2.1, .int first, .int many]))]) [0] rfl
  have hD9 := hD.sub (ws' := [(h0, .inr (8, [.int pl, .int x.1, .int x.2.1, .int x.2.2.1, .int 4, .int x.2.2.2.2.1, .int first, .int many]))]) [0] (by decide) rfl
  exact W.zret (v := 1) hx hb hr (rfl) (fun t ht hW => ⟨⟨1, (), rfl, rfl, by rw [ht]; exact hP9, va_K.moved hW.alike hK, hD9⟩, hS.F ht⟩) hS.2.2 d_RD_awaitsDigit_16

set_option maxHeartbeats 4000000 in
set_option maxRecDepth 100000 in
/-- RuleReader.takesDigit -/
theorem c_RD_takesDigit (l : Launch) (dC : Nat → ClassId) (dI : Nat → Nat → Nat) (sz : Nat) (h0 : Nat) (pl : Int32) (x : RdS) (sg : Int32) : Met l y_RD_takesDigit ws_RD_takesDigit ({ frames := 1, cells := 0, slots := 0, locals := 21 }) (va_Pc [.ref h0, .int sg] (fun U => U.heap.size = sz ∧ va_P (dC, dI) vwCl [(h0, .inr (8, [.int pl, .int x.1, .int x.2.1, .int x.2.2.1, .int x.2.2.2.1, .int x.2.2.2.2.1, .int x.2.2.2.2.2.1, .int x.2.2.2.2.2.2]))] U.heap ∧ va_K (dC, dI) vwCl [] U ∧ va_D (fun _ => True) [(h0, .inr (8, [.int pl, .int x.1, .int x.2.1, .int x.2.2.1, .int x.2.2.2.1, .int x.2.2.2.2.1, .int x.2.2.2.2.2.1, .int x.2.2.2.2.2.2]))])) (va_Qi (fun (res : Int32) (_ : Unit) => res = rdDigR x sg) (fun _ t => va_P (dC, dI) vwCl [(h0, .inr (8, [.int pl, .int ((rdDigS x sg).1), .int ((rdDigS x sg).2.1), .int ((rdDigS x sg).2.2.1), .int ((rdDigS x sg).2.2.2.1), .int ((rdDigS x sg).2.2.2.2.1), .int ((rdDigS x sg).2.2.2.2.2.1), .int ((rdDigS x sg).2.2.2.2.2.2)]))] t.heap ∧ va_K (dC, dI) vwCl [] t ∧ va_D (va_A [(h0, .inr (8, [.int pl, .int x.1, .int x.2.1, .int x.2.2.1, .int x.2.2.2.1, .int x.2.2.2.2.1, .int x.2.2.2.2.2.1, .int x.2.2.2.2.2.2]))] sz) [(h0, .inr (8, [.int pl, .int ((rdDigS x sg).1), .int ((rdDigS x sg).2.1), .int ((rdDigS x sg).2.2.1), .int ((rdDigS x sg).2.2.2.1), .int ((rdDigS x sg).2.2.2.2.1), .int ((rdDigS x sg).2.2.2.2.2.1), .int ((rdDigS x sg).2.2.2.2.2.2)]))]) (va_A [(h0, .inr (8, [.int pl, .int x.1, .int x.2.1, .int x.2.2.1, .int x.2.2.2.1, .int x.2.2.2.2.1, .int x.2.2.2.2.2.1, .int x.2.2.2.2.2.2]))] sz)) 0 0 (va_A [(h0, .inr (8, [.int pl, .int x.1, .int x.2.1, .int x.2.2.1, .int x.2.2.2.1, .int x.2.2.2.2.1, .int x.2.2.2.2.2.1, .int x.2.2.2.2.2.2]))] sz) := by
  refine Met.ofW (cc := k_RD_takesDigit) (maxL := 2) (ret := (some .boolean)) (by decide) rfl ?_
  intro p e s m args below meth c s₁ B hml hv
  obtain ⟨rfl, hsz, hP, hK, hD0⟩ := hv
  have hx := B.exec
  have hb := B.bytes
  have hr := B.returns
  have hts := atoms_spec (ws := ws_RD_takesDigit) B.pre
  have hown : s.vm.findClass R_RD = some m.cls := findClass_of_methodNamed B.named
  have hlocks := B.notSynchronized
  subst hsz
  have hD := hD0.self (sz := s.heap.size)
  generalize hAe : va_A [(h0, .inr (8, [.int pl, .int x.1, .int x.2.1, .int x.2.2.1, .int x.2.2.2.1, .int x.2.2.2.2.1, .int x.2.2.2.2.2.1, .int x.2.2.2.2.2.2]))] s.heap.size = A at hD ⊢
  have hA : ∀ q : Nat, s.heap.size ≤ q → A q := fun q h => by rw [← hAe]; exact Or.inr h
  have hS : va_S A s.heap s.heap [] := va_S.rf
  have hP : va_P (dC, dI) vwCl [(h0, .inr (8, [.int pl, .int x.1, .int x.2.1, .int x.2.2.1, .int x.2.2.2.1, .int x.2.2.2.2.1, .int x.2.2.2.2.2.1, .int x.2.2.2.2.2.2]))] s.heap := hP
  have iRD : ∀ w ∈ u_ws R_RD T_RD 8, w ∈ ws_RD_takesDigit := fun w h => wb_RD_takesDigit w (in_RD w h)
  have hl := lv_entry ([.ref h0, .int sg]) (n := 2) (Nat.le_of_ble_eq_true rfl)
  rw [lg_entry_eq]
  generalize (lg_sl ([.ref h0, .int sg]) ++ List.replicate (2 - (lg_sl ([.ref h0, .int sg])).length) Slot.unset).toArray = ls at hl ⊢
  have hl : lv_has ls 2 [(0, .ref h0), (1, .int sg)] := hl
  refine lv_iload_n hx hb d_RD_takesDigit_0 rfl (lv_at hl 1 rfl) ?_
  refine lv_bipush (v := 48) hx hb d_RD_takesDigit_1 (by decide) ?_
  refine lv_icmp_lt (tgt := 17) hx hb d_RD_takesDigit_3 (by decide) (fun c3 => ?_) (fun c3 => ?_)
  · refine lv_iconst (v := 0) hx hb d_RD_takesDigit_17 (by decide) ?_
    have hP9 := hP.sub (ws' := [(h0, .inr (8, [.int pl, .int x.1, .int x.2.1, .int x.2.2.1, .int x.2.2.2.1, .int x.2.2.2.2.1, .int x.2.2.2.2.2.1, .int x.2.2.2.2.2.2]))]) [0] rfl
    have hD9 := hD.sub (ws' := [(h0, .inr (8, [.int pl, .int x.1, .int x.2.1, .int x.2.2.1, .int x.2.2.2.1, .int x.2.2.2.2.1, .int x.2.2.2.2.2.1, .int x.2.2.2.2.2.2]))]) [0] (by decide) rfl
    have e9 : ([(h0, .inr (8, [.int pl, .int x.1, .int x.2.1, .int x.2.2.1, .int x.2.2.2.1, .int x.2.2.2.2.1, .int x.2.2.2.2.2.1, .int x.2.2.2.2.2.2]))] : va_W) = [(h0, .inr (8, [.int pl, .int ((rdDigS x sg).1), .int ((rdDigS x sg).2.1), .int ((rdDigS x sg).2.2.1), .int ((rdDigS x sg).2.2.2.1), .int ((rdDigS x sg).2.2.2.2.1), .int ((rdDigS x sg).2.2.2.2.2.1), .int ((rdDigS x sg).2.2.2.2.2.2)]))] := by simp [rdDigS, c3]
    rw [e9] at hP9 hD9
    exact W.zret (v := 0) hx hb hr (rfl) (fun t ht hW => ⟨⟨0, (), rfl, by simp [rdDigR, c3], by rw [ht]; exact hP9, va_K.moved hW.alike hK, hD9⟩, hS.F ht⟩) hS.2.2 d_RD_takesDigit_18
  · refine lv_iload_n hx hb d_RD_takesDigit_6 rfl (lv_at hl 1 rfl) ?_
    refine lv_bipush (v := 48) hx hb d_RD_takesDigit_7 (by decide) ?_
    refine lv_aload_n hx hb d_RD_takesDigit_9 rfl (lv_at hl 0 rfl) ?_
    refine va_get (D := (dC, dI)) (ci := 8) (v := .int x.2.2.2.2.2.2) (C := R_RD) (T := T_RD) (N := 8) hx hb hts iRD hown hK hP 0 rfl rfl 7 (by decide) (hts _ (wb_RD_takesDigit _ b_61)) (fun _ h9 => h9) rfl d_RD_takesDigit_10 ?_
    refine lv_iadd hx hb d_RD_takesDigit_13 ?_
    refine lv_icmp_lt (tgt := 19) hx hb d_RD_takesDigit_14 (by decide) (fun c14 => ?_) (fun c14 => ?_)
    · refine lv_aload_n hx hb d_RD_takesDigit_19 rfl (lv_at hl 0 rfl) ?_
      refine lv_aload_n hx hb d_RD_takesDigit_20 rfl (lv_at hl 0 rfl) ?_
      refine va_get (D := (dC, dI)) (ci := 8) (v := .int x.2.2.2.2.2.1) (C := R_RD) (T := T_RD) (N := 8) hx hb hts iRD hown hK hP 0 rfl rfl 6 (by decide) (hts _ (wb_RD_takesDigit _ b_60)) (fun _ h9 => h9) rfl d_RD_takesDigit_21 ?_
      refine lv_iload_n hx hb d_RD_takesDigit_24 rfl (lv_at hl 1 rfl) ?_
      refine lv_bipush (v := 48) hx hb d_RD_takesDigit_25 (by decide) ?_
      refine lv_isub hx hb d_RD_takesDigit_27 ?_
      refine lv_iadd hx hb d_RD_takesDigit_28 ?_
      have hPc := hP.sub (ws' := [(h0, .inr (8, [.int pl, .int x.1, .int x.2.1, .int x.2.2.1, .int x.2.2.2.1, .int x.2.2.2.2.1, .int x.2.2.2.2.2.1, .int x.2.2.2.2.2.2]))]) [0] rfl
      have hKc := hK.sub (tys' := []) [] rfl
      have hDc := hD.sub (ws' := [(h0, .inr (8, [.int pl, .int x.1, .int x.2.1, .int x.2.2.1, .int x.2.2.2.1, .int x.2.2.2.2.1, .int x.2.2.2.2.2.1, .int x.2.2.2.2.2.2]))]) [0] (by decide) rfl
      have hFc := va_free (wc := [(h0, .inr (8, [.int pl, .int x.1, .int x.2.1, .int x.2.2.1, .int x.2.2.2.1, .int x.2.2.2.2.1, .int x.2.2.2.2.2.1, .int x.2.2.2.2.2.2]))]) hD hS hA [0] rfl
      refine va_callv (va_runV (As := [.int (x.2.2.2.2.2.1 + (sg - 48))]) (rest := []) ⟨hx, hb, hml, hown, hts⟩ (c_RD_addCondition l dC dI s.heap.size h0 pl x (x.2.2.2.2.2.1 + (sg - 48))) (cwV 1 hts (vz_gV wb_RD_takesDigit b_366 b_368 bs_5 b_3 wc_RD_addCondition) rfl rfl rfl (by decide +kernel) ⟨Nat.le_of_ble_eq_true rfl, Nat.le_of_ble_eq_true rfl⟩) (vz_preVw (A := A) hPc hKc hDc (ci := 8) (q0 := 0) rfl rfl) rfl rfl hl.1 rfl (lv_room (Nat.le_of_ble_eq_true rfl)) d_RD_takesDigit_29 ⟨Nat.le_of_ble_eq_true rfl, Nat.le_of_ble_eq_true rfl⟩) hS (fun q _ h => hFc q h) hFc (fun u9 t9 H1 locs ht hvm hr29 hB hzx9 hkx9 hS => ?_)
      try dsimp only at hr29
      obtain ⟨hP1, hK1, hD1⟩ := hB
      rw [ht] at hP1
      obtain ⟨hP, hD⟩ := va_join (wr := []) (w1 := [(h0, .inr (8, [.int pl, .int ((rdAdd x (x.2.2.2.2.2.1 + (sg - 48))).1), .int ((rdAdd x (x.2.2.2.2.2.1 + (sg - 48))).2.1), .int ((rdAdd x (x.2.2.2.2.2.1 + (sg - 48))).2.2.1), .int ((rdAdd x (x.2.2.2.2.2.1 + (sg - 48))).2.2.2.1), .int ((rdAdd x (x.2.2.2.2.2.1 + (sg - 48))).2.2.2.2.1), .int ((rdAdd x (x.2.2.2.2.2.1 + (sg - 48))).2.2.2.2.2.1), .int ((rdAdd x (x.2.2.2.2.2.1 + (sg - 48))).2.2.2.2.2.2)]))]) hP hD [0] [] rfl rfl (by decide) (by decide) hkx9 hFc hP1 hD1
      generalize H1 = H at hP hS ⊢
      have hP : va_P (dC, dI) vwCl [(h0, .inr (8, [.int pl, .int ((rdAdd x (x.2.2.2.2.2.1 + (sg - 48))).1), .int ((rdAdd x (x.2.2.2.2.2.1 + (sg - 48))).2.1), .int ((rdAdd x (x.2.2.2.2.2.1 + (sg - 48))).2.2.1), .int ((rdAdd x (x.2.2.2.2.2.1 + (sg - 48))).2.2.2.1), .int ((rdAdd x (x.2.2.2.2.2.1 + (sg - 48))).2.2.2.2.1), .int ((rdAdd x (x.2.2.2.2.2.1 + (sg - 48))).2.2.2.2.2.1), .int ((rdAdd x (x.2.2.2.2.2.1 + (sg - 48))).2.2.2.2.2.2)]))] H := hP
      have hD : va_D A [(h0, .inr (8, [.int pl, .int ((rdAdd x (x.2.2.2.2.2.1 + (sg - 48))).1), .int ((rdAdd x (x.2.2.2.2.2.1 + (sg - 48))).2.1), .int ((rdAdd x (x.2.2.2.2.2.1 + (sg - 48))).2.2.1), .int ((rdAdd x (x.2.2.2.2.2.1 + (sg - 48))).2.2.2.1), .int ((rdAdd x (x.2.2.2.2.2.1 + (sg - 48))).2.2.2.2.1), .int ((rdAdd x (x.2.2.2.2.2.1 + (sg - 48))).2.2.2.2.2.1), .int ((rdAdd x (x.2.2.2.2.2.1 + (sg - 48))).2.2.2.2.2.2)]))] := hD
      refine lv_iconst (v := 1) hx hb d_RD_takesDigit_32 (by decide) ?_
      have hP9 := hP.sub (ws' := [(h0, .inr (8, [.int pl, .int ((rdAdd x (x.2.2.2.2.2.1 + (sg - 48))).1), .int ((rdAdd x (x.2.2.2.2.2.1 + (sg - 48))).2.1), .int ((rdAdd x (x.2.2.2.2.2.1 + (sg - 48))).2.2.1), .int ((rdAdd x (x.2.2.2.2.2.1 + (sg - 48))).2.2.2.1), .int ((rdAdd x (x.2.2.2.2.2.1 + (sg - 48))).2.2.2.2.1), .int ((rdAdd x (x.2.2.2.2.2.1 + (sg - 48))).2.2.2.2.2.1), .int ((rdAdd x (x.2.2.2.2.2.1 + (sg - 48))).2.2.2.2.2.2)]))]) [0] rfl
      have hD9 := hD.sub (ws' := [(h0, .inr (8, [.int pl, .int ((rdAdd x (x.2.2.2.2.2.1 + (sg - 48))).1), .int ((rdAdd x (x.2.2.2.2.2.1 + (sg - 48))).2.1), .int ((rdAdd x (x.2.2.2.2.2.1 + (sg - 48))).2.2.1), .int ((rdAdd x (x.2.2.2.2.2.1 + (sg - 48))).2.2.2.1), .int ((rdAdd x (x.2.2.2.2.2.1 + (sg - 48))).2.2.2.2.1), .int ((rdAdd x (x.2.2.2.2.2.1 + (sg - 48))).2.2.2.2.2.1), .int ((rdAdd x (x.2.2.2.2.2.1 + (sg - 48))).2.2.2.2.2.2)]))]) [0] (by decide) rfl
      have e9 : ([(h0, .inr (8, [.int pl, .int ((rdAdd x (x.2.2.2.2.2.1 + (sg - 48))).1), .int ((rdAdd x (x.2.2.2.2.2.1 + (sg - 48))).2.1), .int ((rdAdd x (x.2.2.2.2.2.1 + (sg - 48))).2.2.1), .int ((rdAdd x (x.2.2.2.2.2.1 + (sg - 48))).2.2.2.1), .int ((rdAdd x (x.2.2.2.2.2.1 + (sg - 48))).2.2.2.2.1), .int ((rdAdd x (x.2.2.2.2.2.1 + (sg - 48))).2.2.2.2.2.1), .int ((rdAdd x (x.2.2.2.2.2.1 + (sg - 48))).2.2.2.2.2.2)]))] : va_W) = [(h0, .inr (8, [.int pl, .int ((rdDigS x sg).1), .int ((rdDigS x sg).2.1), .int ((rdDigS x sg).2.2.1), .int ((rdDigS x sg).2.2.2.1), .int ((rdDigS x sg).2.2.2.2.1), .int ((rdDigS x sg).2.2.2.2.2.1), .int ((rdDigS x sg).2.2.2.2.2.2)]))] := by simp [rdDigS, c3, c14]
      rw [e9] at hP9 hD9
      exact W.zret (v := 1) hx hb hr (rfl) (fun t ht hW => ⟨⟨1, (), rfl, by simp [rdDigR, c3, c14], by rw [ht]; exact hP9, va_K.moved hW.alike hK, hD9⟩, hS.F ht⟩) hS.2.2 d_RD_takesDigit_33
    · refine lv_iconst (v := 0) hx hb d_RD_takesDigit_17 (by decide) ?_
      have hP9 := hP.sub (ws' := [(h0, .inr (8, [.int pl, .int x.1, .int x.2.1, .int x.2.2.1, .int x.2.2.2.1, .int x.2.2.2.2.1, .int x.2.2.2.2.2.1, .int x.2.2.2.2.2.2]))]) [0] rfl
      have hD9 := hD.sub (ws' := [(h0, .inr (8, [.int pl, .int x.1, .int x.2.1, .int x.2.2.1, .int x.2.2.2.1, .int x.2.2.2.2.1, .int x.2.2.2.2.2.1, .int x.2.2.2.2.2.2]))]) [0] (by decide) rfl
      have e9 : ([(h0, .inr (8, [.int pl, .int x.1, .int x.2.1, .int x.2.2.1, .int x.2.2.2.1, .int x.2.2.2.2.1, .int x.2.2.2.2.2.1, .int x.2.2.2.2.2.2]))] : va_W) = [(h0, .inr (8, [.int pl, .int ((rdDigS x sg).1), .int ((rdDigS x sg).2.1), .int ((rdDigS x sg).2.2.1), .int ((rdDigS x sg).2.2.2.1), .int ((rdDigS x sg).2.2.2.2.1), .int ((rdDigS x sg).2.2.2.2.2.1), .int ((rdDigS x sg).2.2.2.2.2.2)]))] := by simp [rdDigS, c3, c14]
      rw [e9] at hP9 hD9
      exact W.zret (v := 0) hx hb hr (rfl) (fun t ht hW => ⟨⟨0, (), rfl, by simp [rdDigR, c3, c14], by rw [ht]; exact hP9, va_K.moved hW.alike hK, hD9⟩, hS.F ht⟩) hS.2.2 d_RD_takesDigit_18

set_option maxHeartbeats 4000000 in
set_option maxRecDepth 100000 in
/-- RuleReader.takesLetter -/
theorem c_RD_takesLetter (l : Launch) (dC : Nat → ClassId) (dI : Nat → Nat → Nat) (sz : Nat) (h0 : Nat) (pl : Int32) (x : RdS) (sg : Int32) : Met l y_RD_takesLetter ws_RD_takesLetter ({ frames := 1, cells := 0, slots := 0, locals := 22 }) (va_Pc [.ref h0, .int sg] (fun U => U.heap.size = sz ∧ va_P (dC, dI) vwCl [(h0, .inr (8, [.int pl, .int x.1, .int x.2.1, .int x.2.2.1, .int x.2.2.2.1, .int x.2.2.2.2.1, .int x.2.2.2.2.2.1, .int x.2.2.2.2.2.2]))] U.heap ∧ va_K (dC, dI) vwCl [] U ∧ va_D (fun _ => True) [(h0, .inr (8, [.int pl, .int x.1, .int x.2.1, .int x.2.2.1, .int x.2.2.2.1, .int x.2.2.2.2.1, .int x.2.2.2.2.2.1, .int x.2.2.2.2.2.2]))])) (va_Qi (fun (res : Int32) (_ : Unit) => res = rdLetR sg) (fun _ t => va_P (dC, dI) vwCl [(h0, .inr (8, [.int pl, .int ((rdLetS x sg).1), .int ((rdLetS x sg).2.1), .int ((rdLetS x sg).2.2.1), .int ((rdLetS x sg).2.2.2.1), .int ((rdLetS x sg).2.2.2.2.1), .int ((rdLetS x sg).2.2.2.2.2.1), .int ((rdLetS x sg).2.2.2.2.2.2)]))] t.heap ∧ va_K (dC, dI) vwCl [] t ∧ va_D (va_A [(h0, .inr (8, [.int pl, .int x.1, .int x.2.1, .int x.2.2.1, .int x.2.2.2.1, .int x.2.2.2.2.1, .int x.2.2.2.2.2.1, .int x.2.2.2.2.2.2]))] sz) [(h0, .inr (8, [.int pl, .int ((rdLetS x sg).1), .int ((rdLetS x sg).2.1), .int ((rdLetS x sg).2.2.1), .int ((rdLetS x sg).2.2.2.1), .int ((rdLetS x sg).2.2.2.2.1), .int ((rdLetS x sg).2.2.2.2.2.1), .int ((rdLetS x sg).2.2.2.2.2.2)]))]) (va_A [(h0, .inr (8, [.int pl, .int x.1, .int x.2.1, .int x.2.2.1, .int x.2.2.2.1, .int x.2.2.2.2.1, .int x.2.2.2.2.2.1, .int x.2.2.2.2.2.2]))] sz)) 0 0 (va_A [(h0, .inr (8, [.int pl, .int x.1, .int x.2.1, .int x.2.2.1, .int x.2.2.2.1, .int x.2.2.2.2.1, .int x.2.2.2.2.2.1, .int x.2.2.2.2.2.2]))] sz) := by
  refine Met.ofW (cc := k_RD_takesLetter) (maxL := 2) (ret := (some .boolean)) (by decide) rfl ?_
  intro p e s m args below meth c s₁ B hml hv
  obtain ⟨rfl, hsz, hP, hK, hD0⟩ := hv
  have hx := B.exec
  have hb := B.bytes
  have hr := B.returns
  have hts := atoms_spec (ws := ws_RD_takesLetter) B.pre
  have hown : s.vm.findClass R_RD = some m.cls := findClass_of_methodNamed B.named
  have hlocks := B.notSynchronized
  subst hsz
  have hD := hD0.self (sz := s.heap.size)
  generalize hAe : va_A [(h0, .inr (8, [.int pl, .int x.1, .int x.2.1, .int x.2.2.1, .int x.2.2.2.1, .int x.2.2.2.2.1, .int x.2.2.2.2.2.1, .int x.2.2.2.2.2.2]))] s.heap.size = A at hD ⊢
  have hA : ∀ q : Nat, s.heap.size ≤ q → A q := fun q h => by rw [← hAe]; exact Or.inr h
  have hS : va_S A s.heap s.heap [] := va_S.rf
  have hP : va_P (dC, dI) vwCl [(h0, .inr (8, [.int pl, .int x.1, .int x.2.1, .int x.2.2.1, .int x.2.2.2.1, .int x.2.2.2.2.1, .int x.2.2.2.2.2.1, .int x.2.2.2.2.2.2]))] s.heap := hP
  have iRD : ∀ w ∈ u_ws R_RD T_RD 8, w ∈ ws_RD_takesLetter := fun w h => wb_RD_takesLetter w (in_RD w h)
  have hl := lv_entry ([.ref h0, .int sg]) (n := 2) (Nat.le_of_ble_eq_true rfl)
  rw [lg_entry_eq]
  generalize (lg_sl ([.ref h0, .int sg]) ++ List.replicate (2 - (lg_sl ([.ref h0, .int sg])).length) Slot.unset).toArray = ls at hl ⊢
  have hl : lv_has ls 2 [(0, .ref h0), (1, .int sg)] := hl
  refine lv_iload_n hx hb d_RD_takesLetter_0 rfl (lv_at hl 1 rfl) ?_
  by_cases e1_99 : sg = 99
  · refine vz_top (y := 99) e1_99 ?_
    refine lv_tableIn (off := 112) (tgt := 113) hx hb d_RD_takesLetter_1 (by decide) (by decide) (by decide) (by decide) ?_
    refine lv_aload_n hx hb d_RD_takesLetter_113 rfl (lv_at hl 0 rfl) ?_
    refine lv_bipush (v := 22) hx hb d_RD_takesLetter_114 (by decide) ?_
    refine lv_bipush (v := 8) hx hb d_RD_takesLetter_116 (by decide) ?_
    have hPc := hP.sub (ws' := [(h0, .inr (8, [.int pl, .int x.1, .int x.2.1, .int x.2.2.1, .int x.2.2.2.1, .int x.2.2.2.2.1, .int x.2.2.2.2.2.1, .int x.2.2.2.2.2.2]))]) [0] rfl
    have hKc := hK.sub (tys' := []) [] rfl
    have hDc := hD.sub (ws' := [(h0, .inr (8, [.int pl, .int x.1, .int x.2.1, .int x.2.2.1, .int x.2.2.2.1, .int x.2.2.2.2.1, .int x.2.2.2.2.2.1, .int x.2.2.2.2.2.2]))]) [0] (by decide) rfl
    have hFc := va_free (wc := [(h0, .inr (8, [.int pl, .int x.1, .int x.2.1, .int x.2.2.1, .int x.2.2.2.1, .int x.2.2.2.2.1, .int x.2.2.2.2.2.1, .int x.2.2.2.2.2.2]))]) hD hS hA [0] rfl
    refine va_calli (va_runV (As := [.int 22, .int 8]) (rest := []) ⟨hx, hb, hml, hown, hts⟩ (c_RD_awaitsDigit l dC dI s.heap.size h0 pl x 22 8) (cwV 2 hts (vz_gV wb_RD_takesLetter b_362 b_364 bs_4 b_3 wc_RD_awaitsDigit) rfl rfl rfl (by decide +kernel) ⟨Nat.le_of_ble_eq_true rfl, Nat.le_of_ble_eq_true rfl⟩) (vz_preVw (A := A) hPc hKc hDc (ci := 8) (q0 := 0) rfl rfl) rfl rfl hl.1 rfl (lv_room (Nat.le_of_ble_eq_true rfl)) d_RD_takesLetter_118 ⟨Nat.le_of_ble_eq_true rfl, Nat.le_of_ble_eq_true rfl⟩) hS (fun q _ h => hFc q h) hFc (fun r118 u9 t9 H1 locs ht hvm hr118 hB hzx9 hkx9 hS => ?_)
    try dsimp only at hr118
    obtain ⟨hP1, hK1, hD1⟩ := hB
    rw [ht] at hP1
    obtain ⟨hP, hD⟩ := va_join (wr := []) (w1 := [(h0, .inr (8, [.int pl, .int ((rdWait x 22 8).1), .int ((rdWait x 22 8).2.1), .int ((rdWait x 22 8).2.2.1), .int ((rdWait x 22 8).2.2.2.1), .int ((rdWait x 22 8).2.2.2.2.1), .int ((rdWait x 22 8).2.2.2.2.2.1), .int ((rdWait x 22 8).2.2.2.2.2.2)]))]) hP hD [0] [] rfl rfl (by decide) (by decide) hkx9 hFc hP1 hD1
    generalize H1 = H at hP hS ⊢
    have hP : va_P (dC, dI) vwCl [(h0, .inr (8, [.int pl, .int ((rdWait x 22 8).1), .int ((rdWait x 22 8).2.1), .int ((rdWait x 22 8).2.2.1), .int ((rdWait x 22 8).2.2.2.1), .int ((rdWait x 22 8).2.2.2.2.1), .int ((rdWait x 22 8).2.2.2.2.2.1), .int ((rdWait x 22 8).2.2.2.2.2.2)]))] H := hP
    have hD : va_D A [(h0, .inr (8, [.int pl, .int ((rdWait x 22 8).1), .int ((rdWait x 22 8).2.1), .int ((rdWait x 22 8).2.2.1), .int ((rdWait x 22 8).2.2.2.1), .int ((rdWait x 22 8).2.2.2.2.1), .int ((rdWait x 22 8).2.2.2.2.2.1), .int ((rdWait x 22 8).2.2.2.2.2.2)]))] := hD
    have hP9 := hP.sub (ws' := [(h0, .inr (8, [.int pl, .int ((rdWait x 22 8).1), .int ((rdWait x 22 8).2.1), .int ((rdWait x 22 8).2.2.1), .int ((rdWait x 22 8).2.2.2.1), .int ((rdWait x 22 8).2.2.2.2.1), .int ((rdWait x 22 8).2.2.2.2.2.1), .int ((rdWait x 22 8).2.2.2.2.2.2)]))]) [0] rfl
    have hD9 := hD.sub (ws' := [(h0, .inr (8, [.int pl, .int ((rdWait x 22 8).1), .int ((rdWait x 22 8).2.1), .int ((rdWait x 22 8).2.2.1), .int ((rdWait x 22 8).2.2.2.1), .int ((rdWait x 22 8).2.2.2.2.1), .int ((rdWait x 22 8).2.2.2.2.2.1), .int ((rdWait x 22 8).2.2.2.2.2.2)]))]) [0] (by decide) rfl
    have e9 : ([(h0, .inr (8, [.int pl, .int ((rdWait x 22 8).1), .int ((rdWait x 22 8).2.1), .int ((rdWait x 22 8).2.2.1), .int ((rdWait x 22 8).2.2.2.1), .int ((rdWait x 22 8).2.2.2.2.1), .int ((rdWait x 22 8).2.2.2.2.2.1), .int ((rdWait x 22 8).2.2.2.2.2.2)]))] : va_W) = [(h0, .inr (8, [.int pl, .int ((rdLetS x sg).1), .int ((rdLetS x sg).2.1), .int ((rdLetS x sg).2.2.1), .int ((rdLetS x sg).2.2.2.1), .int ((rdLetS x sg).2.2.2.2.1), .int ((rdLetS x sg).2.2.2.2.2.1), .int ((rdLetS x sg).2.2.2.2.2.2)]))] := by simp [rdLetS, e1_99]
    rw [e9] at hP9 hD9
    exact W.zret (v := r118) hx hb hr (by rw [hr118]; rfl) (fun t ht hW => ⟨⟨r118, (), rfl, by rw [hr118]; simp [rdLetR, e1_99], by rw [ht]; exact hP9, va_K.moved hW.alike hK, hD9⟩, hS.F ht⟩) hS.2.2 d_RD_takesLetter_121
  by_cases e1_100 : sg = 100
  · refine vz_top (y := 100) e1_100 ?_
    refine lv_tableIn (off := 129) (tgt := 130) hx hb d_RD_takesLetter_1 (by decide) (by decide) (by decide) (by decide) ?_
    refine lv_iconst (v := 0) hx hb d_RD_takesLetter_130 (by decide) ?_
    have hP9 := hP.sub (ws' := [(h0, .inr (8, [.int pl, .int x.1, .int x.2.1, .int x.2.2.1, .int x.2.2.2.1, .int x.2.2.2.2.1, .int x.2.2.2.2.2.1, .int x.2.2.2.2.2.2]))]) [0] rfl
    have hD9 := hD.sub (ws' := [(h0, .inr (8, [.int pl, .int x.1, .int x.2.1, .int x.2.2.1, .int x.2.2.2.1, .int x.2.2.2.2.1, .int x.2.2.2.2.2.1, .int x.2.2.2.2.2.2]))]) [0] (by decide) rfl
    have e9 : ([(h0, .inr (8, [.int pl, .int x.1, .int x.2.1, .int x.2.2.1, .int x.2.2.2.1, .int x.2.2.2.2.1, .int x.2.2.2.2.2.1, .int x.2.2.2.2.2.2]))] : va_W) = [(h0, .inr (8, [.int pl, .int ((rdLetS x sg).1), .int ((rdLetS x sg).2.1), .int ((rdLetS x sg).2.2.1), .int ((rdLetS x sg).2.2.2.1), .int ((rdLetS x sg).2.2.2.2.1), .int ((rdLetS x sg).2.2.2.2.2.1), .int ((rdLetS x sg).2.2.2.2.2.2)]))] := by simp [rdLetS, e1_100]
    rw [e9] at hP9 hD9
    exact W.zret (v := 0) hx hb hr (rfl) (fun t ht hW => ⟨⟨0, (), rfl, by simp [rdLetR, e1_100], by rw [ht]; exact hP9, va_K.moved hW.alike hK, hD9⟩, hS.F ht⟩) hS.2.2 d_RD_takesLetter_131
  by_cases e1_101 : sg = 101
  · refine vz_top (y := 101) e1_101 ?_
    refine lv_tableIn (off := 129) (tgt := 130) hx hb d_RD_takesLetter_1 (by decide) (by decide) (by decide) (by decide) ?_
    refine lv_iconst (v := 0) hx hb d_RD_takesLetter_130 (by decide) ?_
    have hP9 := hP.sub (ws' := [(h0, .inr (8, [.int pl, .int x.1, .int x.2.1, .int x.2.2.1, .int x.2.2.2.1, .int x.2.2.2.2.1, .int x.2.2.2.2.2.1, .int x.2.2.2.2.2.2]))]) [0] rfl
    have hD9 := hD.sub (ws' := [(h0, .inr (8, [.int pl, .int x.1, .int x.2.1, .int x.2.2.1, .int x.2.2.2.1, .int x.2.2.2.2.1, .int x.2.2.2.2.2.1, .int x.2.2.2.2.2.2]))]) [0] (by decide) rfl
    have e9 : ([(h0, .inr (8, [.int pl, .int x.1, .int x.2.1, .int x.2.2.1, .int x.2.2.2.1, .int x.2.2.2.2.1, .int x.2.2.2.2.2.1, .int x.2.2.2.2.2.2]))] : va_W) = [(h0, .inr (8, [.int pl, .int ((rdLetS x sg).1), .int ((rdLetS x sg).2.1), .int ((rdLetS x sg).2.2.1), .int ((rdLetS x sg).2.2.2.1), .int ((rdLetS x sg).2.2.2.2.1), .int ((rdLetS x sg).2.2.2.2.2.1), .int ((rdLetS x sg).2.2.2.2.2.2)]))] := by simp [rdLetS, e1_101]
    rw [e9] at hP9 hD9
    exact W.zret (v := 0) hx hb hr (rfl) (fun t ht hW => ⟨⟨0, (), rfl, by simp [rdLetR, e1_101], by rw [ht]; exact hP9, va_K.moved hW.alike hK, hD9⟩, hS.F ht⟩) hS.2.2 d_RD_takesLetter_131
  by_cases e1_102 : sg = 102
  · refine vz_top (y := 102) e1_102 ?_
    refine lv_tableIn (off := 95) (tgt := 96) hx hb d_RD_takesLetter_1 (by decide) (by decide) (by decide) (by decide) ?_
    refine lv_aload_n hx hb d_RD_takesLetter_96 rfl (lv_at hl 0 rfl) ?_
    refine lv_bipush (v := 12) hx hb d_RD_takesLetter_97 (by decide) ?_
    refine lv_bipush (v := 6) hx hb d_RD_takesLetter_99 (by decide) ?_
    have hPc := hP.sub (ws' := [(h0, .inr (8, [.int pl, .int x.1, .int x.2.1, .int x.2.2.1, .int x.2.2.2.1, .int x.2.2.2.2.1, .int x.2.2.2.2.2.1, .int x.2.2.2.2.2.2]))]) [0] rfl
    have hKc := hK.sub (tys' := []) [] rfl
    have hDc := hD.sub (ws' := [(h0, .inr (8, [.int pl, .int x.1, .int x.2.1, .int x.2.2.1, .int x.2.2.2.1, .int x.2.2.2.2.1, .int x.2.2.2.2.2.1, .int x.2.2.2.2.2.2]))]) [0] (by decide) rfl
    have hFc := va_free (wc := [(h0, .inr (8, [.int pl, .int x.1, .int x.2.1, .int x.2.2.1, .int x.2.2.2.1, .int x.2.2.2.2.1, .int x.2.2.2.2.2.1, .int x.2.2.2.2.2.2]))]) hD hS hA [0] rfl
    refine va_calli (va_runV (As := [.int 12, .int 6]) (rest := []) ⟨hx, hb, hml, hown, hts⟩ (c_RD_awaitsDigit l dC dI s.heap.size h0 pl x 12 6) (cwV 2 hts (vz_gV wb_RD_takesLetter b_362 b_364 bs_4 b_3 wc_RD_awaitsDigit) rfl rfl rfl (by decide +kernel) ⟨Nat.le_of_ble_eq_true rfl, Nat.le_of_ble_eq_true rfl⟩) (vz_preVw (A := A) hPc hKc hDc (ci := 8) (q0 := 0) rfl rfl) rfl rfl hl.1 rfl (lv_room (Nat.le_of_ble_eq_true rfl)) d_RD_takesLetter_101 ⟨Nat.le_of_ble_eq_true rfl, Nat.le_of_ble_eq_true rfl⟩) hS (fun q _ h => hFc q h) hFc (fun r101 u9 t9 H1 locs ht hvm hr101 hB hzx9 hkx9 hS => ?_)
    try dsimp only at hr101
    obtain ⟨hP1, hK1, hD1⟩ := hB
    rw [ht] at hP1
    obtain ⟨hP, hD⟩ := va_join (wr := []) (w1 := [(h0, .inr (8, [.int pl, .int ((rdWait x 12 6).1), .int ((rdWait x 12 6).2.1), .int ((rdWait x 12 6).2.2.1), .int ((rdWait x 12 6).2.2.2.1), .int ((rdWait x 12 6).2.2.2.2.1), .int ((rdWait x 12 6).2.2.2.2.2.1), .int ((rdWait x 12 6).2.2.2.2.2.2)]))]) hP hD [0] [] rfl rfl (by decide) (by decide) hkx9 hFc hP1 hD1
    generalize H1 = H at hP hS ⊢
    have hP : va_P (dC, dI) vwCl [(h0, .inr (8, [.int pl, .int ((rdWait x 12 6).1), .int ((rdWait x 12 6).2.1), .int ((rdWait x 12 6).2.2.1), .int ((rdWait x 12 6).2.2.2.1), .int ((rdWait x 12 6).2.2.2.2.1), .int ((rdWait x 12 6).2.2.2.2.2.1), .int ((rdWait x 12 6).2.2.2.2.2.2)]))] H := hP
    have hD : va_D A [(h0, .inr (8, [.int pl, .int ((rdWait x 12 6).1), .int ((rdWait x 12 6).2.1), .int ((rdWait x 12 6).2.2.1), .int ((rdWait x 12 6).2.2.2.1), .int ((rdWait x 12 6).2.2.2.2.1), .int ((rdWait x 12 6).2.2.2.2.2.1), .int ((rdWait x 12 6).2.2.2.2.2.2)]))] := hD
    have hP9 := hP.sub (ws' := [(h0, .inr (8, [.int pl, .int ((rdWait x 12 6).1), .int ((rdWait x 12 6).2.1), .int ((rdWait x 12 6).2.2.1), .int ((rdWait x 12 6).2.2.2.1), .int ((rdWait x 12 6).2.2.2.2.1), .int ((rdWait x 12 6).2.2.2.2.2.1), .int ((rdWait x 12 6).2.2.2.2.2.2)]))]) [0] rfl
    have hD9 := hD.sub (ws' := [(h0, .inr (8, [.int pl, .int ((rdWait x 12 6).1), .int ((rdWait x 12 6).2.1), .int ((rdWait x 12 6).2.2.1), .int ((rdWait x 12 6).2.2.2.1), .int ((rdWait x 12 6).2.2.2.2.1), .int ((rdWait x 12 6).2.2.2.2.2.1), .int ((rdWait x 12 6).2.2.2.2.2.2)]))]) [0] (by decide) rfl
    have e9 : ([(h0, .inr (8, [.int pl, .int ((rdWait x 12 6).1), .int ((rdWait x 12 6).2.1), .int ((rdWait x 12 6).2.2.1), .int ((rdWait x 12 6).2.2.2.1), .int ((rdWait x 12 6).2.2.2.2.1), .int ((rdWait x 12 6).2.2.2.2.2.1), .int ((rdWait x 12 6).2.2.2.2.2.2)]))] : va_W) = [(h0, .inr (8, [.int pl, .int ((rdLetS x sg).1), .int ((rdLetS x sg).2.1), .int ((rdLetS x sg).2.2.1), .int ((rdLetS x sg).2.2.2.1), .int ((rdLetS x sg).2.2.2.2.1), .int ((rdLetS x sg).2.2.2.2.2.1), .int ((rdLetS x sg).2.2.2.2.2.2)]))] := by simp [rdLetS, e1_102]
    rw [e9] at hP9 hD9
    exact W.zret (v := r101) hx hb hr (by rw [hr101]; rfl) (fun t ht hW => ⟨⟨r101, (), rfl, by rw [hr101]; simp [rdLetR, e1_102], by rw [ht]; exact hP9, va_K.moved hW.alike hK, hD9⟩, hS.F ht⟩) hS.2.2 d_RD_takesLetter_104
  by_cases e1_103 : sg = 103
  · refine vz_top (y := 103) e1_103 ?_
    refine lv_tableIn (off := 121) (tgt := 122) hx hb d_RD_takesLetter_1 (by decide) (by decide) (by decide) (by decide) ?_
    refine lv_aload_n hx hb d_RD_takesLetter_122 rfl (lv_at hl 0 rfl) ?_
    refine lv_bipush (v := 30) hx hb d_RD_takesLetter_123 (by decide) ?_
    have hPc := hP.sub (ws' := [(h0, .inr (8, [.int pl, .int x.1, .int x.2.1, .int x.2.2.1, .int x.2.2.2.1, .int x.2.2.2.2.1, .int x.2.2.2.2.2.1, .int x.2.2.2.2.2.2]))]) [0] rfl
    have hKc := hK.sub (tys' := []) [] rfl
    have hDc := hD.sub (ws' := [(h0, .inr (8, [.int pl, .int x.1, .int x.2.1, .int x.2.2.1, .int x.2.2.2.1, .int x.2.2.2.2.1, .int x.2.2.2.2.2.1, .int x.2.2.2.2.2.2]))]) [0] (by decide) rfl
    have hFc := va_free (wc := [(h0, .inr (8, [.int pl, .int x.1, .int x.2.1, .int x.2.2.1, .int x.2.2.2.1, .int x.2.2.2.2.1, .int x.2.2.2.2.2.1, .int x.2.2.2.2.2.2]))]) hD hS hA [0] rfl
    refine va_callv (va_runV (As := [.int 30]) (rest := []) ⟨hx, hb, hml, hown, hts⟩ (c_RD_addCondition l dC dI s.heap.size h0 pl x 30) (cwV 1 hts (vz_gV wb_RD_takesLetter b_366 b_368 bs_5 b_3 wc_RD_addCondition) rfl rfl rfl (by decide +kernel) ⟨Nat.le_of_ble_eq_true rfl, Nat.le_of_ble_eq_true rfl⟩) (vz_preVw (A := A) hPc hKc hDc (ci := 8) (q0 := 0) rfl rfl) rfl rfl hl.1 rfl (lv_room (Nat.le_of_ble_eq_true rfl)) d_RD_takesLetter_125 ⟨Nat.le_of_ble_eq_true rfl, Nat.le_of_ble_eq_true rfl⟩) hS (fun q _ h => hFc q h) hFc (fun u9 t9 H1 locs ht hvm hr125 hB hzx9 hkx9 hS => ?_)
    try dsimp only at hr125
    obtain ⟨hP1, hK1, hD1⟩ := hB
    rw [ht] at hP1
    obtain ⟨hP, hD⟩ := va_join (wr := []) (w1 := [(h0, .inr (8, [.int pl, .int ((rdAdd x 30).1), .int ((rdAdd x 30).2.1), .int ((rdAdd x 30).2.2.1), .int ((rdAdd x 30).2.2.2.1), .int ((rdAdd x 30).2.2.2.2.1), .int ((rdAdd x 30).2.2.2.2.2.1), .int ((rdAdd x 30).2.2.2.2.2.2)]))]) hP hD [0] [] rfl rfl (by decide) (by decide) hkx9 hFc hP1 hD1
    generalize H1 = H at hP hS ⊢
    have hP : va_P (dC, dI) vwCl [(h0, .inr (8, [.int pl, .int ((rdAdd x 30).1), .int ((rdAdd x 30).2.1), .int ((rdAdd x 30).2.2.1), .int ((rdAdd x 30).2.2.2.1), .int ((rdAdd x 30).2.2.2.2.1), .int ((rdAdd x 30).2.2.2.2.2.1), .int ((rdAdd x 30).2.2.2.2.2.2)]))] H := hP
    have hD : va_D A [(h0, .inr (8, [.int pl, .int ((rdAdd x 30).1), .int ((rdAdd x 30).2.1), .int ((rdAdd x 30).2.2.1), .int ((rdAdd x 30).2.2.2.1), .int ((rdAdd x 30).2.2.2.2.1), .int ((rdAdd x 30).2.2.2.2.2.1), .int ((rdAdd x 30).2.2.2.2.2.2)]))] := hD
    refine lv_iconst (v := 1) hx hb d_RD_takesLetter_128 (by decide) ?_
    have hP9 := hP.sub (ws' := [(h0, .inr (8, [.int pl, .int ((rdAdd x 30).1), .int ((rdAdd x 30).2.1), .int ((rdAdd x 30).2.2.1), .int ((rdAdd x 30).2.2.2.1), .int ((rdAdd x 30).2.2.2.2.1), .int ((rdAdd x 30).2.2.2.2.2.1), .int ((rdAdd x 30).2.2.2.2.2.2)]))]) [0] rfl
    have hD9 := hD.sub (ws' := [(h0, .inr (8, [.int pl, .int ((rdAdd x 30).1), .int ((rdAdd x 30).2.1), .int ((rdAdd x 30).2.2.1), .int ((rdAdd x 30).2.2.2.1), .int ((rdAdd x 30).2.2.2.2.1), .int ((rdAdd x 30).2.2.2.2.2.1), .int ((rdAdd x 30).2.2.2.2.2.2)]))]) [0] (by decide) rfl
    have e9 : ([(h0, .inr (8, [.int pl, .int ((rdAdd x 30).1), .int ((rdAdd x 30).2.1), .int ((rdAdd x 30).2.2.1), .int ((rdAdd x 30).2.2.2.1), .int ((rdAdd x 30).2.2.2.2.1), .int ((rdAdd x 30).2.2.2.2.2.1), .int ((rdAdd x 30).2.2.2.2.2.2)]))] : va_W) = [(h0, .inr (8, [.int pl, .int ((rdLetS x sg).1), .int ((rdLetS x sg).2.1), .int ((rdLetS x sg).2.2.1), .int ((rdLetS x sg).2.2.2.1), .int ((rdLetS x sg).2.2.2.2.1), .int ((rdLetS x sg).2.2.2.2.2.1), .int ((rdLetS x sg).2.2.2.2.2.2)]))] := by simp [rdLetS, e1_103]
    rw [e9] at hP9 hD9
    exact W.zret (v := 1) hx hb hr (rfl) (fun t ht hW => ⟨⟨1, (), rfl, by simp [rdLetR, e1_103], by rw [ht]; exact hP9, va_K.moved hW.alike hK, hD9⟩, hS.F ht⟩) hS.2.2 d_RD_takesLetter_129
  by_cases e1_104 : sg = 104
  · refine vz_top (y := 104) e1_104 ?_
    refine lv_tableIn (off := 129) (tgt := 130) hx hb d_RD_takesLetter_1 (by decide) (by decide) (by decide) (by decide) ?_
    refine lv_iconst (v := 0) hx hb d_RD_takesLetter_130 (by decide) ?_
    have hP9 := hP.sub (ws' := [(h0, .inr (8, [.int pl, .int x.1, .int x.2.1, .int x.2.2.1, .int x.2.2.2.1, .int x.2.2.2.2.1, .int x.2.2.2.2.2.1, .int x.2.2.2.2.2.2]))]) [0] rfl
    have hD9 := hD.sub (ws' := [(h0, .inr (8, [.int pl, .int x.1, .int x.2.1, .int x.2.2.1, .int x.2.2.2.1, .int x.2.2.2.2.1, .int x.2.2.2.2.2.1, .int x.2.2.2.2.2.2]))]) [0] (by decide) rfl
    have e9 : ([(h0, .inr (8, [.int pl, .int x.1, .int x.2.1, .int x.2.2.1, .int x.2.2.2.1, .int x.2.2.2.2.1, .int x.2.2.2.2.2.1, .int x.2.2.2.2.2.2]))] : va_W) = [(h0, .inr (8, [.int pl, .int ((rdLetS x sg).1), .int ((rdLetS x sg).2.1), .int ((rdLetS x sg).2.2.1), .int ((rdLetS x sg).2.2.2.1), .int ((rdLetS x sg).2.2.2.2.1), .int ((rdLetS x sg).2.2.2.2.2.1), .int ((rdLetS x sg).2.2.2.2.2.2)]))] := by simp [rdLetS, e1_104]
    rw [e9] at hP9 hD9
    exact W.zret (v := 0) hx hb hr (rfl) (fun t ht hW => ⟨⟨0, (), rfl, by simp [rdLetR, e1_104], by rw [ht]; exact hP9, va_K.moved hW.alike hK, hD9⟩, hS.F ht⟩) hS.2.2 d_RD_takesLetter_131
  by_cases e1_105 : sg = 105
  · refine vz_top (y := 105) e1_105 ?_
    refine lv_tableIn (off := 129) (tgt := 130) hx hb d_RD_takesLetter_1 (by decide) (by decide) (by decide) (by decide) ?_
    refine lv_iconst (v := 0) hx hb d_RD_takesLetter_130 (by decide) ?_
    have hP9 := hP.sub (ws' := [(h0, .inr (8, [.int pl, .int x.1, .int x.2.1, .int x.2.2.1, .int x.2.2.2.1, .int x.2.2.2.2.1, .int x.2.2.2.2.2.1, .int x.2.2.2.2.2.2]))]) [0] rfl
    have hD9 := hD.sub (ws' := [(h0, .inr (8, [.int pl, .int x.1, .int x.2.1, .int x.2.2.1, .int x.2.2.2.1, .int x.2.2.2.2.1, .int x.2.2.2.2.2.1, .int x.2.2.2.2.2.2]))]) [0] (by decide) rfl
    have e9 : ([(h0, .inr (8, [.int pl, .int x.1, .int x.2.1, .int x.2.2.1, .int x.2.2.2.1, .int x.2.2.2.2.1, .int x.2.2.2.2.2.1, .int x.2.2.2.2.2.2]))] : va_W) = [(h0, .inr (8, [.int pl, .int ((rdLetS x sg).1), .int ((rdLetS x sg).2.1), .int ((rdLetS x sg).2.2.1), .int ((rdLetS x sg).2.2.2.1), .int ((rdLetS x sg).2.2.2.2.1), .int ((rdLetS x sg).2.2.2.2.2.1), .int ((rdLetS x sg).2.2.2.2.2.2)]))] := by simp [rdLetS, e1_105]
    rw [e9] at hP9 hD9
    exact W.zret (v := 0) hx hb hr (rfl) (fun t ht hW => ⟨⟨0, (), rfl, by simp [rdLetR, e1_105], by rw [ht]; exact hP9, va_K.moved hW.alike hK, hD9⟩, hS.F ht⟩) hS.2.2 d_RD_takesLetter_131
  by_cases e1_106 : sg = 106
  · refine vz_top (y := 106) e1_106 ?_
    refine lv_tableIn (off := 129) (tgt := 130) hx hb d_RD_takesLetter_1 (by decide) (by decide) (by decide) (by decide) ?_
    refine lv_iconst (v := 0) hx hb d_RD_takesLetter_130 (by decide) ?_
    have hP9 := hP.sub (ws' := [(h0, .inr (8, [.int pl, .int x.1, .int x.2.1, .int x.2.2.1, .int x.2.2.2.1, .int x.2.2.2.2.1, .int x.2.2.2.2.2.1, .int x.2.2.2.2.2.2]))]) [0] rfl
    have hD9 := hD.sub (ws' := [(h0, .inr (8, [.int pl, .int x.1, .int x.2.1, .int x.2.2.1, .int x.2.2.2.1, .int x.2.2.2.2.1, .int x.2.2.2.2.2.1, .int x.2.2.2.2.2.2]))]) [0] (by decide) rfl
    have e9 : ([(h0, .inr (8, [.int pl, .int x.1, .int x.2.1, .int x.2.2.1, .int x.2.2.2.1, .int x.2.2.2.2.1, .int x.2.2.2.2.2.1, .int x.2.2.2.2.2.2]))] : va_W) = [(h0, .inr (8, [.int pl, .int ((rdLetS x sg).1), .int ((rdLetS x sg).2.1), .int ((rdLetS x sg).2.2.1), .int ((rdLetS x sg).2.2.2.1), .int ((rdLetS x sg).2.2.2.2.1), .int ((rdLetS x sg).2.2.2.2.2.1), .int ((rdLetS x sg).2.2.2.2.2.2)]))] := by simp [rdLetS, e1_106]
    rw [e9] at hP9 hD9
    exact W.zret (v := 0) hx hb hr (rfl) (fun t ht hW => ⟨⟨0, (), rfl, by simp [rdLetR, e1_106], by rw [ht]; exact hP9, va_K.moved hW.alike hK, hD9⟩, hS.F ht⟩) hS.2.2 d_RD_takesLetter_131
  by_cases e1_107 : sg = 107
  · refine vz_top (y := 107) e1_107 ?_
    refine lv_tableIn (off := 87) (tgt := 88) hx hb d_RD_takesLetter_1 (by decide) (by decide) (by decide) (by decide) ?_
    refine lv_aload_n hx hb d_RD_takesLetter_88 rfl (lv_at hl 0 rfl) ?_
    refine lv_bipush (v := 8) hx hb d_RD_takesLetter_89 (by decide) ?_
    refine lv_iconst (v := 4) hx hb d_RD_takesLetter_91 (by decide) ?_
    have hPc := hP.sub (ws' := [(h0, .inr (8, [.int pl, .int x.1, .int x.2.1, .int x.2.2.1, .int x.2.2.2.1, .int x.2.2.2.2.1, .int x.2.2.2.2.2.1, .int x.2.2.2.2.2.2]))]) [0] rfl
    have hKc := hK.sub (tys' := []) [] rfl
    have hDc := hD.sub (ws' := [(h0, .inr (8, [.int pl, .int x.1, .int x.2.1, .int x.2.2.1, .int x.2.2.2.1, .int x.2.2.2.2.1, .int x.2.2.2.2.2.1, .int x.2.2.2.2.2.2]))]) [0] (by decide) rfl
    have hFc := va_free (wc := [(h0, .inr (8, [.int pl, .int x.1, .int x.2.1, .int x.2.2.1, .int x.2.2.2.1, .int x.2.2.2.2.1, .int x.2.2.2.2.2.1, .int x.2.2.2.2.2.2]))]) hD hS hA [0] rfl
    refine va_calli (va_runV (As := [.int 8, .int 4]) (rest := []) ⟨hx, hb, hml, hown, hts⟩ (c_RD_awaitsDigit l dC dI s.heap.size h0 pl x 8 4) (cwV 2 hts (vz_gV wb_RD_takesLetter b_362 b_364 bs_4 b_3 wc_RD_awaitsDigit) rfl rfl rfl (by decide +kernel) ⟨Nat.le_of_ble_eq_true rfl, Nat.le_of_ble_eq_true rfl⟩) (vz_preVw (A := A) hPc hKc hDc (ci := 8) (q0 := 0) rfl rfl) rfl rfl hl.1 rfl (lv_room (Nat.le_of_ble_eq_true rfl)) d_RD_takesLetter_92 ⟨Nat.le_of_ble_eq_true rfl, Nat.le_of_ble_eq_true rfl⟩) hS (fun q _ h => hFc q h) hFc (fun r92 u9 t9 H1 locs ht hvm hr92 hB hzx9 hkx9 hS => ?_)
    try dsimp only at hr92
    obtain ⟨hP1, hK1, hD1⟩ := hB
    rw [ht] at hP1
    obtain ⟨hP, hD⟩ := va_join (wr := []) (w1 := [(h0, .inr (8, [.int pl, .int ((rdWait x 8 4).1), .int ((rdWait x 8 4).2.1), .int ((rdWait x 8 4).2.2.1), .int ((rdWait x 8 4).2.2.2.1), .int ((rdWait x 8 4).2.2.2.2.1), .int ((rdWait x 8 4).2.2.2.2.2.1), .int ((rdWait x 8 4).2.2.2.2.2.2)]))]) hP hD [0] [] rfl rfl (by decide) (by decide) hkx9 hFc hP1 hD1
    generalize H1 = H at hP hS ⊢
    have hP : va_P (dC, dI) vwCl [(h0, .inr (8, [.int pl, .int ((rdWait x 8 4).1), .int ((rdWait x 8 4).2.1), .int ((rdWait x 8 4).2.2.1), .int ((rdWait x 8 4).2.2.2.1), .int ((rdWait x 8 4).2.2.2.2.1), .int ((rdWait x 8 4).2.2.2.2.2.1), .int ((rdWait x 8 4).2.2.2.2.2.2)]))] H := hP
    have hD : va_D A [(h0, .inr (8, [.int pl, .int ((rdWait x 8 4).1), .int ((rdWait x 8 4).2.1), .int ((rdWait x 8 4).2.2.1), .int ((rdWait x 8 4).2.2.2.1), .int ((rdWait x 8 4).2.2.2.2.1), .int ((rdWait x 8 4).2.2.2.2.2.1), .int ((rdWait x 8 4).2.2.2.2.2.2)]))] := hD
    have hP9 := hP.sub (ws' := [(h0, .inr (8, [.int pl, .int ((rdWait x 8 4).1), .int ((rdWait x 8 4).2.1), .int ((rdWait x 8 4).2.2.1), .int ((rdWait x 8 4).2.2.2.1), .int ((rdWait x 8 4).2.2.2.2.1), .int ((rdWait x 8 4).2.2.2.2.2.1), .int ((rdWait x 8 4).2.2.2.2.2.2)]))]) [0] rfl
    have hD9 := hD.sub (ws' := [(h0, .inr (8, [.int pl, .int ((rdWait x 8 4).1), .int ((rdWait x 8 4).2.1), .int ((rdWait x 8 4).2.2.1), .int ((rdWait x 8 4).2.2.2.1), .int ((rdWait x 8 4).2.2.2.2.1), .int ((rdWait x 8 4).2.2.2.2.2.1), .int ((rdWait x 8 4).2.2.2.2.2.2)]))]) [0] (by decide) rfl
    have e9 : ([(h0, .inr (8, [.int pl, .int ((rdWait x 8 4).1), .int ((rdWait x 8 4).2.1), .int ((rdWait x 8 4).2.2.1), .int ((rdWait x 8 4).2.2.2.1), .int ((rdWait x 8 4).2.2.2.2.1), .int ((rdWait x 8 4).2.2.2.2.2.1), .int ((rdWait x 8 4).2.2.2.2.2.2)]))] : va_W) = [(h0, .inr (8, [.int pl, .int ((rdLetS x sg).1), .int ((rdLetS x sg).2.1), .int ((rdLetS x sg).2.2.1), .int ((rdLetS x sg).2.2.2.1), .int ((rdLetS x sg).2.2.2.2.1), .int ((rdLetS x sg).2.2.2.2.2.1), .int ((rdLetS x sg).2.2.2.2.2.2)]))] := by simp [rdLetS, e1_107]
    rw [e9] at hP9 hD9
    exact W.zret (v := r92) hx hb hr (by rw [hr92]; rfl) (fun t ht hW => ⟨⟨r92, (), rfl, by rw [hr92]; simp [rdLetR, e1_107], by rw [ht]; exact hP9, va_K.moved hW.alike hK, hD9⟩, hS.F ht⟩) hS.2.2 d_RD_takesLetter_95
  by_cases e1_108 : sg = 108
  · refine vz_top (y := 108) e1_108 ?_
    refine lv_tableIn (off := 129) (tgt := 130) hx hb d_RD_takesLetter_1 (by decide) (by decide) (by decide) (by decide) ?_
    refine lv_iconst (v := 0) hx hb d_RD_takesLetter_130 (by decide) ?_
    have hP9 := hP.sub (ws' := [(h0, .inr (8, [.int pl, .int x.1, .int x.2.1, .int x.2.2.1, .int x.2.2.2.1, .int x.2.2.2.2.1, .int x.2.2.2.2.2.1, .int x.2.2.2.2.2.2]))]) [0] rfl
    have hD9 := hD.sub (ws' := [(h0, .inr (8, [.int pl, .int x.1, .int x.2.1, .int x.2.2.1, .int x.2.2.2.1, .int x.2.2.2.2.1, .int x.2.2.2.2.2.1, .int x.2.2.2.2.2.2]))]) [0] (by decide) rfl
    have e9 : ([(h0, .inr (8, [.int pl, .int x.1, .int x.2.1, .int x.2.2.1, .int x.2.2.2.1, .int x.2.2.2.2.1, .int x.2.2.2.2.2.1, .int x.2.2.2.2.2.2]))] : va_W) = [(h0, .inr (8, [.int pl, .int ((rdLetS x sg).1), .int ((rdLetS x sg).2.1), .int ((rdLetS x sg).2.2.1), .int ((rdLetS x sg).2.2.2.1), .int ((rdLetS x sg).2.2.2.2.1), .int ((rdLetS x sg).2.2.2.2.2.1), .int ((rdLetS x sg).2.2.2.2.2.2)]))] := by simp [rdLetS, e1_108]
    rw [e9] at hP9 hD9
    exact W.zret (v := 0) hx hb hr (rfl) (fun t ht hW => ⟨⟨0, (), rfl, by simp [rdLetR, e1_108], by rw [ht]; exact hP9, va_K.moved hW.alike hK, hD9⟩, hS.F ht⟩) hS.2.2 d_RD_takesLetter_131
  by_cases e1_109 : sg = 109
  · refine vz_top (y := 109) e1_109 ?_
    refine lv_tableIn (off := 129) (tgt := 130) hx hb d_RD_takesLetter_1 (by decide) (by decide) (by decide) (by decide) ?_
    refine lv_iconst (v := 0) hx hb d_RD_takesLetter_130 (by decide) ?_
    have hP9 := hP.sub (ws' := [(h0, .inr (8, [.int pl, .int x.1, .int x.2.1, .int x.2.2.1, .int x.2.2.2.1, .int x.2.2.2.2.1, .int x.2.2.2.2.2.1, .int x.2.2.2.2.2.2]))]) [0] rfl
    have hD9 := hD.sub (ws' := [(h0, .inr (8, [.int pl, .int x.1, .int x.2.1, .int x.2.2.1, .int x.2.2.2.1, .int x.2.2.2.2.1, .int x.2.2.2.2.2.1, .int x.2.2.2.2.2.2]))]) [0] (by decide) rfl
    have e9 : ([(h0, .inr (8, [.int pl, .int x.1, .int x.2.1, .int x.2.2.1, .int x.2.2.2.1, .int x.2.2.2.2.1, .int x.2.2.2.2.2.1, .int x.2.2.2.2.2.2]))] : va_W) = [(h0, .inr (8, [.int pl, .int ((rdLetS x sg).1), .int ((rdLetS x sg).2.1), .int ((rdLetS x sg).2.2.1), .int ((rdLetS x sg).2.2.2.1), .int ((rdLetS x sg).2.2.2.2.1), .int ((rdLetS x sg).2.2.2.2.2.1), .int ((rdLetS x sg).2.2.2.2.2.2)]))] := by simp [rdLetS, e1_109]
    rw [e9] at hP9 hD9
    exact W.zret (v := 0) hx hb hr (rfl) (fun t ht hW => ⟨⟨0, (), rfl, by simp [rdLetR, e1_109], by rw [ht]; exact hP9, va_K.moved hW.alike hK, hD9⟩, hS.F ht⟩) hS.2.2 d_RD_takesLetter_131
  by_cases e1_110 : sg = 110
  · refine vz_top (y := 110) e1_110 ?_
    refine lv_tableIn (off := 129) (tgt := 130) hx hb d_RD_takesLetter_1 (by decide) (by decide) (by decide) (by decide) ?_
    refine lv_iconst (v := 0) hx hb d_RD_takesLetter_130 (by decide) ?_
    have hP9 := hP.sub (ws' := [(h0, .inr (8, [.int pl, .int x.1, .int x.2.1, .int x.2.2.1, .int x.2.2.2.1, .int x.2.2.2.2.1, .int x.2.2.2.2.2.1, .int x.2.2.2.2.2.2]))]) [0] rfl
    have hD9 := hD.sub (ws' := [(h0, .inr (8, [.int pl, .int x.1, .int x.2.1, .int x.2.2.1, .int x.2.2.2.1, .int x.2.2.2.2.1, .int x.2.2.2.2.2.1, .int x.2.2.2.2.2.2]))]) [0] (by decide) rfl
    have e9 : ([(h0, .inr (8, [.int pl, .int x.1, .int x.2.1, .int x.2.2.1, .int x.2.2.2.1, .int x.2.2.2.2.1, .int x.2.2.2.2.2.1, .int x.2.2.2.2.2.2]))] : va_W) = [(h0, .inr (8, [.int pl, .int ((rdLetS x sg).1), .int ((rdLetS x sg).2.1), .int ((rdLetS x sg).2.2.1), .int ((rdLetS x sg).2.2.2.1), .int ((rdLetS x sg).2.2.2.2.1), .int ((rdLetS x sg).2.2.2.2.2.1), .int ((rdLetS x sg).2.2.2.2.2.2)]))] := by simp [rdLetS, e1_110]
    rw [e9] at hP9 hD9
    exact W.zret (v := 0) hx hb hr (rfl) (fun t ht hW => ⟨⟨0, (), rfl, by simp [rdLetR, e1_110], by rw [ht]; exact hP9, va_K.moved hW.alike hK, hD9⟩, hS.F ht⟩) hS.2.2 d_RD_takesLetter_131
  by_cases e1_111 : sg = 111
  · refine vz_top (y := 111) e1_111 ?_
    refine lv_tableIn (off := 129) (tgt := 130) hx hb d_RD_takesLetter_1 (by decide) (by decide) (by decide) (by decide) ?_
    refine lv_iconst (v := 0) hx hb d_RD_takesLetter_130 (by decide) ?_
    have hP9 := hP.sub (ws' := [(h0, .inr (8, [.int pl, .int x.1, .int x.2.1, .int x.2.2.1, .int x.2.2.2.1, .int x.2.2.2.2.1, .int x.2.2.2.2.2.1, .int x.2.2.2.2.2.2]))]) [0] rfl
    have hD9 := hD.sub (ws' := [(h0, .inr (8, [.int pl, .int x.1, .int x.2.1, .int x.2.2.1, .int x.2.2.2.1, .int x.2.2.2.2.1, .int x.2.2.2.2.2.1, .int x.2.2.2.2.2.2]))]) [0] (by decide) rfl
    have e9 : ([(h0, .inr (8, [.int pl, .int x.1, .int x.2.1, .int x.2.2.1, .int x.2.2.2.1, .int x.2.2.2.2.1, .int x.2.2.2.2.2.1, .int x.2.2.2.2.2.2]))] : va_W) = [(h0, .inr (8, [.int pl, .int ((rdLetS x sg).1), .int ((rdLetS x sg).2.1), .int ((rdLetS x sg).2.2.1), .int ((rdLetS x sg).2.2.2.1), .int ((rdLetS x sg).2.2.2.2.1), .int ((rdLetS x sg).2.2.2.2.2.1), .int ((rdLetS x sg).2.2.2.2.2.2)]))] := by simp [rdLetS, e1_111]
    rw [e9] at hP9 hD9
    exact W.zret (v := 0) hx hb hr (rfl) (fun t ht hW => ⟨⟨0, (), rfl, by simp [rdLetR, e1_111], by rw [ht]; exact hP9, va_K.moved hW.alike hK, hD9⟩, hS.F ht⟩) hS.2.2 d_RD_takesLetter_131
  by_cases e1_112 : sg = 112
  · refine vz_top (y := 112) e1_112 ?_
    refine lv_tableIn (off := 104) (tgt := 105) hx hb d_RD_takesLetter_1 (by decide) (by decide) (by decide) (by decide) ?_
    refine lv_aload_n hx hb d_RD_takesLetter_105 rfl (lv_at hl 0 rfl) ?_
    refine lv_bipush (v := 18) hx hb d_RD_takesLetter_106 (by decide) ?_
    refine lv_iconst (v := 4) hx hb d_RD_takesLetter_108 (by decide) ?_
    have hPc := hP.sub (ws' := [(h0, .inr (8, [.int pl, .int x.1, .int x.2.1, .int x.2.2.1, .int x.2.2.2.1, .int x.2.2.2.2.1, .int x.2.2.2.2.2.1, .int x.2.2.2.2.2.2]))]) [0] rfl
    have hKc := hK.sub (tys' := []) [] rfl
    have hDc := hD.sub (ws' := [(h0, .inr (8, [.int pl, .int x.1, .int x.2.1, .int x.2.2.1, .int x.2.2.2.1, .int x.2.2.2.2.1, .int x.2.2.2.2.2.1, .int x.2.2.2.2.2.2]))]) [0] (by decide) rfl
    have hFc := va_free (wc := [(h0, .inr (8, [.int pl, .int x.1, .int x.2.1, .int x.2.2.1, .int x.2.2.2.1, .int x.2.2.2.2.1, .int x.2.2.2.2.2.1, .int x.2.2.2.2.2.2]))]) hD hS hA [0] rfl
    refine va_calli (va_runV (As := [.int 18, .int 4]) (rest := []) ⟨hx, hb, hml, hown, hts⟩ (c_RD_awaitsDigit l dC dI s.heap.size h0 pl x 18 4) (cwV 2 hts (vz_gV wb_RD_takesLetter b_362 b_364 bs_4 b_3 wc_RD_awaitsDigit) rfl rfl rfl (by decide +kernel) ⟨Nat.le_of_ble_eq_true rfl, Nat.le_of_ble_eq_true rfl⟩) (vz_preVw (A := A) hPc hKc hDc (ci := 8) (q0 := 0) rfl rfl) rfl rfl hl.1 rfl (lv_room (Nat.le_of_ble_eq_true rfl)) d_RD_takesLetter_109 ⟨Nat.le_of_ble_eq_true rfl, Nat.le_of_ble_eq_true rfl⟩) hS (fun q _ h => hFc q h) hFc (fun r109 u9 t9 H1 locs ht hvm hr109 hB hzx9 hkx9 hS => ?_)
    try dsimp only at hr109
    obtain ⟨hP1, hK1, hD1⟩ := hB
    rw [ht] at hP1
    obtain ⟨hP, hD⟩ := va_join (wr := []) (w1 := [(h0, .inr (8, [.int pl, .int ((rdWait x 18 4).1), .int ((rdWait x 18 4).2.1), .int ((rdWait x 18 4).2.2.1), .int ((rdWait x 18 4).2.2.2.1), .int ((rdWait x 18 4).2.2.2.2.1), .int ((rdWait x 18 4).2.2.2.2.2.1), .int ((rdWait x 18 4).2.2.2.2.2.2)]))]) hP hD [0] [] rfl rfl (by decide) (by decide) hkx9 hFc hP1 hD1
    generalize H1 = H at hP hS ⊢
    have hP : va_P (dC, dI) vwCl [(h0, .inr (8, [.int pl, .int ((rdWait x 18 4).1), .int ((rdWait x 18 4).2.1), .int ((rdWait x 18 4).2.2.1), .int ((rdWait x 18 4).2.2.2.1), .int ((rdWait x 18 4).2.2.2.2.1), .int ((rdWait x 18 4).2.2.2.2.2.1), .int ((rdWait x 18 4).2.2.2.2.2.2)]))] H := hP
    have hD : va_D A [(h0, .inr (8, [.int pl, .int ((rdWait x 18 4).1), .int ((rdWait x 18 4).2.1), .int ((rdWait x 18 4).2.2.1), .int ((rdWait x 18 4).2.2.2.1), .int ((rdWait x 18 4).2.2.2.2.1), .int ((rdWait x 18 4).2.2.2.2.2.1), .int ((rdWait x 18 4).2.2.2.2.2.2)]))] := hD
    have hP9 := hP.sub (ws' := [(h0, .inr (8, [.int pl, .int ((rdWait x 18 4).1), .int ((rdWait x 18 4).2.1), .int ((rdWait x 18 4).2.2.1), .int ((rdWait x 18 4).2.2.2.1), .int ((rdWait x 18 4).2.2.2.2.1), .int ((rdWait x 18 4).2.2.2.2.2.1), .int ((rdWait x 18 4).2.2.2.2.2.2)]))]) [0] rfl
    have hD9 := hD.sub (ws' := [(h0, .inr (8, [.int pl, .int ((rdWait x 18 4).1), .int ((rdWait x 18 4).2.1), .int ((rdWait x 18 4).2.2.1), .int ((rdWait x 18 4).2.2.2.1), .int ((rdWait x 18 4).2.2.2.2.1), .int ((rdWait x 18 4).2.2.2.2.2.1), .int ((rdWait x 18 4).2.2.2.2.2.2)]))]) [0] (by decide) rfl
    have e9 : ([(h0, .inr (8, [.int pl, .int ((rdWait x 18 4).1), .int ((rdWait x 18 4).2.1), .int ((rdWait x 18 4).2.2.1), .int ((rdWait x 18 4).2.2.2.1), .int ((rdWait x 18 4).2.2.2.2.1), .int ((rdWait x 18 4).2.2.2.2.2.1), .int ((rdWait x 18 4).2.2.2.2.2.2)]))] : va_W) = [(h0, .inr (8, [.int pl, .int ((rdLetS x sg).1), .int ((rdLetS x sg).2.1), .int ((rdLetS x sg).2.2.1), .int ((rdLetS x sg).2.2.2.1), .int ((rdLetS x sg).2.2.2.2.1), .int ((rdLetS x sg).2.2.2.2.2.1), .int ((rdLetS x sg).2.2.2.2.2.2)]))] := by simp [rdLetS, e1_112]
    rw [e9] at hP9 hD9
    exact W.zret (v := r109) hx hb hr (by rw [hr109]; rfl) (fun t ht hW => ⟨⟨r109, (), rfl, by rw [hr109]; simp [rdLetR, e1_112], by rw [ht]; exact hP9, va_K.moved hW.alike hK, hD9⟩, hS.F ht⟩) hS.2.2 d_RD_takesLetter_112
  by_cases e1_113 : sg = 113
  · refine vz_top (y := 113) e1_113 ?_
    refine lv_tableIn (off := 129) (tgt := 130) hx hb d_RD_takesLetter_1 (by decide) (by decide) (by decide) (by decide) ?_
    refine lv_iconst (v := 0) hx hb d_RD_takesLetter_130 (by decide) ?_
    have hP9 := hP.sub (ws' := [(h0, .inr (8, [.int pl, .int x.1, .int x.2.1, .int x.2.2.1, .int x.2.2.2.1, .int x.2.2.2.2.1, .int x.2.2.2.2.2.1, .int x.2.2.2.2.2.2]))]) [0] rfl
    have hD9 := hD.sub (ws' := [(h0, .inr (8, [.int pl, .int x.1, .int x.2.1, .int x.2.2.1, .int x.2.2.2.1, .int x.2.2.2.2.1, .int x.2.2.2.2.2.1, .int x.2.2.2.2.2.2]))]) [0] (by decide) rfl
    have e9 : ([(h0, .inr (8, [.int pl, .int x.1, .int x.2.1, .int x.2.2.1, .int x.2.2.2.1, .int x.2.2.2.2.1, .int x.2.2.2.2.2.1, .int x.2.2.2.2.2.2]))] : va_W) = [(h0, .inr (8, [.int pl, .int ((rdLetS x sg).1), .int ((rdLetS x sg).2.1), .int ((rdLetS x sg).2.2.1), .int ((rdLetS x sg).2.2.2.1), .int ((rdLetS x sg).2.2.2.2.1), .int ((rdLetS x sg).2.2.2.2.2.1), .int ((rdLetS x sg).2.2.2.2.2.2)]))] := by simp [rdLetS, e1_113]
    rw [e9] at hP9 hD9
    exact W.zret (v := 0) hx hb hr (rfl) (fun t ht hW => ⟨⟨0, (), rfl, by simp [rdLetR, e1_113], by rw [ht]; exact hP9, va_K.moved hW.alike hK, hD9⟩, hS.F ht⟩) hS.2.2 d_RD_takesLetter_131
  by_cases e1_114 : sg = 114
  · refine vz_top (y := 114) e1_114 ?_
    refine lv_tableIn (off := 79) (tgt := 80) hx hb d_RD_takesLetter_1 (by decide) (by decide) (by decide) (by decide) ?_
    refine lv_aload_n hx hb d_RD_takesLetter_80 rfl (lv_at hl 0 rfl) ?_
    refine lv_iconst (v := 0) hx hb d_RD_takesLetter_81 (by decide) ?_
    refine lv_bipush (v := 8) hx hb d_RD_takesLetter_82 (by decide) ?_
    have hPc := hP.sub (ws' := [(h0, .inr (8, [.int pl, .int x.1, .int x.2.1, .int x.2.2.1, .int x.2.2.2.1, .int x.2.2.2.2.1, .int x.2.2.2.2.2.1, .int x.2.2.2.2.2.2]))]) [0] rfl
    have hKc := hK.sub (tys' := []) [] rfl
    have hDc := hD.sub (ws' := [(h0, .inr (8, [.int pl, .int x.1, .int x.2.1, .int x.2.2.1, .int x.2.2.2.1, .int x.2.2.2.2.1, .int x.2.2.2.2.2.1, .int x.2.2.2.2.2.2]))]) [0] (by decide) rfl
    have hFc := va_free (wc := [(h0, .inr (8, [.int pl, .int x.1, .int x.2.1, .int x.2.2.1, .int x.2.2.2.1, .int x.2.2.2.2.1, .int x.2.2.2.2.2.1, .int x.2.2.2.2.2.2]))]) hD hS hA [0] rfl
    refine va_calli (va_runV (As := [.int 0, .int 8]) (rest := []) ⟨hx, hb, hml, hown, hts⟩ (c_RD_awaitsDigit l dC dI s.heap.size h0 pl x 0 8) (cwV 2 hts (vz_gV wb_RD_takesLetter b_362 b_364 bs_4 b_3 wc_RD_awaitsDigit) rfl rfl rfl (by decide +kernel) ⟨Nat.le_of_ble_eq_true rfl, Nat.le_of_ble_eq_true rfl⟩) (vz_preVw (A := A) hPc hKc hDc (ci := 8) (q0 := 0) rfl rfl) rfl rfl hl.1 rfl (lv_room (Nat.le_of_ble_eq_true rfl)) d_RD_takesLetter_84 ⟨Nat.le_of_ble_eq_true rfl, Nat.le_of_ble_eq_true rfl⟩) hS (fun q _ h => hFc q h) hFc (fun r84 u9 t9 H1 locs ht hvm hr84 hB hzx9 hkx9 hS => ?_)
    try dsimp only at hr84
    obtain ⟨hP1, hK1, hD1⟩ := hB
    rw [ht] at hP1
    obtain ⟨hP, hD⟩ := va_join (wr := []) (w1 := [(h0, .inr (8, [.int pl, .int ((rdWait x 0 8).1), .int ((rdWait x 0 8).2.1), .int ((rdWait x 0 8).2.2.1), .int ((rdWait x 0 8).2.2.2.1), .int ((rdWait x 0 8).2.2.2.2.1), .int ((rdWait x 0 8).2.2.2.2.2.1), .int ((rdWait x 0 8).2.2.2.2.2.2)]))]) hP hD [0] [] rfl rfl (by decide) (by decide) hkx9 hFc hP1 hD1
    generalize H1 = H at hP hS ⊢
    have hP : va_P (dC, dI) vwCl [(h0, .inr (8, [.int pl, .int ((rdWait x 0 8).1), .int ((rdWait x 0 8).2.1), .int ((rdWait x 0 8).2.2.1), .int ((rdWait x 0 8).2.2.2.1), .int ((rdWait x 0 8).2.2.2.2.1), .int ((rdWait x 0 8).2.2.2.2.2.1), .int ((rdWait x 0 8).2.2.2.2.2.2)]))] H := hP
    have hD : va_D A [(h0, .inr (8, [.int pl, .int ((rdWait x 0 8).1), .int ((rdWait x 0 8).2.1), .int ((rdWait x 0 8).2.2.1), .int ((rdWait x 0 8).2.2.2.1), .int ((rdWait x 0 8).2.2.2.2.1), .int ((rdWait x 0 8).2.2.2.2.2.1), .int ((rdWait x 0 8).2.2.2.2.2.2)]))] := hD
    have hP9 := hP.sub (ws' := [(h0, .inr (8, [.int pl, .int ((rdWait x 0 8).1), .int ((rdWait x 0 8).2.1), .int ((rdWait x 0 8).2.2.1), .int ((rdWait x 0 8).2.2.2.1), .int ((rdWait x 0 8).2.2.2.2.1), .int ((rdWait x 0 8).2.2.2.2.2.1), .int ((rdWait x 0 8).2.2.2.2.2.2)]))]) [0] rfl
    have hD9 := hD.sub (ws' := [(h0, .inr (8, [.int pl, .int ((rdWait x 0 8).1), .int ((rdWait x 0 8).2.1), .int ((rdWait x 0 8).2.2.1), .int ((rdWait x 0 8).2.2.2.1), .int ((rdWait x 0 8).2.2.2.2.1), .int ((rdWait x 0 8).2.2.2.2.2.1), .int ((rdWait x 0 8).2.2.2.2.2.2)]))]) [0] (by decide) rfl
    have e9 : ([(h0, .inr (8, [.int pl, .int ((rdWait x 0 8).1), .int ((rdWait x 0 8).2.1), .int ((rdWait x 0 8).2.2.1), .int ((rdWait x 0 8).2.2.2.1), .int ((rdWait x 0 8).2.2.2.2.1), .int ((rdWait x 0 8).2.2.2.2.2.1), .int ((rdWait x 0 8).2.2.2.2.2.2)]))] : va_W) = [(h0, .inr (8, [.int pl, .int ((rdLetS x sg).1), .int ((rdLetS x sg).2.1), .int ((rdLetS x sg).2.2.1), .int ((rdLetS x sg).2.2.2.1), .int ((rdLetS x sg).2.2.2.2.1), .int ((rdLetS x sg).2.2.2.2.2.1), .int ((rdLetS x sg).2.2.2.2.2.2)]))] := by simp [rdLetS, e1_114]
    rw [e9] at hP9 hD9
    exact W.zret (v := r84) hx hb hr (by rw [hr84]; rfl) (fun t ht hW => ⟨⟨r84, (), rfl, by rw [hr84]; simp [rdLetR, e1_114], by rw [ht]; exact hP9, va_K.moved hW.alike hK, hD9⟩, hS.F ht⟩) hS.2.2 d_RD_takesLetter_87
  refine lv_tableOut (tgt := 130) hx hb d_RD_takesLetter_1 (by have z99 := lv_neT e1_99 (show (99 : Int32).toInt = 99 by decide); have z100 := lv_neT e1_100 (show (100 : Int32).toInt = 100 by decide); have z101 := lv_neT e1_101 (show (101 : Int32).toInt = 101 by decide); have z102 := lv_neT e1_102 (show (102 : Int32).toInt = 102 by decide); have z103 := lv_neT e1_103 (show (103 : Int32).toInt = 103 by decide); have z104 := lv_neT e1_104 (show (104 : Int32).toInt = 104 by decide); have z105 := lv_neT e1_105 (show (105 : Int32).toInt = 105 by decide); have z106 := lv_neT e1_106 (show (106 : Int32).toInt = 106 by decide); have z107 := lv_neT e1_107 (show (107 : Int32).toInt = 107 by decide); have z108 := lv_neT e1_108 (show (108 : Int32).toInt = 108 by decide); have z109 := lv_neT e1_109 (show (109 : Int32).toInt = 109 by decide); have z110 := lv_neT e1_110 (show (110 : Int32).toInt = 110 by decide); have z111 := lv_neT e1_111 (show (111 : Int32).toInt = 111 by decide); have z112 := lv_neT e1_112 (show (112 : Int32).toInt = 112 by decide); have z113 := lv_neT e1_113 (show (113 : Int32).toInt = 113 by decide); have z114 := lv_neT e1_114 (show (114 : Int32).toInt = 114 by decide); omega) (by decide) ?_
  refine lv_iconst (v := 0) hx hb d_RD_takesLetter_130 (by decide) ?_
  have hP9 := hP.sub (ws' := [(h0, .inr (8, [.int pl, .int x.1, .int x.2.1, .int x.2.2.1, .int x.2.2.2.1, .int x.2.2.2.2.1, .int x.2.2.2.2.2.1, .int x.2.2.2.2.2.2]))]) [0] rfl
  have hD9 := hD.sub (ws' := [(h0, .inr (8, [.int pl, .int x.1, .int x.2.1, .int x.2.2.1, .int x.2.2.2.1, .int x.2.2.2.2.1, .int x.2.2.2.2.2.1, .int x.2.2.2.2.2.2]))]) [0] (by decide) rfl
  have e9 : ([(h0, .inr (8, [.int pl, .int x.1, .int x.2.1, .int x.2.2.1, .int x.2.2.2.1, .int x.2.2.2.2.1, .int x.2.2.2.2.2.1, .int x.2.2.2.2.2.2]))] : va_W) = [(h0, .inr (8, [.int pl, .int ((rdLetS x sg).1), .int ((rdLetS x sg).2.1), .int ((rdLetS x sg).2.2.1), .int ((rdLetS x sg).2.2.2.1), .int ((rdLetS x sg).2.2.2.2.1), .int ((rdLetS x sg).2.2.2.2.2.1), .int ((rdLetS x sg).2.2.2.2.2.2)]))] := by simp [rdLetS, e1_99, e1_102, e1_103, e1_107, e1_112, e1_114]
  rw [e9] at hP9 hD9
  exact W.zret (v := 0) hx hb hr (rfl) (fun t ht hW => ⟨⟨0, (), rfl, by simp [rdLetR, e1_99, e1_102, e1_103, e1_107, e1_112, e1_114], by rw [ht]; exact hP9, va_K.moved hW.alike hK, hD9⟩, hS.F ht⟩) hS.2.2 d_RD_takesLetter_131

set_option maxHeartbeats 4000000 in
set_option maxRecDepth 100000 in
/-- RuleReader.takesAnswer -/
theorem c_RD_takesAnswer (l : Launch) (dC : Nat → ClassId) (dI : Nat → Nat → Nat) (sz : Nat) (h0 : Nat) (pl : Int32) (x : RdS) (sg : Int32) : Met l y_RD_takesAnswer ws_RD_takesAnswer ({ frames := 0, cells := 0, slots := 0, locals := 0 }) (va_Pc [.ref h0, .int sg] (fun U => U.heap.size = sz ∧ va_P (dC, dI) vwCl [(h0, .inr (8, [.int pl, .int x.1, .int x.2.1, .int x.2.2.1, .int x.2.2.2.1, .int x.2.2.2.2.1, .int x.2.2.2.2.2.1, .int x.2.2.2.2.2.2]))] U.heap ∧ va_K (dC, dI) vwCl [] U ∧ va_D (fun _ => True) [(h0, .inr (8, [.int pl, .int x.1, .int x.2.1, .int x.2.2.1, .int x.2.2.2.1, .int x.2.2.2.2.1, .int x.2.2.2.2.2.1, .int x.2.2.2.2.2.2]))])) (va_Qi (fun (res : Int32) (_ : Unit) => res = rdAnsR sg) (fun _ t => va_P (dC, dI) vwCl [(h0, .inr (8, [.int pl, .int ((rdAnsS x sg).1), .int ((rdAnsS x sg).2.1), .int ((rdAnsS x sg).2.2.1), .int ((rdAnsS x sg).2.2.2.1), .int ((rdAnsS x sg).2.2.2.2.1), .int ((rdAnsS x sg).2.2.2.2.2.1), .int ((rdAnsS x sg).2.2.2.2.2.2)]))] t.heap ∧ va_K (dC, dI) vwCl [] t ∧ va_D (va_A [(h0, .inr (8, [.int pl, .int x.1, .int x.2.1, .int x.2.2.1, .int x.2.2.2.1, .int x.2.2.2.2.1, .int x.2.2.2.2.2.1, .int x.2.2.2.2.2.2]))] sz) [(h0, .inr (8, [.int pl, .int ((rdAnsS x sg).1), .int ((rdAnsS x sg).2.1), .int ((rdAnsS x sg).2.2.1), .int ((rdAnsS x sg).2.2.2.1), .int ((rdAnsS x sg).2.2.2.2.1), .int ((rdAnsS x sg).2.2.2.2.2.1), .int ((rdAnsS x sg).2.2.2.2.2.2)]))]) (va_A [(h0, .inr (8, [.int pl, .int x.1, .int x.2.1, .int x.2.2.1, .int x.2.2.2.1, .int x.2.2.2.2.1, .int x.2.2.2.2.2.1, .int x.2.2.2.2.2.2]))] sz)) 0 0 (va_A [(h0, .inr (8, [.int pl, .int x.1, .int x.2.1, .int x.2.2.1, .int x.2.2.2.1, .int x.2.2.2.2.1, .int x.2.2.2.2.2.1, .int x.2.2.2.2.2.2]))] sz) := by
  refine Met.ofW (cc := k_RD_takesAnswer) (maxL := 2) (ret := (some .boolean)) (by decide) rfl ?_
  intro p e s m args below meth c s₁ B hml hv
  obtain ⟨rfl, hsz, hP, hK, hD0⟩ := hv
  have hx := B.exec
  have hb := B.bytes
  have hr := B.returns
  have hts := atoms_spec (ws := ws_RD_takesAnswer) B.pre
  have hown : s.vm.findClass R_RD = some m.cls := findClass_of_methodNamed B.named
  have hlocks := B.notSynchronized
  subst hsz
  have hD := hD0.self (sz := s.heap.size)
  generalize hAe : va_A [(h0, .inr (8, [.int pl, .int x.1, .int x.2.1, .int x.2.2.1, .int x.2.2.2.1, .int x.2.2.2.2.1, .int x.2.2.2.2.2.1, .int x.2.2.2.2.2.2]))] s.heap.size = A at hD ⊢
  have hA : ∀ q : Nat, s.heap.size ≤ q → A q := fun q h => by rw [← hAe]; exact Or.inr h
  have hS : va_S A s.heap s.heap [] := va_S.rf
  have hP : va_P (dC, dI) vwCl [(h0, .inr (8, [.int pl, .int x.1, .int x.2.1, .int x.2.2.1, .int x.2.2.2.1, .int x.2.2.2.2.1, .int x.2.2.2.2.2.1, .int x.2.2.2.2.2.2]))] s.heap := hP
  have iRD : ∀ w ∈ u_ws R_RD T_RD 8, w ∈ ws_RD_takesAnswer := fun w h => wb_RD_takesAnswer w (in_RD w h)
  have hl := lv_entry ([.ref h0, .int sg]) (n := 2) (Nat.le_of_ble_eq_true rfl)
  rw [lg_entry_eq]
  generalize (lg_sl ([.ref h0, .int sg]) ++ List.replicate (2 - (lg_sl ([.ref h0, .int sg])).length) Slot.unset).toArray = ls at hl ⊢
  have hl : lv_has ls 2 [(0, .ref h0), (1, .int sg)] := hl
  refine lv_aload_n hx hb d_RD_takesAnswer_0 rfl (lv_at hl 0 rfl) ?_
  refine lv_iconst (v := 1) hx hb d_RD_takesAnswer_1 (by decide) ?_
  refine va_put (D := (dC, dI)) (ci := 8) (v := .int 1) (ty := .int) (C := R_RD) (T := T_RD) (N := 8) hx hb hts iRD ty_RD tyok_RD nm_RD hown hK hP hD hS 0 rfl rfl 4 (by decide) (hts _ (wb_RD_takesAnswer _ b_58)) (fun _ h9 => h9) rfl rfl rfl rfl (Nat.le_of_ble_eq_true rfl) d_RD_takesAnswer_2 (fun H locs hP hD hS => ?_)
  have hP : va_P (dC, dI) vwCl [(h0, .inr (8, [.int pl, .int x.1, .int x.2.1, .int x.2.2.1, .int 1, .int x.2.2.2.2.1, .int x.2.2.2.2.2.1, .int x.2.2.2.2.2.2]))] H := hP
  have hD : va_D A [(h0, .inr (8, [.int pl, .int x.1, .int x.2.1, .int x.2.2.1, .int 1, .int x.2.2.2.2.1, .int x.2.2.2.2.2.1, .int x.2.2.2.2.2.2]))] := hD
  refine lv_iload_n hx hb d_RD_takesAnswer_5 rfl (lv_at hl 1 rfl) ?_
  by_cases e6_97 : sg = 97
  · refine vz_top (y := 97) e6_97 ?_
    refine lv_lookup (off := 48) (tgt := 54) hx hb d_RD_takesAnswer_6 (by decide) (by decide) (by decide) ?_
    refine lv_aload_n hx hb d_RD_takesAnswer_54 rfl (lv_at hl 0 rfl) ?_
    refine lv_iconst (v := 0) hx hb d_RD_takesAnswer_55 (by decide) ?_
    refine va_put (D := (dC, dI)) (ci := 8) (v := .int 0) (ty := .int) (C := R_RD) (T := T_RD) (N := 8) hx hb hts iRD ty_RD tyok_RD nm_RD hown hK hP hD hS 0 rfl rfl 1 (by decide) (hts _ (wb_RD_takesAnswer _ b_53)) (fun _ h9 => h9) rfl rfl rfl rfl (Nat.le_of_ble_eq_true rfl) d_RD_takesAnswer_56 (fun H locs hP hD hS => ?_)
    have hP : va_P (dC, dI) vwCl [(h0, .inr (8, [.int pl, .int 0, .int x.2.1, .int x.2.2.1, .int 1, .int x.2.2.2.2.1, .int x.2.2.2.2.2.1, .int x.2.2.2.2.2.2]))] H := hP
    have hD : va_D A [(h0, .inr (8, [.int pl, .int 0, .int x.2.1, .int x.2.2.1, .int 1, .int x.2.2.2.2.1, .int x.2.2.2.2.2.1, .int x.2.2.2.2.2.2]))] := hD
    refine lv_iconst (v := 1) hx hb d_RD_takesAnswer_59 (by decide) ?_
    have hP9 := hP.sub (ws' := [(h0, .inr (8, [.int pl, .int 0, .int x.2.1, .int x.2.2.1, .int 1, .int x.2.2.2.2.1, .int x.2.2.2.2.2.1, .int x.2.2.2.2.2.2]))]) [0] rfl
    have hD9 := hD.sub (ws' := [(h0, .inr (8, [.int pl, .int 0, .int x.2.1, .int x.2.2.1, .int 1, .int x.2.2.2.2.1, .int x.2.2.2.2.2.1, .int x.2.2.2.2.2.2]))]) [0] (by decide) rfl
    have e9 : ([(h0, .inr (8, [.int pl, .int 0, .int x.2.1, .int x.2.2.1, .int 1, .int x.2.2.2.2.1, .int x.2.2.2.2.2.1, .int x.2.2.2.2.2.2]))] : va_W) = [(h0, .inr (8, [.int pl, .int ((rdAnsS x sg).1), .int ((rdAnsS x sg).2.1), .int ((rdAnsS x sg).2.2.1), .int ((rdAnsS x sg).2.2.2.1), .int ((rdAnsS x sg).2.2.2.2.1), .int ((rdAnsS x sg).2.2.2.2.2.1), .int ((rdAnsS x sg).2.2.2.2.2.2)]))] := by simp [rdAnsS, e6_97]
    rw [e9] at hP9 hD9
    exact W.zret (v := 1) hx hb hr (rfl) (fun t ht hW => ⟨⟨1, (), rfl, by simp [rdAnsR, e6_97], by rw [ht]; exact hP9, va_K.moved hW.alike hK, hD9⟩, hS.F ht⟩) hS.2.2 d_RD_takesAnswer_60
  by_cases e6_109 : sg = 109
  · refine vz_top (y := 109) e6_109 ?_
    refine lv_lookup (off := 41) (tgt := 47) hx hb d_RD_takesAnswer_6 (by decide) (by decide) (by decide) ?_
    refine lv_aload_n hx hb d_RD_takesAnswer_47 rfl (lv_at hl 0 rfl) ?_
    refine lv_iconst (v := 1) hx hb d_RD_takesAnswer_48 (by decide) ?_
    refine va_put (D := (dC, dI)) (ci := 8) (v := .int 1) (ty := .int) (C := R_RD) (T := T_RD) (N := 8) hx hb hts iRD ty_RD tyok_RD nm_RD hown hK hP hD hS 0 rfl rfl 1 (by decide) (hts _ (wb_RD_takesAnswer _ b_53)) (fun _ h9 => h9) rfl rfl rfl rfl (Nat.le_of_ble_eq_true rfl) d_RD_takesAnswer_49 (fun H locs hP hD hS => ?_)
    have hP : va_P (dC, dI) vwCl [(h0, .inr (8, [.int pl, .int 1, .int x.2.1, .int x.2.2.1, .int 1, .int x.2.2.2.2.1, .int x.2.2.2.2.2.1, .int x.2.2.2.2.2.2]))] H := hP
    have hD : va_D A [(h0, .inr (8, [.int pl, .int 1, .int x.2.1, .int x.2.2.1, .int 1, .int x.2.2.2.2.1, .int x.2.2.2.2.2.1, .int x.2.2.2.2.2.2]))] := hD
    refine lv_iconst (v := 1) hx hb d_RD_takesAnswer_52 (by decide) ?_
    have hP9 := hP.sub (ws' := [(h0, .inr (8, [.int pl, .int 1, .int x.2.1, .int x.2.2.1, .int 1, .int x.2.2.2.2.1, .int x.2.2.2.2.2.1, .int x.2.2.2.2.2.2]))]) [0] rfl
    have hD9 := hD.sub (ws' := [(h0, .inr (8, [.int pl, .int 1, .int x.2.1, .int x.2.2.1, .int 1, .int x.2.2.2.2.1, .int x.2.2.2.2.2.1, .int x.2.2.2.2.2.2]))]) [0] (by decide) rfl
    have e9 : ([(h0, .inr (8, [.int pl, .int 1, .int x.2.1, .int x.2.2.1, .int 1, .int x.2.2.2.2.1, .int x.2.2.2.2.2.1, .int x.2.2.2.2.2.2]))] : va_W) = [(h0, .inr (8, [.int pl, .int ((rdAnsS x sg).1), .int ((rdAnsS x sg).2.1), .int ((rdAnsS x sg).2.2.1), .int ((rdAnsS x sg).2.2.2.1), .int ((rdAnsS x sg).2.2.2.2.1), .int ((rdAnsS x sg).2.2.2.2.2.1), .int ((rdAnsS x sg).2.2.2.2.2.2)]))] := by simp [rdAnsS, e6_109]
    rw [e9] at hP9 hD9
    exact W.zret (v := 1) hx hb hr (rfl) (fun t ht hW => ⟨⟨1, (), rfl, by simp [rdAnsR, e6_109], by rw [ht]; exact hP9, va_K.moved hW.alike hK, hD9⟩, hS.F ht⟩) hS.2.2 d_RD_takesAnswer_53
  by_cases e6_115 : sg = 115
  · refine vz_top (y := 115) e6_115 ?_
    refine lv_lookup (off := 34) (tgt := 40) hx hb d_RD_takesAnswer_6 (by decide) (by decide) (by decide) ?_
    refine lv_aload_n hx hb d_RD_takesAnswer_40 rfl (lv_at hl 0 rfl) ?_
    refine lv_iconst (v := 2) hx hb d_RD_takesAnswer_41 (by decide) ?_
    refine va_put (D := (dC, dI)) (ci := 8) (v := .int 2) (ty := .int) (C := R_RD) (T := T_RD) (N := 8) hx hb hts iRD ty_RD tyok_RD nm_RD hown hK hP hD hS 0 rfl rfl 1 (by decide) (hts _ (wb_RD_takesAnswer _ b_53)) (fun _ h9 => h9) rfl rfl rfl rfl (Nat.le_of_ble_eq_true rfl) d_RD_takesAnswer_42 (fun H locs hP hD hS => ?_)
    have hP : va_P (dC, dI) vwCl [(h0, .inr (8, [.int pl, .int 2, .int x.2.1, .int x.2.2.1, .int 1, .int x.2.2.2.2.1, .int x.2.2.2.2.2.1, .int x.2.2.2.2.2.2]))] H := hP
    have hD : va_D A [(h0, .inr (8, [.int pl, .int 2, .int x.2.1, .int x.2.2.1, .int 1, .int x.2.2.2.2.1, .int x.2.2.2.2.2.1, .int x.2.2.2.2.2.2]))] := hD
    refine lv_iconst (v := 1) hx hb d_RD_takesAnswer_45 (by decide) ?_
    have hP9 := hP.sub (ws' := [(h0, .inr (8, [.int pl, .int 2, .int x.2.1, .int x.2.2.1, .int 1, .int x.2.2.2.2.1, .int x.2.2.2.2.2.1, .int x.2.2.2.2.2.2]))]) [0] rfl
    have hD9 := hD.sub (ws' := [(h0, .inr (8, [.int pl, .int 2, .int x.2.1, .int x.2.2.1, .int 1, .int x.2.2.2.2.1, .int x.2.2.2.2.2.1, .int x.2.2.2.2.2.2]))]) [0] (by decide) rfl
    have e9 : ([(h0, .inr (8, [.int pl, .int 2, .int x.2.1, .int x.2.2.1, .int 1, .int x.2.2.2.2.1, .int x.2.2.2.2.2.1, .int x.2.2.2.2.2.2]))] : va_W) = [(h0, .inr (8, [.int pl, .int ((rdAnsS x sg).1), .int ((rdAnsS x sg).2.1), .int ((rdAnsS x sg).2.2.1), .int ((rdAnsS x sg).2.2.2.1), .int ((rdAnsS x sg).2.2.2.2.1), .int ((rdAnsS x sg).2.2.2.2.2.1), .int ((rdAnsS x sg).2.2.2.2.2.2)]))] := by simp [rdAnsS, e6_115]
    rw [e9] at hP9 hD9
    exact W.zret (v := 1) hx hb hr (rfl) (fun t ht hW => ⟨⟨1, (), rfl, by simp [rdAnsR, e6_115], by rw [ht]; exact hP9, va_K.moved hW.alike hK, hD9⟩, hS.F ht⟩) hS.2.2 d_RD_takesAnswer_46
  refine lv_lookup (off := 55) (tgt := 61) hx hb d_RD_takesAnswer_6 (by decide) ((lv_osw (k := 97) e6_97 rfl).trans ((lv_osw (k := 109) e6_109 rfl).trans ((lv_osw (k := 115) e6_115 rfl).trans (rfl)))) (by decide) ?_
  refine lv_iconst (v := 0) hx hb d_RD_takesAnswer_61 (by decide) ?_
  have hP9 := hP.sub (ws' := [(h0, .inr (8, [.int pl, .int x.1, .int x.2.1, .int x.2.2.1, .int 1, .int x.2.2.2.2.1, .int x.2.2.2.2.2.1, .int x.2.2.2.2.2.2]))]) [0] rfl
  have hD9 := hD.sub (ws' := [(h0, .inr (8, [.int pl, .int x.1, .int x.2.1, .int x.2.2.1, .int 1, .int x.2.2.2.2.1, .int x.2.2.2.2.2.1, .int x.2.2.2.2.2.2]))]) [0] (by decide) rfl
  have e9 : ([(h0, .inr (8, [.int pl, .int x.1, .int x.2.1, .int x.2.2.1, .int 1, .int x.2.2.2.2.1, .int x.2.2.2.2.2.1, .int x.2.2.2.2.2.2]))] : va_W) = [(h0, .inr (8, [.int pl, .int ((rdAnsS x sg).1), .int ((rdAnsS x sg).2.1), .int ((rdAnsS x sg).2.2.1), .int ((rdAnsS x sg).2.2.2.1), .int ((rdAnsS x sg).2.2.2.2.1), .int ((rdAnsS x sg).2.2.2.2.2.1), .int ((rdAnsS x sg).2.2.2.2.2.2)]))] := by simp [rdAnsS, e6_97, e6_109, e6_115]
  rw [e9] at hP9 hD9
  exact W.zret (v := 0) hx hb hr (rfl) (fun t ht hW => ⟨⟨0, (), rfl, by simp [rdAnsR, e6_97, e6_109, e6_115], by rw [ht]; exact hP9, va_K.moved hW.alike hK, hD9⟩, hS.F ht⟩) hS.2.2 d_RD_takesAnswer_62

set_option maxHeartbeats 4000000 in
set_option maxRecDepth 100000 in
/-- RuleReader.takes -/
theorem c_RD_takes (l : Launch) (dC : Nat → ClassId) (dI : Nat → Nat → Nat) (sz : Nat) (h0 : Nat) (pl : Int32) (x : RdS) (sg : Int32) : Met l y_RD_takes ws_RD_takes ({ frames := 2, cells := 0, slots := 0, locals := 43 }) (va_Pc [.ref h0, .int sg] (fun U => U.heap.size = sz ∧ va_P (dC, dI) vwCl [(h0, .inr (8, [.int pl, .int x.1, .int x.2.1, .int x.2.2.1, .int x.2.2.2.1, .int x.2.2.2.2.1, .int x.2.2.2.2.2.1, .int x.2.2.2.2.2.2]))] U.heap ∧ va_K (dC, dI) vwCl [] U ∧ va_D (fun _ => True) [(h0, .inr (8, [.int pl, .int x.1, .int x.2.1, .int x.2.2.1, .int x.2.2.2.1, .int x.2.2.2.2.1, .int x.2.2.2.2.2.1, .int x.2.2.2.2.2.2]))])) (va_Qi (fun (res : Int32) (_ : Unit) => res = rdTakR x sg) (fun _ t => va_P (dC, dI) vwCl [(h0, .inr (8, [.int pl, .int ((rdTake x sg).1), .int ((rdTake x sg).2.1), .int ((rdTake x sg).2.2.1), .int ((rdTake x sg).2.2.2.1), .int ((rdTake x sg).2.2.2.2.1), .int ((rdTake x sg).2.2.2.2.2.1), .int ((rdTake x sg).2.2.2.2.2.2)]))] t.heap ∧ va_K (dC, dI) vwCl [] t ∧ va_D (va_A [(h0, .inr (8, [.int pl, .int x.1, .int x.2.1, .int x.2.2.1, .int x.2.2.2.1, .int x.2.2.2.2.1, .int x.2.2.2.2.2.1, .int x.2.2.2.2.2.2]))] sz) [(h0, .inr (8, [.int pl, .int ((rdTake x sg).1), .int ((rdTake x sg).2.1), .int ((rdTake x sg).2.2.1), .int ((rdTake x sg).2.2.2.1), .int ((rdTake x sg).2.2.2.2.1), .int ((rdTake x sg).2.2.2.2.2.1), .int ((rdTake x sg).2.2.2.2.2.2)]))]) (va_A [(h0, .inr (8, [.int pl, .int x.1, .int x.2.1, .int x.2.2.1, .int x.2.2.2.1, .int x.2.2.2.2.1, .int x.2.2.2.2.2.1, .int x.2.2.2.2.2.2]))] sz)) 0 0 (va_A [(h0, .inr (8, [.int pl, .int x.1, .int x.2.1, .int x.2.2.1, .int x.2.2.2.1, .int x.2.2.2.2.1, .int x.2.2.2.2.2.1, .int x.2.2.2.2.2.2]))] sz) := by
  refine Met.ofW (cc := k_RD_takes) (maxL := 2) (ret := (some .boolean)) (by decide) rfl ?_
  intro p e s m args below meth c s₁ B hml hv
  obtain ⟨rfl, hsz, hP, hK, hD0⟩ := hv
  have hx := B.exec
  have hb := B.bytes
  have hr := B.returns
  have hts := atoms_spec (ws := ws_RD_takes) B.pre
  have hown : s.vm.findClass R_RD = some m.cls := findClass_of_methodNamed B.named
  have hlocks := B.notSynchronized
  subst hsz
  have hD := hD0.self (sz := s.heap.size)
  generalize hAe : va_A [(h0, .inr (8, [.int pl, .int x.1, .int x.2.1, .int x.2.2.1, .int x.2.2.2.1, .int x.2.2.2.2.1, .int x.2.2.2.2.2.1, .int x.2.2.2.2.2.2]))] s.heap.size = A at hD ⊢
  have hA : ∀ q : Nat, s.heap.size ≤ q → A q := fun q h => by rw [← hAe]; exact Or.inr h
  have hS : va_S A s.heap s.heap [] := va_S.rf
  have hP : va_P (dC, dI) vwCl [(h0, .inr (8, [.int pl, .int x.1, .int x.2.1, .int x.2.2.1, .int x.2.2.2.1, .int x.2.2.2.2.1, .int x.2.2.2.2.2.1, .int x.2.2.2.2.2.2]))] s.heap := hP
  have iRD : ∀ w ∈ u_ws R_RD T_RD 8, w ∈ ws_RD_takes := fun w h => wb_RD_takes w (in_RD w h)
  have hl := lv_entry ([.ref h0, .int sg]) (n := 2) (Nat.le_of_ble_eq_true rfl)
  rw [lg_entry_eq]
  generalize (lg_sl ([.ref h0, .int sg]) ++ List.replicate (2 - (lg_sl ([.ref h0, .int sg])).length) Slot.unset).toArray = ls at hl ⊢
  have hl : lv_has ls 2 [(0, .ref h0), (1, .int sg)] := hl
  refine lv_aload_n hx hb d_RD_takes_0 rfl (lv_at hl 0 rfl) ?_
  refine va_get (D := (dC, dI)) (ci := 8) (v := .int x.2.2.2.1) (C := R_RD) (T := T_RD) (N := 8) hx hb hts iRD hown hK hP 0 rfl rfl 4 (by decide) (hts _ (wb_RD_takes _ b_58)) (fun _ h9 => h9) rfl d_RD_takes_1 ?_
  by_cases e4_0 : x.2.2.2.1 = 0
  · refine vz_top (y := 0) e4_0 ?_
    refine lv_tableIn (off := 32) (tgt := 36) hx hb d_RD_takes_4 (by decide) (by decide) (by decide) (by decide) ?_
    refine lv_aload_n hx hb d_RD_takes_36 rfl (lv_at hl 0 rfl) ?_
    refine lv_iload_n hx hb d_RD_takes_37 rfl (lv_at hl 1 rfl) ?_
    have hPc := hP.sub (ws' := [(h0, .inr (8, [.int pl, .int x.1, .int x.2.1, .int x.2.2.1, .int x.2.2.2.1, .int x.2.2.2.2.1, .int x.2.2.2.2.2.1, .int x.2.2.2.2.2.2]))]) [0] rfl
    have hKc := hK.sub (tys' := []) [] rfl
    have hDc := hD.sub (ws' := [(h0, .inr (8, [.int pl, .int x.1, .int x.2.1, .int x.2.2.1, .int x.2.2.2.1, .int x.2.2.2.2.1, .int x.2.2.2.2.2.1, .int x.2.2.2.2.2.2]))]) [0] (by decide) rfl
    have hFc := va_free (wc := [(h0, .inr (8, [.int pl, .int x.1, .int x.2.1, .int x.2.2.1, .int x.2.2.2.1, .int x.2.2.2.2.1, .int x.2.2.2.2.2.1, .int x.2.2.2.2.2.2]))]) hD hS hA [0] rfl
    refine va_calli (va_runV (As := [.int sg]) (rest := []) ⟨hx, hb, hml, hown, hts⟩ (c_RD_takesAnswer l dC dI s.heap.size h0 pl x sg) (cwV 1 hts (vz_gV wb_RD_takes b_354 b_356 bs_2 b_3 wc_RD_takesAnswer) rfl rfl rfl (by decide +kernel) ⟨Nat.le_of_ble_eq_true rfl, Nat.le_of_ble_eq_true rfl⟩) (vz_preVw (A := A) hPc hKc hDc (ci := 8) (q0 := 0) rfl rfl) rfl rfl hl.1 rfl (lv_room (Nat.le_of_ble_eq_true rfl)) d_RD_takes_38 ⟨Nat.le_of_ble_eq_true rfl, Nat.le_of_ble_eq_true rfl⟩) hS (fun q _ h => hFc q h) hFc (fun r38 u9 t9 H1 locs ht hvm hr38 hB hzx9 hkx9 hS => ?_)
    try dsimp only at hr38
    obtain ⟨hP1, hK1, hD1⟩ := hB
    rw [ht] at hP1
    obtain ⟨hP, hD⟩ := va_join (wr := []) (w1 := [(h0, .inr (8, [.int pl, .int ((rdAnsS x sg).1), .int ((rdAnsS x sg).2.1), .int ((rdAnsS x sg).2.2.1), .int ((rdAnsS x sg).2.2.2.1), .int ((rdAnsS x sg).2.2.2.2.1), .int ((rdAnsS x sg).2.2.2.2.2.1), .int ((rdAnsS x sg).2.2.2.2.2.2)]))]) hP hD [0] [] rfl rfl (by decide) (by decide) hkx9 hFc hP1 hD1
    generalize H1 = H at hP hS ⊢
    have hP : va_P (dC, dI) vwCl [(h0, .inr (8, [.int pl, .int ((rdAnsS x sg).1), .int ((rdAnsS x sg).2.1), .int ((rdAnsS x sg).2.2.1), .int ((rdAnsS x sg).2.2.2.1), .int ((rdAnsS x sg).2.2.2.2.1), .int ((rdAnsS x sg).2.2.2.2.2.1), .int ((rdAnsS x sg).2.2.2.2.2.2)]))] H := hP
    have hD : va_D A [(h0, .inr (8, [.int pl, .int ((rdAnsS x sg).1), .int ((rdAnsS x sg).2.1), .int ((rdAnsS x sg).2.2.1), .int ((rdAnsS x sg).2.2.2.1), .int ((rdAnsS x sg).2.2.2.2.1), .int ((rdAnsS x sg).2.2.2.2.2.1), .int ((rdAnsS x sg).2.2.2.2.2.2)]))] := hD
    have hP9 := hP.sub (ws' := [(h0, .inr (8, [.int pl, .int ((rdAnsS x sg).1), .int ((rdAnsS x sg).2.1), .int ((rdAnsS x sg).2.2.1), .int ((rdAnsS x sg).2.2.2.1), .int ((rdAnsS x sg).2.2.2.2.1), .int ((rdAnsS x sg).2.2.2.2.2.1), .int ((rdAnsS x sg).2.2.2.2.2.2)]))]) [0] rfl
    have hD9 := hD.sub (ws' := [(h0, .inr (8, [.int pl, .int ((rdAnsS x sg).1), .int ((rdAnsS x sg).2.1), .int ((rdAnsS x sg).2.2.1), .int ((rdAnsS x sg).2.2.2.1), .int ((rdAnsS x sg).2.2.2.2.1), .int ((rdAnsS x sg).2.2.2.2.2.1), .int ((rdAnsS x sg).2.2.2.2.2.2)]))]) [0] (by decide) rfl
    have e9 : ([(h0, .inr (8, [.int pl, .int ((rdAnsS x sg).1), .int ((rdAnsS x sg).2.1), .int ((rdAnsS x sg).2.2.1), .int ((rdAnsS x sg).2.2.2.1), .int ((rdAnsS x sg).2.2.2.2.1), .int ((rdAnsS x sg).2.2.2.2.2.1), .int ((rdAnsS x sg).2.2.2.2.2.2)]))] : va_W) = [(h0, .inr (8, [.int pl, .int ((rdTake x sg).1), .int ((rdTake x sg).2.1), .int ((rdTake x sg).2.2.1), .int ((rdTake x sg).2.2.2.1), .int ((rdTake x sg).2.2.2.2.1), .int ((rdTake x sg).2.2.2.2.2.1), .int ((rdTake x sg).2.2.2.2.2.2)]))] := by simp [rdTake, rdGap, rdTurn, e4_0]
    rw [e9] at hP9 hD9
    exact W.zret (v := r38) hx hb hr (by rw [hr38]; exact rdAnsR_z sg) (fun t ht hW => ⟨⟨r38, (), rfl, by rw [hr38]; simp [rdTakR, e4_0], by rw [ht]; exact hP9, va_K.moved hW.alike hK, hD9⟩, hS.F ht⟩) hS.2.2 d_RD_takes_41
  by_cases e4_1 : x.2.2.2.1 = 1
  · refine vz_top (y := 1) e4_1 ?_
    refine lv_tableIn (off := 38) (tgt := 42) hx hb d_RD_takes_4 (by decide) (by decide) (by decide) (by decide) ?_
    refine lv_aload_n hx hb d_RD_takes_42 rfl (lv_at hl 0 rfl) ?_
    refine lv_iconst (v := 0) hx hb d_RD_takes_43 (by decide) ?_
    refine va_put (D := (dC, dI)) (ci := 8) (v := .int 0) (ty := .boolean) (C := R_RD) (T := T_RD) (N := 8) hx hb hts iRD ty_RD tyok_RD nm_RD hown hK hP hD hS 0 rfl rfl 5 (by decide) (hts _ (wb_RD_takes _ b_59)) (fun _ h9 => h9) rfl rfl rfl rfl (Nat.le_of_ble_eq_true rfl) d_RD_takes_44 (fun H locs hP hD hS => ?_)
    have hP : va_P (dC, dI) vwCl [(h0, .inr (8, [.int pl, .int x.1, .int x.2.1, .int x.2.2.1, .int x.2.2.2.1, .int 0, .int x.2.2.2.2.2.1, .int x.2.2.2.2.2.2]))] H := hP
    have hD : va_D A [(h0, .inr (8, [.int pl, .int x.1, .int x.2.1, .int x.2.2.1, .int x.2.2.2.1, .int 0, .int x.2.2.2.2.2.1, .int x.2.2.2.2.2.2]))] := hD
    refine lv_aload_n hx hb d_RD_takes_47 rfl (lv_at hl 0 rfl) ?_
    refine lv_iconst (v := 2) hx hb d_RD_takes_48 (by decide) ?_
    refine va_put (D := (dC, dI)) (ci := 8) (v := .int 2) (ty := .int) (C := R_RD) (T := T_RD) (N := 8) hx hb hts iRD ty_RD tyok_RD nm_RD hown hK hP hD hS 0 rfl rfl 4 (by decide) (hts _ (wb_RD_takes _ b_58)) (fun _ h9 => h9) rfl rfl rfl rfl (Nat.le_of_ble_eq_true rfl) d_RD_takes_49 (fun H locs hP hD hS => ?_)
    have hP : va_P (dC, dI) vwCl [(h0, .inr (8, [.int pl, .int x.1, .int x.2.1, .int x.2.2.1, .int 2, .int 0, .int x.2.2.2.2.2.1, .int x.2.2.2.2.2.2]))] H := hP
    have hD : va_D A [(h0, .inr (8, [.int pl, .int x.1, .int x.2.1, .int x.2.2.1, .int 2, .int 0, .int x.2.2.2.2.2.1, .int x.2.2.2.2.2.2]))] := hD
    refine lv_iload_n hx hb d_RD_takes_52 rfl (lv_at hl 1 rfl) ?_
    refine lv_bipush (v := 32) hx hb d_RD_takes_53 (by decide) ?_
    refine lv_icmp_ne (tgt := 62) hx hb d_RD_takes_55 (by decide) (fun c55 => ?_) (fun c55 => ?_)
    · refine lv_iconst (v := 0) hx hb d_RD_takes_62 (by decide) ?_
      have hP9 := hP.sub (ws' := [(h0, .inr (8, [.int pl, .int x.1, .int x.2.1, .int x.2.2.1, .int 2, .int 0, .int x.2.2.2.2.2.1, .int x.2.2.2.2.2.2]))]) [0] rfl
      have hD9 := hD.sub (ws' := [(h0, .inr (8, [.int pl, .int x.1, .int x.2.1, .int x.2.2.1, .int 2, .int 0, .int x.2.2.2.2.2.1, .int x.2.2.2.2.2.2]))]) [0] (by decide) rfl
      have e9 : ([(h0, .inr (8, [.int pl, .int x.1, .int x.2.1, .int x.2.2.1, .int 2, .int 0, .int x.2.2.2.2.2.1, .int x.2.2.2.2.2.2]))] : va_W) = [(h0, .inr (8, [.int pl, .int ((rdTake x sg).1), .int ((rdTake x sg).2.1), .int ((rdTake x sg).2.2.1), .int ((rdTake x sg).2.2.2.1), .int ((rdTake x sg).2.2.2.2.1), .int ((rdTake x sg).2.2.2.2.2.1), .int ((rdTake x sg).2.2.2.2.2.2)]))] := by simp [rdTake, rdGap, rdTurn, e4_1]
      rw [e9] at hP9 hD9
      exact W.zret (v := 0) hx hb hr (rfl) (fun t ht hW => ⟨⟨0, (), rfl, by simp [rdTakR, e4_1, c55], by rw [ht]; exact hP9, va_K.moved hW.alike hK, hD9⟩, hS.F ht⟩) hS.2.2 d_RD_takes_63
    · refine lv_iconst (v := 1) hx hb d_RD_takes_58 (by decide) ?_
      refine lv_goto (tgt := 63) hx hb d_RD_takes_59 (by decide) ?_
      have hP9 := hP.sub (ws' := [(h0, .inr (8, [.int pl, .int x.1, .int x.2.1, .int x.2.2.1, .int 2, .int 0, .int x.2.2.2.2.2.1, .int x.2.2.2.2.2.2]))]) [0] rfl
      have hD9 := hD.sub (ws' := [(h0, .inr (8, [.int pl, .int x.1, .int x.2.1, .int x.2.2.1, .int 2, .int 0, .int x.2.2.2.2.2.1, .int x.2.2.2.2.2.2]))]) [0] (by decide) rfl
      have e9 : ([(h0, .inr (8, [.int pl, .int x.1, .int x.2.1, .int x.2.2.1, .int 2, .int 0, .int x.2.2.2.2.2.1, .int x.2.2.2.2.2.2]))] : va_W) = [(h0, .inr (8, [.int pl, .int ((rdTake x sg).1), .int ((rdTake x sg).2.1), .int ((rdTake x sg).2.2.1), .int ((rdTake x sg).2.2.2.1), .int ((rdTake x sg).2.2.2.2.1), .int ((rdTake x sg).2.2.2.2.2.1), .int ((rdTake x sg).2.2.2.2.2.2)]))] := by simp [rdTake, rdGap, rdTurn, e4_1]
      rw [e9] at hP9 hD9
      exact W.zret (v := 1) hx hb hr (rfl) (fun t ht hW => ⟨⟨1, (), rfl, by simp [rdTakR, e4_1, c55], by rw [ht]; exact hP9, va_K.moved hW.alike hK, hD9⟩, hS.F ht⟩) hS.2.2 d_RD_takes_63
  by_cases e4_2 : x.2.2.2.1 = 2
  · refine vz_top (y := 2) e4_2 ?_
    refine lv_tableIn (off := 60) (tgt := 64) hx hb d_RD_takes_4 (by decide) (by decide) (by decide) (by decide) ?_
    refine lv_iload_n hx hb d_RD_takes_64 rfl (lv_at hl 1 rfl) ?_
    refine lv_bipush (v := 33) hx hb d_RD_takes_65 (by decide) ?_
    refine lv_icmp_ne (tgt := 82) hx hb d_RD_takes_67 (by decide) (fun c67 => ?_) (fun c67 => ?_)
    · refine lv_aload_n hx hb d_RD_takes_82 rfl (lv_at hl 0 rfl) ?_
      refine lv_iload_n hx hb d_RD_takes_83 rfl (lv_at hl 1 rfl) ?_
      have hPc := hP.sub (ws' := [(h0, .inr (8, [.int pl, .int x.1, .int x.2.1, .int x.2.2.1, .int x.2.2.2.1, .int x.2.2.2.2.1, .int x.2.2.2.2.2.1, .int x.2.2.2.2.2.2]))]) [0] rfl
      have hKc := hK.sub (tys' := []) [] rfl
      have hDc := hD.sub (ws' := [(h0, .inr (8, [.int pl, .int x.1, .int x.2.1, .int x.2.2.1, .int x.2.2.2.1, .int x.2.2.2.2.1, .int x.2.2.2.2.2.1, .int x.2.2.2.2.2.2]))]) [0] (by decide) rfl
      have hFc := va_free (wc := [(h0, .inr (8, [.int pl, .int x.1, .int x.2.1, .int x.2.2.1, .int x.2.2.2.1, .int x.2.2.2.2.1, .int x.2.2.2.2.2.1, .int x.2.2.2.2.2.2]))]) hD hS hA [0] rfl
      refine va_calli (va_runV (As := [.int sg]) (rest := []) ⟨hx, hb, hml, hown, hts⟩ (c_RD_takesLetter l dC dI s.heap.size h0 pl x sg) (cwV 1 hts (vz_gV wb_RD_takes b_358 b_360 bs_3 b_3 wc_RD_takesLetter) rfl rfl rfl (by decide +kernel) ⟨Nat.le_of_ble_eq_true rfl, Nat.le_of_ble_eq_true rfl⟩) (vz_preVw (A := A) hPc hKc hDc (ci := 8) (q0 := 0) rfl rfl) rfl rfl hl.1 rfl (lv_room (Nat.le_of_ble_eq_true rfl)) d_RD_takes_84 ⟨Nat.le_of_ble_eq_true rfl, Nat.le_of_ble_eq_true rfl⟩) hS (fun q _ h => hFc q h) hFc (fun r84 u9 t9 H1 locs ht hvm hr84 hB hzx9 hkx9 hS => ?_)
      try dsimp only at hr84
      obtain ⟨hP1, hK1, hD1⟩ := hB
      rw [ht] at hP1
      obtain ⟨hP, hD⟩ := va_join (wr := []) (w1 := [(h0, .inr (8, [.int pl, .int ((rdLetS x sg).1), .int ((rdLetS x sg).2.1), .int ((rdLetS x sg).2.2.1), .int ((rdLetS x sg).2.2.2.1), .int ((rdLetS x sg).2.2.2.2.1), .int ((rdLetS x sg).2.2.2.2.2.1), .int ((rdLetS x sg).2.2.2.2.2.2)]))]) hP hD [0] [] rfl rfl (by decide) (by decide) hkx9 hFc hP1 hD1
      generalize H1 = H at hP hS ⊢
      have hP : va_P (dC, dI) vwCl [(h0, .inr (8, [.int pl, .int ((rdLetS x sg).1), .int ((rdLetS x sg).2.1), .int ((rdLetS x sg).2.2.1), .int ((rdLetS x sg).2.2.2.1), .int ((rdLetS x sg).2.2.2.2.1), .int ((rdLetS x sg).2.2.2.2.2.1), .int ((rdLetS x sg).2.2.2.2.2.2)]))] H := hP
      have hD : va_D A [(h0, .inr (8, [.int pl, .int ((rdLetS x sg).1), .int ((rdLetS x sg).2.1), .int ((rdLetS x sg).2.2.1), .int ((rdLetS x sg).2.2.2.1), .int ((rdLetS x sg).2.2.2.2.1), .int ((rdLetS x sg).2.2.2.2.2.1), .int ((rdLetS x sg).2.2.2.2.2.2)]))] := hD
      have hP9 := hP.sub (ws' := [(h0, .inr (8, [.int pl, .int ((rdLetS x sg).1), .int ((rdLetS x sg).2.1), .int ((rdLetS x sg).2.2.1), .int ((rdLetS x sg).2.2.2.1), .int ((rdLetS x sg).2.2.2.2.1), .int ((rdLetS x sg).2.2.2.2.2.1), .int ((rdLetS x sg).2.2.2.2.2.2)]))]) [0] rfl
      have hD9 := hD.sub (ws' := [(h0, .inr (8, [.int pl, .int ((rdLetS x sg).1), .int ((rdLetS x sg).2.1), .int ((rdLetS x sg).2.2.1), .int ((rdLetS x sg).2.2.2.1), .int ((rdLetS x sg).2.2.2.2.1), .int ((rdLetS x sg).2.2.2.2.2.1), .int ((rdLetS x sg).2.2.2.2.2.2)]))]) [0] (by decide) rfl
      have e9 : ([(h0, .inr (8, [.int pl, .int ((rdLetS x sg).1), .int ((rdLetS x sg).2.1), .int ((rdLetS x sg).2.2.1), .int ((rdLetS x sg).2.2.2.1), .int ((rdLetS x sg).2.2.2.2.1), .int ((rdLetS x sg).2.2.2.2.2.1), .int ((rdLetS x sg).2.2.2.2.2.2)]))] : va_W) = [(h0, .inr (8, [.int pl, .int ((rdTake x sg).1), .int ((rdTake x sg).2.1), .int ((rdTake x sg).2.2.1), .int ((rdTake x sg).2.2.2.1), .int ((rdTake x sg).2.2.2.2.1), .int ((rdTake x sg).2.2.2.2.2.1), .int ((rdTake x sg).2.2.2.2.2.2)]))] := by simp [rdTake, rdGap, rdTurn, e4_2, c67]
      rw [e9] at hP9 hD9
      exact W.zret (v := r84) hx hb hr (by rw [hr84]; exact rdLetR_z sg) (fun t ht hW => ⟨⟨r84, (), rfl, by rw [hr84]; simp [rdTakR, e4_2, c67], by rw [ht]; exact hP9, va_K.moved hW.alike hK, hD9⟩, hS.F ht⟩) hS.2.2 d_RD_takes_87
    · refine lv_aload_n hx hb d_RD_takes_70 rfl (lv_at hl 0 rfl) ?_
      refine lv_iconst (v := 1) hx hb d_RD_takes_71 (by decide) ?_
      refine va_put (D := (dC, dI)) (ci := 8) (v := .int 1) (ty := .boolean) (C := R_RD) (T := T_RD) (N := 8) hx hb hts iRD ty_RD tyok_RD nm_RD hown hK hP hD hS 0 rfl rfl 5 (by decide) (hts _ (wb_RD_takes _ b_59)) (fun _ h9 => h9) rfl rfl rfl rfl (Nat.le_of_ble_eq_true rfl) d_RD_takes_72 (fun H locs hP hD hS => ?_)
      have hP : va_P (dC, dI) vwCl [(h0, .inr (8, [.int pl, .int x.1, .int x.2.1, .int x.2.2.1, .int x.2.2.2.1, .int 1, .int x.2.2.2.2.2.1, .int x.2.2.2.2.2.2]))] H := hP
      have hD : va_D A [(h0, .inr (8, [.int pl, .int x.1, .int x.2.1, .int x.2.2.1, .int x.2.2.2.1, .int 1, .int x.2.2.2.2.2.1, .int x.2.2.2.2.2.2]))] := hD
      refine lv_aload_n hx hb d_RD_takes_75 rfl (lv_at hl 0 rfl) ?_
      refine lv_iconst (v := 3) hx hb d_RD_takes_76 (by decide) ?_
      refine va_put (D := (dC, dI)) (ci := 8) (v := .int 3) (ty := .int) (C := R_RD) (T := T_RD) (N := 8) hx hb hts iRD ty_RD tyok_RD nm_RD hown hK hP hD hS 0 rfl rfl 4 (by decide) (hts _ (wb_RD_takes _ b_58)) (fun _ h9 => h9) rfl rfl rfl rfl (Nat.le_of_ble_eq_true rfl) d_RD_takes_77 (fun H locs hP hD hS => ?_)
      have hP : va_P (dC, dI) vwCl [(h0, .inr (8, [.int pl, .int x.1, .int x.2.1, .int x.2.2.1, .int 3, .int 1, .int x.2.2.2.2.2.1, .int x.2.2.2.2.2.2]))] H := hP
      have hD : va_D A [(h0, .inr (8, [.int pl, .int x.1, .int x.2.1, .int x.2.2.1, .int 3, .int 1, .int x.2.2.2.2.2.1, .int x.2.2.2.2.2.2]))] := hD
      refine lv_iconst (v := 1) hx hb d_RD_takes_80 (by decide) ?_
      have hP9 := hP.sub (ws' := [(h0, .inr (8, [.int pl, .int x.1, .int x.2.1, .int x.2.2.1, .int 3, .int 1, .int x.2.2.2.2.2.1, .int x.2.2.2.2.2.2]))]) [0] rfl
      have hD9 := hD.sub (ws' := [(h0, .inr (8, [.int pl, .int x.1, .int x.2.1, .int x.2.2.1, .int 3, .int 1, .int x.2.2.2.2.2.1, .int x.2.2.2.2.2.2]))]) [0] (by decide) rfl
      have e9 : ([(h0, .inr (8, [.int pl, .int x.1, .int x.2.1, .int x.2.2.1, .int 3, .int 1, .int x.2.2.2.2.2.1, .int x.2.2.2.2.2.2]))] : va_W) = [(h0, .inr (8, [.int pl, .int ((rdTake x sg).1), .int ((rdTake x sg).2.1), .int ((rdTake x sg).2.2.1), .int ((rdTake x sg).2.2.2.1), .int ((rdTake x sg).2.2.2.2.1), .int ((rdTake x sg).2.2.2.2.2.1), .int ((rdTake x sg).2.2.2.2.2.2)]))] := by simp [rdTake, rdGap, rdTurn, e4_2, c67]
      rw [e9] at hP9 hD9
      exact W.zret (v := 1) hx hb hr (rfl) (fun t ht hW => ⟨⟨1, (), rfl, by simp [rdTakR, e4_2, c67], by rw [ht]; exact hP9, va_K.moved hW.alike hK, hD9⟩, hS.F ht⟩) hS.2.2 d_RD_takes_81
  by_cases e4_3 : x.2.2.2.1 = 3
  · refine vz_top (y := 3) e4_3 ?_
    refine lv_tableIn (off := 84) (tgt := 88) hx hb d_RD_takes_4 (by decide) (by decide) (by decide) (by decide) ?_
    refine lv_aload_n hx hb d_RD_takes_88 rfl (lv_at hl 0 rfl) ?_
    refine lv_iload_n hx hb d_RD_takes_89 rfl (lv_at hl 1 rfl) ?_
    have hPc := hP.sub (ws' := [(h0, .inr (8, [.int pl, .int x.1, .int x.2.1, .int x.2.2.1, .int x.2.2.2.1, .int x.2.2.2.2.1, .int x.2.2.2.2.2.1, .int x.2.2.2.2.2.2]))]) [0] rfl
    have hKc := hK.sub (tys' := []) [] rfl
    have hDc := hD.sub (ws' := [(h0, .inr (8, [.int pl, .int x.1, .int x.2.1, .int x.2.2.1, .int x.2.2.2.1, .int x.2.2.2.2.1, .int x.2.2.2.2.2.1, .int x.2.2.2.2.2.2]))]) [0] (by decide) rfl
    have hFc := va_free (wc := [(h0, .inr (8, [.int pl, .int x.1, .int x.2.1, .int x.2.2.1, .int x.2.2.2.1, .int x.2.2.2.2.1, .int x.2.2.2.2.2.1, .int x.2.2.2.2.2.2]))]) hD hS hA [0] rfl
    refine va_calli (va_runV (As := [.int sg]) (rest := []) ⟨hx, hb, hml, hown, hts⟩ (c_RD_takesLetter l dC dI s.heap.size h0 pl x sg) (cwV 1 hts (vz_gV wb_RD_takes b_358 b_360 bs_3 b_3 wc_RD_takesLetter) rfl rfl rfl (by decide +kernel) ⟨Nat.le_of_ble_eq_true rfl, Nat.le_of_ble_eq_true rfl⟩) (vz_preVw (A := A) hPc hKc hDc (ci := 8) (q0 := 0) rfl rfl) rfl rfl hl.1 rfl (lv_room (Nat.le_of_ble_eq_true rfl)) d_RD_takes_90 ⟨Nat.le_of_ble_eq_true rfl, Nat.le_of_ble_eq_true rfl⟩) hS (fun q _ h => hFc q h) hFc (fun r90 u9 t9 H1 locs ht hvm hr90 hB hzx9 hkx9 hS => ?_)
    try dsimp only at hr90
    obtain ⟨hP1, hK1, hD1⟩ := hB
    rw [ht] at hP1
    obtain ⟨hP, hD⟩ := va_join (wr := []) (w1 := [(h0, .inr (8, [.int pl, .int ((rdLetS x sg).1), .int ((rdLetS x sg).2.1), .int ((rdLetS x sg).2.2.1), .int ((rdLetS x sg).2.2.2.1), .int ((rdLetS x sg).2.2.2.2.1), .int ((rdLetS x sg).2.2.2.2.2.1), .int ((rdLetS x sg).2.2.2.2.2.2)]))]) hP hD [0] [] rfl rfl (by decide) (by decide) hkx9 hFc hP1 hD1
    generalize H1 = H at hP hS ⊢
    have hP : va_P (dC, dI) vwCl [(h0, .inr (8, [.int pl, .int ((rdLetS x sg).1), .int ((rdLetS x sg).2.1), .int ((rdLetS x sg).2.2.1), .int ((rdLetS x sg).2.2.2.1), .int ((rdLetS x sg).2.2.2.2.1), .int ((rdLetS x sg).2.2.2.2.2.1), .int ((rdLetS x sg).2.2.2.2.2.2)]))] H := hP
    have hD : va_D A [(h0, .inr (8, [.int pl, .int ((rdLetS x sg).1), .int ((rdLetS x sg).2.1), .int ((rdLetS x sg).2.2.1), .int ((rdLetS x sg).2.2.2.1), .int ((rdLetS x sg).2.2.2.2.1), .int ((rdLetS x sg).2.2.2.2.2.1), .int ((rdLetS x sg).2.2.2.2.2.2)]))] := hD
    have hP9 := hP.sub (ws' := [(h0, .inr (8, [.int pl, .int ((rdLetS x sg).1), .int ((rdLetS x sg).2.1), .int ((rdLetS x sg).2.2.1), .int ((rdLetS x sg).2.2.2.1), .int ((rdLetS x sg).2.2.2.2.1), .int ((rdLetS x sg).2.2.2.2.2.1), .int ((rdLetS x sg).2.2.2.2.2.2)]))]) [0] rfl
    have hD9 := hD.sub (ws' := [(h0, .inr (8, [.int pl, .int ((rdLetS x sg).1), .int ((rdLetS x sg).2.1), .int ((rdLetS x sg).2.2.1), .int ((rdLetS x sg).2.2.2.1), .int ((rdLetS x sg).2.2.2.2.1), .int ((rdLetS x sg).2.2.2.2.2.1), .int ((rdLetS x sg).2.2.2.2.2.2)]))]) [0] (by decide) rfl
    have e9 : ([(h0, .inr (8, [.int pl, .int ((rdLetS x sg).1), .int ((rdLetS x sg).2.1), .int ((rdLetS x sg).2.2.1), .int ((rdLetS x sg).2.2.2.1), .int ((rdLetS x sg).2.2.2.2.1), .int ((rdLetS x sg).2.2.2.2.2.1), .int ((rdLetS x sg).2.2.2.2.2.2)]))] : va_W) = [(h0, .inr (8, [.int pl, .int ((rdTake x sg).1), .int ((rdTake x sg).2.1), .int ((rdTake x sg).2.2.1), .int ((rdTake x sg).2.2.2.1), .int ((rdTake x sg).2.2.2.2.1), .int ((rdTake x sg).2.2.2.2.2.1), .int ((rdTake x sg).2.2.2.2.2.2)]))] := by simp [rdTake, rdGap, rdTurn, e4_3]
    rw [e9] at hP9 hD9
    exact W.zret (v := r90) hx hb hr (by rw [hr90]; exact rdLetR_z sg) (fun t ht hW => ⟨⟨r90, (), rfl, by rw [hr90]; simp [rdTakR, e4_3], by rw [ht]; exact hP9, va_K.moved hW.alike hK, hD9⟩, hS.F ht⟩) hS.2.2 d_RD_takes_93
  refine lv_tableOut (tgt := 94) hx hb d_RD_takes_4 (by have z0 := lv_neT e4_0 (show (0 : Int32).toInt = 0 by decide); have z1 := lv_neT e4_1 (show (1 : Int32).toInt = 1 by decide); have z2 := lv_neT e4_2 (show (2 : Int32).toInt = 2 by decide); have z3 := lv_neT e4_3 (show (3 : Int32).toInt = 3 by decide); omega) (by decide) ?_
  refine lv_aload_n hx hb d_RD_takes_94 rfl (lv_at hl 0 rfl) ?_
  refine lv_iload_n hx hb d_RD_takes_95 rfl (lv_at hl 1 rfl) ?_
  have hPc := hP.sub (ws' := [(h0, .inr (8, [.int pl, .int x.1, .int x.2.1, .int x.2.2.1, .int x.2.2.2.1, .int x.2.2.2.2.1, .int x.2.2.2.2.2.1, .int x.2.2.2.2.2.2]))]) [0] rfl
  have hKc := hK.sub (tys' := []) [] rfl
  have hDc := hD.sub (ws' := [(h0, .inr (8, [.int pl, .int x.1, .int x.2.1, .int x.2.2.1, .int x.2.2.2.1, .int x.2.2.2.2.1, .int x.2.2.2.2.2.1, .int x.2.2.2.2.2.2]))]) [0] (by decide) rfl
  have hFc := va_free (wc := [(h0, .inr (8, [.int pl, .int x.1, .int x.2.1, .int x.2.2.1, .int x.2.2.2.1, .int x.2.2.2.2.1, .int x.2.2.2.2.2.1, .int x.2.2.2.2.2.2]))]) hD hS hA [0] rfl
  refine va_calli (va_runV (As := [.int sg]) (rest := []) ⟨hx, hb, hml, hown, hts⟩ (c_RD_takesDigit l dC dI s.heap.size h0 pl x sg) (cwV 1 hts (vz_gV wb_RD_takes b_370 b_372 bs_6 b_3 wc_RD_takesDigit) rfl rfl rfl (by decide +kernel) ⟨Nat.le_of_ble_eq_true rfl, Nat.le_of_ble_eq_true rfl⟩) (vz_preVw (A := A) hPc hKc hDc (ci := 8) (q0 := 0) rfl rfl) rfl rfl hl.1 rfl (lv_room (Nat.le_of_ble_eq_true rfl)) d_RD_takes_96 ⟨Nat.le_of_ble_eq_true rfl, Nat.le_of_ble_eq_true rfl⟩) hS (fun q _ h => hFc q h) hFc (fun r96 u9 t9 H1 locs ht hvm hr96 hB hzx9 hkx9 hS => ?_)
  try dsimp only at hr96
  obtain ⟨hP1, hK1, hD1⟩ := hB
  rw [ht] at hP1
  obtain ⟨hP, hD⟩ := va_join (wr := []) (w1 := [(h0, .inr (8, [.int pl, .int ((rdDigS x sg).1), .int ((rdDigS x sg).2.1), .int ((rdDigS x sg).2.2.1), .int ((rdDigS x sg).2.2.2.1), .int ((rdDigS x sg).2.2.2.2.1), .int ((rdDigS x sg).2.2.2.2.2.1), .int ((rdDigS x sg).2.2.2.2.2.2)]))]) hP hD [0] [] rfl rfl (by decide) (by decide) hkx9 hFc hP1 hD1
  generalize H1 = H at hP hS ⊢
  have hP : va_P (dC, dI) vwCl [(h0, .inr (8, [.int pl, .int ((rdDigS x sg).1), .int ((rdDigS x sg).2.1), .int ((rdDigS x sg).2.2.1), .int ((rdDigS x sg).2.2.2.1), .int ((rdDigS x sg).2.2.2.2.1), .int ((rdDigS x sg).2.2.2.2.2.1), .int ((rdDigS x sg).2.2.2.2.2.2)]))] H := hP
  have hD : va_D A [(h0, .inr (8, [.int pl, .int ((rdDigS x sg).1), .int ((rdDigS x sg).2.1), .int ((rdDigS x sg).2.2.1), .int ((rdDigS x sg).2.2.2.1), .int ((rdDigS x sg).2.2.2.2.1), .int ((rdDigS x sg).2.2.2.2.2.1), .int ((rdDigS x sg).2.2.2.2.2.2)]))] := hD
  have hP9 := hP.sub (ws' := [(h0, .inr (8, [.int pl, .int ((rdDigS x sg).1), .int ((rdDigS x sg).2.1), .int ((rdDigS x sg).2.2.1), .int ((rdDigS x sg).2.2.2.1), .int ((rdDigS x sg).2.2.2.2.1), .int ((rdDigS x sg).2.2.2.2.2.1), .int ((rdDigS x sg).2.2.2.2.2.2)]))]) [0] rfl
  have hD9 := hD.sub (ws' := [(h0, .inr (8, [.int pl, .int ((rdDigS x sg).1), .int ((rdDigS x sg).2.1), .int ((rdDigS x sg).2.2.1), .int ((rdDigS x sg).2.2.2.1), .int ((rdDigS x sg).2.2.2.2.1), .int ((rdDigS x sg).2.2.2.2.2.1), .int ((rdDigS x sg).2.2.2.2.2.2)]))]) [0] (by decide) rfl
  have e9 : ([(h0, .inr (8, [.int pl, .int ((rdDigS x sg).1), .int ((rdDigS x sg).2.1), .int ((rdDigS x sg).2.2.1), .int ((rdDigS x sg).2.2.2.1), .int ((rdDigS x sg).2.2.2.2.1), .int ((rdDigS x sg).2.2.2.2.2.1), .int ((rdDigS x sg).2.2.2.2.2.2)]))] : va_W) = [(h0, .inr (8, [.int pl, .int ((rdTake x sg).1), .int ((rdTake x sg).2.1), .int ((rdTake x sg).2.2.1), .int ((rdTake x sg).2.2.2.1), .int ((rdTake x sg).2.2.2.2.1), .int ((rdTake x sg).2.2.2.2.2.1), .int ((rdTake x sg).2.2.2.2.2.2)]))] := by simp [rdTake, rdGap, rdTurn, e4_0, e4_1, e4_2, e4_3]
  rw [e9] at hP9 hD9
  exact W.zret (v := r96) hx hb hr (by rw [hr96]; exact rdDigR_z x sg) (fun t ht hW => ⟨⟨r96, (), rfl, by rw [hr96]; simp [rdTakR, e4_0, e4_1, e4_2, e4_3], by rw [ht]; exact hP9, va_K.moved hW.alike hK, hD9⟩, hS.F ht⟩) hS.2.2 d_RD_takes_99

set_option maxHeartbeats 4000000 in
set_option maxRecDepth 100000 in
theorem lp_RD_reads_17 {p : Program} {l : Launch} {e : Env} {s : State} {m : MethodId} {args : Array Value} {below : List Frame} {meth : Method} {c : Code} {Q : State → Prop} {A : Nat → Prop} {H0 : Heap} (dC : Nat → ClassId) (dI : Nat → Nat → Nat) (cC : ClassId) (h0 hp aS : Nat) (f : Nat → Int32) (n : Nat) (hn : n ≤ 40) (pl : Int32) (x : RdS)  (hx : p.tables.exec = Jvm.exec) (hb : c.code = k_RD_reads) (hml : c.maxLocals = 3) (hts : ∀ w ∈ ws_RD_reads, w.before args s = true) (hown : s.vm.findClass R_RD = some m.cls) (hK : va_K (dC, dI) vwCl [(cC, .char)] s) (hA : ∀ q, H0.size ≤ q → A q) (kx51 : ∀ (y : RdS), (rdGo f 0 n (x.1, 0, 0, 0, x.2.2.2.2.1, x.2.2.2.2.2.1, x.2.2.2.2.2.2) = (nI n, y, if y.2.2.2.1 = 1 then 1 else 0)) → ∀ (H : Heap) (locs : List Loc), va_P (dC, dI) vwCl [(h0, .inr (8, [.int pl, .int y.1, .int y.2.1, .int y.2.2.1, .int y.2.2.2.1, .int y.2.2.2.2.1, .int y.2.2.2.2.2.1, .int y.2.2.2.2.2.2])), (hp, .inr (4, [.ref aS, .int (nI n)])), (aS, .inl (cC, 40, .inl f))] H → va_D A [(h0, .inr (8, [.int pl, .int y.1, .int y.2.1, .int y.2.2.1, .int y.2.2.2.1, .int y.2.2.2.2.1, .int y.2.2.2.2.2.1, .int y.2.2.2.2.2.2])), (hp, .inr (4, [.ref aS, .int (nI n)])), (aS, .inl (cC, 40, .inl f))] → va_S A H0 H locs → ∀ ls : Array Slot, lv_has ls 3 [(0, .ref h0), (1, .ref hp)] → W p l e ({ frames := 3, cells := 0, slots := 0, locals := 64 }) s m args below meth c H locs 0 0 Q (F0 m 51 ls [])) (kx38 : ∀ (k : Nat), ∀ (y : RdS), (rdGo f 0 n (x.1, 0, 0, 0, x.2.2.2.2.1, x.2.2.2.2.2.1, x.2.2.2.2.2.2) = (nI k, y, 0)) → ∀ (H : Heap) (locs : List Loc), va_P (dC, dI) vwCl [(h0, .inr (8, [.int pl, .int y.1, .int y.2.1, .int y.2.2.1, .int y.2.2.2.1, .int y.2.2.2.2.1, .int y.2.2.2.2.2.1, .int y.2.2.2.2.2.2])), (hp, .inr (4, [.ref aS, .int (nI n)])), (aS, .inl (cC, 40, .inl f))] H → va_D A [(h0, .inr (8, [.int pl, .int y.1, .int y.2.1, .int y.2.2.1, .int y.2.2.2.1, .int y.2.2.2.2.1, .int y.2.2.2.2.2.1, .int y.2.2.2.2.2.2])), (hp, .inr (4, [.ref aS, .int (nI n)])), (aS, .inl (cC, 40, .inl f))] → va_S A H0 H locs → ∀ ls : Array Slot, lv_has ls 3 [(2, .int (nI k)), (0, .ref h0)] → W p l e ({ frames := 3, cells := 0, slots := 0, locals := 64 }) s m args below meth c H locs 0 0 Q (F0 m 38 ls [])) : ∀ (N : Nat), ∀ (k : Nat), ∀ (y : RdS), n + 1 ≤ k + N → (k ≤ n) → (rdGo f 0 n (x.1, 0, 0, 0, x.2.2.2.2.1, x.2.2.2.2.2.1, x.2.2.2.2.2.2) = rdGo f k (n - k) y) → ∀ (H : Heap) (locs : List Loc), va_P (dC, dI) vwCl [(h0, .inr (8, [.int pl, .int y.1, .int y.2.1, .int y.2.2.1, .int y.2.2.2.1, .int y.2.2.2.2.1, .int y.2.2.2.2.2.1, .int y.2.2.2.2.2.2])), (hp, .inr (4, [.ref aS, .int (nI n)])), (aS, .inl (cC, 40, .inl f))] H → va_D A [(h0, .inr (8, [.int pl, .int y.1, .int y.2.1, .int y.2.2.1, .int y.2.2.2.1, .int y.2.2.2.2.1, .int y.2.2.2.2.2.1, .int y.2.2.2.2.2.2])), (hp, .inr (4, [.ref aS, .int (nI n)])), (aS, .inl (cC, 40, .inl f))] → va_S A H0 H locs → ∀ ls : Array Slot, lv_has ls 3 [(2, .int (nI k)), (0, .ref h0), (1, .ref hp)] → W p l e ({ frames := 3, cells := 0, slots := 0, locals := 64 }) s m args below meth c H locs 0 0 Q (F0 m 17 ls []) := by
  have iPA : ∀ w ∈ u_ws R_PA T_PA 2, w ∈ ws_RD_reads := fun w h => wb_RD_reads w (in_PA w h)
  have iRD : ∀ w ∈ u_ws R_RD T_RD 8, w ∈ ws_RD_reads := fun w h => wb_RD_reads w (in_RD w h)
  intro N
  induction N with
  | zero =>
    intro k y hme hk hv
    exact absurd hme (by omega)
  | succ N ih =>
    intro k y hme hk hv H locs hP hD hS ls hl
    refine lv_iload_n hx hb d_RD_reads_17 rfl (lv_at hl 0 rfl) ?_
    refine lv_aload_n hx hb d_RD_reads_18 rfl (lv_at hl 2 rfl) ?_
    refine va_get (D := (dC, dI)) (ci := 4) (v := .int (nI n)) (C := R_PA) (T := T_PA) (N := 2) hx hb hts iPA hown hK hP 1 rfl rfl 1 (by decide) (hts _ (wb_RD_reads _ b_35)) (fun _ h9 => h9) rfl d_RD_reads_19 ?_
    refine lv_icmp_ge (tgt := 51) hx hb d_RD_reads_22 (by decide) (fun c22 => ?_) (fun c22 => ?_)
    · have hge : n ≤ k := (nI_leI (show n < 2147483648 by omega) (show k < 2147483648 by omega)).mp c22
      exact kx51 y (by rw [hv, show n - k = 0 by omega, show k = n by omega]; rfl) _ _ hP hD hS ls (lv_sub hl [1, 2] rfl)
    · have hlt : k < n := Nat.lt_of_not_le (mt (nI_leI (show n < 2147483648 by omega) (show k < 2147483648 by omega)).mpr c22)
      rw [show n - k = (n - (k + 1)) + 1 by omega] at hv
      refine lv_aload_n hx hb d_RD_reads_25 rfl (lv_at hl 1 rfl) ?_
      refine lv_aload_n hx hb d_RD_reads_26 rfl (lv_at hl 2 rfl) ?_
      refine va_get (D := (dC, dI)) (ci := 4) (v := .ref aS) (C := R_PA) (T := T_PA) (N := 2) hx hb hts iPA hown hK hP 1 rfl rfl 0 (by decide) (hts _ (wb_RD_reads _ b_34)) (fun _ h9 => h9) rfl d_RD_reads_27 ?_
      refine lv_iload_n hx hb d_RD_reads_30 rfl (lv_at hl 0 rfl) ?_
      refine vz_cald (k := k) hx hb hK hP 2 0 rfl rfl (by omega) (by decide) d_RD_reads_31 ?_
      have hPc := hP.sub (ws' := [(h0, .inr (8, [.int pl, .int y.1, .int y.2.1, .int y.2.2.1, .int y.2.2.2.1, .int y.2.2.2.2.1, .int y.2.2.2.2.2.1, .int y.2.2.2.2.2.2]))]) [0] rfl
      have hKc := hK.sub (tys' := []) [] rfl
      have hDc := hD.sub (ws' := [(h0, .inr (8, [.int pl, .int y.1, .int y.2.1, .int y.2.2.1, .int y.2.2.2.1, .int y.2.2.2.2.1, .int y.2.2.2.2.2.1, .int y.2.2.2.2.2.2]))]) [0] (by decide) rfl
      have hFc := va_free (wc := [(h0, .inr (8, [.int pl, .int y.1, .int y.2.1, .int y.2.2.1, .int y.2.2.2.1, .int y.2.2.2.2.1, .int y.2.2.2.2.2.1, .int y.2.2.2.2.2.2]))]) hD hS hA [0] rfl
      refine va_calli (va_runV (As := [.int (f k)]) (rest := []) ⟨hx, hb, hml, hown, hts⟩ (c_RD_takes l dC dI H.size h0 pl y (f k)) (cwV 1 hts (vz_gV wb_RD_reads b_350 b_352 bs_1 b_3 wc_RD_takes) rfl rfl rfl (by decide +kernel) ⟨Nat.le_of_ble_eq_true rfl, Nat.le_of_ble_eq_true rfl⟩) (vz_preVw (A := A) hPc hKc hDc (ci := 8) (q0 := 0) rfl rfl) rfl rfl hl.1 rfl (lv_room (Nat.le_of_ble_eq_true rfl)) d_RD_reads_32 ⟨Nat.le_of_ble_eq_true rfl, Nat.le_of_ble_eq_true rfl⟩) hS (fun q _ h => hFc q h) hFc (fun r32 u9 t9 H1 locs ht hvm hr32 hB hzx9 hkx9 hS => ?_)
      try dsimp only at hr32
      obtain ⟨hP1, hK1, hD1⟩ := hB
      rw [ht] at hP1
      obtain ⟨hP, hD⟩ := va_join (wr := [(hp, .inr (4, [.ref aS, .int (nI n)])), (aS, .inl (cC, 40, .inl f))]) (w1 := [(h0, .inr (8, [.int pl, .int ((rdTake y (f k)).1), .int ((rdTake y (f k)).2.1), .int ((rdTake y (f k)).2.2.1), .int ((rdTake y (f k)).2.2.2.1), .int ((rdTake y (f k)).2.2.2.2.1), .int ((rdTake y (f k)).2.2.2.2.2.1), .int ((rdTake y (f k)).2.2.2.2.2.2)]))]) hP hD [0] [1, 2] rfl rfl (by decide) (by decide) hkx9 hFc hP1 hD1
      generalize H1 = H at hP hS ⊢
      have hP : va_P (dC, dI) vwCl [(hp, .inr (4, [.ref aS, .int (nI n)])), (aS, .inl (cC, 40, .inl f)), (h0, .inr (8, [.int pl, .int ((rdTake y (f k)).1), .int ((rdTake y (f k)).2.1), .int ((rdTake y (f k)).2.2.1), .int ((rdTake y (f k)).2.2.2.1), .int ((rdTake y (f k)).2.2.2.2.1), .int ((rdTake y (f k)).2.2.2.2.2.1), .int ((rdTake y (f k)).2.2.2.2.2.2)]))] H := hP
      have hD : va_D A [(hp, .inr (4, [.ref aS, .int (nI n)])), (aS, .inl (cC, 40, .inl f)), (h0, .inr (8, [.int pl, .int ((rdTake y (f k)).1), .int ((rdTake y (f k)).2.1), .int ((rdTake y (f k)).2.2.1), .int ((rdTake y (f k)).2.2.2.1), .int ((rdTake y (f k)).2.2.2.2.1), .int ((rdTake y (f k)).2.2.2.2.2.1), .int ((rdTake y (f k)).2.2.2.2.2.2)]))] := hD
      refine lv_if_ne (tgt := 45) hx hb d_RD_reads_35 (by decide) (fun c35 => ?_) (fun c35 => ?_)
      · refine lv_iinc (v := nI (k + 1)) (lv' := [(2, .int (nI (k + 1))), (0, .ref h0), (1, .ref hp)]) hx hb d_RD_reads_45 hl (k := 0) rfl (nI_1 k) (by decide) rfl (fun ls hl => ?_)
        refine lv_goto (tgt := 17) hx hb d_RD_reads_48 (by decide) ?_
        exact ih (k + 1) (rdTake y (f k)) (by omega) (by omega) (hv.trans (if_neg (by rw [← hr32]; exact c35))) _ _ (hP.sub [2, 0, 1] rfl) (hD.sub [2, 0, 1] (by decide) rfl) hS ls (lv_sub hl [0, 1, 2] rfl)
      · exact kx38 k (rdTake y (f k)) (hv.trans (if_pos (by rw [← hr32]; exact c35))) _ _ (hP.sub [2, 0, 1] rfl) (hD.sub [2, 0, 1] (by decide) rfl) hS ls (lv_sub hl [0, 1] rfl)
set_option maxHeartbeats 4000000 in
set_option maxRecDepth 100000 in
/-- RuleReader.reads -/
theorem c_RD_reads (l : Launch) (dC : Nat → ClassId) (dI : Nat → Nat → Nat) (sz : Nat) (cC : ClassId) (h0 hp aS : Nat) (f : Nat → Int32) (n : Nat) (hn : n ≤ 40) (pl : Int32) (x : RdS) : Met l y_RD_reads ws_RD_reads ({ frames := 3, cells := 0, slots := 0, locals := 64 }) (va_Pc [.ref h0, .ref hp] (fun U => U.heap.size = sz ∧ va_P (dC, dI) vwCl [(h0, .inr (8, [.int pl, .int x.1, .int x.2.1, .int x.2.2.1, .int x.2.2.2.1, .int x.2.2.2.2.1, .int x.2.2.2.2.2.1, .int x.2.2.2.2.2.2])), (hp, .inr (4, [.ref aS, .int (nI n)])), (aS, .inl (cC, 40, .inl f))] U.heap ∧ va_K (dC, dI) vwCl [(cC, .char)] U ∧ va_D (fun _ => True) [(h0, .inr (8, [.int pl, .int x.1, .int x.2.1, .int x.2.2.1, .int x.2.2.2.1, .int x.2.2.2.2.1, .int x.2.2.2.2.2.1, .int x.2.2.2.2.2.2])), (hp, .inr (4, [.ref aS, .int (nI n)])), (aS, .inl (cC, 40, .inl f))])) (va_Qi (fun (res : Int32) (_ : Unit) => res = (rdGo f 0 n (x.1, 0, 0, 0, x.2.2.2.2.1, x.2.2.2.2.2.1, x.2.2.2.2.2.2)).2.2) (fun _ t => va_P (dC, dI) vwCl [(h0, .inr (8, [.int ((rdGo f 0 n (x.1, 0, 0, 0, x.2.2.2.2.1, x.2.2.2.2.2.1, x.2.2.2.2.2.2)).1), .int (((rdGo f 0 n (x.1, 0, 0, 0, x.2.2.2.2.1, x.2.2.2.2.2.1, x.2.2.2.2.2.2)).2.1).1), .int (((rdGo f 0 n (x.1, 0, 0, 0, x.2.2.2.2.1, x.2.2.2.2.2.1, x.2.2.2.2.2.2)).2.1).2.1), .int (((rdGo f 0 n (x.1, 0, 0, 0, x.2.2.2.2.1, x.2.2.2.2.2.1, x.2.2.2.2.2.2)).2.1).2.2.1), .int (((rdGo f 0 n (x.1, 0, 0, 0, x.2.2.2.2.1, x.2.2.2.2.2.1, x.2.2.2.2.2.2)).2.1).2.2.2.1), .int (((rdGo f 0 n (x.1, 0, 0, 0, x.2.2.2.2.1, x.2.2.2.2.2.1, x.2.2.2.2.2.2)).2.1).2.2.2.2.1), .int (((rdGo f 0 n (x.1, 0, 0, 0, x.2.2.2.2.1, x.2.2.2.2.2.1, x.2.2.2.2.2.2)).2.1).2.2.2.2.2.1), .int (((rdGo f 0 n (x.1, 0, 0, 0, x.2.2.2.2.1, x.2.2.2.2.2.1, x.2.2.2.2.2.2)).2.1).2.2.2.2.2.2)])), (hp, .inr (4, [.ref aS, .int (nI n)])), (aS, .inl (cC, 40, .inl f))] t.heap ∧ va_K (dC, dI) vwCl [(cC, .char)] t ∧ va_D (va_A [(h0, .inr (8, [.int pl, .int x.1, .int x.2.1, .int x.2.2.1, .int x.2.2.2.1, .int x.2.2.2.2.1, .int x.2.2.2.2.2.1, .int x.2.2.2.2.2.2])), (hp, .inr (4, [.ref aS, .int (nI n)])), (aS, .inl (cC, 40, .inl f))] sz) [(h0, .inr (8, [.int ((rdGo f 0 n (x.1, 0, 0, 0, x.2.2.2.2.1, x.2.2.2.2.2.1, x.2.2.2.2.2.2)).1), .int (((rdGo f 0 n (x.1, 0, 0, 0, x.2.2.2.2.1, x.2.2.2.2.2.1, x.2.2.2.2.2.2)).2.1).1), .int (((rdGo f 0 n (x.1, 0, 0, 0, x.2.2.2.2.1, x.2.2.2.2.2.1, x.2.2.2.2.2.2)).2.1).2.1), .int (((rdGo f 0 n (x.1, 0, 0, 0, x.2.2.2.2.1, x.2.2.2.2.2.1, x.2.2.2.2.2.2)).2.1).2.2.1), .int (((rdGo f 0 n (x.1, 0, 0, 0, x.2.2.2.2.1, x.2.2.2.2.2.1, x.2.2.2.2.2.2)).2.1).2.2.2.1), .int (((rdGo f 0 n (x.1, 0, 0, 0, x.2.2.2.2.1, x.2.2.2.2.2.1, x.2.2.2.2.2.2)).2.1).2.2.2.2.1), .int (((rdGo f 0 n (x.1, 0, 0, 0, x.2.2.2.2.1, x.2.2.2.2.2.1, x.2.2.2.2.2.2)).2.1).2.2.2.2.2.1), .int (((rdGo f 0 n (x.1, 0, 0, 0, x.2.2.2.2.1, x.2.2.2.2.2.1, x.2.2.2.2.2.2)).2.1).2.2.2.2.2.2)])), (hp, .inr (4, [.ref aS, .int (nI n)])), (aS, .inl (cC, 40, .inl f))]) (va_A [(h0, .inr (8, [.int pl, .int x.1, .int x.2.1, .int x.2.2.1, .int x.2.2.2.1, .int x.2.2.2.2.1, .int x.2.2.2.2.2.1, .int x.2.2.2.2.2.2])), (hp, .inr (4, [.ref aS, .int (nI n)])), (aS, .inl (cC, 40, .inl f))] sz)) 0 0 (va_A [(h0, .inr (8, [.int pl, .int x.1, .int x.2.1, .int x.2.2.1, .int x.2.2.2.1, .int x.2.2.2.2.1, .int x.2.2.2.2.2.1, .int x.2.2.2.2.2.2])), (hp, .inr (4, [.ref aS, .int (nI n)])), (aS, .inl (cC, 40, .inl f))] sz) := by
  refine Met.ofW (cc := k_RD_reads) (maxL := 3) (ret := (some .boolean)) (by decide) rfl ?_
  intro p e s m args below meth c s₁ B hml hv
  obtain ⟨rfl, hsz, hP, hK, hD0⟩ := hv
  have hx := B.exec
  have hb := B.bytes
  have hr := B.returns
  have hts := atoms_spec (ws := ws_RD_reads) B.pre
  have hown : s.vm.findClass R_RD = some m.cls := findClass_of_methodNamed B.named
  have hlocks := B.notSynchronized
  subst hsz
  have hD := hD0.self (sz := s.heap.size)
  generalize hAe : va_A [(h0, .inr (8, [.int pl, .int x.1, .int x.2.1, .int x.2.2.1, .int x.2.2.2.1, .int x.2.2.2.2.1, .int x.2.2.2.2.2.1, .int x.2.2.2.2.2.2])), (hp, .inr (4, [.ref aS, .int (nI n)])), (aS, .inl (cC, 40, .inl f))] s.heap.size = A at hD ⊢
  have hA : ∀ q : Nat, s.heap.size ≤ q → A q := fun q h => by rw [← hAe]; exact Or.inr h
  have hS : va_S A s.heap s.heap [] := va_S.rf
  have hP : va_P (dC, dI) vwCl [(h0, .inr (8, [.int pl, .int x.1, .int x.2.1, .int x.2.2.1, .int x.2.2.2.1, .int x.2.2.2.2.1, .int x.2.2.2.2.2.1, .int x.2.2.2.2.2.2])), (hp, .inr (4, [.ref aS, .int (nI n)])), (aS, .inl (cC, 40, .inl f))] s.heap := hP
  have iPA : ∀ w ∈ u_ws R_PA T_PA 2, w ∈ ws_RD_reads := fun w h => wb_RD_reads w (in_PA w h)
  have iRD : ∀ w ∈ u_ws R_RD T_RD 8, w ∈ ws_RD_reads := fun w h => wb_RD_reads w (in_RD w h)
  have hl := lv_entry ([.ref h0, .ref hp]) (n := 3) (Nat.le_of_ble_eq_true rfl)
  rw [lg_entry_eq]
  generalize (lg_sl ([.ref h0, .ref hp]) ++ List.replicate (3 - (lg_sl ([.ref h0, .ref hp])).length) Slot.unset).toArray = ls at hl ⊢
  have hl : lv_has ls 3 [(0, .ref h0), (1, .ref hp)] := hl
  refine lv_aload_n hx hb d_RD_reads_0 rfl (lv_at hl 0 rfl) ?_
  refine lv_iconst (v := 0) hx hb d_RD_reads_1 (by decide) ?_
  refine va_put (D := (dC, dI)) (ci := 8) (v := .int 0) (ty := .int) (C := R_RD) (T := T_RD) (N := 8) hx hb hts iRD ty_RD tyok_RD nm_RD hown hK hP hD hS 0 rfl rfl 2 (by decide) (hts _ (wb_RD_reads _ b_54)) (fun _ h9 => h9) rfl rfl rfl rfl (Nat.le_of_ble_eq_true rfl) d_RD_reads_2 (fun H locs hP hD hS => ?_)
  have hP : va_P (dC, dI) vwCl [(h0, .inr (8, [.int pl, .int x.1, .int 0, .int x.2.2.1, .int x.2.2.2.1, .int x.2.2.2.2.1, .int x.2.2.2.2.2.1, .int x.2.2.2.2.2.2])), (hp, .inr (4, [.ref aS, .int (nI n)])), (aS, .inl (cC, 40, .inl f))] H := hP
  have hD : va_D A [(h0, .inr (8, [.int pl, .int x.1, .int 0, .int x.2.2.1, .int x.2.2.2.1, .int x.2.2.2.2.1, .int x.2.2.2.2.2.1, .int x.2.2.2.2.2.2])), (hp, .inr (4, [.ref aS, .int (nI n)])), (aS, .inl (cC, 40, .inl f))] := hD
  refine lv_aload_n hx hb d_RD_reads_5 rfl (lv_at hl 0 rfl) ?_
  refine lv_iconst (v := 0) hx hb d_RD_reads_6 (by decide) ?_
  refine va_put (D := (dC, dI)) (ci := 8) (v := .int 0) (ty := .int) (C := R_RD) (T := T_RD) (N := 8) hx hb hts iRD ty_RD tyok_RD nm_RD hown hK hP hD hS 0 rfl rfl 3 (by decide) (hts _ (wb_RD_reads _ b_56)) (fun _ h9 => h9) rfl rfl rfl rfl (Nat.le_of_ble_eq_true rfl) d_RD_reads_7 (fun H locs hP hD hS => ?_)
  have hP : va_P (dC, dI) vwCl [(h0, .inr (8, [.int pl, .int x.1, .int 0, .int 0, .int x.2.2.2.1, .int x.2.2.2.2.1, .int x.2.2.2.2.2.1, .int x.2.2.2.2.2.2])), (hp, .inr (4, [.ref aS, .int (nI n)])), (aS, .inl (cC, 40, .inl f))] H := hP
  have hD : va_D A [(h0, .inr (8, [.int pl, .int x.1, .int 0, .int 0, .int x.2.2.2.1, .int x.2.2.2.2.1, .int x.2.2.2.2.2.1, .int x.2.2.2.2.2.2])), (hp, .inr (4, [.ref aS, .int (nI n)])), (aS, .inl (cC, 40, .inl f))] := hD
  refine lv_aload_n hx hb d_RD_reads_10 rfl (lv_at hl 0 rfl) ?_
  refine lv_iconst (v := 0) hx hb d_RD_reads_11 (by decide) ?_
  refine va_put (D := (dC, dI)) (ci := 8) (v := .int 0) (ty := .int) (C := R_RD) (T := T_RD) (N := 8) hx hb hts iRD ty_RD tyok_RD nm_RD hown hK hP hD hS 0 rfl rfl 4 (by decide) (hts _ (wb_RD_reads _ b_58)) (fun _ h9 => h9) rfl rfl rfl rfl (Nat.le_of_ble_eq_true rfl) d_RD_reads_12 (fun H locs hP hD hS => ?_)
  have hP : va_P (dC, dI) vwCl [(h0, .inr (8, [.int pl, .int x.1, .int 0, .int 0, .int 0, .int x.2.2.2.2.1, .int x.2.2.2.2.2.1, .int x.2.2.2.2.2.2])), (hp, .inr (4, [.ref aS, .int (nI n)])), (aS, .inl (cC, 40, .inl f))] H := hP
  have hD : va_D A [(h0, .inr (8, [.int pl, .int x.1, .int 0, .int 0, .int 0, .int x.2.2.2.2.1, .int x.2.2.2.2.2.1, .int x.2.2.2.2.2.2])), (hp, .inr (4, [.ref aS, .int (nI n)])), (aS, .inl (cC, 40, .inl f))] := hD
  refine lv_iconst (v := 0) hx hb d_RD_reads_15 (by decide) ?_
  refine lv_istore_n (lv' := [(2, .int 0), (0, .ref h0), (1, .ref hp)]) hx hb d_RD_reads_16 rfl hl (by decide) rfl (fun ls hl => ?_)
  refine lp_RD_reads_17 dC dI cC h0 hp aS f n hn pl x hx hb hml hts hown hK hA (fun y hv H locs hP hD hS ls hl => ?_) (fun k y hv H locs hP hD hS ls hl => ?_) (n + 1) 0 (x.1, 0, 0, 0, x.2.2.2.2.1, x.2.2.2.2.2.1, x.2.2.2.2.2.2) (by omega) (Nat.zero_le _) (rfl) _ _ hP hD hS ls (lv_sub hl [0, 1, 2] rfl)
  · refine lv_aload_n hx hb d_RD_reads_51 rfl (lv_at hl 0 rfl) ?_
    refine lv_aload_n hx hb d_RD_reads_52 rfl (lv_at hl 1 rfl) ?_
    refine va_get (D := (dC, dI)) (ci := 4) (v := .int (nI n)) (C := R_PA) (T := T_PA) (N := 2) hx hb hts iPA hown hK hP 1 rfl rfl 1 (by decide) (hts _ (wb_RD_reads _ b_35)) (fun _ h9 => h9) rfl d_RD_reads_53 ?_
    refine va_put (D := (dC, dI)) (ci := 8) (v := .int (nI n)) (ty := .int) (C := R_RD) (T := T_RD) (N := 8) hx hb hts iRD ty_RD tyok_RD nm_RD hown hK hP hD hS 0 rfl rfl 0 (by decide) (hts _ (wb_RD_reads _ b_50)) (fun _ h9 => h9) rfl rfl rfl rfl (Nat.le_of_ble_eq_true rfl) d_RD_reads_56 (fun H locs hP hD hS => ?_)
    have hP : va_P (dC, dI) vwCl [(h0, .inr (8, [.int (nI n), .int y.1, .int y.2.1, .int y.2.2.1, .int y.2.2.2.1, .int y.2.2.2.2.1, .int y.2.2.2.2.2.1, .int y.2.2.2.2.2.2])), (hp, .inr (4, [.ref aS, .int (nI n)])), (aS, .inl (cC, 40, .inl f))] H := hP
    have hD : va_D A [(h0, .inr (8, [.int (nI n), .int y.1, .int y.2.1, .int y.2.2.1, .int y.2.2.2.1, .int y.2.2.2.2.1, .int y.2.2.2.2.2.1, .int y.2.2.2.2.2.2])), (hp, .inr (4, [.ref aS, .int (nI n)])), (aS, .inl (cC, 40, .inl f))] := hD
    refine lv_aload_n hx hb d_RD_reads_59 rfl (lv_at hl 0 rfl) ?_
    refine va_get (D := (dC, dI)) (ci := 8) (v := .int y.2.2.2.1) (C := R_RD) (T := T_RD) (N := 8) hx hb hts iRD hown hK hP 0 rfl rfl 4 (by decide) (hts _ (wb_RD_reads _ b_58)) (fun _ h9 => h9) rfl d_RD_reads_60 ?_
    refine lv_iconst (v := 1) hx hb d_RD_reads_63 (by decide) ?_
    refine lv_icmp_ne (tgt := 71) hx hb d_RD_reads_64 (by decide) (fun c64 => ?_) (fun c64 => ?_)
    · refine lv_iconst (v := 0) hx hb d_RD_reads_71 (by decide) ?_
      have hP9 := hP.sub (ws' := [(h0, .inr (8, [.int (nI n), .int y.1, .int y.2.1, .int y.2.2.1, .int y.2.2.2.1, .int y.2.2.2.2.1, .int y.2.2.2.2.2.1, .int y.2.2.2.2.2.2])), (hp, .inr (4, [.ref aS, .int (nI n)])), (aS, .inl (cC, 40, .inl f))]) [0, 1, 2] rfl
      have hD9 := hD.sub (ws' := [(h0, .inr (8, [.int (nI n), .int y.1, .int y.2.1, .int y.2.2.1, .int y.2.2.2.1, .int y.2.2.2.2.1, .int y.2.2.2.2.2.1, .int y.2.2.2.2.2.2])), (hp, .inr (4, [.ref aS, .int (nI n)])), (aS, .inl (cC, 40, .inl f))]) [0, 1, 2] (by decide) rfl
      have e9 : ([(h0, .inr (8, [.int (nI n), .int y.1, .int y.2.1, .int y.2.2.1, .int y.2.2.2.1, .int y.2.2.2.2.1, .int y.2.2.2.2.2.1, .int y.2.2.2.2.2.2])), (hp, .inr (4, [.ref aS, .int (nI n)])), (aS, .inl (cC, 40, .inl f))] : va_W) = [(h0, .inr (8, [.int ((rdGo f 0 n (x.1, 0, 0, 0, x.2.2.2.2.1, x.2.2.2.2.2.1, x.2.2.2.2.2.2)).1), .int (((rdGo f 0 n (x.1, 0, 0, 0, x.2.2.2.2.1, x.2.2.2.2.2.1, x.2.2.2.2.2.2)).2.1).1), .int (((rdGo f 0 n (x.1, 0, 0, 0, x.2.2.2.2.1, x.2.2.2.2.2.1, x.2.2.2.2.2.2)).2.1).2.1), .int (((rdGo f 0 n (x.1, 0, 0, 0, x.2.2.2.2.1, x.2.2.2.2.2.1, x.2.2.2.2.2.2)).2.1).2.2.1), .int (((rdGo f 0 n (x.1, 0, 0, 0, x.2.2.2.2.1, x.2.2.2.2.2.1, x.2.2.2.2.2.2)).2.1).2.2.2.1), .int (((rdGo f 0 n (x.1, 0, 0, 0, x.2.2.2.2.1, x.2.2.2.2.2.1, x.2.2.2.2.2.2)).2.1).2.2.2.2.1), .int (((rdGo f 0 n (x.1, 0, 0, 0, x.2.2.2.2.1, x.2.2.2.2.2.1, x.2.2.2.2.2.2)).2.1).2.2.2.2.2.1), .int (((rdGo f 0 n (x.1, 0, 0, 0, x.2.2.2.2.1, x.2.2.2.2.2.1, x.2.2.2.2.2.2)).2.1).2.2.2.2.2.2)])), (hp, .inr (4, [.ref aS, .int (nI n)])), (aS, .inl (cC, 40, .inl f))] := by rw [hv]
      rw [e9] at hP9 hD9
      exact W.zret (v := 0) hx hb hr (rfl) (fun t ht hW => ⟨⟨0, (), rfl, by rw [hv]; simp [c64], by rw [ht]; exact hP9, va_K.moved hW.alike hK, hD9⟩, hS.F ht⟩) hS.2.2 d_RD_reads_72
    · refine lv_iconst (v := 1) hx hb d_RD_reads_67 (by decide) ?_
      refine lv_goto (tgt := 72) hx hb d_RD_reads_68 (by decide) ?_
      have hP9 := hP.sub (ws' := [(h0, .inr (8, [.int (nI n), .int y.1, .int y.2.1, .int y.2.2.1, .int y.2.2.2.1, .int y.2.2.2.2.1, .int y.2.2.2.2.2.1, .int y.2.2.2.2.2.2])), (hp, .inr (4, [.ref aS, .int (nI n)])), (aS, .inl (cC, 40, .inl f))]) [0, 1, 2] rfl
      have hD9 := hD.sub (ws' := [(h0, .inr (8, [.int (nI n), .int y.1, .int y.2.1, .int y.2.2.1, .int y.2.2.2.1, .int y.2.2.2.2.1, .int y.2.2.2.2.2.1, .int y.2.2.2.2.2.2])), (hp, .inr (4, [.ref aS, .int (nI n)])), (aS, .inl (cC, 40, .inl f))]) [0, 1, 2] (by decide) rfl
      have e9 : ([(h0, .inr (8, [.int (nI n), .int y.1, .int y.2.1, .int y.2.2.1, .int y.2.2.2.1, .int y.2.2.2.2.1, .int y.2.2.2.2.2.1, .int y.2.2.2.2.2.2])), (hp, .inr (4, [.ref aS, .int (nI n)])), (aS, .inl (cC, 40, .inl f))] : va_W) = [(h0, .inr (8, [.int ((rdGo f 0 n (x.1, 0, 0, 0, x.2.2.2.2.1, x.2.2.2.2.2.1, x.2.2.2.2.2.2)).1), .int (((rdGo f 0 n (x.1, 0, 0, 0, x.2.2.2.2.1, x.2.2.2.2.2.1, x.2.2.2.2.2.2)).2.1).1), .int (((rdGo f 0 n (x.1, 0, 0, 0, x.2.2.2.2.1, x.2.2.2.2.2.1, x.2.2.2.2.2.2)).2.1).2.1), .int (((rdGo f 0 n (x.1, 0, 0, 0, x.2.2.2.2.1, x.2.2.2.2.2.1, x.2.2.2.2.2.2)).2.1).2.2.1), .int (((rdGo f 0 n (x.1, 0, 0, 0, x.2.2.2.2.1, x.2.2.2.2.2.1, x.2.2.2.2.2.2)).2.1).2.2.2.1), .int (((rdGo f 0 n (x.1, 0, 0, 0, x.2.2.2.2.1, x.2.2.2.2.2.1, x.2.2.2.2.2.2)).2.1).2.2.2.2.1), .int (((rdGo f 0 n (x.1, 0, 0, 0, x.2.2.2.2.1, x.2.2.2.2.2.1, x.2.2.2.2.2.2)).2.1).2.2.2.2.2.1), .int (((rdGo f 0 n (x.1, 0, 0, 0, x.2.2.2.2.1, x.2.2.2.2.2.1, x.2.2.2.2.2.2)).2.1).2.2.2.2.2.2)])), (hp, .inr (4, [.ref aS, .int (nI n)])), (aS, .inl (cC, 40, .inl f))] := by rw [hv]
      rw [e9] at hP9 hD9
      exact W.zret (v := 1) hx hb hr (rfl) (fun t ht hW => ⟨⟨1, (), rfl, by rw [hv]; simp [c64], by rw [ht]; exact hP9, va_K.moved hW.alike hK, hD9⟩, hS.F ht⟩) hS.2.2 d_RD_reads_72
  · refine lv_aload_n hx hb d_RD_reads_38 rfl (lv_at hl 1 rfl) ?_
    refine lv_iload_n hx hb d_RD_reads_39 rfl (lv_at hl 0 rfl) ?_
    refine va_put (D := (dC, dI)) (ci := 8) (v := .int (nI k)) (ty := .int) (C := R_RD) (T := T_RD) (N := 8) hx hb hts iRD ty_RD tyok_RD nm_RD hown hK hP hD hS 0 rfl rfl 0 (by decide) (hts _ (wb_RD_reads _ b_50)) (fun _ h9 => h9) rfl rfl rfl rfl (Nat.le_of_ble_eq_true rfl) d_RD_reads_40 (fun H locs hP hD hS => ?_)
    have hP : va_P (dC, dI) vwCl [(h0, .inr (8, [.int (nI k), .int y.1, .int y.2.1, .int y.2.2.1, .int y.2.2.2.1, .int y.2.2.2.2.1, .int y.2.2.2.2.2.1, .int y.2.2.2.2.2.2])), (hp, .inr (4, [.ref aS, .int (nI n)])), (aS, .inl (cC, 40, .inl f))] H := hP
    have hD : va_D A [(h0, .inr (8, [.int (nI k), .int y.1, .int y.2.1, .int y.2.2.1, .int y.2.2.2.1, .int y.2.2.2.2.1, .int y.2.2.2.2.2.1, .int y.2.2.2.2.2.2])), (hp, .inr (4, [.ref aS, .int (nI n)])), (aS, .inl (cC, 40, .inl f))] := hD
    refine lv_iconst (v := 0) hx hb d_RD_reads_43 (by decide) ?_
    have hP9 := hP.sub (ws' := [(h0, .inr (8, [.int (nI k), .int y.1, .int y.2.1, .int y.2.2.1, .int y.2.2.2.1, .int y.2.2.2.2.1, .int y.2.2.2.2.2.1, .int y.2.2.2.2.2.2])), (hp, .inr (4, [.ref aS, .int (nI n)])), (aS, .inl (cC, 40, .inl f))]) [0, 1, 2] rfl
    have hD9 := hD.sub (ws' := [(h0, .inr (8, [.int (nI k), .int y.1, .int y.2.1, .int y.2.2.1, .int y.2.2.2.1, .int y.2.2.2.2.1, .int y.2.2.2.2.2.1, .int y.2.2.2.2.2.2])), (hp, .inr (4, [.ref aS, .int (nI n)])), (aS, .inl (cC, 40, .inl f))]) [0, 1, 2] (by decide) rfl
    have e9 : ([(h0, .inr (8, [.int (nI k), .int y.1, .int y.2.1, .int y.2.2.1, .int y.2.2.2.1, .int y.2.2.2.2.1, .int y.2.2.2.2.2.1, .int y.2.2.2.2.2.2])), (hp, .inr (4, [.ref aS, .int (nI n)])), (aS, .inl (cC, 40, .inl f))] : va_W) = [(h0, .inr (8, [.int ((rdGo f 0 n (x.1, 0, 0, 0, x.2.2.2.2.1, x.2.2.2.2.2.1, x.2.2.2.2.2.2)).1), .int (((rdGo f 0 n (x.1, 0, 0, 0, x.2.2.2.2.1, x.2.2.2.2.2.1, x.2.2.2.2.2.2)).2.1).1), .int (((rdGo f 0 n (x.1, 0, 0, 0, x.2.2.2.2.1, x.2.2.2.2.2.1, x.2.2.2.2.2.2)).2.1).2.1), .int (((rdGo f 0 n (x.1, 0, 0, 0, x.2.2.2.2.1, x.2.2.2.2.2.1, x.2.2.2.2.2.2)).2.1).2.2.1), .int (((rdGo f 0 n (x.1, 0, 0, 0, x.2.2.2.2.1, x.2.2.2.2.2.1, x.2.2.2.2.2.2)).2.1).2.2.2.1), .int (((rdGo f 0 n (x.1, 0, 0, 0, x.2.2.2.2.1, x.2.2.2.2.2.1, x.2.2.2.2.2.2)).2.1).2.2.2.2.1), .int (((rdGo f 0 n (x.1, 0, 0, 0, x.2.2.2.2.1, x.2.2.2.2.2.1, x.2.2.2.2.2.2)).2.1).2.2.2.2.2.1), .int (((rdGo f 0 n (x.1, 0, 0, 0, x.2.2.2.2.1, x.2.2.2.2.2.1, x.2.2.2.2.2.2)).2.1).2.2.2.2.2.2)])), (hp, .inr (4, [.ref aS, .int (nI n)])), (aS, .inl (cC, 40, .inl f))] := by rw [hv]
    rw [e9] at hP9 hD9
    exact W.zret (v := 0) hx hb hr (rfl) (fun t ht hW => ⟨⟨0, (), rfl, by rw [hv], by rw [ht]; exact hP9, va_K.moved hW.alike hK, hD9⟩, hS.F ht⟩) hS.2.2 d_RD_reads_44
