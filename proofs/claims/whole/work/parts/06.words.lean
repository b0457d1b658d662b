/-! What a throw asks beside the words that stay: two classes' words, Throwable's two statics, the texts. It is carried from state to state: N is a bound below all cells of ours. -/
section XE
def nNSE : String := "java/util/NoSuchElementException"
def nIAE : String := "java/lang/IllegalArgumentException"
def nISE : String := "java/lang/IllegalStateException"
def xkBad : List Cond := [.castable "java/util/NoSuchElementException" "java/util/NoSuchElementException", .castable "java/lang/IllegalArgumentException" "java/lang/IllegalArgumentException", .castable "java/lang/IllegalStateException" "java/lang/IllegalStateException", .declares ⟨"java/lang/RuntimeException", "<init>", "(Ljava/lang/String;)V"⟩, .declares ⟨"java/lang/Exception", "<init>", "(Ljava/lang/String;)V"⟩, .declares ⟨"java/lang/Throwable", "<init>", "(Ljava/lang/String;)V"⟩]
def xkStr : List (Nat × String) := [(86, "the pad would hold more than 40 signs"), (98, "there are twenty rules"), (122, "no such rule"), (131, "roles are a set of 0 .. 7"), (135, "there are twelve persons"), (140, "a kind is 0 .. 3"), (142, "a community is 0 .. 7, or NONE"), (145, "there are sixteen records"), (167, "an agreement ends before it begins"), (170, "there are 40 agreements"), (175, "no such purpose"), (198, "no such look"), (200, "a look has no such part"), (205, "no such place"), (216, "no such place in the latest export"), (222, "60 requests are kept"), (233, "a limit is 0 .. 60"), (252, "nothing is counted by this number"), (254, "no such person"), (256, "no such record"), (258, "no such field"), (261, "a day is 0 .. 100000")]
/-- a static of a reference type: where it lies, below N, and that it holds a reference or null -/
def xkZ (C n d : String) (N : Nat) (U : State) : Prop := ∃ (c : ClassId) (k : Class) (i : Nat) (f : Field) (a : Nat) (cell : Cell) (v : Value), U.vm.findClass C = some c ∧ U.fieldFound? C n d = some (c, k, i, f) ∧ f.isStatic = true ∧ k.statics = some a ∧ k.staticTypes[f.slot]? = some f.type ∧ U.heap[a]? = some cell ∧ cell.vm.isStatics = true ∧ cell.cls = c ∧ f.slot < cell.slots.size ∧ cell.slots[f.slot]? = some v ∧ v.isRef = true ∧ a < N
theorem xkZ.of {C n d : String} {A : Array Value} {U : State} (hl : (Cond.laysStatic C n d).before A U = true) (h : (Cond.isRef (.static C n d)).before A U = true) : xkZ C n d U.heap.size U := by
  obtain ⟨c, k, i, f, a, cell, hc, hi, hst, ha, hcell, hs, hcls, hlt, hty⟩ := Cond.laysStatic_spec hl
  cases hv : (Term.static C n d).eval A U none [] U with
  | none => simp [Cond.before, Cond.holds, Cond.value, hv] at h
  | some w =>
    obtain ⟨hst', a', cell', ha', hcell', -, hslot⟩ := Term.static_spec hi hv
    cases ha.symm.trans ha'
    cases hcell.symm.trans hcell'
    simp only [Cond.before, Cond.holds, Cond.value, hv] at h
    refine ⟨c, k, i, f, a, cell, w, hc, hi, hst, ha, hty, hcell, hs, hcls, hlt, hslot, ?_, (Array.getElem?_eq_some_iff.mp hcell).1⟩
    cases w <;> simp_all [Value.isRef]
theorem xkZ.moved {C n d : String} {N : Nat} {u U : State} (hvm : u.vm.Alike U.vm) (hh : ∀ q : Nat, q < N → U.heap[q]? = u.heap[q]?) (h : xkZ C n d N u) : xkZ C n d N U := by
  obtain ⟨c, k, i, f, a, cell, v, hc, hi, hst, ha, hty, hcell, hs, hcls, hlt, hslot, hv, hN⟩ := h
  obtain ⟨k', hi', he⟩ := State.fieldFound?_setVm hvm hi
  exact ⟨c, k', i, f, a, cell, v, by rw [hvm.findClass]; exact hc, hi', hst, by rw [he]; exact ha, by rw [he]; exact hty, by rw [hh a hN]; exact hcell, hs, hcls, hlt, hslot, hv, hN⟩
theorem xkZ.lays {C n d : String} {N : Nat} {U : State} {A : Array Value} (h : xkZ C n d N U) : (Cond.laysStatic C n d).before A U = true := by
  obtain ⟨c, k, i, f, a, cell, v, hc, hi, hst, ha, hty, hcell, hs, hcls, hlt, hslot, hv, hN⟩ := h
  simp [Cond.before, Cond.holds, Cond.value, hc, hi, ha, hcell, hst, hs, hcls, hlt, hty]
theorem xkZ.isRef {C n d : String} {N : Nat} {U : State} {A : Array Value} (h : xkZ C n d N U) : (Cond.isRef (.static C n d)).before A U = true := by
  obtain ⟨c, k, i, f, a, cell, v, hc, hi, hst, ha, hty, hcell, hs, hcls, hlt, hslot, hv, hN⟩ := h
  have hE : (Term.static C n d).eval A U none [] U = some v := by
    simp [Term.eval, State.fieldNamed?, hi, hst, ha, hcell, hs, hslot]
  simp only [Cond.before, Cond.holds, Cond.value, hE]
  cases v <;> simp_all [Value.isRef]
/-- all that a throw of this class asks of a state beside the good words -/
def xkE (N : Nat) (U : State) : Prop := (∀ w ∈ xkBad, va_Nw w U) ∧ xkZ "java/lang/Throwable" "UNASSIGNED_STACK" "[Ljava/lang/StackTraceElement;" N U ∧ xkZ "java/lang/Throwable" "SUPPRESSED_SENTINEL" "Ljava/util/List;" N U ∧ ∀ q ∈ xkStr, ∃ a, vk_R "RecordRights" q.1 q.2 a U
theorem xk_castable {E nm : String} {u U : State} (hvm : u.vm.Alike U.vm) (h : va_Nw (.castable E nm) u) : va_Nw (.castable E nm) U := by
  have h1 : (Cond.castable E nm).before #[] u = true := h
  show (Cond.castable E nm).before #[] U = true
  simp only [Cond.before, Cond.holds, Cond.value] at h1 ⊢
  rw [hvm.findClass, hvm.findClass]
  cases ha : u.vm.findClass E with
  | none => simp [ha] at h1
  | some a =>
    cases hb : u.vm.findClass nm with
    | none => simp [ha, hb] at h1
    | some b =>
      simp only [ha, hb, hvm.assignable] at h1 ⊢
      exact h1
theorem xk_declares {x : MethodName} {u U : State} (hvm : u.vm.Alike U.vm) (h : va_Nw (.declares x) u) : va_Nw (.declares x) U := by
  have h1 : (Cond.declares x).before #[] (u.setVm U.vm) = true := by rw [Cond.declares_setVm hvm]; exact h
  exact va_Nw.same rfl (show (u.setVm U.vm).vm = U.vm from rfl) h1
theorem xkE.moved {N : Nat} {u U : State} (hW : u.WarmedH U.vm) (hh : ∀ q : Nat, q < N → U.heap[q]? = u.heap[q]?) (h : xkE N u) : xkE N U := by
  obtain ⟨h1, h2, h3, h4⟩ := h
  refine ⟨fun w hw => ?_, h2.moved hW.alike hh, h3.moved hW.alike hh, fun q hq => ?_⟩
  · have h9 := h1 w hw
    simp only [xkBad, List.mem_cons, List.not_mem_nil, or_false] at hw
    rcases hw with rfl | rfl | rfl | rfl | rfl | rfl
    · exact xk_castable hW.alike h9
    · exact xk_castable hW.alike h9
    · exact xk_castable hW.alike h9
    · exact xk_declares hW.alike h9
    · exact xk_declares hW.alike h9
    · exact xk_declares hW.alike h9
  · obtain ⟨a, ha⟩ := h4 q hq
    exact ⟨a, vk_R.warm hW ha⟩
theorem xkE.calling {N : Nat} {U : State} {g : JFrame} {mk : MethodId} {a : Array Value} (h : xkE N U) : xkE N (U.calling g mk a) := xkE.moved (u := U) (U := U.calling g mk a) (State.WarmedH.refl U) (fun _ _ => rfl) h
def xkFour : List Cond := [.laysStatic "java/lang/Throwable" "UNASSIGNED_STACK" "[Ljava/lang/StackTraceElement;", .laysStatic "java/lang/Throwable" "SUPPRESSED_SENTINEL" "Ljava/util/List;", .isRef (.static "java/lang/Throwable" "UNASSIGNED_STACK" "[Ljava/lang/StackTraceElement;"), .isRef (.static "java/lang/Throwable" "SUPPRESSED_SENTINEL" "Ljava/util/List;")]
theorem xk_words {N : Nat} {s : State} {args : Array Value} {L : List Cond} (hb : ∀ w ∈ bigW, w.before args s = true) (h : xkE N s) (hL : L.all (fun w => decide (w ∈ bigW) || decide (w ∈ xkBad) || decide (w ∈ xkFour)) = true) : ∀ w ∈ L, w.before args s = true := by
  intro w hw
  have h1 := List.all_eq_true.mp hL w hw
  simp only [Bool.or_eq_true, decide_eq_true_eq] at h1
  rcases h1 with (h1 | h1) | h1
  · exact hb w h1
  · have h9 := h.1 w h1
    refine va_Nw.use ?_ h9
    simp only [xkBad, List.mem_cons, List.not_mem_nil, or_false] at h1
    rcases h1 with rfl | rfl | rfl | rfl | rfl | rfl <;> rfl
  · simp only [xkFour, List.mem_cons, List.not_mem_nil, or_false] at h1
    rcases h1 with rfl | rfl | rfl | rfl
    · exact h.2.1.lays
    · exact h.2.2.1.lays
    · exact h.2.1.isRef
    · exact h.2.2.1.isRef
theorem at_ISE : (Bundle.ownAtoms "RecordRights" 88 "java/lang/IllegalStateException" xkUp).all (fun w => decide (w ∈ bigW) || decide (w ∈ xkBad) || decide (w ∈ xkFour)) = true := by decide +kernel
theorem at_NSE : (xkOwnN "RecordRights" 124).all (fun w => decide (w ∈ bigW) || decide (w ∈ xkBad) || decide (w ∈ xkFour)) = true := by decide +kernel
theorem at_IAE : (Bundle.ownAtoms "RecordRights" 133 "java/lang/IllegalArgumentException" xkUp).all (fun w => decide (w ∈ bigW) || decide (w ∈ xkBad) || decide (w ∈ xkFour)) = true := by decide +kernel
section XP
variable {D : va_G} {cl : List vw_C} {tys : List (ClassId × FieldType)} {ws : va_W} {H : Heap} {s : State} {locs : List Loc} {N : Nat}
theorem vz_fbt {av : List Value} : FrameBlind (va_Pc av (fun U => va_P D cl ws U.heap ∧ va_K D cl tys U ∧ xkE N U ∧ N ≤ U.heap.size)) := fun a U g mk q => ⟨q.1, q.2.1, va_K.moved (u := U) (U := U.calling g mk a) (Vm.Alike.refl U.vm) q.2.2.1, q.2.2.2.1.calling, q.2.2.2.2⟩
theorem vz_at {As : List Value} (hP : va_P D cl ws H) (hK : va_K D cl tys s) (hE : xkE N s) (hN : N ≤ s.heap.size) (hS : va_S (fun _ => False) s.heap H locs) (U : State) (hU : U.heap = H) (hW : s.WarmedH U.vm) : va_Pc As (fun U => va_P D cl ws U.heap ∧ va_K D cl tys U ∧ xkE N U ∧ N ≤ U.heap.size) As.toArray U :=
  ⟨rfl, by rw [hU]; exact hP, va_K.moved hW.alike hK, hE.moved hW (fun q hq => by rw [hU]; exact hS.2.1 q (Nat.lt_of_lt_of_le hq hN) (fun z => z)), by rw [hU]; exact Nat.le_trans hN hS.1⟩
theorem vz_preVt {b ci q0 : Nat} {r : vw_C} {fs : List Value} {As : List Value} (hP : va_P D cl ws H) (hK : va_K D cl tys s) (hE : xkE N s) (hN : N ≤ s.heap.size) (hS : va_S (fun _ => False) s.heap H locs) (hc : cl[ci]? = some r) (he : ws[q0]? = some (b, .inr (ci, fs))) : PreV s H r.1 b (va_Pc (.ref b :: As) (fun U => va_P D cl ws U.heap ∧ va_K D cl tys U ∧ xkE N U ∧ N ≤ U.heap.size)) As := ⟨vz_fbt, va_recv hK hP hc he, fun U hU hW => vz_at hP hK hE hN hS U hU hW⟩
theorem vz_preSt {As : List Value} (hP : va_P D cl ws H) (hK : va_K D cl tys s) (hE : xkE N s) (hN : N ≤ s.heap.size) (hS : va_S (fun _ => False) s.heap H locs) : PreS s H (va_Pc As (fun U => va_P D cl ws U.heap ∧ va_K D cl tys U ∧ xkE N U ∧ N ≤ U.heap.size)) As := ⟨vz_fbt, fun U hU hW => vz_at hP hK hE hN hS U hU hW⟩
end XP
end XE
