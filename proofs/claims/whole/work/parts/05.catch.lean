/-! Catching: the search through a method's table, whose classes may be met for the first time there -/
section XC
/-- one row that covers the place: it takes the object if its class can be assigned; the row's class is known behind it -/
theorem xk_row {Q : Handler → Pre} {E : CtlPost} {e : Env} {d : Bool} {acts : List Action} {S : State} {f : JFrame} {a : Addr} {x : ExceptionTableEntry} {t : List ExceptionTableEntry} {cT : ClassId} {cell : Cell} (hx : covers x f.pc = true) (h0 : x.catchType ≠ 0)
    (hl : S.vm.ClassLinks e.platform f.method.cls x.catchType cT) (hcell : S.heap[a]? = some cell) (hobj : ∀ k, cell.vm ≠ .statics k) (hk : ∃ k, S.vm.classes[cell.cls]? = some k) (hc : ∃ k, S.vm.classes[cT]? = some k) :
    wp (findHandler.go f a (x :: t)) Q E e d acts S ↔
      if S.vm.assignable cell.cls cT = true then Q (.found x.handlerPc) d acts (S.setVm (S.vm.noted f.method.cls x.catchType (.cls cT))) else wp (findHandler.go f a t) Q E e d acts (S.setVm (S.vm.noted f.method.cls x.catchType (.cls cT))) := by
  simp only [covers] at hx
  obtain ⟨ha, ht⟩ := (resolveClass_links e.toSetting hl).op (op := VmOp.resolveClass f.method.cls x.catchType) rfl
  have hal : S.vm.Alike (S.vm.noted f.method.cls x.catchType (.cls cT)) := (Vm.Alike.refl S.vm).noted _ _ _
  obtain ⟨k1, hk1⟩ := hk
  obtain ⟨k2, hk2⟩ := hc
  obtain ⟨k1', hk1', -⟩ := hal.2.2 _ _ hk1
  obtain ⟨k2', hk2', -⟩ := hal.2.2 _ _ hk2
  cases hfit : S.vm.assignable cell.cls cT <;>
    simp [findHandler.go, hx, h0, ha, ht, hcell, hobj, hk1', hk2', hal.assignable, hfit, VmOp.dirties, VmOp.acts]
/-- a row that the search passes: it covers the place, its class does not take the object -/
def xkPass (pl : Platform) (S0 : State) (f : JFrame) (thrown : ClassId) (y : ExceptionTableEntry) : Prop := covers y f.pc = true ∧ y.catchType ≠ 0 ∧ ∃ cT, S0.vm.ClassLinks pl f.method.cls y.catchType cT ∧ S0.vm.assignable thrown cT = false
theorem xk_known {S0 S : State} (hW : S0.WarmedH S.vm) {k : ClassId} (h : ∃ z, S0.vm.classes[k]? = some z) : ∃ z, S.vm.classes[k]? = some z := by
  obtain ⟨z, hz⟩ := h
  obtain ⟨z', hz', -⟩ := hW.alike.2.2 _ _ hz
  exact ⟨z', hz'⟩
theorem xk_find {e : Env} {S0 : State} {f : JFrame} {a : Addr} {cell : Cell} (hobj : ∀ k, cell.vm ≠ .statics k) (hk0 : ∃ k, S0.vm.classes[cell.cls]? = some k) (x : ExceptionTableEntry) (suf : List ExceptionTableEntry) (hx : covers x f.pc = true) (h0 : x.catchType ≠ 0) {cX : ClassId}
    (hlX : S0.vm.ClassLinks e.platform f.method.cls x.catchType cX) (hfit : S0.vm.assignable cell.cls cX = true) :
    ∀ (pre : List ExceptionTableEntry) (S : State), S0.WarmedH S.vm → S.heap[a]? = some cell → (∀ y ∈ pre, xkPass e.platform S0 f cell.cls y) →
      ∃ vm', S0.WarmedH vm' ∧ ∀ (Q : Handler → Pre) (E : CtlPost) (d : Bool) (acts : List Action), wp (findHandler.go f a (pre ++ x :: suf)) Q E e d acts S ↔ Q (.found x.handlerPc) d acts (S.setVm vm') := by
  intro pre
  induction pre with
  | nil =>
    intro S hW hcell _
    obtain ⟨dk, _, _, kt, hd, _, _, _, _, hkt, _, hok⟩ := hlX.here
    refine ⟨_, hW.noted hd hok (State.rightAt_cls hlX), fun Q E d acts => ?_⟩
    rw [List.nil_append, xk_row hx h0 (hW.classLinks hlX) hcell hobj (xk_known hW hk0) (xk_known hW ⟨kt, hkt⟩), hW.alike.assignable, if_pos hfit]
  | cons y ys ih =>
    intro S hW hcell hpass
    obtain ⟨hy, hy0, cT, hl, hno⟩ := hpass y List.mem_cons_self
    obtain ⟨dk, _, _, kt, hd, _, _, _, _, hkt, _, hok⟩ := hl.here
    obtain ⟨vm', hW', hq⟩ := ih (S.setVm (S.vm.noted f.method.cls y.catchType (.cls cT))) (hW.noted hd hok (State.rightAt_cls hl)) hcell (fun z hz => hpass z (List.mem_cons_of_mem _ hz))
    refine ⟨vm', hW', fun Q E d acts => ?_⟩
    rw [List.cons_append, xk_row hy hy0 (hW.classLinks hl) hcell hobj (xk_known hW hk0) (xk_known hW ⟨kt, hkt⟩), hW.alike.assignable, if_neg (by rw [hno]; decide)]
    exact hq Q E d acts
/-- the step of the search, where the tables move -/
theorem xk_step {e : Env} {S : State} {a : Addr} {f : JFrame} {r : List Frame} {pc : Nat} {vm' : Vm} (hf : ∀ (Q : Handler → Pre) (E : CtlPost) (d : Bool) (acts : List Action), wp (findHandler f a) Q E e d acts S ↔ Q (.found pc) d acts (S.setVm vm')) :
    (stepThrowing e S a (.java f :: r)).Is ((S.setVm vm').setFrames (.java { f with pc := pc, stack := [.ref a] } :: r)) [] := by
  simp only [stepThrowing, searchFrame, vmDo]
  generalize hr : Sem.go _ e false [] S = res
  obtain ⟨as, rfl, ha⟩ := Sem.eq_ok_of hr (a := Handler.found pc) (s' := S.setVm vm') (acts' := []) (by simp [hf _ _ _ _])
  exact ⟨rfl, ha⟩
/-- two classes by their names, the first can't be assigned to the second -/
def xkNo (E nm : String) (U : State) : Prop := ∃ a b : ClassId, U.vm.findClass E = some a ∧ U.vm.findClass nm = some b ∧ U.vm.assignable a b = false
theorem xkNo.of {E nm : String} {A : Array Value} {U : State} (h : (Cond.not (.castable E nm)).before A U = true) : xkNo E nm U := by
  have hv := Cond.holds_not_iff.mp h
  simp only [Cond.value] at hv
  cases h1 : U.vm.findClass E with
  | none => simp [h1] at hv
  | some a =>
    cases h2 : U.vm.findClass nm with
    | none => simp [h1, h2] at hv
    | some b =>
      simp only [h1, h2] at hv
      exact ⟨a, b, h1, h2, Option.some.inj hv⟩
theorem xkNo.moved {E nm : String} {u U : State} (hvm : u.vm.Alike U.vm) (h : xkNo E nm u) : xkNo E nm U := by
  obtain ⟨a, b, h1, h2, h3⟩ := h
  exact ⟨a, b, by rw [hvm.findClass]; exact h1, by rw [hvm.findClass]; exact h2, by rw [hvm.assignable]; exact h3⟩
variable {p : Program} {l : Launch} {e : Env} {R : Room} {s : State} {m : MethodId} {args : Array Value} {below : List Frame} {meth : Method} {c : Code} {H : Heap} {locs : List Loc} {cells slots : Nat} {Q : State → Prop} {pc : Nat} {ls : Array Slot} {rest : List Value}
/-- a callee's throw, caught by the row x of this method's table; the rows ahead cover the place too, and don't take it -/
theorem xk_catch {own E : String} {q : Addr} {H1 : Heap} (hown : s.vm.findClass own = some m.cls) (pre : List ExceptionTableEntry) (x : ExceptionTableEntry) (suf : List ExceptionTableEntry) (hsplit : c.exceptionTable.toList = pre ++ x :: suf)
    (hpass : ∀ z ∈ pre, covers z pc = true ∧ z.catchType ≠ 0 ∧ ∃ nm : String, (Cond.classLink own z.catchType nm).before args s = true ∧ xkNo E nm s) (hx : covers x pc = true) (h0 : x.catchType ≠ 0)
    (hlink : (Cond.classLink own x.catchType E).before args s = true) (hcast : (Cond.castable E E).before args s = true) (hnew : xkNews s H H1 E q)
    (kk : W p l e R s m args below meth c H1 locs cells slots Q (F0 m x.handlerPc ls [.ref q])) : xkOver p l e R s m args below meth c H1 locs cells slots Q (F0 m pc ls rest) q := by
  intro T hT X
  obtain ⟨-, -, ce, hce, hcv, hcl⟩ := hnew
  have hpl : e.platform.magicAccessors = ({} : Platform).magicAccessors := by rw [X.admits.platform]
  obtain ⟨c3, c4, hc3, hc4, hasg⟩ := Cond.castable_spec hcast
  cases Option.some.inj (hc3.symm.trans hcl)
  obtain ⟨c5, hc5, hl5⟩ := Cond.classLink_spec hown hlink e.platform hpl
  cases Option.some.inj (hc4.symm.trans hc5)
  have hk0 : ∃ k, s.vm.classes[ce.cls]? = some k := Vm.classAt_of_findClass hcl
  obtain ⟨vm', hW', hq⟩ := xk_find (e := e) (S0 := s) (f := F0 m pc ls rest) (a := q) (cell := ce) (VmData.ne_statics_of (by rw [hcv]; rfl)) hk0 x suf hx h0 hl5 hasg pre ((T.setTop (F0 m pc ls rest)).pushFrame (.throwing q))
    (by rw [Stand.throwing_vm]; exact X.warmed) (by rw [Stand.throwing_heap, hT]; exact hce) (fun z hz => by
      obtain ⟨h1, h2, nm, h3, a8, b8, h4, h5, h6⟩ := hpass z hz
      obtain ⟨c6, hc6, hl6⟩ := Cond.classLink_spec hown h3 e.platform hpl
      cases Option.some.inj (h4.symm.trans hcl)
      cases Option.some.inj (h5.symm.trans hc6)
      exact ⟨h1, h2, _, hl6, h6⟩)
  obtain ⟨t, a1, b1⟩ := kk (T.setVm vm') hT (X.noted hW')
  refine ⟨t, ?_, b1⟩
  have hh : At T (F0 m pc ls rest).method c below := X.here
  obtain ⟨hgo, hw⟩ := hh.throwing q (g := F0 m pc ls rest)
  refine Steps.head hgo hw ?_
  rw [stepThread_throwing (frames_entered hh.top _), (xk_step (S := (T.setTop (F0 m pc ls rest)).pushFrame (.throwing q)) (fun Q' E' d' acts' => by rw [W.findHandler_eq (meth := meth) (code := c) (by rw [Stand.throwing_vm]; exact X.method') X.code, hsplit]; exact hq Q' E' d' acts')).1]
  obtain ⟨g₀, hg⟩ := Option.isSome_iff_exists.mp hh.top
  obtain ⟨r, hr⟩ := State.topJava?_eq_some.mp hg
  rw [State.setTop_of_frames _ (show (T.setVm vm').frames = .java g₀ :: r from hr)] at a1
  have h9 : ∀ (u : State) (F G : List Frame), ((u.setFrames F).setVm vm').setFrames G = (u.setVm vm').setFrames G := fun u F G => by
    rw [show (u.setFrames F).setVm vm' = (u.setVm vm').setFrames F from rfl, State.setFrames_setFrames]
  rw [hr, List.tail_cons, State.pushFrame, State.setTop_of_frames _ hr, h9, h9]
  exact a1
end XC
