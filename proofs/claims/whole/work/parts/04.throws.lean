/-! Exceptions, for this claim: a method that throws has two contracts: a plain one (Met) where it returns, and tMet below where it throws. A throw leaves every old cell as it was and makes one cell of six slots. -/
section XK
def xkUp : List String := ["java/lang/RuntimeException", "java/lang/Exception"]
/-- q was thrown, an object of the class E; nothing old was written -/
def xkThrew (E : String) (st : State) (q : Addr) (t : State) : Prop :=
  ∃ ce : Cell, t.heap[q]? = some ce ∧ ce.vm = .none ∧ st.vm.findClass E = some ce.cls ∧ st.WarmedH t.vm ∧ st.sameButNew ({ t with vm := st.vm } : State) [] 1 6
/-- the contract of a method where it throws -/
def tMet (l : Launch) (y : MethodName) (ws : List Cond) (rm : Room) (Pc : Array Value → State → Prop) (E : String) : Prop :=
  MetFree l y (headSpec ws rm) Pc (fun _ _ _ _ _ => True) (fun _ st o t => ∃ q, o = .threw q ∧ xkThrew E st q t)
/-- what a body that throws owes at its end -/
def tQ (below : List Frame) (E : String) (s : State) : State → Prop := fun t => ∃ q, t.status = .running ∧ Ended t below (.threw q) ∧ xkThrew E s q t
theorem tMet.ofW {l : Launch} {y : MethodName} {ws ws' : List Cond} {rm : Room} {Pc : Array Value → State → Prop} {E : String} {cc : ByteArray} {maxL : Nat} {ret : Option FieldType} (hy : plainName y.cls = true) (hw : ws = Cond.code y cc maxL ret :: ws')
    (body : ∀ p e s m args below meth c s₁, BodyLoose p l y (headSpec ws rm) cc maxL ret e s m args below meth c s₁ → c.maxLocals = maxL → (∀ x ∈ c.exceptionTable.toList, False) → Pc args s →
      W p l e (headSpec ws rm).room s m args below meth c s.heap [] 0 0 (tQ below E s) (entryFrame m args maxL)) : tMet l y ws rm Pc E := by
  have hin : Cond.code y cc maxL ret ∈ ws := by rw [hw]; exact List.mem_cons_self
  refine MetFree.of_bodyS (code := cc) (maxLocals := maxL) (ret := ret) hy (fun args s m h hn => ?_) (fun p e s m args below meth c s₁ B hml hP _ => ?_)
  · obtain ⟨meth, c, h1, h2, h3, h4, h5, h6, -, -⟩ := Cond.code_spec hn (atoms_spec (ws := ws) h _ hin)
    exact ⟨meth, c, h1, h2, h3, h4, h5, h6⟩
  · have htab : ∀ x ∈ c.exceptionTable.toList, False := by
      obtain ⟨meth9, c9, h1, h2, -, -, -, -, h7, -⟩ := Cond.code_spec B.named (atoms_spec (ws := ws) B.pre _ hin)
      cases Option.some.inj (h1.symm.trans B.method)
      cases Option.some.inj (h2.symm.trans (Stand.of_body B).code)
      intro x hx
      rw [Array.isEmpty_iff.mp h7] at hx
      cases hx
    obtain ⟨t, a1, q, b1, b2, b3⟩ := body p e s m args below meth c s₁ B hml htab hP s₁ (by rw [B.state]; rfl) (Stand.of_body B)
    exact ⟨t, .threw q, a1, b1, b2, q, rfl, b3⟩
variable {p : Program} {l : Launch} {e : Env} {R : Room} {s : State} {m : MethodId} {args : Array Value} {below : List Frame} {meth : Method} {c : Code} {H : Heap} {locs : List Loc} {cells slots : Nat} {Q : State → Prop} {cc : ByteArray} {pc : Nat} {ls : Array Slot} {rest : List Value}
/-- throw new E("text"), where nothing has been written since the method's start -/
theorem xk_throw (hexec : p.tables.exec = Jvm.exec) (hb : c.code = cc) (hl : l.stackTraces = false) {own cls text : String} {ik is ic sa : Nat} (hown : s.vm.findClass own = some m.cls) (hcls : Bundle.fit cls = true)
    (hk : (Cond.classLink own ik cls).before args s = true) (hini : (Cond.initialized cls).before args s = true) (hstr : vk_R own is text sa s) (hat : ∀ w ∈ Bundle.ownAtoms own ic cls xkUp, w.before args s = true) (hsize : ls.size = c.maxLocals)
    (d0 : decode cc pc = .ok (.new ik, 3)) (d3 : decode cc (pc + 3) = .ok (.dup, 1)) (d4 : decode cc (pc + 4) = .ok (.ldc is, 2)) (d6 : decode cc (pc + 6) = .ok (.invokespecial ic, 3)) (d9 : decode cc (pc + 9) = .ok (.athrow, 1))
    (htab : ∀ x ∈ c.exceptionTable.toList, False) (hRf : 5 < R.frames) (hRl : (rest.map fun v => v.category).sum + 82 ≤ R.locals) (hRc : 1 ≤ R.cells) (hRs : 6 ≤ R.slots) (hlocks : meth.locks = false) :
    W p l e R s m args below meth c H [] 0 0 (tQ below cls s) (F0 m pc ls rest) := by
  intro T hT X
  have htr : e.platform.stackTraces = false := (show e.platform.stackTraces = l.stackTraces by rw [X.admits.platform]).trans hl
  have hins : (Cond.instantiable cls 6).before args s = true := hat _ (by simp [Bundle.ownAtoms])
  obtain ⟨vm₁, cX, kX, hfX, hkX, -, -, X₁, st1⟩ := X.newCold hexec (own := own) (C := cls) (index := ik) (n := 6) hown hk hins hini (g := F0 m pc ls rest) rfl (by rw [hb]; exact d0) (by omega) (by omega)
  have hsz : s.heap.size ≤ T.heap.size := X.same.2.1
  generalize hT1 : (T.setVm vm₁).pushCell { cls := cX, slots := kX.instanceTypes.map defaultValue, vm := .none } = T1 at X₁ st1
  have hcellA : T1.heap[T.heap.size]? = some (freshCell cX kX) := by rw [← hT1]; exact State.heap_pushCell_size _ _
  have d3' : decode c.code (pc + 3) = .ok (.dup, 1) := by rw [hb]; exact d3
  have hcat : (Value.ref T.heap.size).category = 1 := rfl
  obtain ⟨U, hsteps, hrun, hend, hW, hsame, ce, hce, hO⟩ := X₁.ctorThrowS hexec htr (own := own) (cls := cls) (names := xkUp) (ic := ic) hown hcls (by decide) hat (fun x hx => nomatch hx) hfX hkX hcellA hsz (msg := .ref sa) rfl
    (g := { method := m, pc := pc + 6, locals := ls, stack := .ref sa :: .ref T.heap.size :: .ref T.heap.size :: rest, locked := none }) rfl hsize rfl rfl (rest := rest) rfl
    (by rw [hb]; exact d6) (by rw [hb]; exact d9) (fun x hx => (htab x hx).elim) hRf (by simp only [List.map_cons, List.sum_cons, hcat, xkUp, List.length_cons, List.length_nil]; omega) hlocks
  refine ⟨U, st1 _ ?_, T.heap.size, hrun, hend, ce, hce, hO.vm, hO.cls, hW, hsame⟩
  show Steps p.tables e below (T1.setTop { method := m, pc := pc + 3, locals := ls, stack := .ref T.heap.size :: rest, locked := none }) _
  jvm_step X₁.here [X₁.here.top, hexec, d3', Value.category]
  refine X₁.ldcString hexec (own := own) (text := text) (index := is) (a := sa) hown ?_ ?_ (g := { method := m, pc := pc + 4, locals := ls, stack := .ref T.heap.size :: .ref T.heap.size :: rest, locked := none }) rfl (by rw [hb]; exact d4) _ hsteps
  · exact vk_R.warm (State.WarmedH.refl s) hstr |>.1
  · exact hstr.2
/-- the method's frame g, with q thrown over it -/
def xkOver (p : Program) (l : Launch) (e : Env) (R : Room) (s : State) (m : MethodId) (args : Array Value) (below : List Frame) (meth : Method) (c : Code) (H : Heap) (locs : List Loc) (cells slots : Nat) (Q : State → Prop) (g : JFrame) (q : Addr) : Prop :=
  ∀ T : State, T.heap = H → Stand p l e R s m args below meth c T locs cells slots → ∃ t, Steps p.tables e below ((T.setTop g).pushFrame (.throwing q)) t ∧ Q t
/-- what is known behind a callee's throw: the new heap keeps the old cells, and holds the thrown object -/
def xkNews (s : State) (H H1 : Heap) (E : String) (q : Addr) : Prop := H.size ≤ H1.size ∧ (∀ a : Nat, a < H.size → H1[a]? = H[a]?) ∧ ∃ ce : Cell, H1[q]? = some ce ∧ ce.vm = .none ∧ s.vm.findClass E = some ce.cls
theorem xk_kept {u U : State} {k n : Nat} (h : u.sameButNew U [] k n) : u.heap.size ≤ U.heap.size ∧ ∀ a : Nat, a < u.heap.size → U.heap[a]? = u.heap[a]? := by
  obtain ⟨-, h2, -, -, -, h6⟩ := h
  refine ⟨h2, fun a ha => ?_⟩
  obtain ⟨c9, e1, e2, e3, e4⟩ := h6 a _ (Array.getElem?_eq_getElem ha)
  have hs : c9.slots = (u.heap[a]).slots := Array.ext_getElem? fun i => e4 i fun hm => nomatch hm
  rw [hs] at e2
  rw [e1, Array.getElem?_eq_getElem ha]
  exact congrArg some e2
/-- a callee that throws, behind the instruction that invokes it -/
theorem xk_pay {y : MethodName} {bytes : ByteArray} {maxL n : Nat} {ret : Option FieldType} {ws : List Cond} {rm : Room} {Pc : Array Value → State → Prop} {E : String} {own : String} {index : Nat} {ig : Instr} {a : Array Value} {g : JFrame} {T : State} {mk : MethodId}
    (X : Stand p l e R s m args below meth c T locs cells slots) (hM : tMet l y ws rm Pc E) (cb : CallB R s args own index y bytes maxL ret ws rm 1 6 n) (hbl : FrameBlind Pc) (hPc : Pc a T) (hg : g.method = m) (hsize : g.locals.size = c.maxLocals)
    (hdg : decode c.code g.pc = .ok (ig, 3)) (hW : 2 * g.monitorRoom + (g.stack.map fun v => v.category).sum ≤ 8) (hn : T.methodNamed? y = some mk) (hf : cells + 1 ≤ R.cells ∧ slots + 6 ≤ R.slots) :
    ∃ (q : Addr) (T' : State), Stand p l e R s m args below meth c T' locs (cells + 1) (slots + 6) ∧ xkNews s T.heap T'.heap E q ∧ Steps p.tables e below (doInvoke e (T.setTop g) [] mk a).1 ((T'.setTop g).pushFrame (.throwing q)) := by
  obtain ⟨hrc, hrs, hfr, hlo, hws, hcw, -, hini, -⟩ := cb
  have h1 : (headSpec ws rm).pre.before a T = true := atoms_intro fun w hw => hws w hw _ _ X.warmed
  have h2 : (Cond.code y bytes maxL ret).before a T = true := hws _ hcw _ _ X.warmed
  have h3 : (Cond.initialized y.cls).before a T = true := word_at X.warmed (Or.inl (by first | rfl | simp [Cond.onTables, Cond.keeps, Cond.steady])) hini
  obtain ⟨methY, cY, hmY, hcY, -, hlY, -, -, -, -⟩ := Cond.code_spec hn h2
  obtain ⟨kY, hkY, -⟩ := className_of_methodNamed hn
  have hinitY : kY.init = .initialized := Cond.initialized_spec (findClass_of_methodNamed hn) hkY h3
  have hh : At T g.method c below := by rw [hg]; exact X.here
  have hl9 : 8 + (maxL + 11) + (headSpec ws rm).room.locals ≤ R.locals := hlo
  have h4 : cells + (headSpec ws rm).room.cells ≤ R.cells := by rw [show (headSpec ws rm).room.cells = 1 from hrc]; exact hf.1
  have h5 : slots + (headSpec ws rm).room.slots ≤ R.slots := by rw [show (headSpec ws rm).room.slots = 6 from hrs]; exact hf.2
  have happ : (headSpec ws rm).appliesLoose y e.platform (T.calling g mk a) = true :=
    Spec.appliesLoose_calling (g := g) hh hdg hn hkY hinitY (X.room_calling (g := g) (R' := (headSpec ws rm).room) hsize hmY hcY hfr (by rw [hlY]; omega) h4 h5) h1
  obtain ⟨mid, hmid⟩ := hh.above
  have hfrs : (T.setTop g).frames = (.java g :: mid) ++ below := by rw [State.frames_setTop' g hh.top, hmid]; rfl
  obtain ⟨o, t, hsteps, -, hend, hq⟩ := Steps.callFree hM p X.admits X.cas X.clock (acts := []) hfrs happ (hbl a T g mk hPc) trivial
  obtain ⟨q, rfl, ce, hce, hcv, hcl, hW2, hsm⟩ := hq
  rw [State.frames_setTop' g hh.top, X.tail] at hend
  obtain ⟨T', X', hWT, hsT, rfl⟩ := X.outOfThrown hg (mk := mk) (a := a) (L := []) (k := 1) (n := 6) hend hW2 hsm
  rw [List.append_nil] at X'
  obtain ⟨k1, k2⟩ := xk_kept hsT
  refine ⟨q, T', X', ⟨k1, k2, ce, ?_, hcv, ?_⟩, hsteps⟩
  · rw [← Stand.throwing_heap T' g q]; exact hce
  · rw [← X.warmed.alike.findClass]; exact hcl
variable {y : MethodName} {bytes : ByteArray} {maxL nL n index : Nat} {ret : Option FieldType} {ws : List Cond} {rm : Room} {Pc : Array Value → State → Prop} {E own C : String} {Ts : List Cond} {b : Addr} {As : List Value}
theorem xk_callV {st : List Value} (S : CallFix p m c cc nL s args Ts own) (hM : tMet l y ws rm Pc E) (cw : CallW R s args own C index y bytes maxL ret ws rm 1 6 n) (hp : PreV s H C b Pc As) (hst : st = As.reverse ++ .ref b :: rest) (hn : As.length = n) (hsize : ls.size = nL) (hW : (rest.map fun v => v.category).sum ≤ 8)
    (hdg : decode cc pc = .ok (.invokevirtual index, 3)) (hf : cells + 1 ≤ R.cells ∧ slots + 6 ≤ R.slots)
    (kx : ∀ (q : Addr) (H1 : Heap), xkNews s H H1 E q → xkOver p l e R s m args below meth c H1 locs (cells + 1) (slots + 6) Q (F0 m pc ls rest) q) : W p l e R s m args below meth c H locs cells slots Q (F0 m pc ls st) := by
  subst hst
  obtain ⟨cb, hin, hse⟩ := cw
  obtain ⟨-, -, -, -, -, -, hcode, -, hy, hlen, hlk⟩ := id cb
  obtain ⟨hx, hb, hml, ho, -⟩ := S
  obtain ⟨hbl, ⟨cellB, hcB, hoB, hclB⟩, hPc⟩ := hp
  intro T hT X
  obtain ⟨mk, methM, hnamed, hmethM, hstM, habM⟩ := Cond.instanceMethod_spec hin
  obtain ⟨methM', cM, hmethM', -, -, -, -, -, -, hsigM⟩ := Cond.code_spec hnamed hcode
  cases hmethM.symm.trans hmethM'
  obtain ⟨c2, r2, m2, q1, q2, q3, q4, kP, hkP, hkPi⟩ := Cond.selects_spec hse
  cases hclB.symm.trans q1
  cases (State.methodFound?_of_named hnamed hy).symm.trans q2
  cases hnamed.symm.trans q3
  obtain ⟨vm₁, X₁, hstep⟩ := X.invokevirtual hx ho hlk hnamed hmethM hstM hkP hkPi hy (a := b) (cell := cellB) (by rw [hT]; exact hcB) (fun z h => by rw [h] at hoB; cases hoB)
    (by rw [Launch.admits_selectMethod X.admits]; exact q4) hmethM habM hkP hkPi (g := F0 m pc ls (As.reverse ++ .ref b :: rest)) rfl (argsL := As) (rest := rest) (hn.trans (hlen _ hsigM)) rfl (by rw [hb]; exact hdg)
  obtain ⟨q, T', X', hnew, hst⟩ := xk_pay (g := F0 m pc ls rest) (a := (Value.ref b :: As).toArray) (mk := mk) X₁ hM cb hbl (hPc (T.setVm vm₁) hT X₁.warmed) rfl (hsize.trans hml.symm) (by rw [hb]; exact hdg) (by simpa using hW) (X₁.named hnamed) hf
  obtain ⟨t, a1, b1⟩ := kx q T'.heap (by rw [← hT]; exact hnew) T' rfl X'
  exact ⟨t, hstep _ fun acts => by rw [doInvoke_state]; exact hst.trans a1, b1⟩
theorem xk_callS {st : List Value} (S : CallFix p m c cc nL s args Ts own) (hM : tMet l y ws rm Pc E) (cw : CallB R s args own index y bytes maxL ret ws rm 1 6 n ∧ (Cond.static y).before args s = true) (hp : PreS s H Pc As) (hst0 : st = As.reverse ++ rest) (hn : As.length = n) (hsize : ls.size = nL) (hW : (rest.map fun v => v.category).sum ≤ 8)
    (hdg : decode cc pc = .ok (.invokestatic index, 3)) (hf : cells + 1 ≤ R.cells ∧ slots + 6 ≤ R.slots)
    (kx : ∀ (q : Addr) (H1 : Heap), xkNews s H H1 E q → xkOver p l e R s m args below meth c H1 locs (cells + 1) (slots + 6) Q (F0 m pc ls rest) q) : W p l e R s m args below meth c H locs cells slots Q (F0 m pc ls st) := by
  subst hst0
  obtain ⟨cb, hst⟩ := cw
  obtain ⟨-, -, -, -, -, -, hcode, hini, hy, hlen, hlk⟩ := id cb
  obtain ⟨hx, hb, hml, ho, -⟩ := S
  intro T hT X
  obtain ⟨mk, hnamed⟩ := Cond.code_named hcode
  obtain ⟨methM, cM, hmethM, -, -, -, -, -, -, hsigM⟩ := Cond.code_spec hnamed hcode
  obtain ⟨kP, hkP, -⟩ := className_of_methodNamed hnamed
  obtain ⟨vm₁, X₁, hstep⟩ := X.invokestatic hx ho hlk hnamed hmethM (Cond.static_spec hnamed hmethM hst) hkP (Cond.initialized_spec (findClass_of_methodNamed hnamed) hkP hini) hy (g := F0 m pc ls (As.reverse ++ rest)) rfl (argsL := As) (rest := rest) (hn.trans (hlen _ hsigM)) rfl (by rw [hb]; exact hdg)
  obtain ⟨q, T', X', hnew, hst⟩ := xk_pay (g := F0 m pc ls rest) (a := As.toArray) (mk := mk) X₁ hM cb hp.1 (hp.2 (T.setVm vm₁) hT X₁.warmed) rfl (hsize.trans hml.symm) (by rw [hb]; exact hdg) (by simpa using hW) (X₁.named hnamed) hf
  obtain ⟨t, a1, b1⟩ := kx q T'.heap (by rw [← hT]; exact hnew) T' rfl X'
  exact ⟨t, hstep _ fun acts => by rw [doInvoke_state]; exact hst.trans a1, b1⟩
/-- nobody catches it here: it leaves the method -/
theorem xk_out {q : Addr} {H1 : Heap} (htab : ∀ x ∈ c.exceptionTable.toList, False) (hlocks : meth.locks = false) (hnew : xkNews s H H1 E q) : xkOver p l e R s m args below meth c H1 [] 1 6 (tQ below E s) (F0 m pc ls rest) q := by
  obtain ⟨-, -, ce, hce, hcv, hcl⟩ := hnew
  intro T hT X
  obtain ⟨st1, hrun, hend, hW, hsm⟩ := X.leaveThrown q (g := F0 m pc ls rest) rfl rfl rfl (fun x hx => (htab x hx).elim) hlocks
  exact ⟨_, st1, q, hrun, hend, ce, (show T.heap[q]? = some ce by rw [hT]; exact hce), hcv, hcl, hW, hsm⟩
end XK
