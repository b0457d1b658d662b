/-! Methods with a table of handlers: a contract, with its table; the call of a static one; the catch by the row of a number -/
section XW
theorem xk_MetW {l : Launch} {y : MethodName} {ws ws' : List Cond} {rm : Room} {Pc : Array Value → State → Prop} {Qc : Array Value → State → Outcome → State → Prop} {mc ms : Nat} {free : Addr → Prop} {cc : ByteArray} {maxL : Nat} {ret : Option FieldType} {hh : List (Nat × Nat × Nat × Nat)}
    (hy : plainName y.cls = true) (hw : ws = Cond.codeWith y cc maxL ret hh :: ws')
    (body : ∀ p e s m args below meth c s₁, BodyLoose p l y (headSpec ws rm) cc maxL ret e s m args below meth c s₁ → c.maxLocals = maxL → c.exceptionTable.toList.map (fun h => (h.startPc, h.endPc, h.handlerPc, h.catchType)) = hh → Pc args s →
      W p l e (headSpec ws rm).room s m args below meth c s.heap [] 0 0 (MQ below Qc args s mc ms free) (entryFrame m args maxL)) : Met l y ws rm Pc Qc mc ms free := by
  have hin : Cond.codeWith y cc maxL ret hh ∈ ws := by rw [hw]; exact List.mem_cons_self
  refine va_MetW hy hw (fun p e s m args below meth c s₁ B hml hP => ?_)
  refine body p e s m args below meth c s₁ B hml ?_ hP
  obtain ⟨m9, meth9, c9, hn9, h1, h2, -, -, h7, -⟩ := Cond.codeWith_spec (atoms_spec (ws := ws) B.pre _ hin)
  cases Option.some.inj (hn9.symm.trans B.named)
  cases Option.some.inj (h1.symm.trans B.method)
  cases Option.some.inj (h2.symm.trans (Stand.of_body B).code)
  exact h7
variable {p : Program} {l : Launch} {e : Env} {R : Room} {s : State} {m : MethodId} {args : Array Value} {below : List Frame} {meth : Method} {c : Code} {H : Heap} {locs : List Loc} {cells slots : Nat} {Q : State → Prop} {cc : ByteArray} {pc : Nat} {ls : Array Slot}
theorem xk_runSW {y : MethodName} {bytes : ByteArray} {maxL nL mc ms n index : Nat} {ret : Option FieldType} {hh : List (Nat × Nat × Nat × Nat)} {ws ws' : List Cond} {rm : Room} {Pc : Array Value → State → Prop} {Qc : Array Value → State → Outcome → State → Prop} {free : Addr → Prop} {Ts : List Cond} {own : String} {As rest : List Value} {g : JFrame}
    (S : CallFix p m c cc nL s args Ts own) (hM : Met l y ws rm Pc Qc mc ms free) (hw : ws = Cond.codeWith y bytes maxL ret hh :: ws') (hT : GoodIn Ts (va_wsS own index y ws)) (hrc : rm.cells = mc) (hrs : rm.slots = ms)
    (hd : y.cls ≠ "java/lang/invoke/MethodHandle" ∧ y.cls ≠ "java/lang/invoke/VarHandle" ∧ (parseMethodDescriptor y.desc).map (fun d => d.parameters.length) = some n) (hR : rm.frames + 1 ≤ R.frames ∧ 8 + (maxL + 11) + rm.locals ≤ R.locals) (hp : PreS s H Pc As)
    (hg : g.method = m) (hn : As.length = n) (hsize : g.locals.size = nL) (hstack : g.stack = As.reverse ++ rest) (hW : 2 * g.monitorRoom + (rest.map fun v => v.category).sum ≤ 8) (hdg : decode cc g.pc = .ok (.invokestatic index, 3)) (hf : cells + mc ≤ R.cells ∧ slots + ms ≤ R.slots) :
    va_Run p l e R s m args below meth c H locs cells slots mc ms g rest (Qc As.toArray) (free) := by
  obtain ⟨hx, hb, hml, ho, ht⟩ := S
  have ok : ∀ w ∈ va_wsS own index y ws, w.before args s = true := fun w h => ht w (hT w h).1
  have hG : GoodIn Ts ws := fun w h => hT w (by unfold va_wsS; exact List.mem_append_right _ h)
  have hc : Cond.codeWith y bytes maxL ret hh ∈ ws := by rw [hw]; exact List.mem_cons_self
  have hini : (Cond.initialized y.cls).before args s = true := ok _ (by simp [va_wsS])
  have hl : (Cond.methodLink own index y).before args s = true := ok _ (by simp [va_wsS])
  have hstt : (Cond.static y).before args s = true := ok _ (by simp [va_wsS])
  have hcode : (Cond.codeWith y bytes maxL ret hh).before args s = true := ok _ (by unfold va_wsS; exact List.mem_append_right _ hc)
  have hK : Back l R p e below s args y 3 8 (PreOf R mc ms Pc) (PostOf Qc mc ms free) := va_backW (hh := hh) (bytes := bytes) (maxL := maxL) (ret := ret) hM hp.1 hrc hrs hR.1 hR.2 (pay_in ht hG) hc (fun a' U hW => word_at hW (Or.inl (by first | rfl | simp [Cond.onTables, Cond.keeps, Cond.steady])) hini)
  have hlen : ∀ sig, parseMethodDescriptor y.desc = some sig → n = sig.parameters.length := fun sig h => by
    have h2 := hd.2.2
    rw [h] at h2
    exact (Option.some.inj h2).symm
  intro T hT9 X
  obtain ⟨mk, methM, cM, hnamed, hmethM, -, -, -, -, -, -, hsigM⟩ := Cond.codeWith_spec hcode
  obtain ⟨kP, hkP, -⟩ := className_of_methodNamed hnamed
  obtain ⟨vm₁, X₁, hstep⟩ := X.invokestatic hx ho hl hnamed hmethM (Cond.static_spec hnamed hmethM hstt) hkP (Cond.initialized_spec (findClass_of_methodNamed hnamed) hkP hini) ⟨hd.1, hd.2.1⟩ (g := g) hg (argsL := As) (rest := rest) (hn.trans (hlen _ hsigM)) hstack (by rw [hb]; exact hdg)
  obtain ⟨v, ⟨U', l2, c2, s2⟩, X', ⟨g', mk', t, L, e1, e2, hq, h1, hL, h2, h3⟩, hsteps⟩ := hK m meth c ⟨T.setVm vm₁, locs, cells, slots⟩ { g with stack := rest } (.invokestatic index) mk As.toArray X₁ hg (hsize.trans hml.symm) (by rw [hb]; exact hdg) hW (X₁.named hnamed) ⟨hf.1, hf.2, hp.2 (T.setVm vm₁) hT9 X₁.warmed⟩
  dsimp only [Pt.U, Pt.locs, Pt.cells, Pt.slots] at X' e1 e2 h1 h2 h3 hsteps
  subst h1; subst h2; subst h3
  exact ⟨v, (T.setVm vm₁).calling g' mk' As.toArray, t, U', L, hT9, X', hL, e1, e2, hq, fun target h => hstep _ fun acts => by rw [doInvoke_state]; exact hsteps.trans h⟩
/-- no one of the three can be assigned to another: what the handlers ahead of the right one need -/
def xkNos (U : State) : Prop := xkNo "java/lang/IllegalStateException" "java/lang/IllegalArgumentException" U ∧ xkNo "java/lang/IllegalArgumentException" "java/util/NoSuchElementException" U ∧ xkNo "java/lang/IllegalStateException" "java/util/NoSuchElementException" U
theorem xkNos.moved {u U : State} (hvm : u.vm.Alike U.vm) (h : xkNos u) : xkNos U := ⟨h.1.moved hvm, h.2.1.moved hvm, h.2.2.moved hvm⟩
theorem xk_tab1 {L : List ExceptionTableEntry} {a : Nat × Nat × Nat × Nat} (h : L.map (fun h => (h.startPc, h.endPc, h.handlerPc, h.catchType)) = [a]) : ∃ x, L = [x] ∧ (x.startPc, x.endPc, x.handlerPc, x.catchType) = a := by
  match L, h with
  | [x], h => exact ⟨x, rfl, by simpa using h⟩
theorem xk_tab2 {L : List ExceptionTableEntry} {a b : Nat × Nat × Nat × Nat} (h : L.map (fun h => (h.startPc, h.endPc, h.handlerPc, h.catchType)) = [a, b]) : ∃ x y, L = [x, y] ∧ (x.startPc, x.endPc, x.handlerPc, x.catchType) = a ∧ (y.startPc, y.endPc, y.handlerPc, y.catchType) = b := by
  match L, h with
  | [x, y], h => exact ⟨x, y, rfl, by simpa using h⟩
theorem xk_tab3 {L : List ExceptionTableEntry} {a b d : Nat × Nat × Nat × Nat} (h : L.map (fun h => (h.startPc, h.endPc, h.handlerPc, h.catchType)) = [a, b, d]) : ∃ x y z, L = [x, y, z] ∧ (x.startPc, x.endPc, x.handlerPc, x.catchType) = a ∧ (y.startPc, y.endPc, y.handlerPc, y.catchType) = b ∧ (z.startPc, z.endPc, z.handlerPc, z.catchType) = d := by
  match L, h with
  | [x, y, z], h => exact ⟨x, y, z, rfl, by simpa using h⟩
/-- the row z covers the place; its class is of the pool's number k -/
def xkRow (z : ExceptionTableEntry) (pc hp k : Nat) : Prop := covers z pc = true ∧ z.handlerPc = hp ∧ z.catchType = k
theorem xkRow.of {z : ExceptionTableEntry} {s9 e9 hp k pc : Nat} (h : (z.startPc, z.endPc, z.handlerPc, z.catchType) = (s9, e9, hp, k)) (h1 : s9 ≤ pc) (h2 : pc < e9) : xkRow z pc hp k := by
  obtain ⟨h3, h4, h5, h6⟩ : z.startPc = s9 ∧ z.endPc = e9 ∧ z.handlerPc = hp ∧ z.catchType = k := by simpa using h
  refine ⟨?_, h5, h6⟩
  simp only [covers, h3, h4]
  simp [h1, h2]
theorem xk_catchN {own E : String} {q : Addr} {H1 : Heap} {rest : List Value} {hp k : Nat} (hown : s.vm.findClass own = some m.cls) (pre : List ExceptionTableEntry) (x : ExceptionTableEntry) (suf : List ExceptionTableEntry) (hsplit : c.exceptionTable.toList = pre ++ x :: suf)
    (hpass : ∀ z ∈ pre, ∃ (hp9 k9 : Nat) (nm : String), xkRow z pc hp9 k9 ∧ k9 ≠ 0 ∧ (Cond.classLink own k9 nm).before args s = true ∧ xkNo E nm s) (hx : xkRow x pc hp k) (h0 : k ≠ 0)
    (hlink : (Cond.classLink own k E).before args s = true) (hcast : (Cond.castable E E).before args s = true) (hnew : xkNews s H H1 E q)
    (kk : W p l e R s m args below meth c H1 locs cells slots Q (F0 m hp ls [.ref q])) : xkOver p l e R s m args below meth c H1 locs cells slots Q (F0 m pc ls rest) q := by
  obtain ⟨h1, h2, h3⟩ := hx
  refine xk_catch hown pre x suf hsplit (fun z hz => ?_) h1 (by rw [h3]; exact h0) (by rw [h3]; exact hlink) hcast hnew (by rw [h2]; exact kk)
  obtain ⟨hp9, k9, nm, ⟨g1, g2, g3⟩, g4, g5, g6⟩ := hpass z hz
  exact ⟨g1, by rw [g3]; exact g4, nm, by rw [g3]; exact g5, g6⟩
variable {D : va_G} {cl : List vw_C} {tys : List (ClassId × FieldType)} {ws : va_W} {A : Nat → Prop} {N : Nat}
theorem vz_fbx {av : List Value} : FrameBlind (va_Pc av (fun U => va_P D cl ws U.heap ∧ va_K D cl tys U ∧ xkE N U ∧ N ≤ U.heap.size ∧ xkNos U)) := fun a U g mk q => ⟨q.1, q.2.1, va_K.moved (u := U) (U := U.calling g mk a) (Vm.Alike.refl U.vm) q.2.2.1, q.2.2.2.1.calling, q.2.2.2.2.1, xkNos.moved (u := U) (U := U.calling g mk a) (Vm.Alike.refl U.vm) q.2.2.2.2.2⟩
theorem vz_preSx {As : List Value} (hP : va_P D cl ws H) (hK : va_K D cl tys s) (hE : xkE s.heap.size s) (hNo : xkNos s) (hA : ∀ q, A q → s.heap.size ≤ q) (hS : va_S A s.heap H locs) : PreS s H (va_Pc As (fun U => va_P D cl ws U.heap ∧ va_K D cl tys U ∧ xkE s.heap.size U ∧ s.heap.size ≤ U.heap.size ∧ xkNos U)) As :=
  ⟨vz_fbx, fun U hU hW => ⟨rfl, by rw [hU]; exact hP, va_K.moved hW.alike hK, hE.moved hW (fun q hq => by rw [hU]; exact hS.2.1 q hq (fun z => absurd (hA q z) (Nat.not_le.mpr hq))), by rw [hU]; exact hS.1, hNo.moved hW.alike⟩⟩
end XW
