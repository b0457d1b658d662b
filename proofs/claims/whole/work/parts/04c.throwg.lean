/-! throw new E("text") in its four forms: the text by a short or a wide entry; the class with the library's constructor chain or with NoSuchElementException's -/
section XG
variable {p : Program} {l : Launch} {e : Env} {R : Room} {s : State} {m : MethodId} {args : Array Value} {below : List Frame} {meth : Method} {c : Code} {H : Heap} {cc : ByteArray} {pc : Nat} {ls : Array Slot} {rest : List Value}
/-- what the constructor's call and athrow do, from the frame at the call -/
def xkCtor (p : Program) (l : Launch) (e : Env) (R : Room) (s : State) (m : MethodId) (args : Array Value) (below : List Frame) (meth : Method) (c : Code) (ls : Array Slot) (rest : List Value) (cls : String) (sa pc6 : Nat) : Prop :=
  ∀ (T1 : State) (a : Addr) (cX : ClassId) (kX : Class), Stand p l e R s m args below meth c T1 [] 1 6 → s.vm.findClass cls = some cX → s.vm.classes[cX]? = some kX → T1.heap[a]? = some (freshCell cX kX) → s.heap.size ≤ a →
    ∃ U : State, Steps p.tables e below (T1.setTop { method := m, pc := pc6, locals := ls, stack := .ref sa :: .ref a :: .ref a :: rest, locked := none }) U ∧ U.status = .running ∧ Ended U below (.threw a) ∧ s.WarmedH U.vm ∧ s.sameButNew ({ U with vm := s.vm } : State) [] 1 6 ∧ ∃ ce : Cell, U.heap[a]? = some ce ∧ ce.vm = .none ∧ s.vm.findClass cls = some ce.cls
theorem xk_throwG (hexec : p.tables.exec = Jvm.exec) (hb : c.code = cc) {own cls : String} {ik sa pc6 : Nat} (hown : s.vm.findClass own = some m.cls) (hk : (Cond.classLink own ik cls).before args s = true) (hini : (Cond.initialized cls).before args s = true) (hins : (Cond.instantiable cls 6).before args s = true)
    (d0 : decode cc pc = .ok (.new ik, 3)) (d3 : decode cc (pc + 3) = .ok (.dup, 1)) (hRc : 1 ≤ R.cells) (hRs : 6 ≤ R.slots)
    (hldc : ∀ (T1 : State) (a : Addr), Stand p l e R s m args below meth c T1 [] 1 6 → ∀ target, Steps p.tables e below (T1.setTop { method := m, pc := pc6, locals := ls, stack := .ref sa :: .ref a :: .ref a :: rest, locked := none }) target → Steps p.tables e below (T1.setTop { method := m, pc := pc + 4, locals := ls, stack := .ref a :: .ref a :: rest, locked := none }) target)
    (hct : xkCtor p l e R s m args below meth c ls rest cls sa pc6) : W p l e R s m args below meth c H [] 0 0 (tQ below cls s) (F0 m pc ls rest) := by
  intro T hT X
  obtain ⟨vm₁, cX, kX, hfX, hkX, -, -, X₁, st1⟩ := X.newCold hexec (own := own) (C := cls) (index := ik) (n := 6) hown hk hins hini (g := F0 m pc ls rest) rfl (by rw [hb]; exact d0) (by omega) (by omega)
  have hsz : s.heap.size ≤ T.heap.size := X.same.2.1
  generalize hT1 : (T.setVm vm₁).pushCell { cls := cX, slots := kX.instanceTypes.map defaultValue, vm := .none } = T1 at X₁ st1
  have hcellA : T1.heap[T.heap.size]? = some (freshCell cX kX) := by rw [← hT1]; exact State.heap_pushCell_size _ _
  have d3' : decode c.code (pc + 3) = .ok (.dup, 1) := by rw [hb]; exact d3
  obtain ⟨U, hsteps, hrun, hend, hW, hsame, ce, hce, hcv, hcl⟩ := hct T1 T.heap.size cX kX X₁ hfX hkX hcellA hsz
  refine ⟨U, st1 _ ?_, T.heap.size, hrun, hend, ce, hce, hcv, hcl, hW, hsame⟩
  show Steps p.tables e below (T1.setTop { method := m, pc := pc + 3, locals := ls, stack := .ref T.heap.size :: rest, locked := none }) _
  jvm_step X₁.here [X₁.here.top, hexec, d3', Value.category]
  exact hldc T1 T.heap.size X₁ _ hsteps
theorem xk_ct (hexec : p.tables.exec = Jvm.exec) (hb : c.code = cc) (hl : l.stackTraces = false) {own cls : String} {ic sa pc6 : Nat} (hown : s.vm.findClass own = some m.cls) (hcls : Bundle.fit cls = true) (hat : ∀ w ∈ Bundle.ownAtoms own ic cls xkUp, w.before args s = true) (hsize : ls.size = c.maxLocals)
    (d6 : decode cc pc6 = .ok (.invokespecial ic, 3)) (d9 : decode cc (pc6 + 3) = .ok (.athrow, 1)) (htab : ∀ x ∈ c.exceptionTable.toList, False) (hRf : 5 < R.frames) (hRl : (rest.map fun v => v.category).sum + 82 ≤ R.locals) (hlocks : meth.locks = false) : xkCtor p l e R s m args below meth c ls rest cls sa pc6 := by
  intro T1 a cX kX X₁ hfX hkX hcell hnew
  have htr : e.platform.stackTraces = false := (show e.platform.stackTraces = l.stackTraces by rw [X₁.admits.platform]).trans hl
  have hcat : (Value.ref a).category = 1 := rfl
  obtain ⟨U, hsteps, hrun, hend, hW, hsame, ce, hce, hO⟩ := X₁.ctorThrowS hexec htr (own := own) (cls := cls) (names := xkUp) (ic := ic) hown hcls (by decide) hat (fun x hx => nomatch hx) hfX hkX hcell hnew (msg := .ref sa) rfl
    (g := { method := m, pc := pc6, locals := ls, stack := .ref sa :: .ref a :: .ref a :: rest, locked := none }) rfl hsize rfl rfl (rest := rest) rfl
    (by rw [hb]; exact d6) (by rw [hb]; exact d9) (fun x hx => (htab x hx).elim) hRf (by simp only [List.map_cons, List.sum_cons, hcat, xkUp, List.length_cons, List.length_nil]; omega) hlocks
  exact ⟨U, hsteps, hrun, hend, hW, hsame, ce, hce, hO.vm, hO.cls⟩
theorem xk_ctN (hexec : p.tables.exec = Jvm.exec) (hb : c.code = cc) (hl : l.stackTraces = false) {own : String} {ic sa pc6 : Nat} (hown : s.vm.findClass own = some m.cls) (hat : ∀ w ∈ xkOwnN own ic, w.before args s = true) (hsize : ls.size = c.maxLocals)
    (d6 : decode cc pc6 = .ok (.invokespecial ic, 3)) (d9 : decode cc (pc6 + 3) = .ok (.athrow, 1)) (htab : ∀ x ∈ c.exceptionTable.toList, False) (hRf : 5 < R.frames) (hRl : (rest.map fun v => v.category).sum + 82 ≤ R.locals) (hlocks : meth.locks = false) : xkCtor p l e R s m args below meth c ls rest xkN sa pc6 := by
  intro T1 a cX kX X₁ hfX hkX hcell hnew
  have htr : e.platform.stackTraces = false := (show e.platform.stackTraces = l.stackTraces by rw [X₁.admits.platform]).trans hl
  have hcat : (Value.ref a).category = 1 := rfl
  exact xk_ctorN X₁ hexec htr hown hat (fun x hx => nomatch hx) hfX hkX hcell hnew (msg := .ref sa) rfl (g := { method := m, pc := pc6, locals := ls, stack := .ref sa :: .ref a :: .ref a :: rest, locked := none }) rfl hsize rfl rfl (rest := rest) rfl
    (by rw [hb]; exact d6) (by rw [hb]; exact d9) (fun x hx => (htab x hx).elim) hRf (by simp only [List.map_cons, List.sum_cons, hcat]; omega) hlocks
theorem xk_ld (hexec : p.tables.exec = Jvm.exec) (hb : c.code = cc) {own text : String} {is sa : Nat} (hown : s.vm.findClass own = some m.cls) (hstr : vk_R own is text sa s) (d4 : decode cc (pc + 4) = .ok (.ldc is, 2)) :
    ∀ (T1 : State) (a : Addr), Stand p l e R s m args below meth c T1 [] 1 6 → ∀ target, Steps p.tables e below (T1.setTop { method := m, pc := pc + 6, locals := ls, stack := .ref sa :: .ref a :: .ref a :: rest, locked := none }) target → Steps p.tables e below (T1.setTop { method := m, pc := pc + 4, locals := ls, stack := .ref a :: .ref a :: rest, locked := none }) target := fun T1 a X₁ target hst =>
  X₁.ldcString hexec (own := own) (text := text) (index := is) (a := sa) hown hstr.1 hstr.2 (g := { method := m, pc := pc + 4, locals := ls, stack := .ref a :: .ref a :: rest, locked := none }) rfl (by rw [hb]; exact d4) _ hst
theorem xk_ldw (hexec : p.tables.exec = Jvm.exec) (hb : c.code = cc) {own text : String} {is sa : Nat} (hown : s.vm.findClass own = some m.cls) (hstr : vk_R own is text sa s) (d4 : decode cc (pc + 4) = .ok (.ldc_w is, 3)) :
    ∀ (T1 : State) (a : Addr), Stand p l e R s m args below meth c T1 [] 1 6 → ∀ target, Steps p.tables e below (T1.setTop { method := m, pc := pc + 7, locals := ls, stack := .ref sa :: .ref a :: .ref a :: rest, locked := none }) target → Steps p.tables e below (T1.setTop { method := m, pc := pc + 4, locals := ls, stack := .ref a :: .ref a :: rest, locked := none }) target := fun T1 a X₁ target hst =>
  X₁.ldcStringW hexec (own := own) (text := text) (index := is) (a := sa) hown hstr.1 hstr.2 (g := { method := m, pc := pc + 4, locals := ls, stack := .ref a :: .ref a :: rest, locked := none }) rfl (by rw [hb]; exact d4) _ hst
end XG
