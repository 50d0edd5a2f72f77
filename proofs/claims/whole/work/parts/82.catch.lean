/-! catching, the class of the clause perhaps not resolved yet -/
section ZTE
variable {e : Env} {f : JFrame} {a : Addr} {S : State}
theorem zgo_cold {E : CtlPost} {d : Bool} {acts : List Action} {Q : Handler → Pre} {x : ExceptionTableEntry} {t : List ExceptionTableEntry} {c : ClassId} {cell : Cell} {vm' : Vm} (hx : covers x f.pc = true) (h0 : x.catchType ≠ 0)
    (hr : (VmOp.resolveClass f.method.cls x.catchType).answer e S.vm = .ok c ∧ (VmOp.resolveClass f.method.cls x.catchType).tables e S.vm = vm') (hcell : S.heap[a]? = some cell) (hobj : ∀ k, cell.vm ≠ .statics k)
    (hk : ∃ k, vm'.classes[cell.cls]? = some k) (hc : ∃ k, vm'.classes[c]? = some k) (hsz : vm'.classes.size ≤ S.vm.classes.size) :
    wp (findHandler.go f a (x :: t)) Q E e d acts S ↔
      if vm'.assignable cell.cls c = true then Q (.found x.handlerPc) d acts (S.setVm vm') else wp (findHandler.go f a t) Q E e d acts (S.setVm vm') := by
  simp only [covers] at hx
  have hl := VmOp.lands_eq hr.2 hsz
  cases hfit : vm'.assignable cell.cls c <;>
    simp [findHandler.go, hx, h0, hr.1, hl, hcell, hobj, hk, hc, hfit, VmOp.dirties, VmOp.acts]
/-- what the search gives, and the tables behind it -/
def zFd (e : Env) (S : State) (f : JFrame) (a : Addr) (h : Handler) (vm' : Vm) : Prop := ∀ (Q : Handler → Pre) (E : CtlPost) (d : Bool) (acts : List Action), wp (findHandler f a) Q E e d acts S ↔ Q h d acts (S.setVm vm')
theorem zcatch_step {r : List Frame} {pc : Nat} {vm' : Vm} (hfind : zFd e S f a (.found pc) vm') :
    (stepThrowing e S a (.java f :: r)).Is ((S.setVm vm').setFrames (.java { f with pc := pc, stack := [.ref a] } :: r)) [] := by
  simp only [stepThrowing, searchFrame, vmDo]
  generalize hr : Sem.go _ e false [] S = res
  obtain ⟨as, rfl, ha⟩ := Sem.eq_ok_of hr (a := Handler.found pc) (s' := S.setVm vm') (acts' := []) (by simp [hfind _ _ _ _])
  exact ⟨rfl, ha⟩
end ZTE
section ZTF
variable {p : Program} {l : Launch} {e : Env} {R : Room} {s : State} {m : MethodId} {args : Array Value} {below : List Frame} {meth : Method} {c : Code} {T : State} {locs : List Loc} {cells slots : Nat}
theorem zcatch (X : Stand p l e R s m args below meth c T locs cells slots) {a : Addr} {g : JFrame} (hg : g.method = m) {pc : Nat} {vm' : Vm} (hfind : zFd e ((T.setTop g).pushFrame (.throwing a)) g a (.found pc) vm') {target : State}
    (hrest : Steps p.tables e below ((T.setVm vm').setTop { g with pc := pc, stack := [.ref a] }) target) : Steps p.tables e below ((T.setTop g).pushFrame (.throwing a)) target := by
  have h : At T g.method c below := by rw [hg]; exact X.here
  obtain ⟨hgo, hw⟩ := h.throwing a
  refine Steps.head hgo hw ?_
  rw [stepThread_throwing (frames_entered h.top _), (zcatch_step (S := (T.setTop g).pushFrame (.throwing a)) hfind).1]
  obtain ⟨g₀, hg0⟩ := Option.isSome_iff_exists.mp h.top
  obtain ⟨r, hr⟩ := State.topJava?_eq_some.mp hg0
  have hr' : (T.setVm vm').frames = .java g₀ :: r := hr
  rw [State.setTop_of_frames _ hr'] at hrest
  have e1 : (((T.setTop g).pushFrame (.throwing a)).setVm vm').setFrames (.java { g with pc := pc, stack := [.ref a] } :: T.frames.tail) = (T.setVm vm').setFrames (.java { g with pc := pc, stack := [.ref a] } :: r) := by
    have e2 : ((T.setTop g).pushFrame (.throwing a)).setFrames (.java { g with pc := pc, stack := [.ref a] } :: T.frames.tail) = T.setFrames (.java { g with pc := pc, stack := [.ref a] } :: r) := by
      rw [State.pushFrame, State.setFrames_setFrames, State.setTop_of_frames _ hr, State.setFrames_setFrames, hr]
      rfl
    have e3 := congrArg (fun z : State => z.setVm vm') e2
    exact e3
  rw [e1]
  exact hrest
/-- a class by its link: the tables answer it, and are warmer behind -/
theorem zres {vm : Vm} {own nm : String} {index : Nat} {dc : ClassId} (hadm : l.admits e) (hW : s.WarmedH vm) (hown : s.vm.findClass own = some dc) (hlink : (Cond.classLink own index nm).before args s = true) :
    ∃ (cT : ClassId) (vm' : Vm), s.vm.findClass nm = some cT ∧ s.WarmedH vm' ∧ (VmOp.resolveClass dc index).answer e vm = .ok cT ∧ (VmOp.resolveClass dc index).tables e vm = vm' := by
  have hpl : e.platform.magicAccessors = ({} : Platform).magicAccessors := by rw [hadm.platform]
  obtain ⟨c', hc', hcl⟩ := Cond.classLink_spec hown hlink e.platform hpl
  obtain ⟨dk, _, _, kt, hd, _, _, _, _, hkt, _, hopen⟩ := hcl.here
  have hcl₀ := hW.classLinks hcl
  have hW' : s.WarmedH (vm.noted dc index (.cls c')) := hW.noted hd hopen (State.rightAt_cls hcl)
  have hop : (VmOp.resolveClass dc index).answer e vm = .ok c' ∧ (VmOp.resolveClass dc index).tables e vm = vm.noted dc index (.cls c') := (resolveClass_links e.toSetting hcl₀).op rfl
  exact ⟨c', _, hc', hW', hop.1, hop.2⟩
/-- the first clause takes it -/
theorem zfd_1 {a : Addr} {g : JFrame} {cell : Cell} {x : ExceptionTableEntry} {t : List ExceptionTableEntry} {own nm : String} (X : Stand p l e R s m args below meth c T locs cells slots) (hg : g.method = m) (hown : s.vm.findClass own = some m.cls) (ht : c.exceptionTable.toList = x :: t) (hx : covers x g.pc = true) (h0 : x.catchType ≠ 0) (hlink : (Cond.classLink own x.catchType nm).before args s = true)
    (hcell : T.heap[a]? = some cell) (hvm : cell.vm = .none) (hcls : s.vm.findClass nm = some cell.cls) : ∃ vm', s.WarmedH vm' ∧ zFd e ((T.setTop g).pushFrame (.throwing a)) g a (.found x.handlerPc) vm' := by
  have hSv := Stand.throwing_vm T g a
  have hSh := Stand.throwing_heap T g a
  obtain ⟨cT, vm', f1, f2, f3, f4⟩ := zres (dc := m.cls) X.admits X.warmed hown hlink
  cases hcls.symm.trans f1
  refine ⟨vm', f2, fun Q E d acts => ?_⟩
  obtain ⟨ks, hks, -⟩ := Vm.findClass_spec hcls
  obtain ⟨ks', hks', -⟩ := f2.alike.2.2 _ _ hks
  subst hg
  rw [W.findHandler_eq (meth := meth) (code := c) (by rw [hSv]; exact X.method') X.code, ht, zgo_cold (vm' := vm') hx h0 (by rw [hSv]; exact ⟨f3, f4⟩) (by rw [hSh]; exact hcell) (fun k => by rw [hvm]; exact fun h => by cases h) ⟨ks', hks'⟩ ⟨ks', hks'⟩ (by rw [hSv, f2.alike.2.1, X.warmed.alike.2.1]; exact Nat.le_refl _), if_pos (va_asg _ _)]
/-- the first clause is of another class, the second takes it -/
theorem zfd_2 {a : Addr} {g : JFrame} {cell : Cell} {x y : ExceptionTableEntry} {t : List ExceptionTableEntry} {own nm nm' : String} (X : Stand p l e R s m args below meth c T locs cells slots) (hg : g.method = m) (hown : s.vm.findClass own = some m.cls) (ht : c.exceptionTable.toList = x :: y :: t) (hx : covers x g.pc = true) (h0 : x.catchType ≠ 0) (hlink : (Cond.classLink own x.catchType nm').before args s = true) (hy : covers y g.pc = true) (h0y : y.catchType ≠ 0) (hlinky : (Cond.classLink own y.catchType nm).before args s = true)
    (hcell : T.heap[a]? = some cell) (hvm : cell.vm = .none) (hcls : s.vm.findClass nm = some cell.cls) (hno : va_Nc nm nm' s) : ∃ vm', s.WarmedH vm' ∧ zFd e ((T.setTop g).pushFrame (.throwing a)) g a (.found y.handlerPc) vm' := by
  have hSv := Stand.throwing_vm T g a
  have hSh := Stand.throwing_heap T g a
  obtain ⟨cN, vm1, f1, f2, f3, f4⟩ := zres (dc := m.cls) X.admits X.warmed hown hlink
  obtain ⟨cT, vm2, k1, k2, k3, k4⟩ := zres (dc := m.cls) X.admits f2 hown hlinky
  cases hcls.symm.trans k1
  obtain ⟨c0, t0, n1, n2, n3⟩ := hno
  cases n1.symm.trans hcls
  cases n2.symm.trans f1
  obtain ⟨ks, hks, -⟩ := Vm.findClass_spec hcls
  obtain ⟨kn, hkn, -⟩ := Vm.findClass_spec f1
  obtain ⟨ks1, hks1, -⟩ := f2.alike.2.2 _ _ hks
  obtain ⟨kn1, hkn1, -⟩ := f2.alike.2.2 _ _ hkn
  obtain ⟨ks2, hks2, -⟩ := k2.alike.2.2 _ _ hks
  have hobj : ∀ k, cell.vm ≠ .statics k := fun k => by rw [hvm]; exact fun h => by cases h
  refine ⟨vm2, k2, fun Q E d acts => ?_⟩
  subst hg
  rw [W.findHandler_eq (meth := meth) (code := c) (by rw [hSv]; exact X.method') X.code, ht, zgo_cold (vm' := vm1) hx h0 (by rw [hSv]; exact ⟨f3, f4⟩) (by rw [hSh]; exact hcell) hobj ⟨ks1, hks1⟩ ⟨kn1, hkn1⟩ (by rw [hSv, f2.alike.2.1, X.warmed.alike.2.1]; exact Nat.le_refl _), if_neg (by rw [f2.alike.assignable, n3]; decide), zgo_cold (vm' := vm2) hy h0y ⟨k3, k4⟩ (by show ((T.setTop g).pushFrame (.throwing a)).heap[a]? = _; rw [hSh]; exact hcell) hobj ⟨ks2, hks2⟩ ⟨ks2, hks2⟩ (by show vm2.classes.size ≤ vm1.classes.size; rw [k2.alike.2.1, f2.alike.2.1]; exact Nat.le_refl _), if_pos (va_asg _ _)]
  rfl
end ZTF
