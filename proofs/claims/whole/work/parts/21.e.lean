/-! what else stands at a method's start: the nest's words, the verifier's two rows, what a throw needs -/
def zNeed : Nat → Int32 := fun k => ([0, 0, 2, 2, 1, 1, 0, 1, 0, 1, 1, 2, 2, 0] : List Int32).getD k 0
def zLeav : Nat → Int32 := fun k => ([0, 1, 1, 1, 2, 0, 1, 0, 0, 0, 1, 0, 0, 1] : List Int32).getD k 0
/-- a static that holds a reference or null, with all that the tables' word on it says -/
def zZq (C n d : String) (A : Nat → Prop) (U : State) (H : Heap) : Prop := ∃ (cf : ClassId) (kf : Class) (fi : Nat) (f : Field) (a : Nat) (cell : Cell), U.fieldFound? C n d = some (cf, kf, fi, f) ∧ (U.vm.findClass C = some cf ∧ f.isStatic = true ∧ kf.statics = some a ∧ kf.staticTypes[f.slot]? = some f.type) ∧ H[a]? = some cell ∧ (cell.vm.isStatics = true ∧ cell.cls = cf ∧ f.slot < cell.slots.size ∧ (cell.slots[f.slot]? = some .null ∨ ∃ t, cell.slots[f.slot]? = some (.ref t))) ∧ ¬ A a
theorem zZq.moved {C n d : String} {A : Nat → Prop} {u U : State} {H : Heap} (hvm : u.vm.Alike U.vm) (h : zZq C n d A u H) : zZq C n d A U H := by
  obtain ⟨cf, kf, fi, f, a, cell, h1, ⟨h2, h3, h4, h5⟩, h6⟩ := h
  obtain ⟨k', hi', he⟩ := State.fieldFound?_setVm hvm h1
  exact ⟨cf, k', fi, f, a, cell, hi', ⟨by rw [hvm.findClass]; exact h2, h3, by rw [he]; exact h4, by rw [he]; exact h5⟩, h6⟩
theorem zZq.kept {C n d : String} {A : Nat → Prop} {U : State} {H H1 : Heap} (h : zZq C n d A U H) (hq : ∀ a : Nat, a < H.size → ¬ A a → H1[a]? = H[a]?) : zZq C n d A U H1 := by
  obtain ⟨cf, kf, fi, f, a, cell, h1, h2, h3, h4, h5⟩ := h
  exact ⟨cf, kf, fi, f, a, cell, h1, h2, by rw [hq a (Array.getElem?_eq_some_iff.mp h3).1 h5]; exact h3, h4, h5⟩
theorem zZq.narrow {C n d : String} {A B : Nat → Prop} {U : State} {H : Heap} (h : zZq C n d A U H) (hAB : ∀ q, B q → A q) : zZq C n d B U H := by
  obtain ⟨cf, kf, fi, f, a, cell, h1, h2, h3, h4, h5⟩ := h
  exact ⟨cf, kf, fi, f, a, cell, h1, h2, h3, h4, fun z => h5 (hAB a z)⟩
theorem zZq.of {args : Array Value} {s : State} {C n d : String} {A : Nat → Prop} (hl : (Cond.laysStatic C n d).before args s = true) (h : (Cond.isRef (.static C n d)).before args s = true) (hA : ∀ a : Nat, a < s.heap.size → ¬ A a) : zZq C n d A s s.heap := by
  obtain ⟨c, k, i, f, a, cell, hc, hi, hst, ha, hcell, hs, hcls, hlt, hty⟩ := Cond.laysStatic_spec hl
  refine ⟨c, k, i, f, a, cell, hi, ⟨hc, hst, ha, hty⟩, hcell, ⟨hs, hcls, hlt, ?_⟩, hA a (Array.getElem?_eq_some_iff.mp hcell).1⟩
  cases hv : (Term.static C n d).eval args s none [] s with
  | none => simp [Cond.before, Cond.holds, Cond.value, hv] at h
  | some w =>
    obtain ⟨hst', a', cell', ha', hcell', -, hslot⟩ := Term.static_spec hi hv
    cases ha.symm.trans ha'
    cases hcell.symm.trans hcell'
    simp only [Cond.before, Cond.holds, Cond.value, hv] at h
    cases w with
    | null => exact Or.inl hslot
    | ref t => exact Or.inr ⟨t, hslot⟩
    | _ => simp at h
def zE (A : Nat → Prop) (U : State) (H : Heap) : Prop := (∀ w ∈ zNw, va_Nw w U) ∧ (∃ t1 t2 : Nat, va_Z "AppDesk$Verifier" "NEEDS" "[I" (.ref t1) A U H ∧ va_T .int t1 14 (fun k => .int (zNeed k)) A U H ∧ va_Z "AppDesk$Verifier" "LEAVES" "[I" (.ref t2) A U H ∧ va_T .int t2 14 (fun k => .int (zLeav k)) A U H) ∧ zZq "java/lang/Throwable" "UNASSIGNED_STACK" "[Ljava/lang/StackTraceElement;" A U H ∧ zZq "java/lang/Throwable" "SUPPRESSED_SENTINEL" "Ljava/util/List;" A U H ∧ va_Nc "java/lang/IllegalStateException" "java/lang/IllegalArgumentException" U ∧ va_Nc "java/lang/IllegalArgumentException" "java/lang/IllegalStateException" U
theorem zE.blind {A : Nat → Prop} {U : State} {g : JFrame} {mk : MethodId} {a : Array Value} (h : zE A U U.heap) : zE A (U.calling g mk a) (U.calling g mk a).heap := by
  obtain ⟨h1, ⟨t1, t2, h2, h3, h4, h5⟩, h6, h7, h8, h9⟩ := h
  have hv : U.vm.Alike (U.calling g mk a).vm := Vm.Alike.refl U.vm
  exact ⟨fun w hw => va_Nw.same (u := U) (U := U.calling g mk a) (zNw_on w hw) rfl (h1 w hw), ⟨t1, t2, h2.moved hv, h3.moved hv, h4.moved hv, h5.moved hv⟩, h6.moved hv, h7.moved hv, h8.moved hv, h9.moved hv⟩
theorem zE.step {A B : Nat → Prop} {s U : State} {H : Heap} {locs : List Loc} (h : zE A s s.heap) (hW : s.WarmedH U.vm) (hS : va_S A s.heap H locs) (hU : U.heap = H) (hB : ∀ a, B a → A a) : zE B U U.heap := by
  obtain ⟨h1, ⟨t1, t2, h2, h3, h4, h5⟩, h6, h7, h8, h9⟩ := h
  subst hU
  have hv := hW.alike
  exact ⟨fun w hw => zNw_warm hW w hw (h1 w hw), ⟨t1, t2, ((h2.moved hv).kept hS.2.1).narrow hB, ((h3.moved hv).kept hS.2.1).narrow hB, ((h4.moved hv).kept hS.2.1).narrow hB, ((h5.moved hv).kept hS.2.1).narrow hB⟩, ((h6.moved hv).kept hS.2.1).narrow hB, ((h7.moved hv).kept hS.2.1).narrow hB, h8.moved hv, h9.moved hv⟩
