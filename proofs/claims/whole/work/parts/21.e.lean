/-! what else stands at a method's start: the nest's words, the verifier's two rows, what a throw needs -/
def zNeed : Nat → Int32 := fun k => ([0, 0, 2, 2, 1, 1, 0, 1, 0, 1, 1, 2, 2, 0] : List Int32).getD k 0
def zLeav : Nat → Int32 := fun k => ([0, 1, 1, 1, 2, 0, 1, 0, 0, 0, 1, 0, 0, 1] : List Int32).getD k 0
def zE (A : Nat → Prop) (U : State) (H : Heap) : Prop := (∀ w ∈ zNw, va_Nw w U) ∧ (∃ t1 t2 : Nat, va_Z "AppDesk$Verifier" "NEEDS" "[I" (.ref t1) A U H ∧ va_T .int t1 14 (fun k => .int (zNeed k)) A U H ∧ va_Z "AppDesk$Verifier" "LEAVES" "[I" (.ref t2) A U H ∧ va_T .int t2 14 (fun k => .int (zLeav k)) A U H) ∧ va_Zq "java/lang/Throwable" "UNASSIGNED_STACK" "[Ljava/lang/StackTraceElement;" A U H ∧ va_Zq "java/lang/Throwable" "SUPPRESSED_SENTINEL" "Ljava/util/List;" A U H ∧ va_Nc "java/lang/IllegalStateException" "java/lang/IllegalArgumentException" U ∧ va_Nc "java/lang/IllegalArgumentException" "java/lang/IllegalStateException" U
theorem zE.blind {A : Nat → Prop} {U : State} {g : JFrame} {mk : MethodId} {a : Array Value} (h : zE A U U.heap) : zE A (U.calling g mk a) (U.calling g mk a).heap := by
  obtain ⟨h1, ⟨t1, t2, h2, h3, h4, h5⟩, h6, h7, h8, h9⟩ := h
  have hv : U.vm.Alike (U.calling g mk a).vm := Vm.Alike.refl U.vm
  exact ⟨fun w hw => va_Nw.same (u := U) (U := U.calling g mk a) (zNw_on w hw) rfl (h1 w hw), ⟨t1, t2, h2.moved hv, h3.moved hv, h4.moved hv, h5.moved hv⟩, h6.moved hv, h7.moved hv, h8.moved hv, h9.moved hv⟩
theorem zE.step {A B : Nat → Prop} {s U : State} {H : Heap} {locs : List Loc} (h : zE A s s.heap) (hW : s.WarmedH U.vm) (hS : va_S A s.heap H locs) (hU : U.heap = H) (hB : ∀ a, B a → A a) : zE B U U.heap := by
  obtain ⟨h1, ⟨t1, t2, h2, h3, h4, h5⟩, h6, h7, h8, h9⟩ := h
  subst hU
  have hv := hW.alike
  exact ⟨fun w hw => zNw_warm hW w hw (h1 w hw), ⟨t1, t2, ((h2.moved hv).kept hS.2.1).narrow hB, ((h3.moved hv).kept hS.2.1).narrow hB, ((h4.moved hv).kept hS.2.1).narrow hB, ((h5.moved hv).kept hS.2.1).narrow hB⟩, ((h6.moved hv).kept hS.2.1).narrow hB, ((h7.moved hv).kept hS.2.1).narrow hB, h8.moved hv, h9.moved hv⟩
