/-! calling a method that may throw; catching -/
section ZTD
variable {p : Program} {l : Launch} {e : Env} {R : Room} {s : State} {m : MethodId} {args : Array Value} {below : List Frame} {meth : Method} {c : Code} {cc : ByteArray} {nL ce sl : Nat} {own : String} {D : va_G} {K : Nat → ClassId} {q : Nat → Nat} {A : Nat → Prop} {Q : State → Prop} {σ : zm} {pc pc' : Nat} {lv lv' : List (Nat × Value)} {st rest : List Value}
set_option maxHeartbeats 1000000 in
theorem g_callT {y : MethodName} {cc' : ByteArray} {nL' : Nat} {ret : Option FieldType} {d index ci b : Nat} {As : List Value} {fl : List (Option Nat)} {nk : Int32 → String} {post : Int32 → Int32 → zm → Prop} (hC : zX p s m args c cc nL own D K q A)
    (hM : zMt l y cc' nL' ret d D K q (.ref (q b) :: As) σ nk post) (hY : zY y cc' nL' ret As.length) (hV : zYv own index y ci) (hb : b < zN) (hs : zS b = (0, ci, fl)) (hR : d + 1 ≤ R.frames ∧ 30 * d + 30 ≤ R.locals) (hcs : ce + 1 ≤ R.cells ∧ sl + 6 ≤ R.slots) (hst : st = As.reverse ++ .ref (q b) :: rest) (hW : (rest.map fun v => v.category).sum ≤ 8) (hdg : decode cc pc = .ok (.invokevirtual index, 3))
    (kr : ∀ (r : Int32) (σ' : zm), post 0 r σ' → zG p l e R s m args below meth c D K q A nL (ce + 1) (sl + 6) Q σ' (pc + 3) lv (.int r :: rest))
    (kt : ∀ (x : Addr) (k r : Int32) (σ' : zm) (H : Heap) (locs : List Loc) (ls : Array Slot) (T : State), ¬ k = 0 → post k r σ' → va_P D zcl (zw K q σ') H → va_S A s.heap H locs → lv_has ls nL lv → T.heap = H → Stand p l e R s m args below meth c T locs (ce + 1) (sl + 6) → (∃ cell : Cell, H[x]? = some cell ∧ cell.vm = .none ∧ s.vm.findClass (nk k) = some cell.cls) → ∃ t, Steps p.tables e below ((T.setTop (F0 m pc ls rest)).pushFrame (.throwing x)) t ∧ Q t) :
    zG p l e R s m args below meth c D K q A nL ce sl Q σ pc lv st := by
  intro H locs ls hP hS hl T hT X
  have hexec := hC.1
  have hbc : c.code = cc := hC.2.1
  obtain ⟨y1, y2, y3, y4⟩ := hY
  obtain ⟨v1, v2, v3, v4⟩ := hV
  obtain ⟨x, hx, hx1⟩ := Option.map_eq_some_iff.mp v4
  obtain ⟨cellB, hcB, hoB, hclB⟩ := va_recv hC.k hP hx (zS_obj hb hs)
  rw [hx1] at hclB
  have hy : y.cls ≠ "java/lang/invoke/MethodHandle" ∧ y.cls ≠ "java/lang/invoke/VarHandle" := ⟨y3.1, y3.2.1⟩
  obtain ⟨mk, methM, hnamed, hmethM, hstM, habM⟩ := Cond.instanceMethod_spec (hC.t _ v2)
  obtain ⟨methM', cM, hmethM', -, -, -, -, -, -, hsigM⟩ := Cond.code_spec hnamed (hC.t _ y1)
  cases hmethM.symm.trans hmethM'
  obtain ⟨c2, r2, m2, q1, q2, q3, q4, kP, hkP, hkPi⟩ := Cond.selects_spec (hC.t _ v3)
  cases hclB.symm.trans q1
  cases (State.methodFound?_of_named hnamed hy).symm.trans q2
  cases hnamed.symm.trans q3
  have hselP : selectMethod e.platform s.vm cellB.cls mk = .method mk := by rw [Launch.admits_selectMethod X.admits]; exact q4
  have hlen : As.length = methM.sig.parameters.length := by
    have h2 := y3.2.2
    rw [hsigM] at h2
    exact (Option.some.inj h2).symm
  obtain ⟨vm₁, X₁, hstep₁⟩ := X.invokevirtual hexec hC.o (hC.t _ v1) hnamed hmethM hstM hkP hkPi hy (a := q b) (cell := cellB) (by rw [hT]; exact hcB)
    (fun z h => by rw [h] at hoB; cases hoB) hselP hmethM habM hkP hkPi (g := F0 m pc ls st) rfl (argsL := As) (rest := rest) hlen hst (by rw [hbc]; exact hdg)
  have hsize : (F0 m pc ls rest).locals.size = c.maxLocals := by rw [hC.2.2.1]; exact hl.1
  have hn : (T.setVm vm₁).methodNamed? y = some mk := X₁.named hnamed
  have hwt : ∀ w ∈ zT, ∀ a', w.before a' (T.setVm vm₁) = true := fun w h a' => word_at X₁.warmed (good_of_word (zT_good w h)) (hC.t w h)
  obtain ⟨methY, cY, hmY, hcY, -, hlY, -, -, -, -⟩ := Cond.code_spec hn (hwt _ y1 #[])
  obtain ⟨kY, hkY, -⟩ := className_of_methodNamed hn
  have hinitY : kY.init = .initialized := Cond.initialized_spec (findClass_of_methodNamed hn) hkY (hwt _ y2 #[])
  have h : At (T.setVm vm₁) m c below := X₁.here
  have happ : (headSpec (.code y cc' nL' ret :: zT) (zrt d)).appliesLoose y e.platform ((T.setVm vm₁).calling (F0 m pc ls rest) mk (Value.ref (q b) :: As).toArray) = true :=
    Spec.appliesLoose_calling (g := F0 m pc ls rest) h (by rw [hbc]; exact hdg) hn hkY hinitY
      (X₁.room_calling (g := F0 m pc ls rest) (R' := zrt d) hsize hmY hcY hR.1 (by rw [hlY]; show 2 * 0 + (rest.map fun v => v.category).sum + (nL' + 11) + 30 * d ≤ R.locals; omega) hcs.1 hcs.2) (atoms_intro fun w hw => by
        rcases List.mem_cons.mp hw with rfl | hw
        · exact hwt _ y1 _
        · exact hwt _ hw _)
  obtain ⟨mid, hmid⟩ := h.above
  have hfr : ((T.setVm vm₁).setTop (F0 m pc ls rest)).frames = (.java (F0 m pc ls rest) :: mid) ++ below := by rw [State.frames_setTop' _ h.top, hmid]; rfl
  obtain ⟨o, s₂, hsteps, -, hend, hq⟩ := Jvm.Free.Steps.callFree hM p X₁.admits X₁.cas X₁.clock (acts := []) hfr happ (zB.blind _ _ _ _ (hC.pre hP hS _ (T.setVm vm₁) hT X₁.warmed)) trivial
  have hq' : zQt D K q nk post ((T.setVm vm₁).calling (F0 m pc ls rest) mk (Value.ref (q b) :: As).toArray) o s₂ := hq
  rw [State.frames_setTop' _ h.top] at hend
  obtain ⟨L, σ', hW₂, ⟨e2, w2, w3, w4, w5, w6⟩, hL, hF, hO, hcase⟩ := hq'
  have e3 : s₂ = ({ ((T.setVm vm₁).calling (F0 m pc ls rest) mk (Value.ref (q b) :: As).toArray).setFrames s₂.frames with heap := s₂.heap, slotsUsed := s₂.slotsUsed } : State).setVm s₂.vm := by
    have : s₂ = ({ s₂ with vm := ((T.setVm vm₁).calling (F0 m pc ls rest) mk (Value.ref (q b) :: As).toArray).vm } : State).setVm s₂.vm := rfl
    rw [e2] at this
    exact this
  have hW' : (T.setVm vm₁).WarmedH s₂.vm := hW₂
  obtain ⟨g₀, hg0⟩ := Option.isSome_iff_exists.mp h.top
  obtain ⟨r, hr⟩ := State.topJava?_eq_some.mp hg0
  have hsame : (T.setVm vm₁).sameButNew ({ T.setVm vm₁ with heap := s₂.heap, slotsUsed := s₂.slotsUsed } : State) L 1 6 := by
    refine ⟨?_, w2, w3, w4, w5, w6⟩
    obtain ⟨t, ht, -⟩ := State.frames_cons hr
    show ({ T.setVm vm₁ with heap := s₂.heap, slotsUsed := s₂.slotsUsed } : State) = { (T.setVm vm₁).setFrames (T.setVm vm₁).frames with heap := s₂.heap, slotsUsed := s₂.slotsUsed }
    rw [State.setFrames_self ht]
  have X₂ : Stand p l e R s m args below meth c (({ T.setVm vm₁ with heap := s₂.heap, slotsUsed := s₂.slotsUsed } : State).setVm s₂.vm) (locs ++ L) (ce + 1) (sl + 6) :=
    ⟨X₁.admits, X₁.cas, X₁.clock, X₁.frames, X₁.room, X₁.hears, X₁.method, X₁.code, (X₁.here.setHeapUsed s₂.heap s₂.slotsUsed).setVm hW'.alike, X₁.tail, State.WarmedH.trans X₁.warmed hW', X₁.limits, X₁.bytes, X₁.same.trans (hsame.setVm s.vm)⟩
  have hr' : (({ T.setVm vm₁ with heap := s₂.heap, slotsUsed := s₂.slotsUsed } : State).setVm s₂.vm).frames = .java g₀ :: r := hr
  have hS2 : va_S A s.heap s₂.heap (locs ++ L) := by
    have hF1 : H.size ≤ s₂.heap.size := by rw [← hT]; exact hF.1
    refine ⟨Nat.le_trans hS.1 hF1, fun z g1 g2 => ?_, fun z hz => ?_⟩
    · have := hF.2 z (by show z < T.heap.size; rw [hT]; exact Nat.lt_of_lt_of_le g1 hS.1) (fun h => g2 (hC.a z h))
      rw [this]
      show T.heap[z]? = _
      rw [hT]
      exact hS.2.1 z g1 g2
    · rcases List.mem_append.mp hz with h | h
      · exact hS.2.2 z h
      · exact hC.a _ (hL z h)
  rcases hcase with ⟨rv, rfl, hpo⟩ | ⟨xa, k, rv, rfl, hk0, hpo, cell, hc1, hc2, hc3⟩
  · obtain ⟨c₂, i₂, len₂, hc₂, hd₂, hf₂⟩ := hend
    have hcc : c₂ = c := by
      have h1 : s₂.code? m = (T.setVm vm₁).code? m := by
        rw [State.code?_eq, State.code?_eq, hW'.alike.method?]
      exact Option.some.inj (hc₂.symm.trans (h1.trans h.code))
    subst hcc
    have hl3 : len₂ = 3 := by rw [hbc, hdg] at hd₂; cases hd₂; rfl
    subst hl3
    have hs₂ : s₂ = (({ T.setVm vm₁ with heap := s₂.heap, slotsUsed := s₂.slotsUsed } : State).setVm s₂.vm).setTop (F0 m (pc + 3) ls (.int rv :: rest)) := by
      refine e3.trans ?_
      rw [hf₂, State.calling_eq h.top, State.setFrames_setFrames, State.setTop_of_frames _ hr', hr]
      rfl
    obtain ⟨t, a1, b1⟩ := kr rv σ' hpo s₂.heap (locs ++ L) ls hO hS2 hl (({ T.setVm vm₁ with heap := s₂.heap, slotsUsed := s₂.slotsUsed } : State).setVm s₂.vm) rfl X₂
    refine ⟨t, hstep₁ _ fun acts => ?_, b1⟩
    rw [doInvoke_state]
    refine hsteps.trans ?_
    rw [← hs₂] at a1
    exact a1
  · have hf₂ : s₂.frames = .throwing xa :: .java (F0 m pc ls rest) :: (T.setVm vm₁).frames.tail := hend
    have hs₂ : s₂ = ((({ T.setVm vm₁ with heap := s₂.heap, slotsUsed := s₂.slotsUsed } : State).setVm s₂.vm).setTop (F0 m pc ls rest)).pushFrame (.throwing xa) := by
      refine e3.trans ?_
      rw [hf₂, State.calling_eq h.top, State.setFrames_setFrames, State.pushFrame, State.frames_setTop _ hr', State.setTop_of_frames _ hr', State.setFrames_setFrames, hr]
      rfl
    have hc4 : (T.setVm vm₁).vm.findClass (nk k) = some cell.cls := hc3
    rw [X₁.warmed.alike.findClass] at hc4
    obtain ⟨t, a1, b1⟩ := kt xa k rv σ' s₂.heap (locs ++ L) ls (({ T.setVm vm₁ with heap := s₂.heap, slotsUsed := s₂.slotsUsed } : State).setVm s₂.vm) hk0 hpo hO hS2 hl rfl X₂ ⟨cell, hc1, hc2, hc4⟩
    refine ⟨t, hstep₁ _ fun acts => ?_, b1⟩
    rw [doInvoke_state]
    refine hsteps.trans ?_
    rw [← hs₂] at a1
    exact a1
end ZTD
