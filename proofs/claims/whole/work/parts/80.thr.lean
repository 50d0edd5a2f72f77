/-! THROWING: the walk reckoned anew from where it stands, a throw of a new object, and a contract for methods that may throw -/
section ZTA
variable {p : Program} {l : Launch} {e : Env} {R : Room} {s : State} {m : MethodId} {args : Array Value} {below : List Frame} {meth : Method} {c : Code} {T : State} {locs : List Loc} {cells slots : Nat}
/-- the invocation as if it began with the heap and the tables that it has now -/
def znow (T : State) (m : MethodId) (args : Array Value) (below : List Frame) : State := T.setFrames (.invoking m args :: below)
theorem zreb (X : Stand p l e R s m args below meth c T locs cells slots) (R' : Room) (h1 : R'.frames ≤ R.frames) (h2 : R'.locals ≤ R.locals) (h3 : cells + R'.cells ≤ R.cells) (h4 : slots + R'.slots ≤ R.slots) : Stand p l e R' (znow T m args below) m args below meth c T [] 0 0 := by
  obtain ⟨g₀, hfr⟩ := X.frames_eq
  have hcur : T.cur < T.threads.size := State.cur_lt_of_frames hfr
  have hf : (znow T m args below).frames = .invoking m args :: below := State.frames_setFrames _ hcur
  have hm : (znow T m args below).vm.method? m = some meth := X.method'
  have hlim : e.platform.stackLimits (znow T m args below).me = e.platform.stackLimits T.me := State.stackLimits_setFrames _ _ _
  have hby : (znow T m args below).me.stackBytes = T.me.stackBytes := State.stackBytes_setFrames _ _
  refine ⟨X.admits, X.cas, X.clock, hf, ?_, ?_, hm, X.code, X.here, X.tail, State.WarmedH.refl (znow T m args below), hlim.symm, hby.symm, ?_⟩
  · have h := X.room
    have hl := State.localsInUse_invoking X.frames X.method X.code
    have hl' := State.localsInUse_invoking hf hm X.code
    have hz := X.heapSize
    have hu := X.used
    have hb : (znow T m args below).slotsTrue = true := X.book
    simp only [State.hasRoom, Bool.and_eq_true, decide_eq_true_eq, hl, X.frames, List.length_cons] at h
    simp only [State.hasRoom, Bool.and_eq_true, decide_eq_true_eq, hf, hl', hlim, hby, X.limits, X.bytes, List.length_cons]
    obtain ⟨⟨⟨⟨r0, r1, r2, r3, r4, r5⟩, r6⟩, r7⟩, r8⟩ := h
    refine ⟨⟨⟨⟨by omega, by omega, by omega, by omega, by omega, r5⟩, ?_⟩, ?_⟩, hb⟩
    · show T.heap.size + R'.cells ≤ _
      omega
    · show T.slotsUsed + R'.slots ≤ _
      omega
  · have hh := X.hears
    have hv : ∀ k, (znow T m args below).vm.method? k = s.vm.method? k := fun k => by
      show T.vm.method? k = _
      rw [X.warmed.alike.method?]
    rcases below with _ | ⟨y, r⟩
    · simp only [State.hears] at hh ⊢
      rw [hv]
      exact hh
    · cases y <;> first
        | exact hh
        | (simp only [State.hears] at hh ⊢
           rw [hv]
           exact hh)
        | (simp only [State.hears, State.code?_eq] at hh ⊢
           rw [hv]
           exact hh)
  · obtain ⟨t, ht, -⟩ := State.frames_cons hf
    obtain ⟨t', ht', -⟩ := State.frames_cons hfr
    have h := (State.sameButNew.refl (znow T m args below) ht).setFrames T.frames (State.cur_lt_of_frames hf)
    have e1 : (znow T m args below).setFrames T.frames = T := by
      unfold znow
      rw [State.setFrames_setFrames, State.setFrames_self ht']
    rw [e1] at h
    exact h
theorem zsame_now {U : State} {k n : Nat} (h : (znow T m args below).sameButNew ({ U with vm := (znow T m args below).vm } : State) [] k n) : T.sameButNew (U.setVm T.vm) [] k n := by
  obtain ⟨e1, e2⟩ := h
  refine ⟨?_, e2⟩
  unfold znow at e1
  rw [State.setFrames_setFrames] at e1
  exact e1
theorem zsame_heap {U : State} {k n : Nat} (h : T.sameButNew (U.setVm T.vm) [] k n) : T.heap.size ≤ U.heap.size ∧ ∀ a, a < T.heap.size → U.heap[a]? = T.heap[a]? := by
  obtain ⟨-, e2, -, -, -, e6⟩ := h
  refine ⟨e2, fun a ha => ?_⟩
  have hc : T.heap[a]? = some T.heap[a] := Array.getElem?_eq_getElem ha
  obtain ⟨c', q1, q2, q3, q4⟩ := e6 a _ hc
  have q1 : U.heap[a]? = some c' := q1
  have : c'.slots = T.heap[a].slots := Array.ext_getElem? (fun i => q4 i (by simp))
  rw [q1, hc, q2, this]
theorem zisRef {C n d : String} {A : Nat → Prop} {U : State} {a0 : Array Value} (h : zZq C n d A U U.heap) : (Cond.isRef (.static C n d)).before a0 U = true := by
  obtain ⟨cf, kf, fi, f, a, cell, h1, ⟨h2, h3, h4, h5⟩, h6, ⟨h7, h8, h9, h10 | ⟨t, h10⟩⟩, -⟩ := h
  · simp [Cond.before, Cond.holds, Cond.value, Term.eval, State.fieldNamed?, h1, h3, h4, h6, h7, h10]
  · simp [Cond.before, Cond.holds, Cond.value, Term.eval, State.fieldNamed?, h1, h3, h4, h6, h7, h10]
theorem zlaysS {C n d : String} {A : Nat → Prop} {U : State} {a0 : Array Value} (h : zZq C n d A U U.heap) : (Cond.laysStatic C n d).before a0 U = true := by
  obtain ⟨cf, kf, fi, f, a, cell, h1, ⟨h2, h3, h4, h5⟩, h6, ⟨h7, h8, h9, -⟩, -⟩ := h
  simp [Cond.before, Cond.holds, Cond.value, h1, h2, h3, h4, h5, h6, h7, h8, h9]
theorem zcastS {X : String} {k : Nat} {U : State} {a0 : Array Value} (h : (Cond.instantiable X k).before a0 U = true) : (Cond.castable X X).before a0 U = true := by
  obtain ⟨c, kX, hc, -⟩ := Cond.instantiable_spec h
  simp [Cond.before, Cond.holds, Cond.value, hc, va_asg]
theorem zdeclS {x : MethodName} {b : ByteArray} {k : Nat} {r : Option FieldType} {U : State} {a0 : Array Value} (h : (Cond.instanceMethod x).before a0 U = true) (hc : (Cond.code x b k r).before a0 U = true) : (Cond.declares x).before a0 U = true := by
  obtain ⟨mk, me, h1, h2, h3, -⟩ := Cond.instanceMethod_spec h
  obtain ⟨me', c', h2', -, -, -, -, -, -, hsig⟩ := Cond.code_spec h1 hc
  cases h2.symm.trans h2'
  simp [Cond.before, Cond.holds, Cond.value, h1, h2, h3, hsig]
end ZTA
/-- the words of a throw: those of the tables that stay, and some that follow -/
def zTw (w : Cond) : Prop := w ∈ zT ∨ (w = .isRef (.static "java/lang/Throwable" "UNASSIGNED_STACK" "[Ljava/lang/StackTraceElement;") ∨ w = .laysStatic "java/lang/Throwable" "UNASSIGNED_STACK" "[Ljava/lang/StackTraceElement;") ∨ (w = .isRef (.static "java/lang/Throwable" "SUPPRESSED_SENTINEL" "Ljava/util/List;") ∨ w = .laysStatic "java/lang/Throwable" "SUPPRESSED_SENTINEL" "Ljava/util/List;") ∨ (∃ (X : String) (k : Nat), w = .castable X X ∧ Cond.instantiable X k ∈ zT) ∨ ∃ (x : MethodName) (b : ByteArray) (k : Nat) (r : Option FieldType), w = .declares x ∧ Cond.instanceMethod x ∈ zT ∧ Cond.code x b k r ∈ zT
section ZTB
variable {p : Program} {l : Launch} {e : Env} {R : Room} {s : State} {m : MethodId} {args : Array Value} {below : List Frame} {meth : Method} {c : Code} {cc : ByteArray} {nL ce sl : Nat} {own : String} {D : va_G} {K : Nat → ClassId} {q : Nat → Nat} {A : Nat → Prop} {Q : State → Prop} {σ : zm} {pc pc' : Nat} {lv lv' : List (Nat × Value)} {st : List Value}
set_option maxHeartbeats 1000000 in
theorem g_throw (hC : zX p s m args c cc nL own D K q A) (htr : l.stackTraces = false) (het : c.exceptionTable.isEmpty = true) (hk : meth.locks = false) {nm : String} {names : List String} {iN ic : Nat} (hfit : Bundle.fit nm = true) (hnames : ∀ n ∈ names, Bundle.fit n = true)
    (hw : ∀ w ∈ Bundle.ownAtoms0 own ic nm names, zTw w) (hcl : Cond.classLink own iN nm ∈ zT) (hin : Cond.initialized nm ∈ zT) (hins : Cond.instantiable nm 6 ∈ zT)
    (hd0 : decode cc pc = .ok (.new iN, 3)) (hd3 : decode cc (pc + 3) = .ok (.dup, 1)) (hd4 : decode cc (pc + 4) = .ok (.invokespecial ic, 3)) (hd7 : decode cc (pc + 7) = .ok (.athrow, 1))
    (hRf : names.length + 3 < R.frames) (hRl : 13 * (names.length + 1) + 42 ≤ R.locals) (hRc : ce + 1 ≤ R.cells) (hRs : sl + 6 ≤ R.slots)
    (hQ : ∀ (x : Addr) (t : State) (L : List Loc), t.status = .running → Ended t below (.threw x) → s.WarmedH t.vm → s.sameButNew ({ t with vm := s.vm } : State) L (ce + 1) (sl + 6) → (∀ y ∈ L, A y.base) → va_F A s t → va_P D zcl (zw K q σ) t.heap → (∃ cell : Cell, t.heap[x]? = some cell ∧ cell.vm = .none ∧ s.vm.findClass nm = some cell.cls) → Q t) :
    zG p l e R s m args below meth c D K q A nL ce sl Q σ pc lv [] := by
  intro H locs ls hP hS hl T hT X
  have hexec := hC.1
  have hb : c.code = cc := hC.2.1
  have X' := zreb X { frames := R.frames, cells := 1, slots := 6, locals := R.locals } (Nat.le_refl _) (Nat.le_refl _) hRc hRs
  have hWn : s.WarmedH (znow T m args below).vm := X.warmed
  have hwt : ∀ w ∈ zT, w.before args (znow T m args below) = true := fun w h => word_at hWn (good_of_word (zT_good w h)) (hC.t w h)
  have hown : (znow T m args below).vm.findClass own = some m.cls := by
    show T.vm.findClass own = _
    rw [X.warmed.alike.findClass]
    exact hC.o
  have hE := hC.ee.step (U := znow T m args below) (B := A) hWn hS hT (fun _ h => h)
  have hws : ∀ w ∈ Bundle.ownAtoms0 own ic nm names, w.before args (znow T m args below) = true := fun w h => by
    rcases hw w h with h1 | (rfl | rfl) | (rfl | rfl) | ⟨X, k, rfl, h1⟩ | ⟨x, b, k, r, rfl, h1, h2⟩
    · exact hwt w h1
    · exact zisRef hE.2.2.1
    · exact zlaysS hE.2.2.1
    · exact zisRef hE.2.2.2.1
    · exact zlaysS hE.2.2.2.1
    · exact zcastS (hwt _ h1)
    · exact zdeclS (hwt _ h1) (hwt _ h2)
  have hplat : e.platform.stackTraces = false := by rw [X.admits.platform]; exact htr
  have main : W p l e { frames := R.frames, cells := 1, slots := 6, locals := R.locals } (znow T m args below) m args below meth c H [] 0 0 Q (F0 m pc ls []) := by
    refine W.newc (n := 6) hexec hb hown (hwt _ hcl) (hwt _ hins) (hwt _ hin) rfl hd0 (Nat.le_refl _) (Nat.le_refl _) (fun cC kC f1 f2 f3 f4 => ?_)
    refine lv_dup hexec hb hd3 rfl ?_
    intro T2 hT2 X2
    have hsz : H.size < (H.push { cls := cC, slots := kC.instanceTypes.map defaultValue, vm := .none }).size := by rw [Array.size_push]; exact Nat.lt_succ_self _
    obtain ⟨U, st1, hrun, hend, hWU, hsm, ce0, hce, hoc⟩ := X2.ctorThrow0 hexec hplat hown hfit hnames hws (fun x hx => by cases hx) f1 f2 (a := H.size) (by rw [hT2]; exact Array.getElem?_push_size) (by show T.heap.size ≤ H.size; rw [hT]; exact Nat.le_refl _)
      (g := F0 m (pc + 4) ls [.ref H.size, .ref H.size]) rfl (by rw [hl.1]; exact hC.2.2.1.symm) rfl rfl (rest := []) rfl (by rw [hb]; exact hd4) (by rw [hb]; exact hd7) (fun x hx => by
        have : c.exceptionTable = #[] := by simpa using het
        rw [this] at hx
        cases hx) hRf (by show 2 * 0 + 1 + _ ≤ R.locals; omega) hk
    have hs1 := zsame_now hsm
    have hs2 := X.same.trans (hs1.setVm s.vm)
    rw [List.append_nil] at hs2
    obtain ⟨z1, z2⟩ := zsame_heap hs1
    rw [hT] at z1 z2
    refine ⟨U, st1, hQ H.size U locs hrun hend (State.WarmedH.trans X.warmed hWU) hs2 hS.2.2 ⟨Nat.le_trans hS.1 z1, fun y g1 g2 => (z2 y (Nat.lt_of_lt_of_le g1 hS.1)).trans (hS.2.1 y g1 g2)⟩ (hP.kept (fun k y hy => z2 y.1 (hP k y hy).lt)) ⟨ce0, hce, hoc.vm, ?_⟩⟩
    have := hoc.cls
    rw [← X.warmed.alike.findClass]
    exact this
  exact main T hT X'
end ZTB
/-! ### a method that may throw -/
def zrt (d : Nat) : Room := { frames := d, cells := 1, slots := 6, locals := 30 * d }
/-- how it ends: k is what it throws (0: it answers r), by the class's name -/
def zQt (D : va_G) (K : Nat → ClassId) (q : Nat → Nat) (nk : Int32 → String) (post : Int32 → Int32 → zm → Prop) (st : State) (o : Outcome) (t : State) : Prop :=
  ∃ (L : List Loc) (σ' : zm), st.WarmedH t.vm ∧ st.sameButNew ({ t with vm := st.vm } : State) L 1 6 ∧ (∀ x ∈ L, zA q x.base) ∧ va_F (zA q) st t ∧ zO D K q σ' t ∧ ((∃ r, o = .returned (some (.int r)) ∧ post 0 r σ') ∨ ∃ (x : Addr) (k r : Int32), o = .threw x ∧ ¬ k = 0 ∧ post k r σ' ∧ ∃ cell : Cell, t.heap[x]? = some cell ∧ cell.vm = .none ∧ st.vm.findClass (nk k) = some cell.cls)
def zMt (l : Launch) (y : MethodName) (cc : ByteArray) (nL : Nat) (ret : Option FieldType) (d : Nat) (D : va_G) (K : Nat → ClassId) (q : Nat → Nat) (av : List Value) (σ : zm) (nk : Int32 → String) (post : Int32 → Int32 → zm → Prop) : Prop :=
  Jvm.Free.MetFree l y (headSpec (.code y cc nL ret :: zT) (zrt d)) (va_Pc av (zB D K q σ)) (fun _ _ _ _ _ => True) (fun _ st o t => zQt D K q nk post st o t)
def zTQ (below : List Frame) (D : va_G) (K : Nat → ClassId) (q : Nat → Nat) (nk : Int32 → String) (post : Int32 → Int32 → zm → Prop) (s : State) : State → Prop := fun t => ∃ o, t.status = .running ∧ Ended t below o ∧ zQt D K q nk post s o t
theorem zMt.of {l : Launch} {y : MethodName} {cc : ByteArray} {nL : Nat} {ret : Option FieldType} {d : Nat} {D : va_G} {K : Nat → ClassId} {q : Nat → Nat} {av : List Value} {σ : zm} {nk : Int32 → String} {post : Int32 → Int32 → zm → Prop} {lv : List (Nat × Value)} {own : String} (hy : plainName y.cls = true) (ho : y.cls = own) (hq : zI q) (hl : (lg_sl av).length ≤ nL) (hlv : lv_args 0 av = lv)
    (body : ∀ (p : Program) (e : Env) (s : State) (m : MethodId) (below : List Frame) (meth : Method) (c : Code), zX p s m av.toArray c cc nL own D K q (zA q) → meth.sig.returnType = ret → meth.locks = false → c.exceptionTable.isEmpty = true → zG p l e (zrt d) s m av.toArray below meth c D K q (zA q) nL 0 0 (zTQ below D K q nk post s) σ 0 lv []) :
    zMt l y cc nL ret d D K q av σ nk post := by
  refine Jvm.Free.MetFree.of_bodyS (code := cc) (maxLocals := nL) (ret := ret) hy ?_ ?_
  · intro args s m h hn
    obtain ⟨meth, c, h1, h2, h3, h4, h5, h6, -, -⟩ := Cond.code_spec hn (atoms_spec (ws := .code y cc nL ret :: zT) h _ List.mem_cons_self)
    exact ⟨meth, c, h1, h2, h3, h4, h5, h6⟩
  · intro p e s m args below meth c s₁ B hml hv _
    obtain ⟨rfl, hP, hK, hE⟩ := hv
    have hts := atoms_spec (ws := .code y cc nL ret :: zT) B.pre
    have hown : s.vm.findClass own = some m.cls := by rw [← ho]; exact findClass_of_methodNamed B.named
    have hlv2 := lv_entry av (n := nL) hl
    rw [hlv] at hlv2
    rw [lg_entry_eq]
    have hh0 : s₁.heap = s.heap := by rw [B.state]; rfl
    obtain ⟨t, a1, o, b1, b2, b3⟩ := body p e s m below meth c ⟨B.exec, B.bytes, hml, hown, fun w hw => hts w (List.mem_cons_of_mem _ hw), hK, hq, fun j hj => ⟨j, hj, rfl⟩, hE⟩ B.returns B.notSynchronized (B.noHandlers (hts _ List.mem_cons_self)) s.heap [] _ hP va_S.rf hlv2 s₁ hh0 (Stand.of_body B)
    exact ⟨t, o, a1, b1, b2, b3⟩
section ZTC
variable {p : Program} {l : Launch} {e : Env} {R : Room} {s : State} {m : MethodId} {args : Array Value} {below : List Frame} {meth : Method} {c : Code} {cc : ByteArray} {nL : Nat} {own : String} {D : va_G} {K : Nat → ClassId} {q : Nat → Nat} {σ : zm} {pc pc' : Nat} {lv lv' : List (Nat × Value)} {st : List Value} {nk : Int32 → String} {post : Int32 → Int32 → zm → Prop}
theorem g_tret {v : Int32} (hC : zX p s m args c cc nL own D K q (zA q)) (hr : meth.sig.returnType = some .int) (hk : meth.locks = false) (hdg : decode cc pc = .ok (.ireturn, 1)) (hpo : post 0 v σ) : zG p l e R s m args below meth c D K q (zA q) nL 0 0 (zTQ below D K q nk post s) σ pc lv [.int v] := fun H locs ls hP hS hl T hT X => by
  obtain ⟨t, a1, o, b1, b2, ⟨rfl, b3⟩, L, ⟨f1, f2, f3⟩, b4⟩ := W.iret (Qc := fun _ _ o t => o = .returned (some (.int v)) ∧ t.heap = H) (free := zA q) hC.1 hC.2.1 hr (fun t ht hW => ⟨rfl, ht⟩) hS.2.2 hdg hk T hT X
  refine ⟨t, a1, _, b1, b2, L, σ, f2, f3.mono (Nat.zero_le _) (Nat.zero_le _), b4, hS.F b3, ?_, Or.inl ⟨v, rfl, hpo⟩⟩
  show va_P D zcl (zw K q σ) t.heap
  rw [b3]
  exact hP
theorem g_tthrow (hC : zX p s m args c cc nL own D K q (zA q)) (htr : l.stackTraces = false) (het : c.exceptionTable.isEmpty = true) (hk : meth.locks = false) {nm : String} {names : List String} {iN ic : Nat} (hfit : Bundle.fit nm = true) (hnames : ∀ n ∈ names, Bundle.fit n = true)
    (hw : ∀ w ∈ Bundle.ownAtoms0 own ic nm names, zTw w) (hcl : Cond.classLink own iN nm ∈ zT) (hin : Cond.initialized nm ∈ zT) (hins : Cond.instantiable nm 6 ∈ zT)
    (hd0 : decode cc pc = .ok (.new iN, 3)) (hd3 : decode cc (pc + 3) = .ok (.dup, 1)) (hd4 : decode cc (pc + 4) = .ok (.invokespecial ic, 3)) (hd7 : decode cc (pc + 7) = .ok (.athrow, 1))
    (hRf : names.length + 3 < R.frames) (hRl : 13 * (names.length + 1) + 42 ≤ R.locals) (hRc : 1 ≤ R.cells) (hRs : 6 ≤ R.slots) {k r : Int32} (hk0 : ¬ k = 0) (hnk : nk k = nm) (hpo : post k r σ) :
    zG p l e R s m args below meth c D K q (zA q) nL 0 0 (zTQ below D K q nk post s) σ pc lv [] :=
  g_throw hC htr het hk hfit hnames hw hcl hin hins hd0 hd3 hd4 hd7 hRf hRl (by omega) (by omega) (fun x t L h1 h2 h3 h4 h5 h6 h7 ⟨ce1, h8, h9, h10⟩ => ⟨.threw x, h1, h2, L, σ, h3, h4, h5, h6, h7, Or.inr ⟨x, k, r, rfl, hk0, hpo, ce1, h8, h9, by rw [hnk]; exact h10⟩⟩)
end ZTC
