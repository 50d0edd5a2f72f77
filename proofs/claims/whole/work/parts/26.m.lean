/-! CONTRACTS AND CALLS over flat worlds -/
def zrm (d : Nat) : Room := { frames := d, cells := 0, slots := 0, locals := 30 * d }
def zB (D : va_G) (K : Nat → ClassId) (q : Nat → Nat) (σ : zm) (U : State) : Prop := va_P D zcl (zw K q σ) U.heap ∧ va_K D zcl (zty K) U ∧ zE (zA q) U U.heap
def zO (D : va_G) (K : Nat → ClassId) (q : Nat → Nat) (σ : zm) (t : State) : Prop := va_P D zcl (zw K q σ) t.heap
/-- a method that answers an int, makes nothing and writes in the world alone -/
def zMi (l : Launch) (y : MethodName) (cc : ByteArray) (nL : Nat) (ret : Option FieldType) (d : Nat) (D : va_G) (K : Nat → ClassId) (q : Nat → Nat) (av : List Value) (σ : zm) (post : Int32 → zm → Prop) : Prop :=
  Met l y (.code y cc nL ret :: zT) (zrm d) (va_Pc av (zB D K q σ)) (va_Qi post (zO D K q) (zA q)) 0 0 (zA q)
def zMv (l : Launch) (y : MethodName) (cc : ByteArray) (nL : Nat) (ret : Option FieldType) (d : Nat) (D : va_G) (K : Nat → ClassId) (q : Nat → Nat) (av : List Value) (σ : zm) (post : zm → Prop) : Prop :=
  Met l y (.code y cc nL ret :: zT) (zrm d) (va_Pc av (zB D K q σ)) (va_Qv post (zO D K q) (zA q)) 0 0 (zA q)
theorem zMet_of {l : Launch} {y : MethodName} {cc : ByteArray} {nL : Nat} {ret : Option FieldType} {d : Nat} {D : va_G} {K : Nat → ClassId} {q : Nat → Nat} {av : List Value} {σ : zm} {Qc : Array Value → State → Outcome → State → Prop} {lv : List (Nat × Value)} {own : String} (hy : plainName y.cls = true) (ho : y.cls = own) (hq : zI q) (hl : (lg_sl av).length ≤ nL) (hlv : lv_args 0 av = lv)
    (body : ∀ (p : Program) (e : Env) (s : State) (m : MethodId) (below : List Frame) (meth : Method) (c : Code), zX p s m av.toArray c cc nL own D K q (zA q) → meth.sig.returnType = ret → meth.locks = false → zG p l e (zrm d) s m av.toArray below meth c D K q (zA q) nL 0 0 (MQ below Qc av.toArray s 0 0 (zA q)) σ 0 lv []) :
    Met l y (.code y cc nL ret :: zT) (zrm d) (va_Pc av (zB D K q σ)) Qc 0 0 (zA q) := by
  refine Met.ofW (cc := cc) (maxL := nL) (ret := ret) hy rfl ?_
  intro p e s m args below meth c s₁ B hml hv
  obtain ⟨rfl, hP, hK, hE⟩ := hv
  have hts := atoms_spec (ws := .code y cc nL ret :: zT) B.pre
  have hown : s.vm.findClass own = some m.cls := by rw [← ho]; exact findClass_of_methodNamed B.named
  have hlv2 := lv_entry av (n := nL) hl
  rw [hlv] at hlv2
  rw [lg_entry_eq]
  exact body p e s m below meth c ⟨B.exec, B.bytes, hml, hown, fun w hw => hts w (List.mem_cons_of_mem _ hw), hK, hq, fun j hj => ⟨j, hj, rfl⟩, hE⟩ B.returns B.notSynchronized s.heap [] _ hP va_S.rf hlv2
theorem zMi.of {l : Launch} {y : MethodName} {cc : ByteArray} {nL : Nat} {ret : Option FieldType} {d : Nat} {D : va_G} {K : Nat → ClassId} {q : Nat → Nat} {av : List Value} {σ : zm} {post : Int32 → zm → Prop} {lv : List (Nat × Value)} {own : String} (hy : plainName y.cls = true) (ho : y.cls = own) (hq : zI q) (hl : (lg_sl av).length ≤ nL) (hlv : lv_args 0 av = lv)
    (body : ∀ (p : Program) (e : Env) (s : State) (m : MethodId) (below : List Frame) (meth : Method) (c : Code), zX p s m av.toArray c cc nL own D K q (zA q) → meth.sig.returnType = ret → meth.locks = false → zG p l e (zrm d) s m av.toArray below meth c D K q (zA q) nL 0 0 (MQ below (va_Qi post (zO D K q) (zA q)) av.toArray s 0 0 (zA q)) σ 0 lv []) :
    zMi l y cc nL ret d D K q av σ post := zMet_of hy ho hq hl hlv body
theorem zMv.of {l : Launch} {y : MethodName} {cc : ByteArray} {nL : Nat} {ret : Option FieldType} {d : Nat} {D : va_G} {K : Nat → ClassId} {q : Nat → Nat} {av : List Value} {σ : zm} {post : zm → Prop} {lv : List (Nat × Value)} {own : String} (hy : plainName y.cls = true) (ho : y.cls = own) (hq : zI q) (hl : (lg_sl av).length ≤ nL) (hlv : lv_args 0 av = lv)
    (body : ∀ (p : Program) (e : Env) (s : State) (m : MethodId) (below : List Frame) (meth : Method) (c : Code), zX p s m av.toArray c cc nL own D K q (zA q) → meth.sig.returnType = ret → meth.locks = false → zG p l e (zrm d) s m av.toArray below meth c D K q (zA q) nL 0 0 (MQ below (va_Qv post (zO D K q) (zA q)) av.toArray s 0 0 (zA q)) σ 0 lv []) :
    zMv l y cc nL ret d D K q av σ post := zMet_of hy ho hq hl hlv body
theorem zB.blind {D : va_G} {K : Nat → ClassId} {q : Nat → Nat} {av : List Value} {σ : zm} : FrameBlind (va_Pc av (zB D K q σ)) := by
  intro a U g mk h
  obtain ⟨h0, h1, h2, h3⟩ := h
  exact ⟨h0, h1, va_K.moved (u := U) (U := U.calling g mk a) (Vm.Alike.refl U.vm) h2, h3.blind⟩
section ZM
variable {p : Program} {l : Launch} {e : Env} {R : Room} {s : State} {m : MethodId} {args : Array Value} {below : List Frame} {meth : Method} {c : Code} {cc : ByteArray} {nL ce sl : Nat} {own : String} {D : va_G} {K : Nat → ClassId} {q : Nat → Nat} {A : Nat → Prop} {Q : State → Prop} {σ : zm} {pc pc' : Nat} {lv lv' : List (Nat × Value)} {st rest : List Value}
theorem zX.a (hC : zX p s m args c cc nL own D K q A) : ∀ a, zA q a → A a := fun a h => by
  obtain ⟨j, hj, rfl⟩ := h
  exact hC.2.2.2.2.2.2.2.1 j hj
theorem zX.pre (hC : zX p s m args c cc nL own D K q A) {H : Heap} {locs : List Loc} (hP : va_P D zcl (zw K q σ) H) (hS : va_S A s.heap H locs) (av : List Value) : ∀ U : State, U.heap = H → s.WarmedH U.vm → va_Pc av (zB D K q σ) av.toArray U := fun U hU hW => ⟨rfl, by rw [hU]; exact hP, va_K.moved hW.alike hC.k, hC.ee.step hW hS hU hC.a⟩
theorem zX.fix (hC : zX p s m args c cc nL own D K q A) : CallFix p m c cc nL s args zT own := ⟨hC.1, hC.2.1, hC.2.2.1, hC.o, hC.t⟩
theorem g_goi {a : Array Value} {post : Int32 → zm → Prop} (hC : zX p s m args c cc nL own D K q A) (hp : pc + 3 = pc')
    (hr : ∀ (H : Heap) (locs : List Loc) (ls : Array Slot), va_P D zcl (zw K q σ) H → va_S A s.heap H locs → lv_has ls nL lv → va_Run p l e R s m args below meth c H locs ce sl 0 0 (F0 m pc ls st) rest (va_Qi post (zO D K q) (zA q) a) (zA q))
    (kk : ∀ (r : Int32) (σ' : zm), post r σ' → zG p l e R s m args below meth c D K q A nL ce sl Q σ' pc' lv (.int r :: rest)) : zG p l e R s m args below meth c D K q A nL ce sl Q σ pc lv st := by
  subst hp
  exact fun H locs ls hP hS hl => va_calli (hr H locs ls hP hS hl) hS (fun a _ h => hC.a a h) hC.a (fun r u t H1 locs1 ht hvm hpost hB hz hk hS1 => kk r u hpost H1 locs1 ls (by rw [← ht]; exact hB) hS1 hl)
theorem g_gov {a : Array Value} {post : zm → Prop} (hC : zX p s m args c cc nL own D K q A) (hp : pc + 3 = pc')
    (hr : ∀ (H : Heap) (locs : List Loc) (ls : Array Slot), va_P D zcl (zw K q σ) H → va_S A s.heap H locs → lv_has ls nL lv → va_Run p l e R s m args below meth c H locs ce sl 0 0 (F0 m pc ls st) rest (va_Qv post (zO D K q) (zA q) a) (zA q))
    (kk : ∀ (σ' : zm), post σ' → zG p l e R s m args below meth c D K q A nL ce sl Q σ' pc' lv rest) : zG p l e R s m args below meth c D K q A nL ce sl Q σ pc lv st := by
  subst hp
  exact fun H locs ls hP hS hl => va_callv (hr H locs ls hP hS hl) hS (fun a _ h => hC.a a h) hC.a (fun u t H1 locs1 ht hvm hpost hB hz hk hS1 => kk u hpost H1 locs1 ls (by rw [← ht]; exact hB) hS1 hl)
/-- the words of a call: virtual, static, static of a nest mate -/
def zY (y : MethodName) (cc : ByteArray) (nL : Nat) (ret : Option FieldType) (n : Nat) : Prop := Cond.code y cc nL ret ∈ zT ∧ Cond.initialized y.cls ∈ zT ∧ (y.cls ≠ "java/lang/invoke/MethodHandle" ∧ y.cls ≠ "java/lang/invoke/VarHandle" ∧ (parseMethodDescriptor y.desc).map (fun d => d.parameters.length) = some n) ∧ nL ≤ 11
def zYv (own : String) (index : Nat) (y : MethodName) (ci : Nat) : Prop := Cond.methodLink own index y ∈ zT ∧ Cond.instanceMethod y ∈ zT ∧ Cond.selects y.cls y y ∈ zT ∧ (zcl[ci]?).map (fun x => x.1) = some y.cls
def zYs (own : String) (index : Nat) (y : MethodName) : Prop := Cond.methodLink own index y ∈ zT ∧ Cond.static y ∈ zT
def zYn (own : String) (index : Nat) (y : MethodName) (host : String) : Prop := Cond.methodLinkNest own index y host ∈ zNw ∧ Cond.static y ∈ zT
theorem zT_in {ws : List Cond} (h : ∀ w ∈ ws, w ∈ zT) : GoodIn zT ws := fun w hw => ⟨h w hw, good_of_word (zT_good w (h w hw))⟩
theorem zr_room {d nL' : Nat} (hn : nL' ≤ 11) (hR : d + 1 ≤ R.frames ∧ 30 * d + 30 ≤ R.locals) : (zrm d).frames + 1 ≤ R.frames ∧ 8 + (nL' + 11) + (zrm d).locals ≤ R.locals := ⟨hR.1, by show 8 + (nL' + 11) + 30 * d ≤ R.locals; omega⟩
theorem z_runV {y : MethodName} {cc' : ByteArray} {nL' : Nat} {ret : Option FieldType} {d index ci b : Nat} {As : List Value} {fl : List (Option Nat)} {Qc : Array Value → State → Outcome → State → Prop} (hC : zX p s m args c cc nL own D K q A)
    (hM : Met l y (.code y cc' nL' ret :: zT) (zrm d) (va_Pc (.ref (q b) :: As) (zB D K q σ)) Qc 0 0 (zA q)) (hY : zY y cc' nL' ret As.length) (hV : zYv own index y ci) (hb : b < zN) (hs : zS b = (0, ci, fl)) (hR : d + 1 ≤ R.frames ∧ 30 * d + 30 ≤ R.locals) (hcs : ce ≤ R.cells ∧ sl ≤ R.slots) (hst : st = As.reverse ++ .ref (q b) :: rest) (hW : (rest.map fun v => v.category).sum ≤ 8) (hdg : decode cc pc = .ok (.invokevirtual index, 3)) :
    ∀ (H : Heap) (locs : List Loc) (ls : Array Slot), va_P D zcl (zw K q σ) H → va_S A s.heap H locs → lv_has ls nL lv → va_Run p l e R s m args below meth c H locs ce sl 0 0 (F0 m pc ls st) rest (Qc (Value.ref (q b) :: As).toArray) (zA q) := by
  intro H locs ls hP hS hl
  obtain ⟨y1, y2, y3, y4⟩ := hY
  obtain ⟨v1, v2, v3, v4⟩ := hV
  obtain ⟨x, hx, hx1⟩ := Option.map_eq_some_iff.mp v4
  have hrec := va_recv hC.k hP hx (zS_obj hb hs)
  rw [hx1] at hrec
  refine va_runV hC.fix hM (cwV (C := y.cls) As.length hC.t (zT_in ?_) rfl rfl rfl ⟨rfl, y3⟩ (zr_room y4 hR)) ⟨zB.blind, hrec, hC.pre hP hS _⟩ rfl rfl hl.1 hst (lv_room hW) hdg hcs
  intro w hw
  rcases List.mem_append.mp hw with h | h
  · simp only [List.mem_cons, List.not_mem_nil, or_false] at h
    rcases h with rfl | rfl | rfl | rfl <;> assumption
  · rcases List.mem_cons.mp h with rfl | h
    · exact y1
    · exact h
theorem z_runS {y : MethodName} {cc' : ByteArray} {nL' : Nat} {ret : Option FieldType} {d index : Nat} {As : List Value} {Qc : Array Value → State → Outcome → State → Prop} (hC : zX p s m args c cc nL own D K q A)
    (hM : Met l y (.code y cc' nL' ret :: zT) (zrm d) (va_Pc As (zB D K q σ)) Qc 0 0 (zA q)) (hY : zY y cc' nL' ret As.length) (hV : zYs own index y) (hR : d + 1 ≤ R.frames ∧ 30 * d + 30 ≤ R.locals) (hcs : ce ≤ R.cells ∧ sl ≤ R.slots) (hst : st = As.reverse ++ rest) (hW : (rest.map fun v => v.category).sum ≤ 8) (hdg : decode cc pc = .ok (.invokestatic index, 3)) :
    ∀ (H : Heap) (locs : List Loc) (ls : Array Slot), va_P D zcl (zw K q σ) H → va_S A s.heap H locs → lv_has ls nL lv → va_Run p l e R s m args below meth c H locs ce sl 0 0 (F0 m pc ls st) rest (Qc As.toArray) (zA q) := by
  intro H locs ls hP hS hl
  obtain ⟨y1, y2, y3, y4⟩ := hY
  obtain ⟨v1, v2⟩ := hV
  refine va_runS hC.fix hM (va_cwS As.length hC.t (zT_in ?_) rfl rfl rfl y3 (zr_room y4 hR)) ⟨zB.blind, hC.pre hP hS _⟩ rfl rfl hl.1 hst (lv_room hW) hdg hcs
  intro w hw
  rcases List.mem_append.mp hw with h | h
  · simp only [List.mem_cons, List.not_mem_nil, or_false] at h
    rcases h with rfl | rfl | rfl <;> assumption
  · rcases List.mem_cons.mp h with rfl | h
    · exact y1
    · exact h
theorem z_runN {y : MethodName} {cc' : ByteArray} {nL' : Nat} {ret : Option FieldType} {d index : Nat} {host : String} {As : List Value} {Qc : Array Value → State → Outcome → State → Prop} (hC : zX p s m args c cc nL own D K q A)
    (hM : Met l y (.code y cc' nL' ret :: zT) (zrm d) (va_Pc As (zB D K q σ)) Qc 0 0 (zA q)) (hY : zY y cc' nL' ret As.length) (hV : zYn own index y host) (hR : d + 1 ≤ R.frames ∧ 30 * d + 30 ≤ R.locals) (hcs : ce ≤ R.cells ∧ sl ≤ R.slots) (hst : st = As.reverse ++ rest) (hW : (rest.map fun v => v.category).sum ≤ 8) (hdg : decode cc pc = .ok (.invokestatic index, 3)) :
    ∀ (H : Heap) (locs : List Loc) (ls : Array Slot), va_P D zcl (zw K q σ) H → va_S A s.heap H locs → lv_has ls nL lv → va_Run p l e R s m args below meth c H locs ce sl 0 0 (F0 m pc ls st) rest (Qc As.toArray) (zA q) := by
  intro H locs ls hP hS hl
  obtain ⟨y1, y2, y3, y4⟩ := hY
  obtain ⟨v1, v2⟩ := hV
  have hG : GoodIn zT (Cond.code y cc' nL' ret :: zT) := zT_in (fun w hw => by
    rcases List.mem_cons.mp hw with rfl | h
    · exact y1
    · exact h)
  exact va_runSN (host := host) hC.fix hM ⟨va_cnB As.length hC.t hG rfl rfl rfl (hC.ee.1 _ v1) (hC.t _ y2) y3 (zr_room y4 hR), hC.t _ v2, trivial⟩ ⟨zB.blind, hC.pre hP hS _⟩ rfl rfl hl.1 hst (lv_room hW) hdg hcs
-- the ends of a method
theorem g_iret {post : Int32 → zm → Prop} {v : Int32} (hC : zX p s m args c cc nL own D K q (zA q)) (hr : meth.sig.returnType = some .int) (hk : meth.locks = false) (hdg : decode cc pc = .ok (.ireturn, 1)) (hpo : post v σ) : zG p l e R s m args below meth c D K q (zA q) nL ce sl (MQ below (va_Qi post (zO D K q) (zA q)) args s ce sl (zA q)) σ pc lv [.int v] := fun H locs ls hP hS hl => W.iret hC.1 hC.2.1 hr (fun t ht hW => ⟨⟨v, σ, rfl, hpo, by show va_P D zcl (zw K q σ) t.heap; rw [ht]; exact hP⟩, hS.F ht⟩) hS.2.2 hdg hk
theorem g_zret {post : Int32 → zm → Prop} {v : Int32} (hC : zX p s m args c cc nL own D K q (zA q)) (hr : meth.sig.returnType = some .boolean) (hk : meth.locks = false) (hdg : decode cc pc = .ok (.ireturn, 1)) (hv : v = 0 ∨ v = 1) (hpo : post v σ) : zG p l e R s m args below meth c D K q (zA q) nL ce sl (MQ below (va_Qi post (zO D K q) (zA q)) args s ce sl (zA q)) σ pc lv [.int v] := fun H locs ls hP hS hl => W.zret hC.1 hC.2.1 hr (z_zn hv).1 (fun t ht hW => ⟨⟨v, σ, rfl, hpo, by show va_P D zcl (zw K q σ) t.heap; rw [ht]; exact hP⟩, hS.F ht⟩) hS.2.2 hdg hk
theorem g_vret {post : zm → Prop} (hC : zX p s m args c cc nL own D K q (zA q)) (hr : meth.sig.returnType = none) (hk : meth.locks = false) (hdg : decode cc pc = .ok (.return_, 1)) (hpo : post σ) : zG p l e R s m args below meth c D K q (zA q) nL ce sl (MQ below (va_Qv post (zO D K q) (zA q)) args s ce sl (zA q)) σ pc lv [] := fun H locs ls hP hS hl => W.vret hC.1 hC.2.1 hr (fun t ht hW => ⟨⟨σ, rfl, hpo, by show va_P D zcl (zw K q σ) t.heap; rw [ht]; exact hP⟩, hS.F ht⟩) hS.2.2 hdg hk
end ZM
-- booleans
def zb (b : Bool) : Int32 := if b then 1 else 0
theorem zb01 (b : Bool) : zb b = 0 ∨ zb b = 1 := by cases b <;> simp [zb]
theorem zb_0 {b : Bool} : zb b = 0 ↔ b = false := by cases b <;> decide
theorem zb_n0 {b : Bool} : ¬ zb b = 0 ↔ b = true := by cases b <;> decide
theorem zb_1 {b : Bool} : zb b = 1 ↔ b = true := by cases b <;> decide
section ZBB
variable {p : Program} {l : Launch} {e : Env} {R : Room} {s : State} {m : MethodId} {args : Array Value} {below : List Frame} {meth : Method} {c : Code} {cc : ByteArray} {nL ce sl : Nat} {own : String} {D : va_G} {K : Nat → ClassId} {q : Nat → Nat} {A : Nat → Prop} {Q : State → Prop} {σ : zm} {pc pc' : Nat} {lv lv' : List (Nat × Value)} {st rest : List Value}
theorem g_ifeq_b (hC : zX p s m args c cc nL own D K q A) {b : Bool} {off : Int} (tgt : Nat) (hdg : decode cc pc = .ok (.ifCond .eq off, 3)) (ht : (pc : Int) + off = (tgt : Int)) (hp : pc + 3 = pc') (kt : b = false → zG p l e R s m args below meth c D K q A nL ce sl Q σ tgt lv st) (kf : b = true → zG p l e R s m args below meth c D K q A nL ce sl Q σ pc' lv st) : zG p l e R s m args below meth c D K q A nL ce sl Q σ pc lv (.int (zb b) :: st) := g_if_eq hC tgt hdg ht hp (fun h => kt (zb_0.mp h)) (fun h => kf (zb_n0.mp h))
theorem g_ifne_b (hC : zX p s m args c cc nL own D K q A) {b : Bool} {off : Int} (tgt : Nat) (hdg : decode cc pc = .ok (.ifCond .ne off, 3)) (ht : (pc : Int) + off = (tgt : Int)) (hp : pc + 3 = pc') (kt : b = true → zG p l e R s m args below meth c D K q A nL ce sl Q σ tgt lv st) (kf : b = false → zG p l e R s m args below meth c D K q A nL ce sl Q σ pc' lv st) : zG p l e R s m args below meth c D K q A nL ce sl Q σ pc lv (.int (zb b) :: st) := g_if_ne hC tgt hdg ht hp (fun h => kt (zb_n0.mp h)) (fun h => kf (zb_0.mp h))
end ZBB
