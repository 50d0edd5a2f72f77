/-! CONSTRUCTORS: their contract, and 'new C()' with it -/
section ZCT
variable {p : Program} {l : Launch} {e : Env} {R : Room} {s : State} {m : MethodId} {args : Array Value} {below : List Frame} {meth : Method} {c : Code} {cc : ByteArray} {nL ce sl : Nat} {own : String} {D : va_G} {K : Nat → ClassId} {A : Nat → Prop} {Q : State → Prop} {ws : va_W} {pc pc' : Nat} {lv lv' : List (Nat × Value)} {st : List Value}
def zAa (a sz : Nat) : Nat → Prop := fun x => x = a ∨ sz ≤ x
def zrc2 (d mc ms : Nat) : Room := { frames := d, cells := mc, slots := ms, locals := 30 * d }
/-- a constructor without arguments, called on a fresh cell: it makes the cells cw K b, the first is the fresh one -/
def zQc (D : va_G) (K : Nat → ClassId) (cw : (Nat → ClassId) → (Nat → Nat) → va_W) (a sz : Nat) : Array Value → State → Outcome → State → Prop := va_Qv (fun b : Nat → Nat => b 0 = a) (fun b t => va_P D zcl (cw K b) t.heap ∧ va_D (zAa a sz) (cw K b)) (zAa a sz)
def zCt (l : Launch) (y : MethodName) (cc : ByteArray) (nL d mc ms ci : Nat) (fs : List Value) (cw : (Nat → ClassId) → (Nat → Nat) → va_W) (B : State → Prop) : Prop :=
  ∀ (D : va_G) (K : Nat → ClassId) (a sz : Nat), a < sz → Met l y (.code y cc nL none :: zT) (zrc2 d mc ms) (va_Pc [.ref a] (fun U => U.heap.size = sz ∧ va_P D zcl [(a, .inr (ci, fs))] U.heap ∧ va_K D zcl (zty K) U ∧ B U)) (zQc D K cw a sz) mc ms (zAa a sz)
theorem bD1 {a sz : Nat} {x : va_E} : va_D (zAa a sz) [(a, x)] := by
  refine ⟨fun i j u v hu hv _ => ?_, fun k u hu => ?_⟩
  · have h1 := (List.getElem?_eq_some_iff.mp hu).1
    have h2 := (List.getElem?_eq_some_iff.mp hv).1
    have h1 : i < 1 := h1
    have h2 : j < 1 := h2
    omega
  · have h1 : k < 1 := (List.getElem?_eq_some_iff.mp hu).1
    rw [show k = 0 by omega] at hu
    cases hu
    exact Or.inl rfl
theorem zCt.of {y : MethodName} {d mc ms ci : Nat} {fs : List Value} {cw : (Nat → ClassId) → (Nat → Nat) → va_W} {B : State → Prop} (hy : plainName y.cls = true) (ho : y.cls = own) (hnm : y.name = "<init>") (hl : 1 ≤ nL)
    (body : ∀ (D : va_G) (K : Nat → ClassId) (a : Nat) (p : Program) (e : Env) (s : State) (m : MethodId) (below : List Frame) (meth : Method) (c : Code), bX p s m ([.ref a] : List Value).toArray c cc nL own D K (zAa a s.heap.size) → B s → meth.sig.returnType = none → meth.locks = false → meth.name = "<init>" → bG p l e (zrc2 d mc ms) s m ([.ref a] : List Value).toArray below meth c D (zAa a s.heap.size) nL 0 0 (MQ below (zQc D K cw a s.heap.size) ([.ref a] : List Value).toArray s mc ms (zAa a s.heap.size)) [(a, .inr (ci, fs))] 0 [(0, .ref a)] []) :
    zCt l y cc nL d mc ms ci fs cw B := by
  intro D K a sz ha
  refine Met.ofW (cc := cc) (maxL := nL) (ret := none) hy rfl ?_
  intro p e s m args below meth c s₁ B1 hml hv
  obtain ⟨rfl, rfl, hP, hK, hB⟩ := hv
  have hts := atoms_spec (ws := .code y cc nL none :: zT) B1.pre
  have hown : s.vm.findClass own = some m.cls := by rw [← ho]; exact findClass_of_methodNamed B1.named
  have hlv2 := lv_entry ([.ref a] : List Value) (n := nL) hl
  rw [lg_entry_eq]
  exact body D K a p e s m below meth c ⟨B1.exec, B1.bytes, hml, hown, fun w hw => hts w (List.mem_cons_of_mem _ hw), hK, fun x hx => Or.inr hx⟩ hB B1.returns B1.notSynchronized ((name_of_methodNamed B1.named B1.method).1.trans hnm) s.heap [] _ hP bD1 va_S.rf hlv2
theorem b_cret {a : Nat} {mc ms : Nat} {cw : (Nat → ClassId) → (Nat → Nat) → va_W} (hC : bX p s m args c cc nL own D K (zAa a s.heap.size)) (hr : meth.sig.returnType = none) (hk : meth.locks = false) (hdg : decode cc pc = .ok (.return_, 1)) (b : Nat → Nat) (hb : b 0 = a) (hw : ws = cw K b) (h1 : ce ≤ mc) (h2 : sl ≤ ms) : bG p l e R s m args below meth c D (zAa a s.heap.size) nL ce sl (MQ below (zQc D K cw a s.heap.size) args s mc ms (zAa a s.heap.size)) ws pc lv [] := by
  subst hw
  exact fun H locs ls hP hD hS hl => W.widen h1 h2 (W.vret hC.1 hC.2.1 hr (fun t ht hW => ⟨⟨b, rfl, hb, by rw [ht]; exact hP, hD⟩, hS.F ht⟩) hS.2.2 hdg hk)
/-- the words of 'new C()' at a place -/
def zNw2 (own : String) (iN iM : Nat) (C : String) (T : u_T) (N ci : Nat) (ty : Nat → FieldType) (fs : List Value) (y : MethodName) (cc' : ByteArray) (nL' : Nat) : Prop :=
  ((∀ w ∈ u_ws C T N, w ∈ zT) ∧ (∀ k, k < N → parseFieldDescriptor (T k).2.2.1 = some (ty k)) ∧ Cond.classLink own iN C ∈ zT ∧ Cond.instantiable C N ∈ zT ∧ Cond.initialized C ∈ zT ∧ zcl[ci]? = some (C, T, N) ∧ ∀ j, j < N → defaultValue (ty j) = vp_V fs j) ∧
  (Cond.code y cc' nL' none ∈ zT ∧ Cond.initialized y.cls ∈ zT ∧ Cond.methodLink own iM y ∈ zT ∧ Cond.instanceMethod y ∈ zT ∧ y.name = "<init>" ∧ (y.cls ≠ "java/lang/invoke/MethodHandle" ∧ y.cls ≠ "java/lang/invoke/VarHandle" ∧ (parseMethodDescriptor y.desc).map (fun d => d.parameters.length) = some 0) ∧ nL' ≤ 11)
theorem b_newC {y : MethodName} {cc' : ByteArray} {nL' d mc ms ci N iN iM : Nat} {C : String} {T : u_T} {ty : Nat → FieldType} {fs : List Value} {cw : (Nat → ClassId) → (Nat → Nat) → va_W} {B : State → Prop} (hC : bX p s m args c cc nL own D K A)
    (hM : zCt l y cc' nL' d mc ms ci fs cw B) (hB : B s) (hBm : ∀ u U : State, u.vm.Alike U.vm → B u → B U) (hw : zNw2 own iN iM C T N ci ty fs y cc' nL') (hR : d + 1 ≤ R.frames ∧ 30 * d + 30 ≤ R.locals) (hcs : ce + 1 + mc ≤ R.cells ∧ sl + N + ms ≤ R.slots) (hst : (st.map fun v => v.category).sum + 1 ≤ 8)
    (hd0 : decode cc pc = .ok (.new iN, 3)) (hd3 : decode cc (pc + 3) = .ok (.dup, 1)) (hd4 : decode cc (pc + 4) = .ok (.invokespecial iM, 3)) (hp : pc + 7 = pc')
    (kk : ∀ b : Nat → Nat, bG p l e R s m args below meth c D A nL (ce + 1 + mc) (sl + N + ms) Q (ws ++ cw K b) pc' lv (.ref (b 0) :: st)) : bG p l e R s m args below meth c D A nL ce sl Q ws pc lv st := by
  subst hp
  obtain ⟨⟨w1, w2, w3, w4, w5, w6, w7⟩, v1, v2, v3, v4, v5, v6, v7⟩ := hw
  refine b_new hC w1 w2 w3 w4 w5 w6 w7 ⟨by omega, by omega⟩ hd0 rfl (fun a => ?_)
  refine b_dup hC hd3 rfl rfl ?_
  intro H locs ls hP hD hS hl
  have hat : (ws ++ [((a, .inr (ci, fs)) : Nat × va_E)])[ws.length]? = some (a, .inr (ci, fs)) := by simp
  have hx := hP _ _ hat
  have hlt : a < H.size := hx.lt
  have hPa : va_P D zcl [(a, .inr (ci, fs))] H := fun k x hk => by
    have h1 : k < 1 := (List.getElem?_eq_some_iff.mp hk).1
    rw [show k = 0 by omega] at hk
    cases hk
    exact hx
  have hA1 : ∀ x, zAa a H.size x → A x := fun x h => by
    rcases h with rfl | h
    · exact hD.2 _ _ hat
    · exact hC.a x (Nat.le_trans hS.1 h)
  have hG : GoodIn zT (Cond.code y cc' nL' none :: zT) := zT_in (fun w hw => by
    rcases List.mem_cons.mp hw with rfl | h
    · exact v1
    · exact h)
  have hws : ∀ (k : Nat) (x : Nat × va_E), ws[k]? = some x → x.1 < H.size ∧ x.1 ≠ a := fun k x hk => by
    have hkl : k < ws.length := (List.getElem?_eq_some_iff.mp hk).1
    have hk2 : (ws ++ [((a, .inr (ci, fs)) : Nat × va_E)])[k]? = some x := by rw [List.getElem?_append_left hkl]; exact hk
    refine ⟨(hP _ _ hk2).lt, fun e1 => ?_⟩
    have := hD.1 k ws.length x _ hk2 hat e1
    omega
  refine va_callv (va_runI (As := []) (rest := .ref a :: st) hC.fix (hM D K a H.size hlt) (cwI 0 hC.t hG rfl rfl rfl (hC.t _ v2) (hC.t _ v3) (hC.t _ v4) v5 v6 (by
      show d + 1 ≤ R.frames ∧ 8 + (nL' + 11) + 30 * d ≤ R.locals
      omega)) ⟨fun a0 U g mk q => by
        obtain ⟨q0, q1, qP, qK, qB⟩ := q
        exact ⟨q0, q1, qP, va_K.moved (u := U) (U := U.calling g mk a0) (Vm.Alike.refl U.vm) qK, hBm U (U.calling g mk a0) (Vm.Alike.refl U.vm) qB⟩, fun U hU hW => ⟨rfl, by rw [hU], by rw [hU]; exact hPa, va_K.moved hW.alike hC.k, hBm s U hW.alike hB⟩⟩ rfl rfl hl.1 rfl (lv_room (by
      show 1 + (st.map fun v => v.category).sum ≤ 8
      omega)) hd4 hcs) hS (fun x _ h => hA1 x h) hA1 (fun b t H1 locs1 ht hvm hb0 hBt hz hk hS1 => ?_)
  obtain ⟨hP1, hD1⟩ := hBt
  rw [ht] at hP1
  have hb0 : b 0 = a := hb0
  have := kk b H1 locs1 ls (va_P.app (fun k x hkx => by
      obtain ⟨g1, g2⟩ := hws k x hkx
      have hkl : k < ws.length := (List.getElem?_eq_some_iff.mp hkx).1
      exact (hP k x (by rw [List.getElem?_append_left hkl]; exact hkx)).kept (hk x.1 g1 (fun h => by
        rcases h with h | h
        · exact g2 h
        · omega))) hP1) (va_D.app ⟨fun i j x y hx hy hxy => by
      have h1 : i < ws.length := (List.getElem?_eq_some_iff.mp hx).1
      have h2 : j < ws.length := (List.getElem?_eq_some_iff.mp hy).1
      exact hD.1 i j x y (by rw [List.getElem?_append_left h1]; exact hx) (by rw [List.getElem?_append_left h2]; exact hy) hxy, fun k x hk => by
      have h1 : k < ws.length := (List.getElem?_eq_some_iff.mp hk).1
      exact hD.2 k x (by rw [List.getElem?_append_left h1]; exact hk)⟩ (hD1.weaken (fun k x _ h => hA1 x.1 h)) (fun i j x y hx hy hxy => by
      obtain ⟨g1, g2⟩ := hws i x hx
      rcases hD1.2 j y hy with h | h
      · exact g2 (hxy.trans h)
      · rw [← hxy] at h; omega)) hS1 hl
  rw [hb0] at this
  exact this
end ZCT
/-! Arrays.fill over a row that is new -/
def zfl (n : Nat) (v : Int32) (f : Nat → Int32) : Nat → Int32 := fun i => if i < n then v else f i
set_option maxHeartbeats 4000000 in
set_option maxRecDepth 100000 in
theorem c_fillB (l : Launch) (D : va_G) (K : Nat → ClassId) (a sz n : Nat) (f : Nat → Int32) (v : Int32) (hn : n < 2 ^ 31) : Met l y_J_fill (.code y_J_fill b_J_fill 4 none :: zT) (zrm 0) (va_Pc [.ref a, .int v] (fun U => U.heap.size = sz ∧ va_P D zcl [(a, .inl (K 0, n, .inl f))] U.heap ∧ va_K D zcl (zty K) U)) (va_Qv (fun _ : Unit => True) (fun _ t => va_P D zcl [(a, .inl (K 0, n, .inl (zfl n v f)))] t.heap) (zAa a sz)) 0 0 (zAa a sz) := by
  refine Met.ofW (cc := b_J_fill) (maxL := 4) (ret := none) (by decide) rfl ?_
  intro p e s m args below meth c s₁ B hml hv
  obtain ⟨rfl, rfl, hP, hK⟩ := hv
  have hts := atoms_spec (ws := .code y_J_fill b_J_fill 4 none :: zT) B.pre
  have hown : s.vm.findClass "java/util/Arrays" = some m.cls := findClass_of_methodNamed B.named
  have hr := B.returns
  have hlk := B.notSynchronized
  have hlv2 := lv_entry ([.ref a, .int v] : List Value) (n := 4) (Nat.le_of_ble_eq_true rfl)
  rw [lg_entry_eq]
  have hC : bX p s m ([.ref a, .int v] : List Value).toArray c b_J_fill 4 "java/util/Arrays" D K (zAa a s.heap.size) := ⟨B.exec, B.bytes, hml, hown, fun w hw => hts w (List.mem_cons_of_mem _ hw), hK, fun x hx => Or.inr hx⟩
  have J5 : ∀ (g : Nat) (i : Nat) (hif : i + g = n), bG p l e (zrm 0) s m ([.ref a, .int v] : List Value).toArray below meth c D (zAa a s.heap.size) 4 0 0 (MQ below (va_Qv (fun _ : Unit => True) (fun _ t => va_P D zcl [(a, .inl (K 0, n, .inl (zfl n v f)))] t.heap) (zAa a s.heap.size)) ([.ref a, .int v] : List Value).toArray s 0 0 (zAa a s.heap.size)) [(a, .inl (K 0, n, .inl (zfl i v f)))] 5 [(0, .ref a), (1, .int v), (2, .int (nI i)), (3, .int (nI n))] [] := by
    intro g
    induction g with
    | zero =>
      intro i hif
      have hin : i = n := by omega
      refine b_iload_n hC d_J_fill_5 rfl rfl ?_
      refine b_iload_n hC d_J_fill_6 rfl rfl ?_
      refine b_icmp_ge hC 20 d_J_fill_7 rfl rfl (fun h7 => ?_) (fun h7 => absurd (nI_le (a := n) (b := i) (by omega) (by omega)) h7)
      subst hin
      exact fun H locs ls hP hD hS hl => W.vret hC.1 hC.2.1 hr (fun t ht hW => ⟨⟨(), rfl, trivial, by show va_P D zcl _ t.heap; rw [ht]; exact hP⟩, hS.F ht⟩) hS.2.2 d_J_fill_20 hlk
    | succ g ih =>
      intro i hif
      refine b_iload_n hC d_J_fill_5 rfl rfl ?_
      refine b_iload_n hC d_J_fill_6 rfl rfl ?_
      refine b_icmp_ge hC 20 d_J_fill_7 rfl rfl (fun h7 => absurd h7 (nI_ge (a := i) (b := n) (by omega) hn)) (fun h7 => ?_)
      refine b_aload_n hC d_J_fill_10 rfl rfl ?_
      refine b_iload_n hC d_J_fill_11 rfl rfl ?_
      refine b_iload_n hC d_J_fill_12 rfl rfl ?_
      refine b_iast hC 0 n i rfl rfl (by omega) hn d_J_fill_13 rfl ?_
      refine b_iinc hC (nI (i + 1)) d_J_fill_14 rfl rfl (nI_succ _).symm (by decide) ?_
      refine b_goto hC 5 d_J_fill_17 rfl ?_
      refine bG.to (ih (i + 1) (by omega)) ?_ rfl ⟨rfl, rfl, rfl, rfl, trivial⟩
      have : upd (zfl i v f) i v = zfl (i + 1) v f := by
        funext k
        unfold upd zfl
        by_cases h1 : k = i
        · subst h1; simp
        · by_cases h2 : k < i
          · rw [if_neg h1, if_pos h2, if_pos (by omega)]
          · rw [if_neg h1, if_neg h2, if_neg (by omega)]
      rw [← this]
      rfl
  have hz : zfl 0 v f = f := by funext k; simp [zfl]
  have main : bG p l e (zrm 0) s m ([.ref a, .int v] : List Value).toArray below meth c D (zAa a s.heap.size) 4 0 0 (MQ below (va_Qv (fun _ : Unit => True) (fun _ t => va_P D zcl [(a, .inl (K 0, n, .inl (zfl n v f)))] t.heap) (zAa a s.heap.size)) ([.ref a, .int v] : List Value).toArray s 0 0 (zAa a s.heap.size)) [(a, .inl (K 0, n, .inl f))] 0 [(0, .ref a), (1, .int v)] [] := by
    refine b_iconst hC (0) d_J_fill_0 (by decide) rfl ?_
    refine b_istore_n hC d_J_fill_1 rfl (by decide) ?_
    refine b_aload_n hC d_J_fill_2 rfl rfl ?_
    refine fun H locs ls hP hD hS hl => va_alen hC.1 hC.2.1 hC.k hP 0 0 rfl rfl (v := nI n) rfl d_J_fill_3 ?_
    refine b_istore_n (pc' := 5) hC d_J_fill_4 rfl (by decide) ?_ H locs ls hP hD hS hl
    exact bG.to (J5 n 0 (by omega)) (by rw [hz]) rfl ⟨rfl, rfl, rfl, rfl, trivial⟩
  exact main s.heap [] _ hP bD1 va_S.rf hlv2
section ZCF
variable {p : Program} {l : Launch} {e : Env} {R : Room} {s : State} {m : MethodId} {args : Array Value} {below : List Frame} {meth : Method} {c : Code} {cc : ByteArray} {nL ce sl : Nat} {own : String} {D : va_G} {K : Nat → ClassId} {A : Nat → Prop} {Q : State → Prop} {ws : va_W} {pc pc' : Nat} {lv lv' : List (Nat × Value)} {st : List Value}
theorem b_fill (hC : bX p s m args c cc nL own D K A) (q0 n : Nat) {index a : Nat} {f : Nat → Int32} {v : Int32} (ha : ws[q0]? = some (a, .inl (K 0, n, .inl f))) (hn : n < 2 ^ 31) (hV : zYs own index y_J_fill) (hR : 1 ≤ R.frames ∧ 30 ≤ R.locals) (hcs : ce ≤ R.cells ∧ sl ≤ R.slots) (hst : (st.map fun v => v.category).sum ≤ 8) (hdg : decode cc pc = .ok (.invokestatic index, 3)) (hp : pc + 3 = pc')
    (kk : bG p l e R s m args below meth c D A nL ce sl Q (ws.set q0 (a, .inl (K 0, n, .inl (zfl n v f)))) pc' lv st) : bG p l e R s m args below meth c D A nL ce sl Q ws pc lv (.int v :: .ref a :: st) := by
  subst hp
  intro H locs ls hP hD hS hl
  obtain ⟨v1, v2⟩ := hV
  obtain ⟨y1, y2, y3, y4⟩ := yy_J_fill
  have hx := hP _ _ ha
  have hPa : va_P D zcl [(a, .inl (K 0, n, .inl f))] H := fun k x hk => by
    have h1 : k < 1 := (List.getElem?_eq_some_iff.mp hk).1
    rw [show k = 0 by omega] at hk
    cases hk
    exact hx
  have hA1 : ∀ x, zAa a H.size x → A x := fun x h => by
    rcases h with rfl | h
    · exact hD.2 _ _ ha
    · exact hC.a x (Nat.le_trans hS.1 h)
  refine va_callv (va_runS (As := [.ref a, .int v]) (rest := st) hC.fix (c_fillB l D K a H.size n f v hn) (va_cwS 2 hC.t (zT_in (fun w hw => by
      rcases List.mem_append.mp hw with h | h
      · simp only [List.mem_cons, List.not_mem_nil, or_false] at h
        rcases h with rfl | rfl | rfl <;> assumption
      · rcases List.mem_cons.mp h with rfl | h
        · exact y1
        · exact h)) rfl rfl rfl y3 (zr_room y4 ⟨hR.1, by omega⟩)) ⟨fun a0 U g mk q => by
        obtain ⟨q0, q1, qP, qK⟩ := q
        exact ⟨q0, q1, qP, va_K.moved (u := U) (U := U.calling g mk a0) (Vm.Alike.refl U.vm) qK⟩, fun U hU hW => ⟨rfl, by rw [hU], by rw [hU]; exact hPa, va_K.moved hW.alike hC.k⟩⟩ rfl rfl hl.1 rfl (lv_room hst) hdg hcs) hS (fun x _ h => hA1 x h) hA1 (fun u t H1 locs1 ht hvm hb0 hBt hz hk hS1 => ?_)
  rw [ht] at hBt
  refine kk H1 locs1 ls (fun k x hkx => ?_) (hD.set ha) hS1 hl
  by_cases hkq : k = q0
  · subst hkq
    have hlt : k < ws.length := (List.getElem?_eq_some_iff.mp ha).1
    rw [List.getElem?_set_self hlt] at hkx
    cases hkx
    exact hBt 0 _ rfl
  · rw [List.getElem?_set_ne (Ne.symm hkq)] at hkx
    have h1 := hP k x hkx
    refine h1.kept (hk x.1 h1.lt (fun h => ?_))
    rcases h with h | h
    · exact hkq (hD.1 k q0 x _ hkx ha h)
    · have := h1.lt; omega
end ZCF
