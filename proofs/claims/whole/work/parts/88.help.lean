/-! the law's helpers install and step -/
abbrev b_L_install : ByteArray := method_3_code
abbrev b_L_step : ByteArray := method_4_code
theorem d_L_install_0 : decode b_L_install 0 = .ok (.aload_n 1, 1) := by decide +kernel
theorem d_L_install_1 : decode b_L_install 1 = .ok (.iconst 0, 1) := by decide +kernel
theorem d_L_install_2 : decode b_L_install 2 = .ok (.aload_n 0, 1) := by decide +kernel
theorem d_L_install_3 : decode b_L_install 3 = .ok (.invokevirtual 7, 3) := by decide +kernel
theorem d_L_install_6 : decode b_L_install 6 = .ok (.i2l, 1) := by decide +kernel
theorem d_L_install_7 : decode b_L_install 7 = .ok (.lastore, 1) := by decide +kernel
theorem d_L_install_8 : decode b_L_install 8 = .ok (.goto 9, 3) := by decide +kernel
theorem d_L_install_11 : decode b_L_install 11 = .ok (.astore_n 2, 1) := by decide +kernel
theorem d_L_install_12 : decode b_L_install 12 = .ok (.iconst 1, 1) := by decide +kernel
theorem d_L_install_13 : decode b_L_install 13 = .ok (.ireturn, 1) := by decide +kernel
theorem d_L_install_14 : decode b_L_install 14 = .ok (.astore_n 2, 1) := by decide +kernel
theorem d_L_install_15 : decode b_L_install 15 = .ok (.iconst 2, 1) := by decide +kernel
theorem d_L_install_16 : decode b_L_install 16 = .ok (.ireturn, 1) := by decide +kernel
theorem d_L_install_17 : decode b_L_install 17 = .ok (.iconst 0, 1) := by decide +kernel
theorem d_L_install_18 : decode b_L_install 18 = .ok (.ireturn, 1) := by decide +kernel
theorem d_L_step_0 : decode b_L_step 0 = .ok (.aload_n 1, 1) := by decide +kernel
theorem d_L_step_1 : decode b_L_step 1 = .ok (.iconst 0, 1) := by decide +kernel
theorem d_L_step_2 : decode b_L_step 2 = .ok (.aload_n 0, 1) := by decide +kernel
theorem d_L_step_3 : decode b_L_step 3 = .ok (.invokevirtual 17, 3) := by decide +kernel
theorem d_L_step_6 : decode b_L_step 6 = .ok (.i2l, 1) := by decide +kernel
theorem d_L_step_7 : decode b_L_step 7 = .ok (.lastore, 1) := by decide +kernel
theorem d_L_step_8 : decode b_L_step 8 = .ok (.goto 6, 3) := by decide +kernel
theorem d_L_step_11 : decode b_L_step 11 = .ok (.astore_n 2, 1) := by decide +kernel
theorem d_L_step_12 : decode b_L_step 12 = .ok (.iconst 1, 1) := by decide +kernel
theorem d_L_step_13 : decode b_L_step 13 = .ok (.ireturn, 1) := by decide +kernel
theorem d_L_step_14 : decode b_L_step 14 = .ok (.iconst 0, 1) := by decide +kernel
theorem d_L_step_15 : decode b_L_step 15 = .ok (.ireturn, 1) := by decide +kernel
abbrev hhI : List (Nat × Nat × Nat × Nat) := [(0, 8, 11, 13), (0, 8, 14, 15)]
abbrev hhS : List (Nat × Nat × Nat × Nat) := [(0, 8, 11, 15)]
theorem kw_L_install : Cond.codeWith y_L_install b_L_install 3 (some .int) hhI ∈ zT := zk2 130 rfl rfl
theorem kw_L_step : Cond.codeWith y_L_step b_L_step 3 (some .int) hhS ∈ zT := zk3 27 rfl rfl
theorem zMh_of {l : Launch} {y : MethodName} {cc : ByteArray} {hh : List (Nat × Nat × Nat × Nat)} {d : Nat} {D : va_G} {K : Nat → ClassId} {q : Nat → Nat} {av : List Value} {σ : zm} {post : Int32 → zm → Prop} {lv : List (Nat × Value)} {own : String} (hy : plainName y.cls = true) (ho : y.cls = own) (hq : zI q) (hl : (lg_sl av).length ≤ 3) (hlv : lv_args 0 av = lv)
    (body : ∀ (p : Program) (e : Env) (s : State) (m : MethodId) (below : List Frame) (meth : Method) (c : Code), zX p s m av.toArray c cc 3 own D K q (zA q) → meth.sig.returnType = some .int → meth.locks = false → c.exceptionTable.toList.map (fun h => (h.startPc, h.endPc, h.handlerPc, h.catchType)) = hh → zG p l e (zrt d) s m av.toArray below meth c D K q (zA q) 3 0 0 (MQ below (va_Qi post (zO D K q) (zA q)) av.toArray s 1 6 (zA q)) σ 0 lv []) :
    Met l y (.codeWith y cc 3 (some .int) hh :: zT) (zrt d) (va_Pc av (zB D K q σ)) (va_Qi post (zO D K q) (zA q)) 1 6 (zA q) := by
  refine va_MetW (hh := hh) (cc := cc) (maxL := 3) (ret := some .int) hy rfl ?_
  intro p e s m args below meth c s₁ B hml hv
  obtain ⟨rfl, hP, hK, hE⟩ := hv
  have hts := atoms_spec (ws := .codeWith y cc 3 (some .int) hh :: zT) B.pre
  have hown : s.vm.findClass own = some m.cls := by rw [← ho]; exact findClass_of_methodNamed B.named
  have hlv2 := lv_entry av (n := 3) hl
  rw [hlv] at hlv2
  rw [lg_entry_eq]
  obtain ⟨m', meth', c', h1, h2, h3, -, -, h6, -⟩ := Cond.codeWith_spec (hts _ List.mem_cons_self)
  cases B.named.symm.trans h1
  cases B.method.symm.trans h2
  cases (Stand.of_body B).code.symm.trans h3
  exact body p e s m below meth c ⟨B.exec, B.bytes, hml, hown, fun w hw => hts w (List.mem_cons_of_mem _ hw), hK, hq, fun j hj => ⟨j, hj, rfl⟩, hE⟩ B.returns B.notSynchronized h6 s.heap [] _ hP va_S.rf hlv2
theorem zet1 {c : Code} {a b d t : Nat} (h : c.exceptionTable.toList.map (fun h => (h.startPc, h.endPc, h.handlerPc, h.catchType)) = [(a, b, d, t)]) : ∃ x, c.exceptionTable.toList = [x] ∧ x.startPc = a ∧ x.endPc = b ∧ x.handlerPc = d ∧ x.catchType = t := by
  cases hl : c.exceptionTable.toList with
  | nil => rw [hl] at h; cases h
  | cons x r =>
    rw [hl] at h
    cases r with
    | nil =>
      simp only [List.map_cons, List.map_nil, List.cons.injEq, Prod.mk.injEq, and_true] at h
      exact ⟨x, rfl, h.1, h.2.1, h.2.2.1, h.2.2.2⟩
    | cons y r => simp at h
theorem zet2 {c : Code} {a b d t a' b' d' t' : Nat} (h : c.exceptionTable.toList.map (fun h => (h.startPc, h.endPc, h.handlerPc, h.catchType)) = [(a, b, d, t), (a', b', d', t')]) : ∃ x y, c.exceptionTable.toList = [x, y] ∧ (x.startPc = a ∧ x.endPc = b ∧ x.handlerPc = d ∧ x.catchType = t) ∧ y.startPc = a' ∧ y.endPc = b' ∧ y.handlerPc = d' ∧ y.catchType = t' := by
  cases hl : c.exceptionTable.toList with
  | nil => rw [hl] at h; cases h
  | cons x r =>
    rw [hl] at h
    cases r with
    | nil => simp at h
    | cons y r =>
      cases r with
      | nil =>
        simp only [List.map_cons, List.map_nil, List.cons.injEq, Prod.mk.injEq, and_true] at h
        exact ⟨x, y, rfl, h.1, h.2⟩
      | cons z r => simp at h
theorem zcov {x : ExceptionTableEntry} {b pc : Nat} (h1 : x.startPc = 0) (h2 : x.endPc = b) (h : pc < b) : covers x pc = true := by
  show (decide (x.startPc ≤ pc) && decide (pc < x.endPc)) = true
  rw [h1, h2, decide_eq_true (Nat.zero_le _), decide_eq_true h]
  rfl
def zPoI (σ : zm) (nm pn wn : Nat) (r : Int32) (σ' : zm) : Prop := ∃ σ1, zIns σ nm pn wn r σ1 ∧ (r = 0 → σ' = zu σ1 130 0 (nI nm)) ∧ (¬ r = 0 → σ' = σ1)
def zPoS (σ : zm) (L z : Nat) (wf : Nat → Nat) (r : Int32) (σ' : zm) : Prop := ∃ r1 σ1, zStp σ L z wf r r1 σ1 ∧ (r = 0 → σ' = zu σ1 130 0 r1) ∧ (¬ r = 0 → σ' = σ1)
set_option maxHeartbeats 4000000 in
set_option maxRecDepth 100000 in
theorem c_L_install (l : Launch) (htr : l.stackTraces = false) (D : va_G) (K : Nat → ClassId) (q : Nat → Nat) (hq : zI q) (σ : zm) (nm pn wn : Nat) (hnm : nm < 8) (hpn : pn ≤ 4) (hwn : wn ≤ 24) (h0 : σ (zp 8) 0 = nI nm) (h6 : σ (zp 8) 6 = nI pn) (h11 : σ (zp 8) 11 = nI wn) : Met l y_L_install (.codeWith y_L_install b_L_install 3 (some .int) hhI :: zT) (zrt 7) (va_Pc [.ref (q 0), .ref (q 130)] (zB D K q σ)) (va_Qi (zPoI σ nm pn wn) (zO D K q) (zA q)) 1 6 (zA q) := by
  refine zMh_of (own := "AppDeskLaw") (lv := [(0, .ref (q 0)), (1, .ref (q 130))]) (by decide) rfl hq (Nat.le_of_ble_eq_true rfl) rfl ?_
  intro p e s m below meth c hC hr hlk het
  obtain ⟨x1, x2, hl, ⟨a1, a2, a3, a4⟩, b1, b2, b3, b4⟩ := zet2 het
  refine g_aload_n hC d_L_install_0 rfl rfl ?_
  refine g_iconst hC 0 d_L_install_1 (by decide) rfl ?_
  refine g_aload_n hC d_L_install_2 rfl rfl ?_
  refine g_callT (As := []) (b := 0) (rest := [.int 0, .ref (q 130)]) hC (c_D_install l htr D K q hq σ nm pn wn hnm hpn hwn h0 h6 h11) yy_D_install yv_L_7 (by decide) rfl ⟨Nat.le_of_ble_eq_true rfl, Nat.le_of_ble_eq_true rfl⟩ ⟨Nat.le_of_ble_eq_true rfl, Nat.le_of_ble_eq_true rfl⟩ rfl (Nat.le_of_ble_eq_true rfl) d_L_install_3 (fun r σ' hp => ?_) (fun x k r σ' H locs ls T hk0 hp hP hS hlv hT X hcell => ?_)
  · obtain ⟨hp1, hp2⟩ := hp
    refine g_i2l hC d_L_install_6 rfl ?_
    refine g_last hC 130 1 0 (by decide) rfl rfl (by decide) (by decide) d_L_install_7 rfl ?_
    refine g_goto hC 17 d_L_install_8 rfl ?_
    refine g_iconst hC 0 d_L_install_17 (by decide) rfl ?_
    exact g_iret hC hr hlk d_L_install_18 ⟨σ', hp1, fun _ => by rw [hp2 rfl], fun h => absurd rfl h⟩
  · obtain ⟨ce1, c1, c2, c3⟩ := hcell
    obtain ⟨hp1, -⟩ := hp
    have hcase : k = 1 ∨ k = 2 := by
      obtain ⟨ρ, -, h | h | h⟩ := hp1
      · exact Or.inl h.1
      · exact Or.inr h.1
      · exact absurd h.1 hk0
    rcases hcase with rfl | rfl
    · obtain ⟨vm', hW, hfd⟩ := zfd_1 (g := F0 m 3 ls [.int 0, .ref (q 130)]) (nm := "java/lang/IllegalArgumentException") X rfl hC.o hl (zcov a1 a2 (Nat.le_of_ble_eq_true rfl)) (by rw [a4]; decide) (by rw [a4]; exact hC.t _ kl_L_13) (by rw [hT]; exact c1) c2 c3
      rw [a3] at hfd
      have k11 : zG p l e (zrt 7) s m ([.ref (q 0), .ref (q 130)] : List Value).toArray below meth c D K q (zA q) 3 (0 + 1) (0 + 6) (MQ below (va_Qi (zPoI σ nm pn wn) (zO D K q) (zA q)) ([.ref (q 0), .ref (q 130)] : List Value).toArray s 1 6 (zA q)) σ' 11 [(0, .ref (q 0)), (1, .ref (q 130))] [.ref x] := by
        refine g_astore_n hC d_L_install_11 rfl (by decide) ?_
        refine g_iconst hC 1 d_L_install_12 (by decide) rfl ?_
        exact g_iret hC hr hlk d_L_install_13 ⟨σ', hp1, fun h => absurd h (by decide), fun _ => rfl⟩
      obtain ⟨t, st1, hQ⟩ := k11 H locs ls hP hS hlv (T.setVm vm') hT (X.noted hW)
      exact ⟨t, zcatch X rfl hfd st1, hQ⟩
    · obtain ⟨vm', hW, hfd⟩ := zfd_2 (g := F0 m 3 ls [.int 0, .ref (q 130)]) (nm := "java/lang/IllegalStateException") (nm' := "java/lang/IllegalArgumentException") X rfl hC.o hl (zcov a1 a2 (Nat.le_of_ble_eq_true rfl)) (by rw [a4]; decide) (by rw [a4]; exact hC.t _ kl_L_13) (zcov b1 b2 (Nat.le_of_ble_eq_true rfl)) (by rw [b4]; decide) (by rw [b4]; exact hC.t _ kl_L_15) (by rw [hT]; exact c1) c2 c3 hC.ee.2.2.2.2.1
      rw [b3] at hfd
      have k14 : zG p l e (zrt 7) s m ([.ref (q 0), .ref (q 130)] : List Value).toArray below meth c D K q (zA q) 3 (0 + 1) (0 + 6) (MQ below (va_Qi (zPoI σ nm pn wn) (zO D K q) (zA q)) ([.ref (q 0), .ref (q 130)] : List Value).toArray s 1 6 (zA q)) σ' 14 [(0, .ref (q 0)), (1, .ref (q 130))] [.ref x] := by
        refine g_astore_n hC d_L_install_14 rfl (by decide) ?_
        refine g_iconst hC 2 d_L_install_15 (by decide) rfl ?_
        exact g_iret hC hr hlk d_L_install_16 ⟨σ', hp1, fun h => absurd h (by decide), fun _ => rfl⟩
      obtain ⟨t, st1, hQ⟩ := k14 H locs ls hP hS hlv (T.setVm vm') hT (X.noted hW)
      exact ⟨t, zcatch X rfl hfd st1, hQ⟩
set_option maxHeartbeats 4000000 in
set_option maxRecDepth 100000 in
theorem c_L_step (l : Launch) (htr : l.stackTraces = false) (D : va_G) (K : Nat → ClassId) (q : Nat → Nat) (hq : zI q) (σ : zm) (L z : Nat) (wf : Nat → Nat) (hL : L ≤ 8) (hL0 : σ 0 4 = nI L - 1) (hz : z ≤ 8) (hz0 : σ 2 0 = nI z) (hwf : ∀ a, a < 8 → wf a ≤ 24 ∧ σ (zp a) 11 = nI (wf a)) : Met l y_L_step (.codeWith y_L_step b_L_step 3 (some .int) hhS :: zT) (zrt 7) (va_Pc [.ref (q 0), .ref (q 130)] (zB D K q σ)) (va_Qi (zPoS σ L z wf) (zO D K q) (zA q)) 1 6 (zA q) := by
  refine zMh_of (own := "AppDeskLaw") (lv := [(0, .ref (q 0)), (1, .ref (q 130))]) (by decide) rfl hq (Nat.le_of_ble_eq_true rfl) rfl ?_
  intro p e s m below meth c hC hr hlk het
  obtain ⟨x1, hl, a1, a2, a3, a4⟩ := zet1 het
  refine g_aload_n hC d_L_step_0 rfl rfl ?_
  refine g_iconst hC 0 d_L_step_1 (by decide) rfl ?_
  refine g_aload_n hC d_L_step_2 rfl rfl ?_
  refine g_callT (As := []) (b := 0) (rest := [.int 0, .ref (q 130)]) hC (c_D_step l htr D K q hq σ L z wf hL hL0 hz hz0 hwf) yy_D_step yv_L_17 (by decide) rfl ⟨Nat.le_of_ble_eq_true rfl, Nat.le_of_ble_eq_true rfl⟩ ⟨Nat.le_of_ble_eq_true rfl, Nat.le_of_ble_eq_true rfl⟩ rfl (Nat.le_of_ble_eq_true rfl) d_L_step_3 (fun r σ' hp => ?_) (fun x k r σ' H locs ls T hk0 hp hP hS hlv hT X hcell => ?_)
  · refine g_i2l hC d_L_step_6 rfl ?_
    refine g_last hC 130 1 0 (by decide) rfl rfl (by decide) (by decide) d_L_step_7 rfl ?_
    refine g_goto hC 14 d_L_step_8 rfl ?_
    refine g_iconst hC 0 d_L_step_14 (by decide) rfl ?_
    exact g_iret hC hr hlk d_L_step_15 ⟨r, σ', hp, fun _ => rfl, fun h => absurd rfl h⟩
  · obtain ⟨ce1, c1, c2, c3⟩ := hcell
    have hk1 : k = 1 := by
      rcases hp with ⟨-, h, -⟩ | ⟨a, -, -, h⟩
      · exact absurd h hk0
      · cases hb : (zdo (zs1 σ a) a (wf a) z).1 with
        | true => rw [hb, if_pos rfl] at h; exact absurd h.1 hk0
        | false => rw [hb, if_neg (by decide)] at h; exact h.1
    subst hk1
    obtain ⟨vm', hW, hfd⟩ := zfd_1 (g := F0 m 3 ls [.int 0, .ref (q 130)]) (nm := "java/lang/IllegalStateException") X rfl hC.o hl (zcov a1 a2 (Nat.le_of_ble_eq_true rfl)) (by rw [a4]; decide) (by rw [a4]; exact hC.t _ kl_L_15) (by rw [hT]; exact c1) c2 c3
    rw [a3] at hfd
    have k11 : zG p l e (zrt 7) s m ([.ref (q 0), .ref (q 130)] : List Value).toArray below meth c D K q (zA q) 3 (0 + 1) (0 + 6) (MQ below (va_Qi (zPoS σ L z wf) (zO D K q) (zA q)) ([.ref (q 0), .ref (q 130)] : List Value).toArray s 1 6 (zA q)) σ' 11 [(0, .ref (q 0)), (1, .ref (q 130))] [.ref x] := by
      refine g_astore_n hC d_L_step_11 rfl (by decide) ?_
      refine g_iconst hC 1 d_L_step_12 (by decide) rfl ?_
      exact g_iret hC hr hlk d_L_step_13 ⟨r, σ', hp, fun h => absurd h (by decide), fun _ => rfl⟩
    obtain ⟨t, st1, hQ⟩ := k11 H locs ls hP hS hlv (T.setVm vm') hT (X.noted hW)
    exact ⟨t, zcatch X rfl hfd st1, hQ⟩
