/-! THE LAW: part, install, step -/
section ZLB
variable {p : Program} {l : Launch} {e : Env} {R : Room} {s : State} {m : MethodId} {args : Array Value} {below : List Frame} {meth : Method} {c : Code} {cc : ByteArray} {nL ce sl : Nat} {own : String} {D : va_G} {K : Nat → ClassId} {q : Nat → Nat} {A : Nat → Prop} {Q : State → Prop} {σ : zm} {pc pc' : Nat} {lv lv' : List (Nat × Value)} {st rest : List Value}
theorem g_bool (hC : zX p s m args c cc nL own D K q A) {x : Int32} (d0 : decode cc pc = .ok (.ifCond .eq 7, 3)) (d3 : decode cc (pc + 3) = .ok (.iconst 1, 1)) (d4 : decode cc (pc + 4) = .ok (.goto 4, 3)) (d7 : decode cc (pc + 7) = .ok (.iconst 0, 1)) (hp : pc + 8 = pc') (k : zG p l e R s m args below meth c D K q A nL ce sl Q σ pc' lv (.int (zb (!decide (x = 0))) :: st)) : zG p l e R s m args below meth c D K q A nL ce sl Q σ pc lv (.int x :: st) := by
  subst hp
  refine g_if_eq hC (pc + 7) d0 (by omega) rfl (fun h => ?_) (fun h => ?_)
  · refine g_iconst hC 0 d7 (by decide) rfl ?_
    rw [decide_eq_true h] at k
    exact k
  · refine g_iconst hC 1 d3 (by decide) rfl ?_
    refine g_goto hC (pc + 8) d4 (by omega) ?_
    rw [decide_eq_false h] at k
    exact k
theorem g_goH {a : Array Value} {post : Int32 → zm → Prop} (hC : zX p s m args c cc nL own D K q A) (hp : pc + 3 = pc')
    (hr : ∀ (H : Heap) (locs : List Loc) (ls : Array Slot), va_P D zcl (zw K q σ) H → va_S A s.heap H locs → lv_has ls nL lv → va_Run p l e R s m args below meth c H locs ce sl 1 6 (F0 m pc ls st) rest (va_Qi post (zO D K q) (zA q) a) (zA q))
    (kk : ∀ (r : Int32) (σ' : zm), post r σ' → zG p l e R s m args below meth c D K q A nL (ce + 1) (sl + 6) Q σ' pc' lv (.int r :: rest)) : zG p l e R s m args below meth c D K q A nL ce sl Q σ pc lv st := by
  subst hp
  exact fun H locs ls hP hS hl => va_calli (hr H locs ls hP hS hl) hS (fun a _ h => hC.a a h) hC.a (fun r u t H1 locs1 ht hvm hpost hB hz hk hS1 => kk r u hpost H1 locs1 ls (by rw [← ht]; exact hB) hS1 hl)
theorem z_runSW {y : MethodName} {cc' : ByteArray} {hh : List (Nat × Nat × Nat × Nat)} {d index : Nat} {As : List Value} {Qc : Array Value → State → Outcome → State → Prop} (hC : zX p s m args c cc nL own D K q A)
    (hM : Met l y (.codeWith y cc' 3 (some .int) hh :: zT) (zrt d) (va_Pc As (zB D K q σ)) Qc 1 6 (zA q)) (hcw : Cond.codeWith y cc' 3 (some .int) hh ∈ zT) (hini : Cond.initialized y.cls ∈ zT) (hd : y.cls ≠ "java/lang/invoke/MethodHandle" ∧ y.cls ≠ "java/lang/invoke/VarHandle" ∧ (parseMethodDescriptor y.desc).map (fun d => d.parameters.length) = some As.length) (hV : zYs own index y) (hR : d + 1 ≤ R.frames ∧ 30 * d + 30 ≤ R.locals) (hcs : ce + 1 ≤ R.cells ∧ sl + 6 ≤ R.slots) (hst : st = As.reverse ++ rest) (hW : (rest.map fun v => v.category).sum ≤ 8) (hdg : decode cc pc = .ok (.invokestatic index, 3)) :
    ∀ (H : Heap) (locs : List Loc) (ls : Array Slot), va_P D zcl (zw K q σ) H → va_S A s.heap H locs → lv_has ls nL lv → va_Run p l e R s m args below meth c H locs ce sl 1 6 (F0 m pc ls st) rest (Qc As.toArray) (zA q) := by
  intro H locs ls hP hS hl
  obtain ⟨v1, v2⟩ := hV
  have hws : ∀ w ∈ (Cond.codeWith y cc' 3 (some .int) hh :: zT), ∀ a' U, s.WarmedH U.vm → w.before a' U = true := fun w hw a' U hWU => by
    rcases List.mem_cons.mp hw with rfl | h
    · exact word_at hWU (good_of_word (zT_good _ hcw)) (hC.t _ hcw)
    · exact word_at hWU (good_of_word (zT_good w h)) (hC.t w h)
  have hK : Back l R p e below s args y 3 8 (PreOf R 1 6 (va_Pc As (zB D K q σ))) (PostOf Qc 1 6 (zA q)) := va_backW (hh := hh) (bytes := cc') (maxL := 3) (ret := some .int) hM zB.blind rfl rfl hR.1 (by show 8 + (3 + 11) + 30 * d ≤ R.locals; omega) hws List.mem_cons_self (fun a' U hWU => word_at hWU (good_of_word (zT_good _ hini)) (hC.t _ hini))
  intro T hT X
  obtain ⟨mk, methM, cM, hnamed, hmethM, -, -, -, -, -, -, hsigM⟩ := Cond.codeWith_spec (hC.t _ hcw)
  have hstatic : methM.isStatic = true := Cond.static_spec hnamed hmethM (hC.t _ v2)
  obtain ⟨kP, hkP, -⟩ := className_of_methodNamed hnamed
  have hinitP : kP.init = .initialized := Cond.initialized_spec (findClass_of_methodNamed hnamed) hkP (hC.t _ hini)
  have hlen : As.length = methM.sig.parameters.length := by
    have h2 := hd.2.2
    rw [hsigM] at h2
    exact (Option.some.inj h2).symm
  obtain ⟨vm₁, X₁, hstep₁⟩ := X.invokestatic hC.1 hC.o (hC.t _ v1) hnamed hmethM hstatic hkP hinitP ⟨hd.1, hd.2.1⟩ (g := F0 m pc ls st) rfl (argsL := As) (rest := rest) hlen hst (by rw [hC.2.1]; exact hdg)
  obtain ⟨v, ⟨U', l2, c2, s2⟩, X', ⟨g', mk', t, L, e1, e2, hq, h1, hL, h2, h3⟩, hsteps⟩ := hK m meth c ⟨T.setVm vm₁, locs, ce, sl⟩ (F0 m pc ls rest) (.invokestatic index) mk As.toArray X₁ rfl (by rw [hC.2.2.1]; exact hl.1) (by rw [hC.2.1]; exact hdg) (lv_room hW) (X₁.named hnamed) ⟨hcs.1, hcs.2, hC.pre hP hS _ (T.setVm vm₁) hT X₁.warmed⟩
  dsimp only [Jvm.Free.Pt.U, Jvm.Free.Pt.locs, Jvm.Free.Pt.cells, Jvm.Free.Pt.slots] at X' e1 e2 h1 h2 h3 hsteps
  subst h1; subst h2; subst h3
  exact ⟨v, (T.setVm vm₁).calling g' mk' As.toArray, t, U', L, hT, X', hL, e1, e2, hq, fun target h => hstep₁ _ fun acts => by rw [doInvoke_state]; exact hsteps.trans h⟩
end ZLB
theorem wpsh_130 (σ : zm) (a h : Nat) (v : Int32) : wpsh σ a h v 130 = σ 130 := by
  unfold wpsh
  rw [zu_row _ _ (by omega), zu_row _ _ (by omega)]
theorem wact_130 (σ : zm) (a o : Nat) (n : Int32) (h z : Nat) : wact σ a o n h z 130 = σ 130 := by
  unfold wact
  by_cases c : o = 13
  · rw [if_pos c, wpsh_130]
  rw [if_neg c]
  by_cases c : o = 10
  · rw [if_pos c, wpsh_130, zu_row _ _ (by omega)]
  rw [if_neg c]
  by_cases c : o = 11
  · rw [if_pos c, zu_row _ _ (by omega), zu_row _ _ (by omega), zu_row _ _ (by omega)]
  rw [if_neg c]
  unfold wqad wrow
  by_cases c2 : z < 8
  · rw [if_pos c2, zu_row _ _ (by omega), zu_row _ _ (by omega), zu_row _ _ (by omega), zu_row _ _ (by omega), zu_row _ _ (by omega)]
  · rw [if_neg c2, zu_row _ _ (by omega)]
theorem wdoe_130 (σ : zm) (a o : Nat) (n : Int32) (h z : Nat) : (wdoe σ a o n h z).1 130 = σ 130 := by
  unfold wdoe
  by_cases c : o = 0
  · rw [if_pos c]; dsimp only; rw [zu_row _ _ (by decide)]
  rw [if_neg c]
  by_cases c : o = 1
  · rw [if_pos c]; dsimp only; rw [wpsh_130]
  rw [if_neg c]
  by_cases c : o = 2 ∨ o = 3
  · rw [if_pos c]; dsimp only; rw [wpsh_130, zu_row _ _ (by decide)]
  rw [if_neg c]
  by_cases c : o = 4
  · rw [if_pos c]; dsimp only; rw [wpsh_130]
  rw [if_neg c]
  by_cases c : o = 5
  · rw [if_pos c]; dsimp only; rw [zu_row _ _ (by decide)]
  rw [if_neg c]
  by_cases c : o = 6
  · rw [if_pos c]; dsimp only; rw [wpsh_130]
  rw [if_neg c]
  by_cases c : o = 7
  · rw [if_pos c]; dsimp only; rw [zu_row _ _ (by decide), zu_row _ _ (by decide)]
  rw [if_neg c]
  by_cases c : o = 8
  · rw [if_pos c]
  rw [if_neg c]
  by_cases c : o = 9
  · rw [if_pos c]; dsimp only; rw [zu_row _ _ (by decide)]
  rw [if_neg c]; dsimp only; rw [wact_130]
theorem wst1_130 (σ : zm) (a : Nat) : wst1 σ a 130 = σ 130 := wst1_of _ (by decide)
theorem wStp_130 {σ τ : zm} {L z : Nat} {r : Int32} (h : wStp σ L z r τ) : τ 130 = σ 130 := by
  rcases h with ⟨-, -, rfl⟩ | ⟨a, p, h, o, -, -, -, -, hi⟩
  · exact wz_row _ (by decide)
  · cases hb : wfai (wst1 σ a) a o h with
    | true =>
      rw [hb, if_pos rfl] at hi
      rw [hi.2, zu_row _ _ (by decide), zu_row _ _ (by decide), wst1_130]
    | false =>
      rw [hb, if_neg (by decide)] at hi
      rw [hi.2, zu_row _ _ (by decide), wdoe_130, wst1_130]
theorem pd_I : (parseMethodDescriptor y_L_install.desc).map (fun d => d.parameters.length) = some 2 := by decide +kernel
theorem pd_S : (parseMethodDescriptor y_L_step.desc).map (fun d => d.parameters.length) = some 2 := by decide +kernel
theorem sub_L {q : Nat → Nat} {b i : Nat} {k r : Int32} : zsub (lvL q b i) (zset (zset (lvL q b i) 5 (.int k)) 6 (.int r)) := ⟨rfl, rfl, rfl, rfl, rfl, trivial⟩
section ZLC
variable {p : Program} {l : Launch} {e : Env} {s : State} {m : MethodId} {below : List Frame} {meth : Method} {c : Code} {ce sl : Nat} {D : va_G} {K : Nat → ClassId} {q : Nat → Nat} {Q : State → Prop} {σ : zm} {b L i : Nat} {xs : Nat → Int32}
set_option maxHeartbeats 4000000 in
set_option maxRecDepth 100000 in
theorem lw_2 (htr : l.stackTraces = false) (hC : zX p s m #[Value.ref b] c code 7 "AppDeskLaw" D K q (Aw s)) (hX : va_X b L xs s s.heap) (hbl : b < s.heap.size) (hq : zI q) (hi : i + 5 ≤ L) (hL : L ≤ 2560) (hcs : ce + 1 ≤ room_1.cells ∧ sl + 6 ≤ room_1.slots) (hR : Rl σ) (kk : ∀ σ2, Rl σ2 → zG p l e room_1 s m #[Value.ref b] below meth c D K q (Aw s) 7 (ce + 1) (sl + 6) Q σ2 746 (lvL q b i) []) : zG p l e room_1 s m #[Value.ref b] below meth c D K q (Aw s) 7 ce sl Q σ 198 (lvL q b i) [] := by
  have hc0 : ce ≤ room_1.cells ∧ sl ≤ room_1.slots := ⟨by omega, by omega⟩
  obtain ⟨pn, p1, p2, p3⟩ := hR.1.2.2.1
  refine g_aload_n hC d_W_198 rfl rfl ?_
  refine g_arg hC hX hbl 1 (by decide) hi hL rfl rfl d_W_199 d_W_200 d_W_202 (by decide) d_W_203 d_W_204 rfl ?_
  refine g_arg hC hX hbl 2 (by decide) hi hL rfl rfl d_W_205 d_W_206 d_W_208 (by decide) d_W_209 d_W_210 rfl ?_
  refine g_bool hC d_W_211 d_W_214 d_W_215 d_W_218 rfl ?_
  refine g_arg hC hX hbl 3 (by decide) hi hL rfl rfl d_W_219 d_W_220 d_W_222 (by decide) d_W_223 d_W_224 rfl ?_
  refine g_arg hC hX hbl 4 (by decide) hi hL rfl rfl d_W_225 d_W_226 d_W_228 (by decide) d_W_229 d_W_230 rfl ?_
  refine g_goi hC rfl (z_runV hC (c_D_part l D K q hq _ _ _ _ _ pn p1 p2) yy_D_part yv_L_34 (by decide) rfl ⟨Nat.le_of_ble_eq_true rfl, Nat.le_of_ble_eq_true rfl⟩ hc0 rfl (Nat.le_of_ble_eq_true rfl) d_W_231) (fun r1 σ1 h1 => ?_)
  refine g_aload_n hC d_W_234 rfl rfl ?_
  refine g_arg hC hX hbl 1 (by decide) hi hL rfl rfl d_W_235 d_W_236 d_W_238 (by decide) d_W_239 d_W_240 rfl ?_
  refine g_arg hC hX hbl 2 (by decide) hi hL rfl rfl d_W_241 d_W_242 d_W_244 (by decide) d_W_245 d_W_246 rfl ?_
  refine g_bool hC d_W_247 d_W_250 d_W_251 d_W_254 rfl ?_
  refine g_arg hC hX hbl 3 (by decide) hi hL rfl rfl d_W_255 d_W_256 d_W_258 (by decide) d_W_259 d_W_260 rfl ?_
  refine g_arg hC hX hbl 4 (by decide) hi hL rfl rfl d_W_261 d_W_262 d_W_264 (by decide) d_W_265 d_W_266 rfl ?_
  refine g_goi hC rfl (z_runV hC (c_M_part l D K q hq _ _ _ _ _ pn p1 (K_part p3 h1.2)) yy_M_part yv_L_38 (by decide) rfl ⟨Nat.le_of_ble_eq_true rfl, Nat.le_of_ble_eq_true rfl⟩ hc0 rfl (Nat.le_of_ble_eq_true rfl) d_W_267) (fun r2 σ2 h2 => ?_)
  obtain ⟨e1, hR2⟩ := L_part hR p2 h1 h2
  exact g_icmp_eq hC 746 d_W_270 rfl rfl (fun _ => zG.widen (kk σ2 hR2) (by omega) (by omega)) (fun h => absurd e1 h)
set_option maxHeartbeats 4000000 in
set_option maxRecDepth 100000 in
theorem lw_7 (htr : l.stackTraces = false) (hC : zX p s m #[Value.ref b] c code 7 "AppDeskLaw" D K q (Aw s)) (hX : va_X b L xs s s.heap) (hbl : b < s.heap.size) (hq : zI q) (hi : i + 5 ≤ L) (hL : L ≤ 2560) (hcs : ce + 1 ≤ room_1.cells ∧ sl + 6 ≤ room_1.slots) (hR : Rl σ) (kk : ∀ σ2, Rl σ2 → zG p l e room_1 s m #[Value.ref b] below meth c D K q (Aw s) 7 (ce + 1) (sl + 6) Q σ2 746 (lvL q b i) []) : zG p l e room_1 s m #[Value.ref b] below meth c D K q (Aw s) 7 ce sl Q σ 373 (lvL q b i) [] := by
  obtain ⟨pn, p1, p2, p3⟩ := hR.1.2.2.1
  obtain ⟨wn, w1, w2, w3⟩ := hR.1.2.2.2.1
  obtain ⟨nm, n1, n2, n3⟩ := hR.2.1.1
  refine g_aload_n hC d_W_373 rfl rfl ?_
  refine g_aload_n hC d_W_374 rfl rfl ?_
  refine g_goH hC rfl (z_runSW (As := [.ref (q 0), .ref (q 130)]) (rest := []) hC (c_L_install l htr D K q hq σ nm pn wn n1 p1 w1 n2 p2 w2) kw_L_install ki_L ⟨by decide, by decide, pd_I⟩ ⟨km_L_57, kt_L_install⟩ ⟨Nat.le_of_ble_eq_true rfl, Nat.le_of_ble_eq_true rfl⟩ hcs rfl (Nat.le_of_ble_eq_true rfl) d_W_375) (fun k σ1' h1 => ?_)
  obtain ⟨σ1, hI, hz, hnz⟩ := h1
  have h130 : ∀ a, a ≠ 130 → σ1' a = σ1 a := fun a ha => by
    by_cases ck : k = 0
    · rw [hz ck, zu_row _ _ ha]
    · rw [hnz ck]
  have hhi : ∀ a, 104 ≤ a → a ≠ 130 → σ1' a = σ a := fun a h h' => by rw [h130 a h', zIns_hi n1 hI a h]
  refine g_istore hC d_W_378 rfl (by decide) ?_
  refine g_aload_n hC d_W_380 rfl rfl ?_
  refine g_goi hC rfl (z_runV hC (c_M_install l D K q hq σ1' nm pn wn n1 p1 w1 (by rw [hhi 104 (by decide) (by decide)]; exact n3) (by rw [hhi 111 (by decide) (by decide)]; exact p3) (by rw [hhi 116 (by decide) (by decide)]; exact w3) (fun t ht => by
      rw [hhi 113 (by decide) (by decide)]
      have h3 := (hR.1.2.2.2.2.2.1 t ht).2.1
      have h4 : σ (zp 8 + 3) t = σ 113 (32 + t) := h3.1
      rw [← h4]
      exact h3.2)) yy_M_install yv_L_62 (by decide) rfl ⟨Nat.le_of_ble_eq_true rfl, Nat.le_of_ble_eq_true rfl⟩ hcs rfl (Nat.le_of_ble_eq_true rfl) d_W_381) (fun r2 σ2 h2 => ?_)
  obtain ⟨e1, e2, hR2⟩ := L_install hR n1 p1 w1 p2 w2 hI h130 h2
  have hout : k = 0 → σ2 130 0 = r2 := fun hk => by
    rw [e2 hk]
    obtain ⟨τ, v, t1, -, t3⟩ := h2
    have e3 : τ 130 = σ1' 130 := t1 130 (by decide)
    have e4 : σ1' 130 0 = nI nm := by rw [hz hk, zu_eq]
    by_cases cv : v = 0
    · rw [if_pos cv] at t3
      rw [t3.2, wins_o n1 (by omega), e3, e4]
    · rw [if_neg cv] at t3
      rw [t3.2, zu_r _ _ (by decide), e3, e4]
  refine g_istore hC d_W_384 rfl (by decide) ?_
  refine g_aload_n hC d_W_386 rfl rfl ?_
  refine g_goi hC rfl (z_runV hC (c_M_thrown l D K q hq σ2) yy_M_thrown yv_L_63 (by decide) rfl ⟨Nat.le_of_ble_eq_true rfl, Nat.le_of_ble_eq_true rfl⟩ hcs rfl (Nat.le_of_ble_eq_true rfl) d_W_387) (fun r3 σ3 h3 => ?_)
  obtain ⟨rfl, rfl⟩ := h3
  refine g_iload hC d_W_390 rfl rfl ?_
  refine g_icmp_eq hC 397 d_W_392 rfl rfl (fun _ => ?_) (fun h => absurd e1 h)
  refine g_iload hC d_W_397 rfl rfl ?_
  have fin := g_goto (lv := zset (zset (lvL q b i) 5 (.int k)) 6 (.int r2)) hC 746 d_W_414 rfl (zG.sub sub_L (kk σ3 hR2))
  refine g_if_ne hC 414 d_W_399 rfl rfl (fun _ => fin) (fun hk => ?_)
  refine g_aload_n hC d_W_402 rfl rfl ?_
  refine g_iconst hC 0 d_W_403 (by decide) rfl ?_
  refine g_lald hC 130 1 0 (by decide) rfl rfl (by decide) (by decide) d_W_404 rfl ?_
  refine g_iload hC d_W_405 rfl rfl ?_
  refine g_i2l hC d_W_407 rfl ?_
  refine g_lcmp hC d_W_408 rfl ?_
  exact g_if_eq hC 414 d_W_409 rfl rfl (fun _ => fin) (fun h => absurd ((lg_cmp_eq _ _).mpr (by rw [hout hk])) h)
set_option maxHeartbeats 4000000 in
set_option maxRecDepth 100000 in
theorem lw_13 (htr : l.stackTraces = false) (hC : zX p s m #[Value.ref b] c code 7 "AppDeskLaw" D K q (Aw s)) (hX : va_X b L xs s s.heap) (hbl : b < s.heap.size) (hq : zI q) (hi : i + 5 ≤ L) (hL : L ≤ 2560) (hcs : ce + 1 ≤ room_1.cells ∧ sl + 6 ≤ room_1.slots) (hR : Rl σ) (kk : ∀ σ2, Rl σ2 → zG p l e room_1 s m #[Value.ref b] below meth c D K q (Aw s) 7 (ce + 1) (sl + 6) Q σ2 746 (lvL q b i) []) : zG p l e room_1 s m #[Value.ref b] below meth c D K q (Aw s) 7 ce sl Q σ 578 (lvL q b i) [] := by
  obtain ⟨z, z1, z2, z3, -⟩ := hR.2.2.2.1
  obtain ⟨L', l1, l2, l3⟩ := hR.2.2.2.2.1
  have hwf := Rl_wf hR
  refine g_aload_n hC d_W_578 rfl rfl ?_
  refine g_aload_n hC d_W_579 rfl rfl ?_
  refine g_goH hC rfl (z_runSW (As := [.ref (q 0), .ref (q 130)]) (rest := []) hC (c_L_step l htr D K q hq σ L' z (fwf σ) l1 l2 z1 z2 hwf) kw_L_step ki_L ⟨by decide, by decide, pd_S⟩ ⟨km_L_86, kt_L_step⟩ ⟨Nat.le_of_ble_eq_true rfl, Nat.le_of_ble_eq_true rfl⟩ hcs rfl (Nat.le_of_ble_eq_true rfl) d_W_580) (fun k σ1' h1 => ?_)
  obtain ⟨r1, σ1, hI, hz, hnz⟩ := h1
  have h130 : ∀ a, a ≠ 130 → σ1' a = σ1 a := fun a ha => by
    by_cases ck : k = 0
    · rw [hz ck, zu_row _ _ ha]
    · rw [hnz ck]
  have hhi : ∀ a, 104 ≤ a → a ≠ 130 → σ1' a = σ a := fun a h h' => by rw [h130 a h', zStp_hi hI a h]
  refine g_istore hC d_W_583 rfl (by decide) ?_
  refine g_aload_n hC d_W_585 rfl rfl ?_
  refine g_goi hC rfl (z_runV hC (c_M_step l D K q hq σ1' L' z l1 z1 (by rw [hhi 104 (by decide) (by decide)]; exact l3) (by rw [hhi 104 (by decide) (by decide)]; exact z3) (K_step hR (fun x h1 h2 => hhi x (by omega) (by omega)))) yy_M_step yv_L_88 (by decide) rfl ⟨Nat.le_of_ble_eq_true rfl, Nat.le_of_ble_eq_true rfl⟩ hcs rfl (Nat.le_of_ble_eq_true rfl) d_W_586) (fun r2 σ2 h2 => ?_)
  obtain ⟨e1, e2, hR2⟩ := L_step hR l1 z1 z2 hwf hI (fun hk => ⟨r1, hz hk⟩) hnz h2
  have hout : k = 0 → σ2 130 0 = r2 := fun hk => by
    rw [e2 hk, wStp_130 h2, hz hk, zu_eq]
  refine g_istore hC d_W_589 rfl (by decide) ?_
  refine g_aload_n hC d_W_591 rfl rfl ?_
  refine g_goi hC rfl (z_runV hC (c_M_thrown l D K q hq σ2) yy_M_thrown yv_L_63 (by decide) rfl ⟨Nat.le_of_ble_eq_true rfl, Nat.le_of_ble_eq_true rfl⟩ hcs rfl (Nat.le_of_ble_eq_true rfl) d_W_592) (fun r3 σ3 h3 => ?_)
  obtain ⟨rfl, rfl⟩ := h3
  refine g_iload hC d_W_595 rfl rfl ?_
  refine g_icmp_eq hC 602 d_W_597 rfl rfl (fun _ => ?_) (fun h => absurd e1 h)
  refine g_iload hC d_W_602 rfl rfl ?_
  have fin := g_goto (lv := zset (zset (lvL q b i) 5 (.int k)) 6 (.int r2)) hC 746 d_W_619 rfl (zG.sub sub_L (kk σ3 hR2))
  refine g_if_ne hC 619 d_W_604 rfl rfl (fun _ => fin) (fun hk => ?_)
  refine g_aload_n hC d_W_607 rfl rfl ?_
  refine g_iconst hC 0 d_W_608 (by decide) rfl ?_
  refine g_lald hC 130 1 0 (by decide) rfl rfl (by decide) (by decide) d_W_609 rfl ?_
  refine g_iload hC d_W_610 rfl rfl ?_
  refine g_i2l hC d_W_612 rfl ?_
  refine g_lcmp hC d_W_613 rfl ?_
  exact g_if_eq hC 619 d_W_614 rfl rfl (fun _ => fin) (fun h => absurd ((lg_cmp_eq _ _).mpr (by rw [hout hk])) h)
end ZLC
