/-! THE LAW: its calls, one by one -/
def Aw (s : State) : Nat → Prop := fun x => s.heap.size ≤ x
def lvL (q : Nat → Nat) (b i : Nat) : List (Nat × Value) := [(0, .ref b), (1, .ref (q 0)), (2, .ref (q 104)), (3, .ref (q 130)), (4, .int (nI i))]
section ZLA
variable {p : Program} {l : Launch} {e : Env} {R : Room} {s : State} {m : MethodId} {args : Array Value} {below : List Frame} {meth : Method} {c : Code} {cc : ByteArray} {nL ce sl : Nat} {own : String} {D : va_G} {K : Nat → ClassId} {q : Nat → Nat} {A : Nat → Prop} {Q : State → Prop} {σ : zm} {pc pc' : Nat} {lv lv' : List (Nat × Value)} {st rest : List Value} {b L i : Nat} {xs : Nat → Int32}
theorem zG.widen {ce' sl' : Nat} (k : zG p l e R s m args below meth c D K q A nL ce' sl' Q σ pc lv st) (h1 : ce ≤ ce') (h2 : sl ≤ sl') : zG p l e R s m args below meth c D K q A nL ce sl Q σ pc lv st := fun H locs ls hP hS hl => W.widen h1 h2 (k H locs ls hP hS hl)
theorem g_sld (hC : zX p s m args c cc nL own D K q (Aw s)) (hX : va_X b L xs s s.heap) (hbl : b < s.heap.size) {x : Int32} (k : Nat) (hx : x = nI k) (hk : k < L) (hL : L < 2 ^ 31) (hdg : decode cc pc = .ok (.iaload, 1)) (hp : pc + 1 = pc') (kk : zG p l e R s m args below meth c D K q (Aw s) nL ce sl Q σ pc' lv (.int (xs k) :: st)) : zG p l e R s m args below meth c D K q (Aw s) nL ce sl Q σ pc lv (.int x :: .ref b :: st) := by
  subst hp
  refine fun H locs ls hP hS hl => va_sld hC.1 hC.2.1 hX hbl (fun h => Nat.lt_irrefl _ (Nat.lt_of_lt_of_le hbl h)) hS (z_nI hx hk hL) hdg ?_
  rw [z_cl hx hk hL]
  exact kk H locs ls hP hS hl
theorem g_arg (hC : zX p s m args c cc nL own D K q (Aw s)) (hX : va_X b L xs s s.heap) (hbl : b < s.heap.size) (j : Nat) {jn : Int} (hj : j < 5) (hi : i + 5 ≤ L) (hL : L ≤ 2560) (h0 : zl lv 0 = some (.ref b)) (h4 : zl lv 4 = some (.int (nI i))) (d0 : decode cc pc = .ok (.aload_n 0, 1)) (d1 : decode cc (pc + 1) = .ok (.iload 4, 2)) (d3 : decode cc (pc + 3) = .ok (.iconst jn, 1)) (hjn : Int32.ofInt jn = nI j) (d4 : decode cc (pc + 4) = .ok (.iadd, 1)) (d5 : decode cc (pc + 5) = .ok (.iaload, 1)) (hp : pc + 6 = pc') (kk : zG p l e R s m args below meth c D K q (Aw s) nL ce sl Q σ pc' lv (.int (xs (i + j)) :: st)) : zG p l e R s m args below meth c D K q (Aw s) nL ce sl Q σ pc lv st := by
  subst hp
  refine g_aload_n hC d0 rfl h0 ?_
  refine g_iload hC d1 rfl h4 ?_
  refine g_iconst hC (nI j) d3 hjn rfl ?_
  refine g_iadd hC d4 rfl ?_
  exact g_sld hC hX hbl (i + j) (nI_add i j) (by omega) (by omega) d5 rfl kk
theorem g_lcmp (hC : zX p s m args c cc nL own D K q A) {x y : Int64} (hdg : decode cc pc = .ok (.lcmp, 1)) (hp : pc + 1 = pc') (k : zG p l e R s m args below meth c D K q A nL ce sl Q σ pc' lv (.int (lg_cmp x y) :: st)) : zG p l e R s m args below meth c D K q A nL ce sl Q σ pc lv (.long y :: .long x :: st) := by
  subst hp
  exact fun H locs ls hP hS hl => W.lcmp hC.1 hC.2.1 hdg (k H locs ls hP hS hl)
end ZLA
def fpf (σ : zm) : Nat → Nat := fun a => (σ (zp a) 6).toNatClampNeg
def fwf (σ : zm) : Nat → Nat := fun a => (σ (zp a) 11).toNatClampNeg
theorem Rl_pf {σ : zm} (hR : Rl σ) : ∀ a, a < 8 → fpf σ a ≤ 4 ∧ σ (zp a) 6 = nI (fpf σ a) ∧ σ 111 a = nI (fpf σ a) := fun a ha => by
  obtain ⟨pn, p1, p2, p3⟩ := (hR.2.2.1 a ha).1.2.2.1
  have e : fpf σ a = pn := by unfold fpf; rw [p2, nI_clamp (by omega)]
  rw [e]
  exact ⟨p1, p2, p3⟩
theorem Rl_wf {σ : zm} (hR : Rl σ) : ∀ a, a < 8 → fwf σ a ≤ 24 ∧ σ (zp a) 11 = nI (fwf σ a) := fun a ha => by
  obtain ⟨wn, p1, p2, p3⟩ := (hR.2.2.1 a ha).1.2.2.2.1
  have e : fwf σ a = wn := by unfold fwf; rw [p2, nI_clamp (by omega)]
  rw [e]
  exact ⟨p1, p2⟩
section ZLAW
variable {p : Program} {l : Launch} {e : Env} {s : State} {m : MethodId} {below : List Frame} {meth : Method} {c : Code} {ce sl : Nat} {D : va_G} {K : Nat → ClassId} {q : Nat → Nat} {Q : State → Prop} {σ : zm} {b L i : Nat} {xs : Nat → Int32}

set_option maxHeartbeats 4000000 in
set_option maxRecDepth 100000 in
theorem lw_0 (htr : l.stackTraces = false) (hC : zX p s m #[Value.ref b] c code 7 "AppDeskLaw" D K q (Aw s)) (hX : va_X b L xs s s.heap) (hbl : b < s.heap.size) (hq : zI q) (hi : i + 5 ≤ L) (hL : L ≤ 2560) (hcs : ce + 1 ≤ room_1.cells ∧ sl + 6 ≤ room_1.slots) (hR : Rl σ) (kk : ∀ σ2, Rl σ2 → zG p l e room_1 s m #[Value.ref b] below meth c D K q (Aw s) 7 (ce + 1) (sl + 6) Q σ2 746 (lvL q b i) []) : zG p l e room_1 s m #[Value.ref b] below meth c D K q (Aw s) 7 ce sl Q σ 124 (lvL q b i) [] := by
  have hc0 : ce ≤ room_1.cells ∧ sl ≤ room_1.slots := ⟨by omega, by omega⟩
  refine g_aload_n hC d_W_124 rfl rfl ?_
  refine g_arg hC hX hbl 1 (by decide) hi hL rfl rfl d_W_125 d_W_126 d_W_128 (by decide) d_W_129 d_W_130 rfl ?_
  refine g_arg hC hX hbl 2 (by decide) hi hL rfl rfl d_W_131 d_W_132 d_W_134 (by decide) d_W_135 d_W_136 rfl ?_
  refine g_arg hC hX hbl 3 (by decide) hi hL rfl rfl d_W_137 d_W_138 d_W_140 (by decide) d_W_141 d_W_142 rfl ?_
  refine g_goi hC rfl (z_runV hC (c_D_draft l D K q hq _ _ _ _) yy_D_draft yv_L_24 (by decide) rfl ⟨Nat.le_of_ble_eq_true rfl, Nat.le_of_ble_eq_true rfl⟩ hc0 rfl (Nat.le_of_ble_eq_true rfl) d_W_143) (fun r1 σ1 h1 => ?_)
  refine g_aload_n hC d_W_146 rfl rfl ?_
  refine g_arg hC hX hbl 1 (by decide) hi hL rfl rfl d_W_147 d_W_148 d_W_150 (by decide) d_W_151 d_W_152 rfl ?_
  refine g_arg hC hX hbl 2 (by decide) hi hL rfl rfl d_W_153 d_W_154 d_W_156 (by decide) d_W_157 d_W_158 rfl ?_
  refine g_arg hC hX hbl 3 (by decide) hi hL rfl rfl d_W_159 d_W_160 d_W_162 (by decide) d_W_163 d_W_164 rfl ?_
  refine g_goi hC rfl (z_runV hC (c_M_draft l D K q hq _ _ _ _) yy_M_draft yv_L_28 (by decide) rfl ⟨Nat.le_of_ble_eq_true rfl, Nat.le_of_ble_eq_true rfl⟩ hc0 rfl (Nat.le_of_ble_eq_true rfl) d_W_165) (fun r2 σ2 h2 => ?_)
  obtain ⟨e1, hR2⟩ := L_draft hR h1 h2
  exact g_icmp_eq hC 746 d_W_168 rfl rfl (fun _ => zG.widen (kk σ2 hR2) (by omega) (by omega)) (fun h => absurd e1 h)
set_option maxHeartbeats 4000000 in
set_option maxRecDepth 100000 in
theorem lw_1 (htr : l.stackTraces = false) (hC : zX p s m #[Value.ref b] c code 7 "AppDeskLaw" D K q (Aw s)) (hX : va_X b L xs s s.heap) (hbl : b < s.heap.size) (hq : zI q) (hi : i + 5 ≤ L) (hL : L ≤ 2560) (hcs : ce + 1 ≤ room_1.cells ∧ sl + 6 ≤ room_1.slots) (hR : Rl σ) (kk : ∀ σ2, Rl σ2 → zG p l e room_1 s m #[Value.ref b] below meth c D K q (Aw s) 7 (ce + 1) (sl + 6) Q σ2 746 (lvL q b i) []) : zG p l e room_1 s m #[Value.ref b] below meth c D K q (Aw s) 7 ce sl Q σ 173 (lvL q b i) [] := by
  have hc0 : ce ≤ room_1.cells ∧ sl ≤ room_1.slots := ⟨by omega, by omega⟩
  obtain ⟨wn, w1, w2, w3⟩ := hR.1.2.2.2.1
  refine g_aload_n hC d_W_173 rfl rfl ?_
  refine g_arg hC hX hbl 1 (by decide) hi hL rfl rfl d_W_174 d_W_175 d_W_177 (by decide) d_W_178 d_W_179 rfl ?_
  refine g_goi hC rfl (z_runV hC (c_D_word l D K q hq _ _ wn w1 w2) yy_D_word yv_L_29 (by decide) rfl ⟨Nat.le_of_ble_eq_true rfl, Nat.le_of_ble_eq_true rfl⟩ hc0 rfl (Nat.le_of_ble_eq_true rfl) d_W_180) (fun r1 σ1 h1 => ?_)
  refine g_aload_n hC d_W_183 rfl rfl ?_
  refine g_arg hC hX hbl 1 (by decide) hi hL rfl rfl d_W_184 d_W_185 d_W_187 (by decide) d_W_188 d_W_189 rfl ?_
  refine g_goi hC rfl (z_runV hC (c_M_word l D K q hq _ _ wn w1 (K_word w3 h1.2)) yy_M_word yv_L_33 (by decide) rfl ⟨Nat.le_of_ble_eq_true rfl, Nat.le_of_ble_eq_true rfl⟩ hc0 rfl (Nat.le_of_ble_eq_true rfl) d_W_190) (fun r2 σ2 h2 => ?_)
  obtain ⟨e1, hR2⟩ := L_word hR w2 h1 h2
  exact g_icmp_eq hC 746 d_W_193 rfl rfl (fun _ => zG.widen (kk σ2 hR2) (by omega) (by omega)) (fun h => absurd e1 h)
set_option maxHeartbeats 4000000 in
set_option maxRecDepth 100000 in
theorem lw_3 (htr : l.stackTraces = false) (hC : zX p s m #[Value.ref b] c code 7 "AppDeskLaw" D K q (Aw s)) (hX : va_X b L xs s s.heap) (hbl : b < s.heap.size) (hq : zI q) (hi : i + 5 ≤ L) (hL : L ≤ 2560) (hcs : ce + 1 ≤ room_1.cells ∧ sl + 6 ≤ room_1.slots) (hR : Rl σ) (kk : ∀ σ2, Rl σ2 → zG p l e room_1 s m #[Value.ref b] below meth c D K q (Aw s) 7 (ce + 1) (sl + 6) Q σ2 746 (lvL q b i) []) : zG p l e room_1 s m #[Value.ref b] below meth c D K q (Aw s) 7 ce sl Q σ 275 (lvL q b i) [] := by
  have hc0 : ce ≤ room_1.cells ∧ sl ≤ room_1.slots := ⟨by omega, by omega⟩
  refine g_aload_n hC d_W_275 rfl rfl ?_
  refine g_arg hC hX hbl 1 (by decide) hi hL rfl rfl d_W_276 d_W_277 d_W_279 (by decide) d_W_280 d_W_281 rfl ?_
  refine g_goi hC rfl (z_runV hC (c_D_ask l D K q hq _ _) yy_D_ask yv_L_39 (by decide) rfl ⟨Nat.le_of_ble_eq_true rfl, Nat.le_of_ble_eq_true rfl⟩ hc0 rfl (Nat.le_of_ble_eq_true rfl) d_W_282) (fun r1 σ1 h1 => ?_)
  refine g_aload_n hC d_W_285 rfl rfl ?_
  refine g_arg hC hX hbl 1 (by decide) hi hL rfl rfl d_W_286 d_W_287 d_W_289 (by decide) d_W_290 d_W_291 rfl ?_
  refine g_goi hC rfl (z_runV hC (c_M_ask l D K q hq _ _) yy_M_ask yv_L_42 (by decide) rfl ⟨Nat.le_of_ble_eq_true rfl, Nat.le_of_ble_eq_true rfl⟩ hc0 rfl (Nat.le_of_ble_eq_true rfl) d_W_292) (fun r2 σ2 h2 => ?_)
  obtain ⟨e1, hR2⟩ := L_ask hR h1 h2
  exact g_icmp_eq hC 746 d_W_295 rfl rfl (fun _ => zG.widen (kk σ2 hR2) (by omega) (by omega)) (fun h => absurd e1 h)
set_option maxHeartbeats 4000000 in
set_option maxRecDepth 100000 in
theorem lw_4 (htr : l.stackTraces = false) (hC : zX p s m #[Value.ref b] c code 7 "AppDeskLaw" D K q (Aw s)) (hX : va_X b L xs s s.heap) (hbl : b < s.heap.size) (hq : zI q) (hi : i + 5 ≤ L) (hL : L ≤ 2560) (hcs : ce + 1 ≤ room_1.cells ∧ sl + 6 ≤ room_1.slots) (hR : Rl σ) (kk : ∀ σ2, Rl σ2 → zG p l e room_1 s m #[Value.ref b] below meth c D K q (Aw s) 7 (ce + 1) (sl + 6) Q σ2 746 (lvL q b i) []) : zG p l e room_1 s m #[Value.ref b] below meth c D K q (Aw s) 7 ce sl Q σ 300 (lvL q b i) [] := by
  have hc0 : ce ≤ room_1.cells ∧ sl ≤ room_1.slots := ⟨by omega, by omega⟩
  refine g_aload_n hC d_W_300 rfl rfl ?_
  refine g_arg hC hX hbl 1 (by decide) hi hL rfl rfl d_W_301 d_W_302 d_W_304 (by decide) d_W_305 d_W_306 rfl ?_
  refine g_arg hC hX hbl 2 (by decide) hi hL rfl rfl d_W_307 d_W_308 d_W_310 (by decide) d_W_311 d_W_312 rfl ?_
  refine g_goi hC rfl (z_runV hC (c_D_declare l D K q hq _ _ _) yy_D_declare yv_L_43 (by decide) rfl ⟨Nat.le_of_ble_eq_true rfl, Nat.le_of_ble_eq_true rfl⟩ hc0 rfl (Nat.le_of_ble_eq_true rfl) d_W_313) (fun r1 σ1 h1 => ?_)
  refine g_aload_n hC d_W_316 rfl rfl ?_
  refine g_arg hC hX hbl 1 (by decide) hi hL rfl rfl d_W_317 d_W_318 d_W_320 (by decide) d_W_321 d_W_322 rfl ?_
  refine g_arg hC hX hbl 2 (by decide) hi hL rfl rfl d_W_323 d_W_324 d_W_326 (by decide) d_W_327 d_W_328 rfl ?_
  refine g_goi hC rfl (z_runV hC (c_M_declare l D K q hq _ _ _) yy_M_declare yv_L_47 (by decide) rfl ⟨Nat.le_of_ble_eq_true rfl, Nat.le_of_ble_eq_true rfl⟩ hc0 rfl (Nat.le_of_ble_eq_true rfl) d_W_329) (fun r2 σ2 h2 => ?_)
  obtain ⟨e1, hR2⟩ := L_declare hR h1 h2
  exact g_icmp_eq hC 746 d_W_332 rfl rfl (fun _ => zG.widen (kk σ2 hR2) (by omega) (by omega)) (fun h => absurd e1 h)
set_option maxHeartbeats 4000000 in
set_option maxRecDepth 100000 in
theorem lw_5 (htr : l.stackTraces = false) (hC : zX p s m #[Value.ref b] c code 7 "AppDeskLaw" D K q (Aw s)) (hX : va_X b L xs s s.heap) (hbl : b < s.heap.size) (hq : zI q) (hi : i + 5 ≤ L) (hL : L ≤ 2560) (hcs : ce + 1 ≤ room_1.cells ∧ sl + 6 ≤ room_1.slots) (hR : Rl σ) (kk : ∀ σ2, Rl σ2 → zG p l e room_1 s m #[Value.ref b] below meth c D K q (Aw s) 7 (ce + 1) (sl + 6) Q σ2 746 (lvL q b i) []) : zG p l e room_1 s m #[Value.ref b] below meth c D K q (Aw s) 7 ce sl Q σ 337 (lvL q b i) [] := by
  have hc0 : ce ≤ room_1.cells ∧ sl ≤ room_1.slots := ⟨by omega, by omega⟩
  obtain ⟨pn, p1, p2, p3⟩ := hR.1.2.2.1
  obtain ⟨wn, w1, w2, w3⟩ := hR.1.2.2.2.1
  refine g_aload_n hC d_W_337 rfl rfl ?_
  refine g_goi hC rfl (z_runV hC (c_D_sign l D K q hq _ pn wn p1 w1 p2 w2) yy_D_sign yv_L_48 (by decide) rfl ⟨Nat.le_of_ble_eq_true rfl, Nat.le_of_ble_eq_true rfl⟩ hc0 rfl (Nat.le_of_ble_eq_true rfl) d_W_338) (fun r1 σ1 h1 => ?_)
  refine g_aload_n hC d_W_341 rfl rfl ?_
  refine g_goi hC rfl (z_runV hC (c_M_sign l D K q hq _ pn wn p1 w1 ((K_sign h1.2).1.trans p3) ((K_sign h1.2).2.trans w3)) yy_M_sign yv_L_51 (by decide) rfl ⟨Nat.le_of_ble_eq_true rfl, Nat.le_of_ble_eq_true rfl⟩ hc0 rfl (Nat.le_of_ble_eq_true rfl) d_W_342) (fun r2 σ2 h2 => ?_)
  obtain ⟨e1, hR2⟩ := L_sign hR p1 w1 h1 h2
  exact g_icmp_eq hC 746 d_W_345 rfl rfl (fun _ => zG.widen (kk σ2 hR2) (by omega) (by omega)) (fun h => absurd e1 h)
set_option maxHeartbeats 4000000 in
set_option maxRecDepth 100000 in
theorem lw_6 (htr : l.stackTraces = false) (hC : zX p s m #[Value.ref b] c code 7 "AppDeskLaw" D K q (Aw s)) (hX : va_X b L xs s s.heap) (hbl : b < s.heap.size) (hq : zI q) (hi : i + 5 ≤ L) (hL : L ≤ 2560) (hcs : ce + 1 ≤ room_1.cells ∧ sl + 6 ≤ room_1.slots) (hR : Rl σ) (kk : ∀ σ2, Rl σ2 → zG p l e room_1 s m #[Value.ref b] below meth c D K q (Aw s) 7 (ce + 1) (sl + 6) Q σ2 746 (lvL q b i) []) : zG p l e room_1 s m #[Value.ref b] below meth c D K q (Aw s) 7 ce sl Q σ 350 (lvL q b i) [] := by
  have hc0 : ce ≤ room_1.cells ∧ sl ≤ room_1.slots := ⟨by omega, by omega⟩
  refine g_aload_n hC d_W_350 rfl rfl ?_
  refine g_arg hC hX hbl 1 (by decide) hi hL rfl rfl d_W_351 d_W_352 d_W_354 (by decide) d_W_355 d_W_356 rfl ?_
  refine g_gov hC rfl (z_runV hC (c_D_seal l D K q hq _ _) yy_D_seal yv_L_52 (by decide) rfl ⟨Nat.le_of_ble_eq_true rfl, Nat.le_of_ble_eq_true rfl⟩ hc0 rfl (Nat.le_of_ble_eq_true rfl) d_W_357) (fun σ1 h1 => ?_)
  refine g_aload_n hC d_W_360 rfl rfl ?_
  refine g_arg hC hX hbl 1 (by decide) hi hL rfl rfl d_W_361 d_W_362 d_W_364 (by decide) d_W_365 d_W_366 rfl ?_
  refine g_gov hC rfl (z_runV hC (c_M_seal l D K q hq _ _) yy_M_seal yv_L_56 (by decide) rfl ⟨Nat.le_of_ble_eq_true rfl, Nat.le_of_ble_eq_true rfl⟩ hc0 rfl (Nat.le_of_ble_eq_true rfl) d_W_367) (fun σ2 h2 => ?_)
  exact g_goto hC 746 d_W_370 rfl (zG.widen (kk σ2 (L_seal hR h1 h2)) (by omega) (by omega))
set_option maxHeartbeats 4000000 in
set_option maxRecDepth 100000 in
theorem lw_8 (htr : l.stackTraces = false) (hC : zX p s m #[Value.ref b] c code 7 "AppDeskLaw" D K q (Aw s)) (hX : va_X b L xs s s.heap) (hbl : b < s.heap.size) (hq : zI q) (hi : i + 5 ≤ L) (hL : L ≤ 2560) (hcs : ce + 1 ≤ room_1.cells ∧ sl + 6 ≤ room_1.slots) (hR : Rl σ) (kk : ∀ σ2, Rl σ2 → zG p l e room_1 s m #[Value.ref b] below meth c D K q (Aw s) 7 (ce + 1) (sl + 6) Q σ2 746 (lvL q b i) []) : zG p l e room_1 s m #[Value.ref b] below meth c D K q (Aw s) 7 ce sl Q σ 417 (lvL q b i) [] := by
  have hc0 : ce ≤ room_1.cells ∧ sl ≤ room_1.slots := ⟨by omega, by omega⟩
  obtain ⟨z, z1, z2, z3, -⟩ := hR.2.2.2.1
  refine g_aload_n hC d_W_417 rfl rfl ?_
  refine g_arg hC hX hbl 1 (by decide) hi hL rfl rfl d_W_418 d_W_419 d_W_421 (by decide) d_W_422 d_W_423 rfl ?_
  refine g_goi hC rfl (z_runV hC (c_D_remove l D K q hq _ _ z z1 z2) yy_D_remove yv_L_66 (by decide) rfl ⟨Nat.le_of_ble_eq_true rfl, Nat.le_of_ble_eq_true rfl⟩ hc0 rfl (Nat.le_of_ble_eq_true rfl) d_W_424) (fun r1 σ1 h1 => ?_)
  refine g_aload_n hC d_W_427 rfl rfl ?_
  refine g_arg hC hX hbl 1 (by decide) hi hL rfl rfl d_W_428 d_W_429 d_W_431 (by decide) d_W_432 d_W_433 rfl ?_
  refine g_goi hC rfl (z_runV hC (c_M_remove l D K q hq _ _ z z1 (K_remove z3 h1.2)) yy_M_remove yv_L_69 (by decide) rfl ⟨Nat.le_of_ble_eq_true rfl, Nat.le_of_ble_eq_true rfl⟩ hc0 rfl (Nat.le_of_ble_eq_true rfl) d_W_434) (fun r2 σ2 h2 => ?_)
  obtain ⟨e1, hR2⟩ := L_remove hR z1 z2 h1 h2
  exact g_icmp_eq hC 746 d_W_437 rfl rfl (fun _ => zG.widen (kk σ2 hR2) (by omega) (by omega)) (fun h => absurd e1 h)
set_option maxHeartbeats 4000000 in
set_option maxRecDepth 100000 in
theorem lw_9 (htr : l.stackTraces = false) (hC : zX p s m #[Value.ref b] c code 7 "AppDeskLaw" D K q (Aw s)) (hX : va_X b L xs s s.heap) (hbl : b < s.heap.size) (hq : zI q) (hi : i + 5 ≤ L) (hL : L ≤ 2560) (hcs : ce + 1 ≤ room_1.cells ∧ sl + 6 ≤ room_1.slots) (hR : Rl σ) (kk : ∀ σ2, Rl σ2 → zG p l e room_1 s m #[Value.ref b] below meth c D K q (Aw s) 7 (ce + 1) (sl + 6) Q σ2 746 (lvL q b i) []) : zG p l e room_1 s m #[Value.ref b] below meth c D K q (Aw s) 7 ce sl Q σ 442 (lvL q b i) [] := by
  have hc0 : ce ≤ room_1.cells ∧ sl ≤ room_1.slots := ⟨by omega, by omega⟩
  refine g_aload_n hC d_W_442 rfl rfl ?_
  refine g_arg hC hX hbl 1 (by decide) hi hL rfl rfl d_W_443 d_W_444 d_W_446 (by decide) d_W_447 d_W_448 rfl ?_
  refine g_arg hC hX hbl 2 (by decide) hi hL rfl rfl d_W_449 d_W_450 d_W_452 (by decide) d_W_453 d_W_454 rfl ?_
  refine g_goi hC rfl (z_runV hC (c_D_grant l D K q hq _ _ _) yy_D_grant yv_L_70 (by decide) rfl ⟨Nat.le_of_ble_eq_true rfl, Nat.le_of_ble_eq_true rfl⟩ hc0 rfl (Nat.le_of_ble_eq_true rfl) d_W_455) (fun r1 σ1 h1 => ?_)
  refine g_aload_n hC d_W_458 rfl rfl ?_
  refine g_arg hC hX hbl 1 (by decide) hi hL rfl rfl d_W_459 d_W_460 d_W_462 (by decide) d_W_463 d_W_464 rfl ?_
  refine g_arg hC hX hbl 2 (by decide) hi hL rfl rfl d_W_465 d_W_466 d_W_468 (by decide) d_W_469 d_W_470 rfl ?_
  refine g_goi hC rfl (z_runV hC (c_M_grant l D K q hq _ _ _) yy_M_grant yv_L_73 (by decide) rfl ⟨Nat.le_of_ble_eq_true rfl, Nat.le_of_ble_eq_true rfl⟩ hc0 rfl (Nat.le_of_ble_eq_true rfl) d_W_471) (fun r2 σ2 h2 => ?_)
  obtain ⟨e1, hR2⟩ := L_grant hR h1 h2
  exact g_icmp_eq hC 746 d_W_474 rfl rfl (fun _ => zG.widen (kk σ2 hR2) (by omega) (by omega)) (fun h => absurd e1 h)
set_option maxHeartbeats 4000000 in
set_option maxRecDepth 100000 in
theorem lw_10 (htr : l.stackTraces = false) (hC : zX p s m #[Value.ref b] c code 7 "AppDeskLaw" D K q (Aw s)) (hX : va_X b L xs s s.heap) (hbl : b < s.heap.size) (hq : zI q) (hi : i + 5 ≤ L) (hL : L ≤ 2560) (hcs : ce + 1 ≤ room_1.cells ∧ sl + 6 ≤ room_1.slots) (hR : Rl σ) (kk : ∀ σ2, Rl σ2 → zG p l e room_1 s m #[Value.ref b] below meth c D K q (Aw s) 7 (ce + 1) (sl + 6) Q σ2 746 (lvL q b i) []) : zG p l e room_1 s m #[Value.ref b] below meth c D K q (Aw s) 7 ce sl Q σ 479 (lvL q b i) [] := by
  have hc0 : ce ≤ room_1.cells ∧ sl ≤ room_1.slots := ⟨by omega, by omega⟩
  refine g_aload_n hC d_W_479 rfl rfl ?_
  refine g_arg hC hX hbl 1 (by decide) hi hL rfl rfl d_W_480 d_W_481 d_W_483 (by decide) d_W_484 d_W_485 rfl ?_
  refine g_arg hC hX hbl 2 (by decide) hi hL rfl rfl d_W_486 d_W_487 d_W_489 (by decide) d_W_490 d_W_491 rfl ?_
  refine g_goi hC rfl (z_runV hC (c_D_revoke l D K q hq _ _ _) yy_D_revoke yv_L_74 (by decide) rfl ⟨Nat.le_of_ble_eq_true rfl, Nat.le_of_ble_eq_true rfl⟩ hc0 rfl (Nat.le_of_ble_eq_true rfl) d_W_492) (fun r1 σ1 h1 => ?_)
  refine g_aload_n hC d_W_495 rfl rfl ?_
  refine g_arg hC hX hbl 1 (by decide) hi hL rfl rfl d_W_496 d_W_497 d_W_499 (by decide) d_W_500 d_W_501 rfl ?_
  refine g_arg hC hX hbl 2 (by decide) hi hL rfl rfl d_W_502 d_W_503 d_W_505 (by decide) d_W_506 d_W_507 rfl ?_
  refine g_goi hC rfl (z_runV hC (c_M_revoke l D K q hq _ _ _) yy_M_revoke yv_L_77 (by decide) rfl ⟨Nat.le_of_ble_eq_true rfl, Nat.le_of_ble_eq_true rfl⟩ hc0 rfl (Nat.le_of_ble_eq_true rfl) d_W_508) (fun r2 σ2 h2 => ?_)
  obtain ⟨e1, hR2⟩ := L_revoke hR h1 h2
  exact g_icmp_eq hC 746 d_W_511 rfl rfl (fun _ => zG.widen (kk σ2 hR2) (by omega) (by omega)) (fun h => absurd e1 h)
set_option maxHeartbeats 4000000 in
set_option maxRecDepth 100000 in
theorem lw_11 (htr : l.stackTraces = false) (hC : zX p s m #[Value.ref b] c code 7 "AppDeskLaw" D K q (Aw s)) (hX : va_X b L xs s s.heap) (hbl : b < s.heap.size) (hq : zI q) (hi : i + 5 ≤ L) (hL : L ≤ 2560) (hcs : ce + 1 ≤ room_1.cells ∧ sl + 6 ≤ room_1.slots) (hR : Rl σ) (kk : ∀ σ2, Rl σ2 → zG p l e room_1 s m #[Value.ref b] below meth c D K q (Aw s) 7 (ce + 1) (sl + 6) Q σ2 746 (lvL q b i) []) : zG p l e room_1 s m #[Value.ref b] below meth c D K q (Aw s) 7 ce sl Q σ 516 (lvL q b i) [] := by
  have hc0 : ce ≤ room_1.cells ∧ sl ≤ room_1.slots := ⟨by omega, by omega⟩
  obtain ⟨z, z1, z2, z3, -⟩ := hR.2.2.2.1
  refine g_aload_n hC d_W_516 rfl rfl ?_
  refine g_arg hC hX hbl 1 (by decide) hi hL rfl rfl d_W_517 d_W_518 d_W_520 (by decide) d_W_521 d_W_522 rfl ?_
  refine g_arg hC hX hbl 2 (by decide) hi hL rfl rfl d_W_523 d_W_524 d_W_526 (by decide) d_W_527 d_W_528 rfl ?_
  refine g_arg hC hX hbl 3 (by decide) hi hL rfl rfl d_W_529 d_W_530 d_W_532 (by decide) d_W_533 d_W_534 rfl ?_
  refine g_goi hC rfl (z_runV hC (c_D_send l D K q hq _ _ _ _ z z1 z2) yy_D_send yv_L_78 (by decide) rfl ⟨Nat.le_of_ble_eq_true rfl, Nat.le_of_ble_eq_true rfl⟩ hc0 rfl (Nat.le_of_ble_eq_true rfl) d_W_535) (fun r1 σ1 h1 => ?_)
  refine g_aload_n hC d_W_538 rfl rfl ?_
  refine g_arg hC hX hbl 1 (by decide) hi hL rfl rfl d_W_539 d_W_540 d_W_542 (by decide) d_W_543 d_W_544 rfl ?_
  refine g_arg hC hX hbl 2 (by decide) hi hL rfl rfl d_W_545 d_W_546 d_W_548 (by decide) d_W_549 d_W_550 rfl ?_
  refine g_arg hC hX hbl 3 (by decide) hi hL rfl rfl d_W_551 d_W_552 d_W_554 (by decide) d_W_555 d_W_556 rfl ?_
  refine g_goi hC rfl (z_runV hC (c_M_send l D K q hq _ _ _ _ z z1 (K_send z3 h1.2)) yy_M_send yv_L_81 (by decide) rfl ⟨Nat.le_of_ble_eq_true rfl, Nat.le_of_ble_eq_true rfl⟩ hc0 rfl (Nat.le_of_ble_eq_true rfl) d_W_557) (fun r2 σ2 h2 => ?_)
  obtain ⟨e1, hR2⟩ := L_send hR z2 h1 h2
  exact g_icmp_eq hC 746 d_W_560 rfl rfl (fun _ => zG.widen (kk σ2 hR2) (by omega) (by omega)) (fun h => absurd e1 h)
set_option maxHeartbeats 4000000 in
set_option maxRecDepth 100000 in
theorem lw_12 (htr : l.stackTraces = false) (hC : zX p s m #[Value.ref b] c code 7 "AppDeskLaw" D K q (Aw s)) (hX : va_X b L xs s s.heap) (hbl : b < s.heap.size) (hq : zI q) (hi : i + 5 ≤ L) (hL : L ≤ 2560) (hcs : ce + 1 ≤ room_1.cells ∧ sl + 6 ≤ room_1.slots) (hR : Rl σ) (kk : ∀ σ2, Rl σ2 → zG p l e room_1 s m #[Value.ref b] below meth c D K q (Aw s) 7 (ce + 1) (sl + 6) Q σ2 746 (lvL q b i) []) : zG p l e room_1 s m #[Value.ref b] below meth c D K q (Aw s) 7 ce sl Q σ 565 (lvL q b i) [] := by
  have hc0 : ce ≤ room_1.cells ∧ sl ≤ room_1.slots := ⟨by omega, by omega⟩
  obtain ⟨z, z1, z2, z3, -⟩ := hR.2.2.2.1
  have hpf := Rl_pf hR
  refine g_aload_n hC d_W_565 rfl rfl ?_
  refine g_goi hC rfl (z_runV hC (c_D_deliver l D K q hq _ z z1 z2 (fpf σ) (fun a ha => ⟨(hpf a ha).1, (hpf a ha).2.1⟩)) yy_D_deliver yv_L_82 (by decide) rfl ⟨Nat.le_of_ble_eq_true rfl, Nat.le_of_ble_eq_true rfl⟩ hc0 rfl (Nat.le_of_ble_eq_true rfl) d_W_566) (fun r1 σ1 h1 => ?_)
  refine g_aload_n hC d_W_569 rfl rfl ?_
  refine g_goi hC rfl (z_runV hC (c_M_deliver l D K q hq _ z z1 (by rw [h1.2, K_deliver _ _ _ (by decide)]; exact z3) (fpf σ) (fun a ha => ⟨(hpf a ha).1, by rw [h1.2, K_deliver _ _ _ (by decide)]; exact (hpf a ha).2.2⟩)) yy_M_deliver yv_L_85 (by decide) rfl ⟨Nat.le_of_ble_eq_true rfl, Nat.le_of_ble_eq_true rfl⟩ hc0 rfl (Nat.le_of_ble_eq_true rfl) d_W_570) (fun r2 σ2 h2 => ?_)
  obtain ⟨e1, hR2⟩ := L_deliver hR z1 z2 (fun a ha => ⟨(hpf a ha).1, (hpf a ha).2.1⟩) h1 h2
  exact g_icmp_eq hC 746 d_W_573 rfl rfl (fun _ => zG.widen (kk σ2 hR2) (by omega) (by omega)) (fun h => absurd e1 h)
set_option maxHeartbeats 4000000 in
set_option maxRecDepth 100000 in
theorem lw_14 (htr : l.stackTraces = false) (hC : zX p s m #[Value.ref b] c code 7 "AppDeskLaw" D K q (Aw s)) (hX : va_X b L xs s s.heap) (hbl : b < s.heap.size) (hq : zI q) (hi : i + 5 ≤ L) (hL : L ≤ 2560) (hcs : ce + 1 ≤ room_1.cells ∧ sl + 6 ≤ room_1.slots) (hR : Rl σ) (kk : ∀ σ2, Rl σ2 → zG p l e room_1 s m #[Value.ref b] below meth c D K q (Aw s) 7 (ce + 1) (sl + 6) Q σ2 746 (lvL q b i) []) : zG p l e room_1 s m #[Value.ref b] below meth c D K q (Aw s) 7 ce sl Q σ 622 (lvL q b i) [] := by
  have hc0 : ce ≤ room_1.cells ∧ sl ≤ room_1.slots := ⟨by omega, by omega⟩
  refine g_aload_n hC d_W_622 rfl rfl ?_
  refine g_arg hC hX hbl 1 (by decide) hi hL rfl rfl d_W_623 d_W_624 d_W_626 (by decide) d_W_627 d_W_628 rfl ?_
  refine g_arg hC hX hbl 2 (by decide) hi hL rfl rfl d_W_629 d_W_630 d_W_632 (by decide) d_W_633 d_W_634 rfl ?_
  refine g_goi hC rfl (z_runV hC (c_D_app l D K q hq _ _ _) yy_D_app yv_L_89 (by decide) rfl ⟨Nat.le_of_ble_eq_true rfl, Nat.le_of_ble_eq_true rfl⟩ hc0 rfl (Nat.le_of_ble_eq_true rfl) d_W_635) (fun r1 σ1 h1 => ?_)
  refine g_aload_n hC d_W_638 rfl rfl ?_
  refine g_arg hC hX hbl 1 (by decide) hi hL rfl rfl d_W_639 d_W_640 d_W_642 (by decide) d_W_643 d_W_644 rfl ?_
  refine g_arg hC hX hbl 2 (by decide) hi hL rfl rfl d_W_645 d_W_646 d_W_648 (by decide) d_W_649 d_W_650 rfl ?_
  refine g_goi hC rfl (z_runV hC (c_M_app l D K q hq _ _ _ (by rw [h1.2]; exact K_app hR)) yy_M_app yv_L_93 (by decide) rfl ⟨Nat.le_of_ble_eq_true rfl, Nat.le_of_ble_eq_true rfl⟩ hc0 rfl (Nat.le_of_ble_eq_true rfl) d_W_651) (fun r2 σ2 h2 => ?_)
  obtain ⟨e1, hR2⟩ := L_app hR h1 h2
  exact g_icmp_eq hC 746 d_W_654 rfl rfl (fun _ => zG.widen (kk σ2 hR2) (by omega) (by omega)) (fun h => absurd e1 h)
set_option maxHeartbeats 4000000 in
set_option maxRecDepth 100000 in
theorem lw_15 (htr : l.stackTraces = false) (hC : zX p s m #[Value.ref b] c code 7 "AppDeskLaw" D K q (Aw s)) (hX : va_X b L xs s s.heap) (hbl : b < s.heap.size) (hq : zI q) (hi : i + 5 ≤ L) (hL : L ≤ 2560) (hcs : ce + 1 ≤ room_1.cells ∧ sl + 6 ≤ room_1.slots) (hR : Rl σ) (kk : ∀ σ2, Rl σ2 → zG p l e room_1 s m #[Value.ref b] below meth c D K q (Aw s) 7 (ce + 1) (sl + 6) Q σ2 746 (lvL q b i) []) : zG p l e room_1 s m #[Value.ref b] below meth c D K q (Aw s) 7 ce sl Q σ 659 (lvL q b i) [] := by
  have hc0 : ce ≤ room_1.cells ∧ sl ≤ room_1.slots := ⟨by omega, by omega⟩
  refine g_aload_n hC d_W_659 rfl rfl ?_
  refine g_arg hC hX hbl 1 (by decide) hi hL rfl rfl d_W_660 d_W_661 d_W_663 (by decide) d_W_664 d_W_665 rfl ?_
  refine g_arg hC hX hbl 2 (by decide) hi hL rfl rfl d_W_666 d_W_667 d_W_669 (by decide) d_W_670 d_W_671 rfl ?_
  refine g_goi hC rfl (z_runV hC (c_D_holds l D K q hq _ _ _) yy_D_holds yv_L_94 (by decide) rfl ⟨Nat.le_of_ble_eq_true rfl, Nat.le_of_ble_eq_true rfl⟩ hc0 rfl (Nat.le_of_ble_eq_true rfl) d_W_672) (fun r1 σ1 h1 => ?_)
  refine g_aload_n hC d_W_675 rfl rfl ?_
  refine g_arg hC hX hbl 1 (by decide) hi hL rfl rfl d_W_676 d_W_677 d_W_679 (by decide) d_W_680 d_W_681 rfl ?_
  refine g_arg hC hX hbl 2 (by decide) hi hL rfl rfl d_W_682 d_W_683 d_W_685 (by decide) d_W_686 d_W_687 rfl ?_
  refine g_goi hC rfl (z_runV hC (c_M_holds l D K q hq _ _ _) yy_M_holds yv_L_97 (by decide) rfl ⟨Nat.le_of_ble_eq_true rfl, Nat.le_of_ble_eq_true rfl⟩ hc0 rfl (Nat.le_of_ble_eq_true rfl) d_W_688) (fun r2 σ2 h2 => ?_)
  obtain ⟨e1, hR2⟩ := L_holds hR h1 h2
  exact g_icmp_eq hC 746 d_W_691 rfl rfl (fun _ => zG.widen (kk σ2 hR2) (by omega) (by omega)) (fun h => absurd e1 h)
set_option maxHeartbeats 4000000 in
set_option maxRecDepth 100000 in
theorem lw_16 (htr : l.stackTraces = false) (hC : zX p s m #[Value.ref b] c code 7 "AppDeskLaw" D K q (Aw s)) (hX : va_X b L xs s s.heap) (hbl : b < s.heap.size) (hq : zI q) (hi : i + 5 ≤ L) (hL : L ≤ 2560) (hcs : ce + 1 ≤ room_1.cells ∧ sl + 6 ≤ room_1.slots) (hR : Rl σ) (kk : ∀ σ2, Rl σ2 → zG p l e room_1 s m #[Value.ref b] below meth c D K q (Aw s) 7 (ce + 1) (sl + 6) Q σ2 746 (lvL q b i) []) : zG p l e room_1 s m #[Value.ref b] below meth c D K q (Aw s) 7 ce sl Q σ 696 (lvL q b i) [] := by
  have hc0 : ce ≤ room_1.cells ∧ sl ≤ room_1.slots := ⟨by omega, by omega⟩
  refine g_aload_n hC d_W_696 rfl rfl ?_
  refine g_arg hC hX hbl 1 (by decide) hi hL rfl rfl d_W_697 d_W_698 d_W_700 (by decide) d_W_701 d_W_702 rfl ?_
  refine g_arg hC hX hbl 2 (by decide) hi hL rfl rfl d_W_703 d_W_704 d_W_706 (by decide) d_W_707 d_W_708 rfl ?_
  refine g_goi hC rfl (z_runV hC (c_D_kept l D K q hq _ _ _) yy_D_kept yv_L_98 (by decide) rfl ⟨Nat.le_of_ble_eq_true rfl, Nat.le_of_ble_eq_true rfl⟩ hc0 rfl (Nat.le_of_ble_eq_true rfl) d_W_709) (fun r1 σ1 h1 => ?_)
  refine g_aload_n hC d_W_712 rfl rfl ?_
  refine g_arg hC hX hbl 1 (by decide) hi hL rfl rfl d_W_713 d_W_714 d_W_716 (by decide) d_W_717 d_W_718 rfl ?_
  refine g_arg hC hX hbl 2 (by decide) hi hL rfl rfl d_W_719 d_W_720 d_W_722 (by decide) d_W_723 d_W_724 rfl ?_
  refine g_goi hC rfl (z_runV hC (c_M_kept l D K q hq _ _ _) yy_M_kept yv_L_101 (by decide) rfl ⟨Nat.le_of_ble_eq_true rfl, Nat.le_of_ble_eq_true rfl⟩ hc0 rfl (Nat.le_of_ble_eq_true rfl) d_W_725) (fun r2 σ2 h2 => ?_)
  obtain ⟨e1, hR2⟩ := L_kept hR h1 h2
  exact g_icmp_eq hC 746 d_W_728 rfl rfl (fun _ => zG.widen (kk σ2 hR2) (by omega) (by omega)) (fun h => absurd e1 h)
set_option maxHeartbeats 4000000 in
set_option maxRecDepth 100000 in
theorem lw_17 (htr : l.stackTraces = false) (hC : zX p s m #[Value.ref b] c code 7 "AppDeskLaw" D K q (Aw s)) (hX : va_X b L xs s s.heap) (hbl : b < s.heap.size) (hq : zI q) (hi : i + 5 ≤ L) (hL : L ≤ 2560) (hcs : ce + 1 ≤ room_1.cells ∧ sl + 6 ≤ room_1.slots) (hR : Rl σ) (kk : ∀ σ2, Rl σ2 → zG p l e room_1 s m #[Value.ref b] below meth c D K q (Aw s) 7 (ce + 1) (sl + 6) Q σ2 746 (lvL q b i) []) : zG p l e room_1 s m #[Value.ref b] below meth c D K q (Aw s) 7 ce sl Q σ 733 (lvL q b i) [] := by
  have hc0 : ce ≤ room_1.cells ∧ sl ≤ room_1.slots := ⟨by omega, by omega⟩
  refine g_aload_n hC d_W_733 rfl rfl ?_
  refine g_goi hC rfl (z_runV hC (c_D_queued l D K q hq _) yy_D_queued yv_L_102 (by decide) rfl ⟨Nat.le_of_ble_eq_true rfl, Nat.le_of_ble_eq_true rfl⟩ hc0 rfl (Nat.le_of_ble_eq_true rfl) d_W_734) (fun r1 σ1 h1 => ?_)
  refine g_aload_n hC d_W_737 rfl rfl ?_
  refine g_goi hC rfl (z_runV hC (c_M_queued l D K q hq _) yy_M_queued yv_L_105 (by decide) rfl ⟨Nat.le_of_ble_eq_true rfl, Nat.le_of_ble_eq_true rfl⟩ hc0 rfl (Nat.le_of_ble_eq_true rfl) d_W_738) (fun r2 σ2 h2 => ?_)
  obtain ⟨e1, hR2⟩ := L_queued hR h1 h2
  exact g_icmp_eq hC 746 d_W_741 rfl rfl (fun _ => zG.widen (kk σ2 hR2) (by omega) (by omega)) (fun h => absurd e1 h)
end ZLAW
