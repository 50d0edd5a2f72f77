/-! the reference's install -/
def wst (σ τ : zm) (nm pn wn : Nat) (v : Int32) : Prop := (v = 1 ∧ ¬ wSnd σ pn wn) ∨ (v = 2 ∧ wSnd σ pn wn ∧ wclp τ nm 64 = true) ∨ (v = 0 ∧ wSnd σ pn wn ∧ wclp τ nm 64 = false)
theorem wst_0 {σ τ : zm} {nm pn wn : Nat} {v : Int32} (h : wst σ τ nm pn wn v) (hv : v ≤ 0) : v = 0 := by
  rcases h with h | h | h
  · rw [h.1] at hv; exact absurd hv (by decide)
  · rw [h.1] at hv; exact absurd hv (by decide)
  · exact h.1
def wgv (τ : zm) (nm : Nat) : Int32 := if τ 105 nm = 0 then 0 else τ 120 nm &&& τ 109 8
def wi0 (τ : zm) (nm : Nat) : zm := zu (zu (zu (zu (zu (zu (zu (zu (zu τ 104 0 0) 120 nm (wgv τ nm)) 105 nm 1) 121 nm 0) 106 nm (τ 106 8)) 107 nm (τ 107 8)) 109 nm (τ 109 8)) 111 nm (τ 111 8)) 116 nm (τ 116 8)
/-- in row r, n places from d on are as those from s on -/
def zcp (τ : zm) (r d s n : Nat) : zm := fun a b => if a = r ∧ d ≤ b ∧ b < d + n then τ r (s + (b - d)) else τ a b
theorem zcp_0 (τ : zm) (r d s : Nat) : zcp τ r d s 0 = τ := by
  funext a b
  unfold zcp
  rw [if_neg (by omega)]
theorem zcp_s (τ : zm) {r d s n : Nat} (h : d + n ≤ s) : zu (zcp τ r d s n) r (d + n) (zcp τ r d s n r (s + n)) = zcp τ r d s (n + 1) := by
  have e : zcp τ r d s n r (s + n) = τ r (s + n) := if_neg (by omega)
  rw [e]
  funext a b
  unfold zu zcp
  by_cases h1 : a = r ∧ b = d + n
  · rw [if_pos h1, if_pos (by omega), show s + (b - d) = s + n by omega]
  · rw [if_neg h1]
    by_cases h2 : a = r ∧ d ≤ b ∧ b < d + n
    · rw [if_pos h2, if_pos (by omega)]
    · rw [if_neg h2, if_neg (by omega)]
def zcp4 (τ : zm) (d n : Nat) : zm := fun a b => if (a = 112 ∨ a = 113 ∨ a = 114 ∨ a = 115) ∧ d ≤ b ∧ b < d + n then τ a (32 + (b - d)) else τ a b
theorem zcp4_0 (τ : zm) (d : Nat) : zcp4 τ d 0 = τ := by
  funext a b
  unfold zcp4
  rw [if_neg (by omega)]
theorem zcp4_src (τ : zm) {d n : Nat} (h : d + n ≤ 32) (a t : Nat) : zcp4 τ d n a (32 + t) = τ a (32 + t) := if_neg (by omega)
theorem zcp4_s (τ : zm) {d n : Nat} (h : d + n ≤ 32) : zu (zu (zu (zu (zcp4 τ d n) 112 (d + n) (zcp4 τ d n 112 (32 + n))) 113 (d + n) (zu (zcp4 τ d n) 112 (d + n) (zcp4 τ d n 112 (32 + n)) 113 (32 + n))) 114 (d + n) (zu (zu (zcp4 τ d n) 112 (d + n) (zcp4 τ d n 112 (32 + n))) 113 (d + n) (zu (zcp4 τ d n) 112 (d + n) (zcp4 τ d n 112 (32 + n)) 113 (32 + n)) 114 (32 + n))) 115 (d + n) (zu (zu (zu (zcp4 τ d n) 112 (d + n) (zcp4 τ d n 112 (32 + n))) 113 (d + n) (zu (zcp4 τ d n) 112 (d + n) (zcp4 τ d n 112 (32 + n)) 113 (32 + n))) 114 (d + n) (zu (zu (zcp4 τ d n) 112 (d + n) (zcp4 τ d n 112 (32 + n))) 113 (d + n) (zu (zcp4 τ d n) 112 (d + n) (zcp4 τ d n 112 (32 + n)) 113 (32 + n)) 114 (32 + n)) 115 (32 + n)) = zcp4 τ d (n + 1) := by
  simp (disch := omega) only [zu_row, zcp4_src]
  funext a b
  unfold zu zcp4
  by_cases hb : b = d + n
  · subst hb
    by_cases h5 : a = 115
    · subst h5; rw [if_pos ⟨rfl, rfl⟩, if_pos (by omega), show 32 + (d + n - d) = 32 + n by omega]
    · rw [if_neg (by omega)]
      by_cases h4 : a = 114
      · subst h4; rw [if_pos ⟨rfl, rfl⟩, if_pos (by omega), show 32 + (d + n - d) = 32 + n by omega]
      · rw [if_neg (by omega)]
        by_cases h3 : a = 113
        · subst h3; rw [if_pos ⟨rfl, rfl⟩, if_pos (by omega), show 32 + (d + n - d) = 32 + n by omega]
        · rw [if_neg (by omega)]
          by_cases h2 : a = 112
          · subst h2; rw [if_pos ⟨rfl, rfl⟩, if_pos (by omega), show 32 + (d + n - d) = 32 + n by omega]
          · rw [if_neg (by omega), if_neg (by omega), if_neg (by omega)]
  · rw [if_neg (by omega), if_neg (by omega), if_neg (by omega), if_neg (by omega)]
    by_cases h2 : (a = 112 ∨ a = 113 ∨ a = 114 ∨ a = 115) ∧ d ≤ b ∧ b < d + n
    · rw [if_pos h2, if_pos (by omega)]
    · rw [if_neg h2, if_neg (by omega)]
def wins (τ : zm) (nm : Nat) : zm := zcp (zcp4 (zcp (wi0 τ nm) 110 (8 * nm) 64 8) (4 * nm) 4) 117 (24 * nm) 192 24
theorem wi0_113 (τ : zm) (nm : Nat) (b : Nat) : wi0 τ nm 113 b = τ 113 b := by
  unfold wi0
  simp (disch := omega) only [zu_row]
theorem wbo {σ τ : zm} {nm t n : Nat} {v : Int32} (hnm : nm < 8) (ht : t < 4) (hO : wOf σ τ) (h : σ 113 (32 + t) = 0 ∨ σ 113 (32 + t) = 1) (hn : n ≤ 4 := by omega) : (zu (zcp4 (zcp (wi0 τ nm) 110 (8 * nm) 64 8) (4 * nm) n) 112 (4 * nm + t) v) 113 (32 + t) = 0 ∨ (zu (zcp4 (zcp (wi0 τ nm) 110 (8 * nm) 64 8) (4 * nm) n) 112 (4 * nm + t) v) 113 (32 + t) = 1 := by
  rw [zu_row _ _ (by decide), zcp4_src _ (by omega)]
  show (if (113 : Nat) = 110 ∧ _ then _ else wi0 τ nm 113 (32 + t)) = 0 ∨ _
  rw [if_neg (by omega), wi0_113, hO _ (by decide)]
  have e : zcp (wi0 τ nm) 110 (8 * nm) 64 8 113 (32 + t) = σ 113 (32 + t) := by
    show (if (113 : Nat) = 110 ∧ _ then _ else wi0 τ nm 113 (32 + t)) = _
    rw [if_neg (by omega), wi0_113, hO _ (by decide)]
  rw [e]
  exact h
set_option maxHeartbeats 4000000 in
set_option maxRecDepth 100000 in
theorem c_M_install (l : Launch) (D : va_G) (K : Nat → ClassId) (q : Nat → Nat) (hq : zI q) (σ : zm) (nm pn wn : Nat) (hnm : nm < 8) (hpn : pn ≤ 4) (hwn : wn ≤ 24) (h : σ 104 14 = nI nm) (hpc : σ 111 8 = nI pn) (hwc : σ 116 8 = nI wn) (hop : ∀ t, t < 4 → σ 113 (32 + t) = 0 ∨ σ 113 (32 + t) = 1) : zMi l y_M_install b_M_install 3 (some .int) 5 D K q [.ref (q (104))] σ (fun r σ' => ∃ (τ : zm) (v : Int32), wOf σ τ ∧ wst σ τ nm pn wn v ∧ (if v = 0 then r = nI nm ∧ σ' = wins τ nm else r = 0 ∧ σ' = zu τ 104 0 v)) := by
  refine zMi.of (own := "AppDeskModel") (lv := [(0, .ref (q (104)))]) (by decide) rfl hq (Nat.le_of_ble_eq_true rfl) rfl ?_
  intro p e s m below meth c hC hr hlk
  have J278 : ∀ (f : Nat) (τ : zm) (hO : wOf σ τ) (hv : wst σ τ nm pn wn 0) (t : Nat) (hif : t + f = 24), zG p l e (zrm 5) s m ([.ref (q (104))] : List Value).toArray below meth c D K q (zA q) 3 0 0 (MQ below (va_Qi (fun r σ' => ∃ (τ : zm) (v : Int32), wOf σ τ ∧ wst σ τ nm pn wn v ∧ (if v = 0 then r = nI nm ∧ σ' = wins τ nm else r = 0 ∧ σ' = zu τ 104 0 v)) (zO D K q) (zA q)) ([.ref (q (104))] : List Value).toArray s 0 0 (zA q)) (zcp (zcp4 (zcp (wi0 τ nm) 110 (8 * nm) 64 8) (4 * nm) 4) 117 (24 * nm) 192 t) 278 [(0, .ref (q (104))), (1, .int (nI nm)), (2, .int (nI t))] [] := by
    intro f
    induction f with
    | zero =>
      intro τ hO hv t hif
      refine g_iload_n hC d_M_install_278 rfl rfl ?_
      refine g_bipush hC (24) d_M_install_279 (by decide) rfl ?_
      refine g_icmp_ge hC 311 d_M_install_281 rfl rfl (fun h281 => ?_) (fun h281 => absurd (nI_le (a := 24) (b := t) (by omega) (by omega)) h281)
      refine g_iload_n hC d_M_install_311 rfl rfl ?_
      exact g_iret hC hr hlk d_M_install_312 ⟨τ, 0, hO, hv, by rw [if_pos rfl, show t = 24 by omega]; exact ⟨rfl, rfl⟩⟩
    | succ f ih =>
      intro τ hO hv t hif
      refine g_iload_n hC d_M_install_278 rfl rfl ?_
      refine g_bipush hC (24) d_M_install_279 (by decide) rfl ?_
      refine g_icmp_ge hC 311 d_M_install_281 rfl rfl (fun h281 => absurd h281 (nI_ge (a := t) (b := 24) (by omega) (by omega))) (fun h281 => ?_)
      refine g_aload_n hC d_M_install_284 rfl rfl ?_
      refine g_getR hC _ 5 13 _ (by decide) rfl rfl fl_M_47 d_M_install_285 rfl ?_
      refine g_bipush hC (24) d_M_install_288 (by decide) rfl ?_
      refine g_iload_n hC d_M_install_290 rfl rfl ?_
      refine g_imul hC d_M_install_291 rfl ?_
      refine g_top hC (nI (24 * nm)) (pk_mul 24 nm) ?_
      refine g_iload_n hC d_M_install_292 rfl rfl ?_
      refine g_iadd hC d_M_install_293 rfl ?_
      refine g_top hC (nI (24 * nm + t)) (nI_add (24 * nm) t) ?_
      refine g_aload_n hC d_M_install_294 rfl rfl ?_
      refine g_getR hC _ 5 13 _ (by decide) rfl rfl fl_M_47 d_M_install_295 rfl ?_
      refine g_sipush hC (192) d_M_install_298 (by decide) rfl ?_
      refine g_iload_n hC d_M_install_301 rfl rfl ?_
      refine g_iadd hC d_M_install_302 rfl ?_
      refine g_top hC (nI (192 + t)) (nI_add 192 t) ?_
      refine g_iald hC _ _ (192 + t) (by decide) rfl rfl (by show 192 + t < 216; omega) (by decide) d_M_install_303 rfl ?_
      refine g_iast hC _ _ (24 * nm + t) (by decide) rfl rfl (by show 24 * nm + t < 216; omega) (by decide) d_M_install_304 rfl ?_
      refine g_iinc hC (nI (t + 1)) d_M_install_305 rfl rfl (nI_succ _).symm (by decide) ?_
      refine g_goto hC 278 d_M_install_308 rfl ?_
      exact zG.to (ih τ hO hv (t + 1) (by omega)) (zcp_s _ (by omega)) rfl ⟨rfl, rfl, rfl, trivial⟩
  have J189 : ∀ (f : Nat) (τ : zm) (hO : wOf σ τ) (hv : wst σ τ nm pn wn 0) (t : Nat) (hif : t + f = 4), zG p l e (zrm 5) s m ([.ref (q (104))] : List Value).toArray below meth c D K q (zA q) 3 0 0 (MQ below (va_Qi (fun r σ' => ∃ (τ : zm) (v : Int32), wOf σ τ ∧ wst σ τ nm pn wn v ∧ (if v = 0 then r = nI nm ∧ σ' = wins τ nm else r = 0 ∧ σ' = zu τ 104 0 v)) (zO D K q) (zA q)) ([.ref (q (104))] : List Value).toArray s 0 0 (zA q)) (zcp4 (zcp (wi0 τ nm) 110 (8 * nm) 64 8) (4 * nm) t) 189 [(0, .ref (q (104))), (1, .int (nI nm)), (2, .int (nI t))] [] := by
    intro f
    induction f with
    | zero =>
      intro τ hO hv t hif
      refine g_iload_n hC d_M_install_189 rfl rfl ?_
      refine g_iconst hC (4) d_M_install_190 (by decide) rfl ?_
      refine g_icmp_ge hC 276 d_M_install_191 rfl rfl (fun h191 => ?_) (fun h191 => absurd (nI_le (a := 4) (b := t) (by omega) (by omega)) h191)
      refine g_iconst hC (0) d_M_install_276 (by decide) rfl ?_
      refine g_istore_n hC d_M_install_277 rfl (by decide) ?_
      exact zG.to (J278 24 τ hO hv 0 (by omega)) (by rw [show t = 4 by omega, zcp_0]) rfl ⟨rfl, rfl, rfl, trivial⟩
    | succ f ih =>
      intro τ hO hv t hif
      have hbo : ∀ t, t < 4 → (zu (zcp4 (zcp (wi0 τ nm) 110 (8 * nm) 64 8) (4 * nm) t) 112 (4 * nm + t) ((zcp4 (zcp (wi0 τ nm) 110 (8 * nm) 64 8) (4 * nm) t) 112 (32 + t))) 113 (32 + t) = 0 ∨ (zu (zcp4 (zcp (wi0 τ nm) 110 (8 * nm) 64 8) (4 * nm) t) 112 (4 * nm + t) ((zcp4 (zcp (wi0 τ nm) 110 (8 * nm) 64 8) (4 * nm) t) 112 (32 + t))) 113 (32 + t) = 1 := fun t ht => wbo hnm ht hO (hop t ht)
      refine g_iload_n hC d_M_install_189 rfl rfl ?_
      refine g_iconst hC (4) d_M_install_190 (by decide) rfl ?_
      refine g_icmp_ge hC 276 d_M_install_191 rfl rfl (fun h191 => absurd h191 (nI_ge (a := t) (b := 4) (by omega) (by omega))) (fun h191 => ?_)
      refine g_aload_n hC d_M_install_194 rfl rfl ?_
      refine g_getR hC _ 5 8 _ (by decide) rfl rfl fl_M_32 d_M_install_195 rfl ?_
      refine g_iconst hC (4) d_M_install_198 (by decide) rfl ?_
      refine g_iload_n hC d_M_install_199 rfl rfl ?_
      refine g_imul hC d_M_install_200 rfl ?_
      refine g_top hC (nI (4 * nm)) (pk_mul 4 nm) ?_
      refine g_iload_n hC d_M_install_201 rfl rfl ?_
      refine g_iadd hC d_M_install_202 rfl ?_
      refine g_top hC (nI (4 * nm + t)) (nI_add (4 * nm) t) ?_
      refine g_aload_n hC d_M_install_203 rfl rfl ?_
      refine g_getR hC _ 5 8 _ (by decide) rfl rfl fl_M_32 d_M_install_204 rfl ?_
      refine g_bipush hC (32) d_M_install_207 (by decide) rfl ?_
      refine g_iload_n hC d_M_install_209 rfl rfl ?_
      refine g_iadd hC d_M_install_210 rfl ?_
      refine g_top hC (nI (32 + t)) (nI_add 32 t) ?_
      refine g_iald hC _ _ (32 + t) (by decide) rfl rfl (by show 32 + t < 36; omega) (by decide) d_M_install_211 rfl ?_
      refine g_iast hC _ _ (4 * nm + t) (by decide) rfl rfl (by show 4 * nm + t < 36; omega) (by decide) d_M_install_212 rfl ?_
      refine g_aload_n hC d_M_install_213 rfl rfl ?_
      refine g_getR hC _ 5 9 _ (by decide) rfl rfl fl_M_35 d_M_install_214 rfl ?_
      refine g_iconst hC (4) d_M_install_217 (by decide) rfl ?_
      refine g_iload_n hC d_M_install_218 rfl rfl ?_
      refine g_imul hC d_M_install_219 rfl ?_
      refine g_top hC (nI (4 * nm)) (pk_mul 4 nm) ?_
      refine g_iload_n hC d_M_install_220 rfl rfl ?_
      refine g_iadd hC d_M_install_221 rfl ?_
      refine g_top hC (nI (4 * nm + t)) (nI_add (4 * nm) t) ?_
      refine g_aload_n hC d_M_install_222 rfl rfl ?_
      refine g_getR hC _ 5 9 _ (by decide) rfl rfl fl_M_35 d_M_install_223 rfl ?_
      refine g_bipush hC (32) d_M_install_226 (by decide) rfl ?_
      refine g_iload_n hC d_M_install_228 rfl rfl ?_
      refine g_iadd hC d_M_install_229 rfl ?_
      refine g_top hC (nI (32 + t)) (nI_add 32 t) ?_
      refine g_zald hC _ _ (32 + t) (by decide) rfl rfl (by show 32 + t < 36; omega) (by decide) d_M_install_230 rfl ?_
      refine g_zast hC _ _ (4 * nm + t) (by decide) rfl rfl (by show 4 * nm + t < 36; omega) (by decide) (hbo t (by omega)) d_M_install_231 rfl ?_
      refine g_aload_n hC d_M_install_232 rfl rfl ?_
      refine g_getR hC _ 5 10 _ (by decide) rfl rfl fl_M_38 d_M_install_233 rfl ?_
      refine g_iconst hC (4) d_M_install_236 (by decide) rfl ?_
      refine g_iload_n hC d_M_install_237 rfl rfl ?_
      refine g_imul hC d_M_install_238 rfl ?_
      refine g_top hC (nI (4 * nm)) (pk_mul 4 nm) ?_
      refine g_iload_n hC d_M_install_239 rfl rfl ?_
      refine g_iadd hC d_M_install_240 rfl ?_
      refine g_top hC (nI (4 * nm + t)) (nI_add (4 * nm) t) ?_
      refine g_aload_n hC d_M_install_241 rfl rfl ?_
      refine g_getR hC _ 5 10 _ (by decide) rfl rfl fl_M_38 d_M_install_242 rfl ?_
      refine g_bipush hC (32) d_M_install_245 (by decide) rfl ?_
      refine g_iload_n hC d_M_install_247 rfl rfl ?_
      refine g_iadd hC d_M_install_248 rfl ?_
      refine g_top hC (nI (32 + t)) (nI_add 32 t) ?_
      refine g_iald hC _ _ (32 + t) (by decide) rfl rfl (by show 32 + t < 36; omega) (by decide) d_M_install_249 rfl ?_
      refine g_iast hC _ _ (4 * nm + t) (by decide) rfl rfl (by show 4 * nm + t < 36; omega) (by decide) d_M_install_250 rfl ?_
      refine g_aload_n hC d_M_install_251 rfl rfl ?_
      refine g_getR hC _ 5 11 _ (by decide) rfl rfl fl_M_41 d_M_install_252 rfl ?_
      refine g_iconst hC (4) d_M_install_255 (by decide) rfl ?_
      refine g_iload_n hC d_M_install_256 rfl rfl ?_
      refine g_imul hC d_M_install_257 rfl ?_
      refine g_top hC (nI (4 * nm)) (pk_mul 4 nm) ?_
      refine g_iload_n hC d_M_install_258 rfl rfl ?_
      refine g_iadd hC d_M_install_259 rfl ?_
      refine g_top hC (nI (4 * nm + t)) (nI_add (4 * nm) t) ?_
      refine g_aload_n hC d_M_install_260 rfl rfl ?_
      refine g_getR hC _ 5 11 _ (by decide) rfl rfl fl_M_41 d_M_install_261 rfl ?_
      refine g_bipush hC (32) d_M_install_264 (by decide) rfl ?_
      refine g_iload_n hC d_M_install_266 rfl rfl ?_
      refine g_iadd hC d_M_install_267 rfl ?_
      refine g_top hC (nI (32 + t)) (nI_add 32 t) ?_
      refine g_iald hC _ _ (32 + t) (by decide) rfl rfl (by show 32 + t < 36; omega) (by decide) d_M_install_268 rfl ?_
      refine g_iast hC _ _ (4 * nm + t) (by decide) rfl rfl (by show 4 * nm + t < 36; omega) (by decide) d_M_install_269 rfl ?_
      refine g_iinc hC (nI (t + 1)) d_M_install_270 rfl rfl (nI_succ _).symm (by decide) ?_
      refine g_goto hC 189 d_M_install_273 rfl ?_
      exact zG.to (ih τ hO hv (t + 1) (by omega)) (zcp4_s _ (by omega)) rfl ⟨rfl, rfl, rfl, trivial⟩
  have J155 : ∀ (f : Nat) (τ : zm) (hO : wOf σ τ) (hv : wst σ τ nm pn wn 0) (t : Nat) (hif : t + f = 8), zG p l e (zrm 5) s m ([.ref (q (104))] : List Value).toArray below meth c D K q (zA q) 3 0 0 (MQ below (va_Qi (fun r σ' => ∃ (τ : zm) (v : Int32), wOf σ τ ∧ wst σ τ nm pn wn v ∧ (if v = 0 then r = nI nm ∧ σ' = wins τ nm else r = 0 ∧ σ' = zu τ 104 0 v)) (zO D K q) (zA q)) ([.ref (q (104))] : List Value).toArray s 0 0 (zA q)) (zcp (wi0 τ nm) 110 (8 * nm) 64 t) 155 [(0, .ref (q (104))), (1, .int (nI nm)), (2, .int (nI t))] [] := by
    intro f
    induction f with
    | zero =>
      intro τ hO hv t hif
      refine g_iload_n hC d_M_install_155 rfl rfl ?_
      refine g_bipush hC (8) d_M_install_156 (by decide) rfl ?_
      refine g_icmp_ge hC 187 d_M_install_158 rfl rfl (fun h158 => ?_) (fun h158 => absurd (nI_le (a := 8) (b := t) (by omega) (by omega)) h158)
      refine g_iconst hC (0) d_M_install_187 (by decide) rfl ?_
      refine g_istore_n hC d_M_install_188 rfl (by decide) ?_
      exact zG.to (J189 4 τ hO hv 0 (by omega)) (by rw [show t = 8 by omega, zcp4_0]) rfl ⟨rfl, rfl, rfl, trivial⟩
    | succ f ih =>
      intro τ hO hv t hif
      refine g_iload_n hC d_M_install_155 rfl rfl ?_
      refine g_bipush hC (8) d_M_install_156 (by decide) rfl ?_
      refine g_icmp_ge hC 187 d_M_install_158 rfl rfl (fun h158 => absurd h158 (nI_ge (a := t) (b := 8) (by omega) (by omega))) (fun h158 => ?_)
      refine g_aload_n hC d_M_install_161 rfl rfl ?_
      refine g_getR hC _ 5 6 _ (by decide) rfl rfl fl_M_26 d_M_install_162 rfl ?_
      refine g_bipush hC (8) d_M_install_165 (by decide) rfl ?_
      refine g_iload_n hC d_M_install_167 rfl rfl ?_
      refine g_imul hC d_M_install_168 rfl ?_
      refine g_top hC (nI (8 * nm)) (pk_mul 8 nm) ?_
      refine g_iload_n hC d_M_install_169 rfl rfl ?_
      refine g_iadd hC d_M_install_170 rfl ?_
      refine g_top hC (nI (8 * nm + t)) (nI_add (8 * nm) t) ?_
      refine g_aload_n hC d_M_install_171 rfl rfl ?_
      refine g_getR hC _ 5 6 _ (by decide) rfl rfl fl_M_26 d_M_install_172 rfl ?_
      refine g_bipush hC (64) d_M_install_175 (by decide) rfl ?_
      refine g_iload_n hC d_M_install_177 rfl rfl ?_
      refine g_iadd hC d_M_install_178 rfl ?_
      refine g_top hC (nI (64 + t)) (nI_add 64 t) ?_
      refine g_iald hC _ _ (64 + t) (by decide) rfl rfl (by show 64 + t < 72; omega) (by decide) d_M_install_179 rfl ?_
      refine g_iast hC _ _ (8 * nm + t) (by decide) rfl rfl (by show 8 * nm + t < 72; omega) (by decide) d_M_install_180 rfl ?_
      refine g_iinc hC (nI (t + 1)) d_M_install_181 rfl rfl (nI_succ _).symm (by decide) ?_
      refine g_goto hC 155 d_M_install_184 rfl ?_
      exact zG.to (ih τ hO hv (t + 1) (by omega)) (zcp_s _ (by omega)) rfl ⟨rfl, rfl, rfl, trivial⟩
  have J24 : ∀ (v : Int32) (τ : zm) (hO : wOf σ τ) (hv : wst σ τ nm pn wn v), zG p l e (zrm 5) s m ([.ref (q (104))] : List Value).toArray below meth c D K q (zA q) 3 0 0 (MQ below (va_Qi (fun r σ' => ∃ (τ : zm) (v : Int32), wOf σ τ ∧ wst σ τ nm pn wn v ∧ (if v = 0 then r = nI nm ∧ σ' = wins τ nm else r = 0 ∧ σ' = zu τ 104 0 v)) (zO D K q) (zA q)) ([.ref (q (104))] : List Value).toArray s 0 0 (zA q)) τ 24 [(0, .ref (q (104)))] [.int (v), .ref (q (104))] := by
    intro v τ hO hv
    refine g_putI hC _ 5 0 (by decide) rfl rfl fp_M_90 d_M_install_24 rfl ?_
    refine g_aload_n hC d_M_install_27 rfl rfl ?_
    refine g_getV hC _ 5 0 (v) (zu_eq _ _ _ _) (by decide) rfl rfl fl_M_90 d_M_install_28 rfl ?_
    refine g_if_le hC 36 d_M_install_31 rfl rfl (fun h31 => ?_) (fun h31 => ?_)
    ·
      have hv0 : v = 0 := wst_0 hv h31
      subst hv0
      refine g_aload_n hC d_M_install_36 rfl rfl ?_
      refine g_getV hC _ 5 14 (nI nm) (by rw [zu_ne _ _ (Or.inr (by decide)), hO _ (by decide)]; exact h) (by decide) rfl rfl fl_M_97 d_M_install_37 rfl ?_
      refine g_istore_n hC d_M_install_40 rfl (by decide) ?_
      refine g_aload_n hC d_M_install_41 rfl rfl ?_
      refine g_getR hC _ 5 17 _ (by decide) rfl rfl fl_M_56 d_M_install_42 rfl ?_
      refine g_iload_n hC d_M_install_45 rfl rfl ?_
      refine g_aload_n hC d_M_install_46 rfl rfl ?_
      refine g_getR hC _ 5 1 _ (by decide) rfl rfl fl_M_7 d_M_install_47 rfl ?_
      refine g_iload_n hC d_M_install_50 rfl rfl ?_
      refine g_zaldV hC _ _ nm (τ 105 nm) (by simp (disch := omega) only [zu_row]) (by decide) rfl rfl (by show nm < 9; omega) (by decide) d_M_install_51 rfl ?_
      refine g_if_eq hC 72 d_M_install_52 rfl rfl (fun h52 => ?_) (fun h52 => ?_)
      ·
        refine g_iconst hC (0) d_M_install_72 (by decide) rfl ?_
        refine g_top hC (wgv τ nm) ((if_pos h52).symm) ?_
        refine g_iast hC _ _ nm (by decide) rfl rfl (by show nm < 8; omega) (by decide) d_M_install_73 rfl ?_
        refine g_aload_n hC d_M_install_74 rfl rfl ?_
        refine g_getR hC _ 5 1 _ (by decide) rfl rfl fl_M_7 d_M_install_75 rfl ?_
        refine g_iload_n hC d_M_install_78 rfl rfl ?_
        refine g_iconst hC (1) d_M_install_79 (by decide) rfl ?_
        refine g_zast hC _ _ nm (by decide) rfl rfl (by show nm < 9; omega) (by decide) (Or.inr rfl) d_M_install_80 rfl ?_
        refine g_aload_n hC d_M_install_81 rfl rfl ?_
        refine g_getR hC _ 5 18 _ (by decide) rfl rfl fl_M_59 d_M_install_82 rfl ?_
        refine g_iload_n hC d_M_install_85 rfl rfl ?_
        refine g_iconst hC (0) d_M_install_86 (by decide) rfl ?_
        refine g_zast hC _ _ nm (by decide) rfl rfl (by show nm < 8; omega) (by decide) (Or.inl rfl) d_M_install_87 rfl ?_
        refine g_aload_n hC d_M_install_88 rfl rfl ?_
        refine g_getR hC _ 5 2 _ (by decide) rfl rfl fl_M_13 d_M_install_89 rfl ?_
        refine g_iload_n hC d_M_install_92 rfl rfl ?_
        refine g_aload_n hC d_M_install_93 rfl rfl ?_
        refine g_getR hC _ 5 2 _ (by decide) rfl rfl fl_M_13 d_M_install_94 rfl ?_
        refine g_bipush hC (8) d_M_install_97 (by decide) rfl ?_
        refine g_ialdV hC _ _ 8 (τ 106 8) (by simp (disch := omega) only [zu_row]) (by decide) rfl (by decide) (by decide) (by decide) d_M_install_99 rfl ?_
        refine g_iast hC _ _ nm (by decide) rfl rfl (by show nm < 9; omega) (by decide) d_M_install_100 rfl ?_
        refine g_aload_n hC d_M_install_101 rfl rfl ?_
        refine g_getR hC _ 5 3 _ (by decide) rfl rfl fl_M_17 d_M_install_102 rfl ?_
        refine g_iload_n hC d_M_install_105 rfl rfl ?_
        refine g_aload_n hC d_M_install_106 rfl rfl ?_
        refine g_getR hC _ 5 3 _ (by decide) rfl rfl fl_M_17 d_M_install_107 rfl ?_
        refine g_bipush hC (8) d_M_install_110 (by decide) rfl ?_
        refine g_ialdV hC _ _ 8 (τ 107 8) (by simp (disch := omega) only [zu_row]) (by decide) rfl (by decide) (by decide) (by decide) d_M_install_112 rfl ?_
        refine g_iast hC _ _ nm (by decide) rfl rfl (by show nm < 9; omega) (by decide) d_M_install_113 rfl ?_
        refine g_aload_n hC d_M_install_114 rfl rfl ?_
        refine g_getR hC _ 5 5 _ (by decide) rfl rfl fl_M_23 d_M_install_115 rfl ?_
        refine g_iload_n hC d_M_install_118 rfl rfl ?_
        refine g_aload_n hC d_M_install_119 rfl rfl ?_
        refine g_getR hC _ 5 5 _ (by decide) rfl rfl fl_M_23 d_M_install_120 rfl ?_
        refine g_bipush hC (8) d_M_install_123 (by decide) rfl ?_
        refine g_ialdV hC _ _ 8 (τ 109 8) (by simp (disch := omega) only [zu_row]) (by decide) rfl (by decide) (by decide) (by decide) d_M_install_125 rfl ?_
        refine g_iast hC _ _ nm (by decide) rfl rfl (by show nm < 9; omega) (by decide) d_M_install_126 rfl ?_
        refine g_aload_n hC d_M_install_127 rfl rfl ?_
        refine g_getR hC _ 5 7 _ (by decide) rfl rfl fl_M_29 d_M_install_128 rfl ?_
        refine g_iload_n hC d_M_install_131 rfl rfl ?_
        refine g_aload_n hC d_M_install_132 rfl rfl ?_
        refine g_getR hC _ 5 7 _ (by decide) rfl rfl fl_M_29 d_M_install_133 rfl ?_
        refine g_bipush hC (8) d_M_install_136 (by decide) rfl ?_
        refine g_ialdV hC _ _ 8 (τ 111 8) (by simp (disch := omega) only [zu_row]) (by decide) rfl (by decide) (by decide) (by decide) d_M_install_138 rfl ?_
        refine g_iast hC _ _ nm (by decide) rfl rfl (by show nm < 9; omega) (by decide) d_M_install_139 rfl ?_
        refine g_aload_n hC d_M_install_140 rfl rfl ?_
        refine g_getR hC _ 5 12 _ (by decide) rfl rfl fl_M_44 d_M_install_141 rfl ?_
        refine g_iload_n hC d_M_install_144 rfl rfl ?_
        refine g_aload_n hC d_M_install_145 rfl rfl ?_
        refine g_getR hC _ 5 12 _ (by decide) rfl rfl fl_M_44 d_M_install_146 rfl ?_
        refine g_bipush hC (8) d_M_install_149 (by decide) rfl ?_
        refine g_ialdV hC _ _ 8 (τ 116 8) (by simp (disch := omega) only [zu_row]) (by decide) rfl (by decide) (by decide) (by decide) d_M_install_151 rfl ?_
        refine g_iast hC _ _ nm (by decide) rfl rfl (by show nm < 9; omega) (by decide) d_M_install_152 rfl ?_
        refine g_iconst hC (0) d_M_install_153 (by decide) rfl ?_
        refine g_istore_n hC d_M_install_154 rfl (by decide) ?_
        exact zG.to (J155 8 τ hO hv 0 (by omega)) (by rw [zcp_0]; rfl) rfl ⟨rfl, rfl, rfl, trivial⟩
      ·
        refine g_aload_n hC d_M_install_55 rfl rfl ?_
        refine g_getR hC _ 5 17 _ (by decide) rfl rfl fl_M_56 d_M_install_56 rfl ?_
        refine g_iload_n hC d_M_install_59 rfl rfl ?_
        refine g_ialdV hC _ _ nm (τ 120 nm) (by simp (disch := omega) only [zu_row]) (by decide) rfl rfl (by show nm < 8; omega) (by decide) d_M_install_60 rfl ?_
        refine g_aload_n hC d_M_install_61 rfl rfl ?_
        refine g_getR hC _ 5 5 _ (by decide) rfl rfl fl_M_23 d_M_install_62 rfl ?_
        refine g_bipush hC (8) d_M_install_65 (by decide) rfl ?_
        refine g_ialdV hC _ _ 8 (τ 109 8) (by simp (disch := omega) only [zu_row]) (by decide) rfl (by decide) (by decide) (by decide) d_M_install_67 rfl ?_
        refine g_iand hC d_M_install_68 rfl ?_
        refine g_top hC (wgv τ nm) ((if_neg h52).symm) ?_
        refine g_goto hC 73 d_M_install_69 rfl ?_
        refine g_iast hC _ _ nm (by decide) rfl rfl (by show nm < 8; omega) (by decide) d_M_install_73 rfl ?_
        refine g_aload_n hC d_M_install_74 rfl rfl ?_
        refine g_getR hC _ 5 1 _ (by decide) rfl rfl fl_M_7 d_M_install_75 rfl ?_
        refine g_iload_n hC d_M_install_78 rfl rfl ?_
        refine g_iconst hC (1) d_M_install_79 (by decide) rfl ?_
        refine g_zast hC _ _ nm (by decide) rfl rfl (by show nm < 9; omega) (by decide) (Or.inr rfl) d_M_install_80 rfl ?_
        refine g_aload_n hC d_M_install_81 rfl rfl ?_
        refine g_getR hC _ 5 18 _ (by decide) rfl rfl fl_M_59 d_M_install_82 rfl ?_
        refine g_iload_n hC d_M_install_85 rfl rfl ?_
        refine g_iconst hC (0) d_M_install_86 (by decide) rfl ?_
        refine g_zast hC _ _ nm (by decide) rfl rfl (by show nm < 8; omega) (by decide) (Or.inl rfl) d_M_install_87 rfl ?_
        refine g_aload_n hC d_M_install_88 rfl rfl ?_
        refine g_getR hC _ 5 2 _ (by decide) rfl rfl fl_M_13 d_M_install_89 rfl ?_
        refine g_iload_n hC d_M_install_92 rfl rfl ?_
        refine g_aload_n hC d_M_install_93 rfl rfl ?_
        refine g_getR hC _ 5 2 _ (by decide) rfl rfl fl_M_13 d_M_install_94 rfl ?_
        refine g_bipush hC (8) d_M_install_97 (by decide) rfl ?_
        refine g_ialdV hC _ _ 8 (τ 106 8) (by simp (disch := omega) only [zu_row]) (by decide) rfl (by decide) (by decide) (by decide) d_M_install_99 rfl ?_
        refine g_iast hC _ _ nm (by decide) rfl rfl (by show nm < 9; omega) (by decide) d_M_install_100 rfl ?_
        refine g_aload_n hC d_M_install_101 rfl rfl ?_
        refine g_getR hC _ 5 3 _ (by decide) rfl rfl fl_M_17 d_M_install_102 rfl ?_
        refine g_iload_n hC d_M_install_105 rfl rfl ?_
        refine g_aload_n hC d_M_install_106 rfl rfl ?_
        refine g_getR hC _ 5 3 _ (by decide) rfl rfl fl_M_17 d_M_install_107 rfl ?_
        refine g_bipush hC (8) d_M_install_110 (by decide) rfl ?_
        refine g_ialdV hC _ _ 8 (τ 107 8) (by simp (disch := omega) only [zu_row]) (by decide) rfl (by decide) (by decide) (by decide) d_M_install_112 rfl ?_
        refine g_iast hC _ _ nm (by decide) rfl rfl (by show nm < 9; omega) (by decide) d_M_install_113 rfl ?_
        refine g_aload_n hC d_M_install_114 rfl rfl ?_
        refine g_getR hC _ 5 5 _ (by decide) rfl rfl fl_M_23 d_M_install_115 rfl ?_
        refine g_iload_n hC d_M_install_118 rfl rfl ?_
        refine g_aload_n hC d_M_install_119 rfl rfl ?_
        refine g_getR hC _ 5 5 _ (by decide) rfl rfl fl_M_23 d_M_install_120 rfl ?_
        refine g_bipush hC (8) d_M_install_123 (by decide) rfl ?_
        refine g_ialdV hC _ _ 8 (τ 109 8) (by simp (disch := omega) only [zu_row]) (by decide) rfl (by decide) (by decide) (by decide) d_M_install_125 rfl ?_
        refine g_iast hC _ _ nm (by decide) rfl rfl (by show nm < 9; omega) (by decide) d_M_install_126 rfl ?_
        refine g_aload_n hC d_M_install_127 rfl rfl ?_
        refine g_getR hC _ 5 7 _ (by decide) rfl rfl fl_M_29 d_M_install_128 rfl ?_
        refine g_iload_n hC d_M_install_131 rfl rfl ?_
        refine g_aload_n hC d_M_install_132 rfl rfl ?_
        refine g_getR hC _ 5 7 _ (by decide) rfl rfl fl_M_29 d_M_install_133 rfl ?_
        refine g_bipush hC (8) d_M_install_136 (by decide) rfl ?_
        refine g_ialdV hC _ _ 8 (τ 111 8) (by simp (disch := omega) only [zu_row]) (by decide) rfl (by decide) (by decide) (by decide) d_M_install_138 rfl ?_
        refine g_iast hC _ _ nm (by decide) rfl rfl (by show nm < 9; omega) (by decide) d_M_install_139 rfl ?_
        refine g_aload_n hC d_M_install_140 rfl rfl ?_
        refine g_getR hC _ 5 12 _ (by decide) rfl rfl fl_M_44 d_M_install_141 rfl ?_
        refine g_iload_n hC d_M_install_144 rfl rfl ?_
        refine g_aload_n hC d_M_install_145 rfl rfl ?_
        refine g_getR hC _ 5 12 _ (by decide) rfl rfl fl_M_44 d_M_install_146 rfl ?_
        refine g_bipush hC (8) d_M_install_149 (by decide) rfl ?_
        refine g_ialdV hC _ _ 8 (τ 116 8) (by simp (disch := omega) only [zu_row]) (by decide) rfl (by decide) (by decide) (by decide) d_M_install_151 rfl ?_
        refine g_iast hC _ _ nm (by decide) rfl rfl (by show nm < 9; omega) (by decide) d_M_install_152 rfl ?_
        refine g_iconst hC (0) d_M_install_153 (by decide) rfl ?_
        refine g_istore_n hC d_M_install_154 rfl (by decide) ?_
        exact zG.to (J155 8 τ hO hv 0 (by omega)) (by rw [zcp_0]; rfl) rfl ⟨rfl, rfl, rfl, trivial⟩
    ·
      have hv1 : ¬ v = 0 := fun z => h31 (by rw [z]; decide)
      refine g_iconst hC (0) d_M_install_34 (by decide) rfl ?_
      exact g_iret hC hr hlk d_M_install_35 ⟨τ, v, hO, hv, by rw [if_neg hv1]; exact ⟨rfl, rfl⟩⟩
  refine g_aload_n hC d_M_install_0 rfl rfl ?_
  refine g_aload_n hC d_M_install_1 rfl rfl ?_
  refine g_goi hC rfl (z_runV hC (c_M_bad l D K q hq _ pn wn hpn hwn hpc hwc) yy_M_bad yv_M_127 (by decide) rfl ⟨Nat.le_of_ble_eq_true rfl, Nat.le_of_ble_eq_true rfl⟩ ⟨Nat.zero_le _, Nat.zero_le _⟩ rfl (Nat.le_of_ble_eq_true rfl) d_M_install_2) (fun r0 σ0 q0 => ?_)
  obtain ⟨⟨b0, rfl, hb0⟩, ho0⟩ := q0
  refine g_ifeq_b hC 12 d_M_install_5 rfl rfl (fun h5 => ?_) (fun h5 => ?_)
  ·
    refine g_aload_n hC d_M_install_12 rfl rfl ?_
    refine g_goi hC rfl (z_runV hC (c_M_clashes l D K q hq _ nm hnm (by rw [ho0 _ (by decide)]; exact h)) yy_M_clashes yv_M_130 (by decide) rfl ⟨Nat.le_of_ble_eq_true rfl, Nat.le_of_ble_eq_true rfl⟩ ⟨Nat.zero_le _, Nat.zero_le _⟩ rfl (Nat.le_of_ble_eq_true rfl) d_M_install_13) (fun r1 σ1 q1 => ?_)
    obtain ⟨rfl, w1⟩ := q1
    obtain rfl := w1.symm
    refine g_ifeq_b hC 23 d_M_install_16 rfl rfl (fun h16 => ?_) (fun h16 => ?_)
    ·
      refine g_iconst hC (0) d_M_install_23 (by decide) rfl ?_
      first | exact zG.to (J24 _ _ ho0 (Or.inl ⟨rfl, fun z => absurd (hb0.mpr z) (by rw [h5]; decide)⟩)) rfl rfl ⟨rfl, trivial⟩ | exact zG.to (J24 _ _ ho0 (Or.inr (Or.inl ⟨rfl, hb0.mp h5, h16⟩))) rfl rfl ⟨rfl, trivial⟩ | exact zG.to (J24 _ _ ho0 (Or.inr (Or.inr ⟨rfl, hb0.mp h5, h16⟩))) rfl rfl ⟨rfl, trivial⟩
    ·
      refine g_iconst hC (2) d_M_install_19 (by decide) rfl ?_
      refine g_goto hC 24 d_M_install_20 rfl ?_
      first | exact zG.to (J24 _ _ ho0 (Or.inl ⟨rfl, fun z => absurd (hb0.mpr z) (by rw [h5]; decide)⟩)) rfl rfl ⟨rfl, trivial⟩ | exact zG.to (J24 _ _ ho0 (Or.inr (Or.inl ⟨rfl, hb0.mp h5, h16⟩))) rfl rfl ⟨rfl, trivial⟩ | exact zG.to (J24 _ _ ho0 (Or.inr (Or.inr ⟨rfl, hb0.mp h5, h16⟩))) rfl rfl ⟨rfl, trivial⟩
  ·
    refine g_iconst hC (1) d_M_install_8 (by decide) rfl ?_
    refine g_goto hC 24 d_M_install_9 rfl ?_
    first | exact zG.to (J24 _ _ ho0 (Or.inl ⟨rfl, fun z => absurd (hb0.mpr z) (by rw [h5]; decide)⟩)) rfl rfl ⟨rfl, trivial⟩ | exact zG.to (J24 _ _ ho0 (Or.inr (Or.inl ⟨rfl, hb0.mp h5, h16⟩))) rfl rfl ⟨rfl, trivial⟩ | exact zG.to (J24 _ _ ho0 (Or.inr (Or.inr ⟨rfl, hb0.mp h5, h16⟩))) rfl rfl ⟨rfl, trivial⟩
