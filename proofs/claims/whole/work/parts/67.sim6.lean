/-! deliver -/
theorem zsh_v (σ : zm) {r : Nat} (hr : r = 3 ∨ r = 4 ∨ r = 5) : ∀ (n t : Nat), zsh σ n r t = if t < n then σ r (t + 1) else σ r t
  | 0, t => by rw [if_neg (by omega)]; rfl
  | n + 1, t => by
    show zrow (zsh σ n) n (zsh σ n 3 (n + 1)) (zsh σ n 4 (n + 1)) (zsh σ n 5 (n + 1)) r t = _
    unfold zrow
    by_cases e : t = n
    · rw [if_pos (by omega)]
      rcases hr with rfl | rfl | rfl
      · simp (disch := omega) only [zu_at, zu_r]
        rw [zsh_v σ (by omega) n (n + 1), if_neg (by omega), e]
      · simp (disch := omega) only [zu_at, zu_r]
        rw [zsh_v σ (by omega) n (n + 1), if_neg (by omega), e]
      · simp (disch := omega) only [zu_at, zu_r]
        rw [zsh_v σ (by omega) n (n + 1), if_neg (by omega), e]
    · simp (disch := omega) only [zu_c]
      rw [zsh_v σ hr n t]
      by_cases h : t < n
      · rw [if_pos h, if_pos (by omega)]
      · rw [if_neg h, if_neg (by omega)]
theorem wsf_v (σ : zm) {r : Nat} (hr : r = 126 ∨ r = 127 ∨ r = 128) : ∀ (n t : Nat), wsf σ n r t = if t < n then σ r (t + 1) else σ r t
  | 0, t => by rw [if_neg (by omega)]; rfl
  | n + 1, t => by
    show wrow (wsf σ n) n (wsf σ n 126 (n + 1)) (wsf σ n 127 (n + 1)) (wsf σ n 128 (n + 1)) r t = _
    unfold wrow
    by_cases e : t = n
    · rw [if_pos (by omega)]
      rcases hr with rfl | rfl | rfl
      · simp (disch := omega) only [zu_at, zu_r]
        rw [wsf_v σ (by omega) n (n + 1), if_neg (by omega), e]
      · simp (disch := omega) only [zu_at, zu_r]
        rw [wsf_v σ (by omega) n (n + 1), if_neg (by omega), e]
      · simp (disch := omega) only [zu_at, zu_r]
        rw [wsf_v σ (by omega) n (n + 1), if_neg (by omega), e]
    · simp (disch := omega) only [zu_c]
      rw [wsf_v σ hr n t]
      by_cases h : t < n
      · rw [if_pos h, if_pos (by omega)]
      · rw [if_neg h, if_neg (by omega)]
theorem zhold_c {σ τ : zm} (e : ∀ a, 9 ≤ a → τ a = σ a) (n x : Int32) : zhold τ n x = zhold σ n x := by
  have ea : ∀ k, τ (za k) = σ (za k) := fun k => e _ (by unfold za; omega)
  have ep : ∀ k, τ (zp k) = σ (zp k) := fun k => e _ (by unfold zp; omega)
  have ep1 : ∀ k, τ (zp k + 1) = σ (zp k + 1) := fun k => e _ (by unfold zp; omega)
  have ed : zdcl τ x = zdcl σ x := by
    unfold zdcl
    congr 1
    funext k
    unfold zhit zdec
    rw [ea, ep1]
  unfold zhold zinst
  rw [ed, ea, ep, ep1, ep]
theorem wmay_c {σ τ : zm} (e : ∀ a b, 105 ≤ a → a ≤ 120 → τ a b = σ a b) (n x : Int32) : wmay τ n x = wmay σ n x := by
  have e2 : ∀ k j m, wmyp τ k x j m = wmyp σ k x j m := fun k j m => by
    induction m with
    | zero => rfl
    | succ m ih =>
      show (wmyp τ k x j m || whit τ k x j m) = (wmyp σ k x j m || whit σ k x j m)
      rw [ih]
      unfold whit wlev
      rw [e 105 _ (by decide) (by decide), e 110 _ (by decide) (by decide), e 120 _ (by decide) (by decide), e 107 _ (by decide) (by decide), e 107 _ (by decide) (by decide)]
  unfold wmay wapp
  rw [e 105 _ (by decide) (by decide), e 109 _ (by decide) (by decide), e2]
theorem rB_1 {x y : Int32} (h : rB x y) : decide (x = 1) = !decide (y = 0) := by
  obtain ⟨rfl, h⟩ := h
  rcases h with rfl | rfl <;> decide
theorem rG_1 {x : Int32} (h : rG x) : decide (x < 0) = decide (x = -1) := by
  rcases h with rfl | ⟨j, hj, rfl⟩
  · decide
  · rw [decide_eq_false (nI_pos (by omega)), decide_eq_false (nI_m1' (by omega))]
theorem a_mat {σ τ ρ : zm} (hR : Rl σ) (et : ∀ a, 9 ≤ a → τ a = σ a) (er : ∀ a b, 105 ≤ a → a ≤ 120 → ρ a b = σ a b) {a t pn : Nat} (ha : a < 8) (ht : t < 4) (g ac : Int32) : wtak ρ a t g ac pn = (decide (t < pn) && zmat τ a g ac t) := by
  obtain ⟨h1, h2, h3, h4, h5⟩ := (hR.2.2.1 a ha).1.2.2.2.2.2.1 t ht
  unfold wtak zmat zgua
  rw [er 112 _ (by decide) (by decide), er 113 _ (by decide) (by decide), er 114 _ (by decide) (by decide), wmay_c er, zhold_c et, a_holds hR, et (zp a + 2) (by unfold zp; omega), et (zp a + 3) (by unfold zp; omega), et (zp a + 4) (by unfold zp; omega), h1, rB_1 h2, h3, rG_1 h4]
  cases decide (t < pn) <;> rfl
theorem zptl_or {σ : zm} {a : Nat} {g ac : Int32} : ∀ {f i : Nat}, (zptl σ a g ac f i = -1 ∧ ∀ t, i ≤ t → t < i + f → zmat σ a g ac t = false) ∨ ∃ t, i ≤ t ∧ t < i + f ∧ zptl σ a g ac f i = σ (zp a + 5) t ∧ zmat σ a g ac t = true ∧ ∀ j, i ≤ j → j < t → zmat σ a g ac j = false
  | 0, _ => Or.inl ⟨rfl, fun _ h1 h2 => absurd h1 (by omega)⟩
  | f + 1, i => by
    cases hp : zmat σ a g ac i with
    | true => exact Or.inr ⟨i, by omega, by omega, zptl_t hp, hp, fun j h1 h2 => absurd h1 (by omega)⟩
    | false =>
      rw [zptl_f hp]
      rcases zptl_or (σ := σ) (a := a) (g := g) (ac := ac) (f := f) (i := i + 1) with ⟨h1, h2⟩ | ⟨k, h1, h2, h3, h4, h5⟩
      · refine Or.inl ⟨h1, fun k a b => ?_⟩
        by_cases e : k = i
        · rw [e]; exact hp
        · exact h2 k (by omega) (by omega)
      · refine Or.inr ⟨k, by omega, by omega, h3, h4, fun j a b => ?_⟩
        by_cases e : j = i
        · rw [e]; exact hp
        · exact h5 j (by omega) b
theorem zdlv_or {τ : zm} {g ac v : Int32} {pf : Nat → Nat} : ∀ {f i : Nat}, (zdlv τ g ac v pf f i = (-1, τ) ∧ ∀ a, i ≤ a → a < i + f → zptb τ a g ac (pf a) = -1) ∨ ∃ a, i ≤ a ∧ a < i + f ∧ zdlv τ g ac v pf f i = (nI a, zrun τ a (zptb τ a g ac (pf a)) v g) ∧ ¬ zptb τ a g ac (pf a) = -1 ∧ ∀ j, i ≤ j → j < a → zptb τ j g ac (pf j) = -1
  | 0, _ => Or.inl ⟨rfl, fun _ h1 h2 => absurd h1 (by omega)⟩
  | f + 1, i => by
    by_cases hp : zptb τ i g ac (pf i) = -1
    · rw [zdlv_f hp]
      rcases zdlv_or (τ := τ) (g := g) (ac := ac) (v := v) (pf := pf) (f := f) (i := i + 1) with ⟨h1, h2⟩ | ⟨k, h1, h2, h3, h4, h5⟩
      · refine Or.inl ⟨h1, fun k a b => ?_⟩
        by_cases e : k = i
        · rw [e]; exact hp
        · exact h2 k (by omega) (by omega)
      · refine Or.inr ⟨k, by omega, by omega, h3, h4, fun j a b => ?_⟩
        by_cases e : j = i
        · rw [e]; exact hp
        · exact h5 j (by omega) b
    · exact Or.inr ⟨i, by omega, by omega, zdlv_t hp, hp, fun j h1 h2 => absurd h1 (by omega)⟩
theorem zfst_eq {P : Nat → Bool} {f k : Nat} (hk : k < f) (h : P k = true) (he : ∀ j, j < k → P j = false) (hf : f < 2 ^ 31) : zfst P f 0 = nI k := by
  rcases zfst_or (P := P) (f := f) (i := 0) with ⟨h1, h2⟩ | ⟨j, h1, h2, h3, h4, h5⟩
  · rw [h2 k (by omega) (by omega)] at h; cases h
  · rcases Nat.lt_trichotomy j k with c | c | c
    · rw [he j c] at h4; cases h4
    · rw [h3, c]
    · rw [h5 k (by omega) c] at h; cases h
theorem zfst_no {P : Nat → Bool} {f : Nat} (he : ∀ j, j < f → P j = false) : zfst P f 0 = -1 := by
  rcases zfst_or (P := P) (f := f) (i := 0) with ⟨h1, h2⟩ | ⟨j, h1, h2, h3, h4, h5⟩
  · exact h1
  · rw [he j (by omega)] at h4; cases h4
theorem zrun_off (σ : zm) {n a : Nat} (p v g : Int32) (h : ¬ (za n ≤ a ∧ a < za n + 4)) : zrun σ n p v g a = σ a := by
  unfold zrun
  rw [zu_row _ _ (by omega), zu_row _ _ (by omega), zfill_off _ _ (by omega), zu_row _ _ (by omega), zu_row _ _ (by omega), zu_row _ _ (by omega)]
theorem K_deliver (σ : zm) (z : Nat) (pf : Nat → Nat) {a : Nat} (ha : 104 ≤ a) : (zdel σ z pf).2 a = σ a := by
  unfold zdel
  split
  · rfl
  · rcases zdlv_or (τ := zdf σ z) (g := σ 3 0) (ac := σ 4 0) (v := σ 5 0) (pf := pf) (f := 8) (i := 0) with ⟨h1, h2⟩ | ⟨k, h1, h2, h3, h4, h5⟩
    · rw [h1]; exact zdf_off _ _ (by omega)
    · rw [h3]
      show zrun _ _ _ _ _ a = σ a
      rw [zrun_off _ _ _ _ (by unfold za; omega)]
      exact zdf_off _ _ (by omega)
/-- the queue is one shorter -/
theorem rQ_df {σ τ : zm} {z : Nat} (hr : rQ σ) (hz0 : σ 2 0 = nI z) (hz8 : z ≤ 8) (hz : ¬ z = 0) (e1 : τ 2 0 = nI (z - 1)) (e2 : τ 104 24 = nI (z - 1)) (e3 : ∀ r t, (r = 3 ∨ r = 4 ∨ r = 5) → τ r t = zsh σ (z - 1) r t) (e4 : ∀ r t, (r = 126 ∨ r = 127 ∨ r = 128) → t < z - 1 → τ r t = σ r (t + 1)) : rQ τ := by
  obtain ⟨z', q1, q2, q3, q4⟩ := hr
  have ez : z' = z := (nI_eq (by omega) (by omega)).mp (q2.symm.trans hz0)
  subst ez
  refine ⟨z' - 1, by omega, e1, e2, fun t ht => ?_⟩
  rw [e3 3 t (by omega), e3 4 t (by omega), e3 5 t (by omega), zsh_v σ (by omega), zsh_v σ (by omega), zsh_v σ (by omega), if_pos ht, if_pos ht, if_pos ht, e4 126 t (by omega) ht, e4 127 t (by omega) ht, e4 128 t (by omega) ht]
  exact q4 (t + 1) (by omega)
theorem wdf_q {σ : zm} {z : Nat} : wdf σ z 104 24 = nI (z - 1) := by
  unfold wdf
  rw [wsf_off _ _ (by omega), zu_eq]
theorem wdf_v {σ : zm} {z r t : Nat} (hr : r = 126 ∨ r = 127 ∨ r = 128) (ht : t < z - 1) : wdf σ z r t = σ r (t + 1) := by
  unfold wdf wz
  rw [wsf_v _ hr, if_pos ht, zu_r _ _ (by omega), zu_r _ _ (by omega)]
theorem wdf_k {σ : zm} {z b : Nat} (hb : ¬ (b = 0 ∨ b = 24)) : wdf σ z 104 b = σ 104 b := by
  unfold wdf wz
  rw [wsf_off _ _ (by omega), zu_c _ _ (by omega), zu_c _ _ (by omega)]
