/-! step: a word done by both -/
/-- what app a keeps -/
def rK (σ : zm) (n : Nat) : Prop := ((∃ m, m < 256 ∧ σ (za n) 3 = nI m) ∧ wcnt σ n 8 ≤ 3) ∧ (∀ t, t < 8 → zbit (σ (za n) 3) (nI t) = !decide (σ 118 (8 * n + t) = 0) ∧ (σ 118 (8 * n + t) = 0 ∨ σ 118 (8 * n + t) = 1)) ∧ (∀ t, t < 8 → σ (za n + 1) t = σ 119 (8 * n + t))
theorem rK_c {σ τ : zm} {n : Nat} (e1 : τ (za n) 3 = σ (za n) 3) (e2 : ∀ t, t < 8 → τ (za n + 1) t = σ (za n + 1) t) (e3 : ∀ t, t < 8 → τ 118 (8 * n + t) = σ 118 (8 * n + t)) (e4 : ∀ t, t < 8 → τ 119 (8 * n + t) = σ 119 (8 * n + t)) (h : rK σ n) : rK τ n := by
  refine ⟨⟨?_, ?_⟩, fun t ht => ?_, fun t ht => ?_⟩
  · rw [e1]; exact h.1.1
  · rw [wcnt_c e3]; exact h.1.2
  · rw [e1, e3 t ht]; exact h.2.1 t ht
  · rw [e2 t ht, e4 t ht]; exact h.2.2 t ht
theorem Rl_st {σ θ : zm} (hR : Rl σ) {a : Nat} (ha : a < 8) (h5 : ¬ σ 105 a = 0) (hag : ag (oA a) σ θ) (e0 : θ (za a) 0 = σ (za a) 0) (e2 : θ (za a) 2 = σ (za a) 2) (e105 : θ 105 a = σ 105 a) (e120 : θ 120 a = σ 120 a) (hb : rB (θ (za a) 5) (θ 121 a)) (hk : rK θ a) (hr : ¬ θ 121 a = 0 → rRun θ a) (hQ : rQ θ) (hT : rT θ) : Rl θ := by
  have hp : ag (fPk a) σ θ := fun x b h => hag x b (oA_p ha (by omega) h)
  obtain ⟨r1, r2, r3, r4, r5, r6, r7, r8, r9, r10⟩ := hR.2.2.1 a ha
  refine Rl_a ha hR hag ⟨rPk_f hp r1, ?_, hb, ?_, ?_, ?_, hk.1, hk.2.1, hk.2.2, hr⟩ hQ hT (fun _ => h5)
  · rw [e0, e105]; exact r2
  · rw [e105, hp (zp a) 1 (Or.inl (by omega)), hp 106 a (Or.inr (Or.inl ⟨by omega, rfl⟩))]
    intro q
    obtain ⟨y1, H, y2⟩ := r4 q
    exact ⟨y1, H, rC_f hp y2⟩
  · rw [e2, e120]; exact r5
  · rw [e105]; exact fun q => absurd q h5
/-- the cells by which app a runs, and those of the turn -/
def rc (a x b : Nat) : Prop := (x = za a ∧ (b = 6 ∨ b = 7)) ∨ x = za a + 2 ∨ x = za a + 3 ∨ (x = 0 ∧ b = 4) ∨ ((x = 122 ∨ x = 123) ∧ b = a) ∨ (x = 124 ∧ 6 * a ≤ b ∧ b < 6 * a + 6) ∨ (x = 125 ∧ 4 * a ≤ b ∧ b < 4 * a + 4) ∨ (x = 104 ∧ (b = 0 ∨ b = 23)) ∨ x = 130
theorem rA_K {σ : zm} {n : Nat} (h : rA σ n) : rK σ n := ⟨h.2.2.2.2.2.2.1, h.2.2.2.2.2.2.2.1, h.2.2.2.2.2.2.2.2.1⟩
theorem Rl_run {σ θ : zm} (hR : Rl σ) {a : Nat} (ha : a < 8) (h5 : ¬ σ 105 a = 0) (o : ∀ x b, ¬ rc a x b → θ x b = σ x b) (t1 : θ 0 4 = nI a) (t2 : θ 104 23 = nI a) {H : Nat → Int32} {wn p' h' : Nat} (hC : rC σ a H) (hw : wn ≤ 24) (hwn : σ 116 a = nI wn) (hp : p' < wn) (hh : h' ≤ 6) (hH : H p' = nI h') (f1 : θ (za a) 6 = nI p') (f2 : θ 122 a = nI p') (f3 : θ (za a) 7 = nI h') (f4 : θ 123 a = nI h') (f5 : ∀ t, t < h' → θ (za a + 2) t = θ 124 (6 * a + t)) (f6 : ∀ t, t < 4 → θ (za a + 3) t = θ 125 (4 * a + t)) : Rl θ := by
  have hza : za a = 72 + 4 * a := rfl
  have hag : ag (oA a) σ θ := fun x b h => o x b (by unfold oA at h; unfold rc; omega)
  have hA := hR.2.2.1 a ha
  have hpk : ag (fPk a) σ θ := fun x b h => hag x b (oA_p ha (by omega) h)
  refine Rl_st hR ha h5 hag (o _ _ (by unfold rc; omega)) (o _ _ (by unfold rc; omega)) (o _ _ (by unfold rc; omega)) (o _ _ (by unfold rc; omega)) ?_ (rK_c (o _ _ (by unfold rc; omega)) (fun t ht => o _ _ (by unfold rc; omega)) (fun t ht => o _ _ (by unfold rc; omega)) (fun t ht => o _ _ (by unfold rc; omega)) (rA_K hA)) (fun _ => ⟨p', h', H, by omega, hh, rC_f hpk hC, ⟨wn, ?_, hw, hp⟩, hH, f1, f2, f3, f4, f5, f6⟩) (rQ_f (fun x b h => o x b (by unfold fQ at h; unfold rc; omega)) hR.2.2.2.1) ⟨a + 1, by omega, ?_, ?_⟩
  · rw [o (za a) 5 (by unfold rc; omega), o 121 a (by unfold rc; omega)]; exact hA.2.2.1
  · rw [o 116 a (by unfold rc; omega)]; exact hwn
  · rw [t1, nI_pred]
  · rw [t2, nI_pred]
theorem zpsh_e {σ : zm} {a h : Nat} {v : Int32} (e : σ (za a) 7 = nI h) (hh : h < 6) : zpsh σ a v = zu (zu σ (za a + 2) h v) (za a) 7 (nI (h + 1)) := by
  unfold zpsh
  rw [e, show (6 : Int32) = nI 6 from rfl, zin_nI hh (by omega), if_pos rfl, nI_clamp (by omega), nI_1]
theorem zpop_e {σ : zm} {a h : Nat} (e : σ (za a) 7 = nI h) (hh : 1 ≤ h) (h6 : h ≤ 6) : zpop σ a = zu σ (za a) 7 (nI (h - 1)) := by
  unfold zpop
  rw [e, zmax_pred hh (by omega)]
theorem zpop2_e {σ : zm} {a h : Nat} (e : σ (za a) 7 = nI h) (hh : 2 ≤ h) (h6 : h ≤ 6) : zpop (zpop σ a) a = zu (zu σ (za a) 7 (nI (h - 1))) (za a) 7 (nI (h - 2)) := by
  rw [zpop_e e (by omega) h6, zpop_e (h := h - 1) (zu_eq _ _ _ _) (by omega) (by omega)]
  rfl
theorem zup_p {σ : zm} {a h : Nat} (e : σ (za a) 7 = nI h) (hh : 2 ≤ h) (h6 : h ≤ 6) : zup (zpop σ a) a = σ (za a + 2) (h - 2) := by
  rw [zpop_e e (by omega) h6, zup_h (h := h - 1) (zu_eq _ _ _ _) (by omega) (by omega), zu_r _ _ (by omega)]
  rfl
/-- what the class's step begins with -/
def zs1 (σ : zm) (a : Nat) : zm := zu σ 0 4 (nI a)
section OPS
variable {σ : zm} {a p h wn z : Nat} {H : Nat → Int32} {n : Int32}
theorem zw_ip {o : Nat} (hR : Rl σ) (ha : a < 8) (x : rnX σ a p h wn o H n) : zwip (zs1 σ a) a wn &&& 15 = nI o ∧ zwip (zs1 σ a) a wn >>> ((4 : Int32) &&& 31) = n := by
  obtain ⟨⟨x1, x2, -, -⟩, -, ⟨y1, -, -, -⟩, -, -, ⟨z1, z2⟩, -⟩ := x
  have e : zwip (zs1 σ a) a wn = σ 117 (24 * a + p) := by
    unfold zwip zs1
    rw [zu_r _ _ (by unfold za; omega), y1, zin_nI x1 (by omega), if_pos rfl, nI_clamp (by omega), zu_r _ _ (by unfold zp; omega)]
    exact (hR.2.2.1 a ha).1.2.2.2.2.2.2 p (by omega)
  rw [e]
  exact ⟨z1, z2⟩
theorem o_1 (hR : Rl σ) (ha : a < 8) (h5 : ¬ σ 105 a = 0) (x : rnX σ a p h wn 1 H n) (X : zm) (w : Int32) (hX : X = zu (zu (zpl (zs1 σ a) a 1 n) (za a) 6 (zpl (zs1 σ a) a 1 n (za a) 6 + 1)) 130 0 w) : Rl (zu (wdoe (wst1 X a) a 1 n h z).1 122 a (wdoe (wst1 X a) a 1 n h z).2) := by
  have hza : za a = 72 + 4 * a := rfl
  obtain ⟨⟨x1, x2, x3, x4⟩, ⟨c1, c2, c3⟩, ⟨y1, y2, y3, y4⟩, s1, s2, -, ⟨u1, u2⟩, jm, nx, lo⟩ := x
  have u1 : 0 ≤ h := u1
  have u2 : h - 0 + 1 ≤ 6 := u2
  have e7 : zs1 σ a (za a) 7 = nI h := by unfold zs1; rw [zu_r _ _ (by omega)]; exact y3
  have e6 : zs1 σ a (za a) 6 = nI p := by unfold zs1; rw [zu_r _ _ (by omega)]; exact y1
  obtain ⟨n1, n2⟩ := nx (by omega)
  have n2 : H (p + 1) = nI (h - 0 + 1) := n2
  rw [show h - 0 + 1 = h + 1 by omega] at n2
  rw [show zpl (zs1 σ a) a 1 n = zu (zu (zs1 σ a) (za a + 2) h n) (za a) 7 (nI (h + 1)) from zpsh_e e7 (by omega)] at hX
  clear jm nx lo
  rw [wdo_1 rfl]
  unfold wpsh wst1 wz
  unfold zs1 at hX
  subst hX
  refine Rl_run hR ha h5 (h' := h + 1) (fun x b hx => ?_) ?_ ?_ c1 x2 c2 n1 (by omega) n2 ?_ ?_ ?_ ?_ (fun t ht => ?_) (fun t ht => ?_)
  · unfold rc at hx
    simp (disch := omega) only [zu_ne]
  · simp (disch := omega) only [zu_at, zu_ne]
  · simp (disch := omega) only [zu_at, zu_ne]
  · simp (disch := omega) only [zu_at, zu_ne]; rw [y1, nI_1]
  · simp (disch := omega) only [zu_at, zu_ne]; rw [y2, nI_1]
  · simp (disch := omega) only [zu_at, zu_ne]
  · simp (disch := omega) only [zu_at, zu_ne]
  · by_cases e : t = h
    · simp (disch := omega) only [zu_at, zu_ne]
    · simp (disch := omega) only [zu_at, zu_ne]; exact s1 t (by omega)
  · simp (disch := omega) only [zu_at, zu_ne]; exact s2 t ht
theorem o_2 (hR : Rl σ) (ha : a < 8) (h5 : ¬ σ 105 a = 0) (x : rnX σ a p h wn 2 H n) (X : zm) (w : Int32) (hX : X = zu (zu (zpl (zs1 σ a) a 2 n) (za a) 6 (zpl (zs1 σ a) a 2 n (za a) 6 + 1)) 130 0 w) : Rl (zu (wdoe (wst1 X a) a 2 n h z).1 122 a (wdoe (wst1 X a) a 2 n h z).2) := by
  have hza : za a = 72 + 4 * a := rfl
  obtain ⟨⟨x1, x2, x3, x4⟩, ⟨c1, c2, c3⟩, ⟨y1, y2, y3, y4⟩, s1, s2, -, ⟨u1, u2⟩, jm, nx, lo⟩ := x
  have u1 : 2 ≤ h := u1
  have u2 : h - 2 + 1 ≤ 6 := u2
  have e7 : zs1 σ a (za a) 7 = nI h := by unfold zs1; rw [zu_r _ _ (by omega)]; exact y3
  have e6 : zs1 σ a (za a) 6 = nI p := by unfold zs1; rw [zu_r _ _ (by omega)]; exact y1
  obtain ⟨n1, n2⟩ := nx (by omega)
  have n2 : H (p + 1) = nI (h - 2 + 1) := n2
  rw [show zpl (zs1 σ a) a 2 n = zpsh (zpop (zpop (zs1 σ a) a) a) a (zup (zs1 σ a) a + zup (zpop (zs1 σ a) a) a) from rfl, zup_p e7 u1 x3, zup_h e7 (by omega) x3, zpop2_e e7 u1 x3, zpsh_e (h := h - 2) (zu_eq _ _ _ _) (by omega)] at hX
  clear jm nx lo
  rw [wdo_2 (by omega)]
  unfold wpsh wbin wst1 wz
  unfold zs1 at hX
  subst hX
  refine Rl_run hR ha h5 (h' := h - 2 + 1) (fun x b hx => ?_) ?_ ?_ c1 x2 c2 n1 (by omega) n2 ?_ ?_ ?_ ?_ (fun t ht => ?_) (fun t ht => ?_)
  · unfold rc at hx
    simp (disch := omega) only [zu_ne]
  · simp (disch := omega) only [zu_at, zu_ne]
  · simp (disch := omega) only [zu_at, zu_ne]
  · simp (disch := omega) only [zu_at, zu_ne]; rw [y1, nI_1]
  · simp (disch := omega) only [zu_at, zu_ne]; rw [y2, nI_1]
  · simp (disch := omega) only [zu_at, zu_ne]
  · simp (disch := omega) only [zu_at, zu_ne]
  · by_cases e : t = h - 2
    · simp (disch := omega) only [zu_at, zu_ne]
      rw [if_pos trivial]
      rw [show h - 1 - 1 = h - 2 by omega, show h - 1 - 0 = h - 1 by omega]
      rw [s1 (h - 1) (by omega), s1 (h - 2) (by omega), Int32.add_comm]
    · simp (disch := omega) only [zu_at, zu_ne]; exact s1 t (by omega)
  · simp (disch := omega) only [zu_at, zu_ne]; exact s2 t ht
theorem o_3 (hR : Rl σ) (ha : a < 8) (h5 : ¬ σ 105 a = 0) (x : rnX σ a p h wn 3 H n) (X : zm) (w : Int32) (hX : X = zu (zu (zpl (zs1 σ a) a 3 n) (za a) 6 (zpl (zs1 σ a) a 3 n (za a) 6 + 1)) 130 0 w) : Rl (zu (wdoe (wst1 X a) a 3 n h z).1 122 a (wdoe (wst1 X a) a 3 n h z).2) := by
  have hza : za a = 72 + 4 * a := rfl
  obtain ⟨⟨x1, x2, x3, x4⟩, ⟨c1, c2, c3⟩, ⟨y1, y2, y3, y4⟩, s1, s2, -, ⟨u1, u2⟩, jm, nx, lo⟩ := x
  have u1 : 2 ≤ h := u1
  have u2 : h - 2 + 1 ≤ 6 := u2
  have e7 : zs1 σ a (za a) 7 = nI h := by unfold zs1; rw [zu_r _ _ (by omega)]; exact y3
  have e6 : zs1 σ a (za a) 6 = nI p := by unfold zs1; rw [zu_r _ _ (by omega)]; exact y1
  obtain ⟨n1, n2⟩ := nx (by omega)
  have n2 : H (p + 1) = nI (h - 2 + 1) := n2
  rw [show zpl (zs1 σ a) a 3 n = zpsh (zpop (zpop (zs1 σ a) a) a) a (zup (zpop (zs1 σ a) a) a - zup (zs1 σ a) a) from rfl, zup_p e7 u1 x3, zup_h e7 (by omega) x3, zpop2_e e7 u1 x3, zpsh_e (h := h - 2) (zu_eq _ _ _ _) (by omega)] at hX
  clear jm nx lo
  rw [wdo_2 (by omega)]
  unfold wpsh wbin wst1 wz
  unfold zs1 at hX
  subst hX
  refine Rl_run hR ha h5 (h' := h - 2 + 1) (fun x b hx => ?_) ?_ ?_ c1 x2 c2 n1 (by omega) n2 ?_ ?_ ?_ ?_ (fun t ht => ?_) (fun t ht => ?_)
  · unfold rc at hx
    simp (disch := omega) only [zu_ne]
  · simp (disch := omega) only [zu_at, zu_ne]
  · simp (disch := omega) only [zu_at, zu_ne]
  · simp (disch := omega) only [zu_at, zu_ne]; rw [y1, nI_1]
  · simp (disch := omega) only [zu_at, zu_ne]; rw [y2, nI_1]
  · simp (disch := omega) only [zu_at, zu_ne]
  · simp (disch := omega) only [zu_at, zu_ne]
  · by_cases e : t = h - 2
    · simp (disch := omega) only [zu_at, zu_ne]
      rw [if_neg (by decide)]
      rw [show h - 1 - 1 = h - 2 by omega, show h - 1 - 0 = h - 1 by omega]
      rw [s1 (h - 1) (by omega), s1 (h - 2) (by omega)]
    · simp (disch := omega) only [zu_at, zu_ne]; exact s1 t (by omega)
  · simp (disch := omega) only [zu_at, zu_ne]; exact s2 t ht
theorem o_4 (hR : Rl σ) (ha : a < 8) (h5 : ¬ σ 105 a = 0) (x : rnX σ a p h wn 4 H n) (X : zm) (w : Int32) (hX : X = zu (zu (zpl (zs1 σ a) a 4 n) (za a) 6 (zpl (zs1 σ a) a 4 n (za a) 6 + 1)) 130 0 w) : Rl (zu (wdoe (wst1 X a) a 4 n h z).1 122 a (wdoe (wst1 X a) a 4 n h z).2) := by
  have hza : za a = 72 + 4 * a := rfl
  obtain ⟨⟨x1, x2, x3, x4⟩, ⟨c1, c2, c3⟩, ⟨y1, y2, y3, y4⟩, s1, s2, -, ⟨u1, u2⟩, jm, nx, lo⟩ := x
  have u1 : 1 ≤ h := u1
  have u2 : h - 1 + 2 ≤ 6 := u2
  have e7 : zs1 σ a (za a) 7 = nI h := by unfold zs1; rw [zu_r _ _ (by omega)]; exact y3
  have e6 : zs1 σ a (za a) 6 = nI p := by unfold zs1; rw [zu_r _ _ (by omega)]; exact y1
  obtain ⟨n1, n2⟩ := nx (by omega)
  have n2 : H (p + 1) = nI (h - 1 + 2) := n2
  rw [show h - 1 + 2 = h + 1 by omega] at n2
  rw [show zpl (zs1 σ a) a 4 n = zpsh (zs1 σ a) a (zup (zs1 σ a) a) from rfl, zup_h e7 u1 x3, zpsh_e e7 (by omega)] at hX
  clear jm nx lo
  rw [wdo_4 rfl]
  unfold wpsh wst1 wz
  unfold zs1 at hX
  subst hX
  refine Rl_run hR ha h5 (h' := h + 1) (fun x b hx => ?_) ?_ ?_ c1 x2 c2 n1 (by omega) n2 ?_ ?_ ?_ ?_ (fun t ht => ?_) (fun t ht => ?_)
  · unfold rc at hx
    simp (disch := omega) only [zu_ne]
  · simp (disch := omega) only [zu_at, zu_ne]
  · simp (disch := omega) only [zu_at, zu_ne]
  · simp (disch := omega) only [zu_at, zu_ne]; rw [y1, nI_1]
  · simp (disch := omega) only [zu_at, zu_ne]; rw [y2, nI_1]
  · simp (disch := omega) only [zu_at, zu_ne]
  · simp (disch := omega) only [zu_at, zu_ne]
  · by_cases e : t = h
    · simp (disch := omega) only [zu_at, zu_ne]
      exact s1 (h - 1) (by omega)
    · simp (disch := omega) only [zu_at, zu_ne]; exact s1 t (by omega)
  · simp (disch := omega) only [zu_at, zu_ne]; exact s2 t ht
theorem o_5 (hR : Rl σ) (ha : a < 8) (h5 : ¬ σ 105 a = 0) (x : rnX σ a p h wn 5 H n) (X : zm) (w : Int32) (hX : X = zu (zu (zpl (zs1 σ a) a 5 n) (za a) 6 (zpl (zs1 σ a) a 5 n (za a) 6 + 1)) 130 0 w) : Rl (zu (wdoe (wst1 X a) a 5 n h z).1 122 a (wdoe (wst1 X a) a 5 n h z).2) := by
  have hza : za a = 72 + 4 * a := rfl
  obtain ⟨⟨x1, x2, x3, x4⟩, ⟨c1, c2, c3⟩, ⟨y1, y2, y3, y4⟩, s1, s2, -, ⟨u1, u2⟩, jm, nx, lo⟩ := x
  have u1 : 1 ≤ h := u1
  have u2 : h - 1 + 0 ≤ 6 := u2
  have e7 : zs1 σ a (za a) 7 = nI h := by unfold zs1; rw [zu_r _ _ (by omega)]; exact y3
  have e6 : zs1 σ a (za a) 6 = nI p := by unfold zs1; rw [zu_r _ _ (by omega)]; exact y1
  obtain ⟨n1, n2⟩ := nx (by omega)
  have n2 : H (p + 1) = nI (h - 1 + 0) := n2
  rw [show h - 1 + 0 = h - 1 by omega] at n2
  rw [show zpl (zs1 σ a) a 5 n = zpop (zs1 σ a) a from rfl, zpop_e e7 u1 x3] at hX
  clear jm nx lo
  rw [wdo_5 rfl]
  unfold wst1 wz
  unfold zs1 at hX
  subst hX
  refine Rl_run hR ha h5 (h' := h - 1) (fun x b hx => ?_) ?_ ?_ c1 x2 c2 n1 (by omega) n2 ?_ ?_ ?_ ?_ (fun t ht => ?_) (fun t ht => ?_)
  · unfold rc at hx
    simp (disch := omega) only [zu_ne]
  · simp (disch := omega) only [zu_at, zu_ne]
  · simp (disch := omega) only [zu_at, zu_ne]
  · simp (disch := omega) only [zu_at, zu_ne]; rw [y1, nI_1]
  · simp (disch := omega) only [zu_at, zu_ne]; rw [y2, nI_1]
  · simp (disch := omega) only [zu_at, zu_ne]
  · simp (disch := omega) only [zu_at, zu_ne]
  · simp (disch := omega) only [zu_at, zu_ne]; exact s1 t (by omega)
  · simp (disch := omega) only [zu_at, zu_ne]; exact s2 t ht
theorem o_6 (hR : Rl σ) (ha : a < 8) (h5 : ¬ σ 105 a = 0) (x : rnX σ a p h wn 6 H n) (X : zm) (w : Int32) (hX : X = zu (zu (zpl (zs1 σ a) a 6 n) (za a) 6 (zpl (zs1 σ a) a 6 n (za a) 6 + 1)) 130 0 w) : Rl (zu (wdoe (wst1 X a) a 6 n h z).1 122 a (wdoe (wst1 X a) a 6 n h z).2) := by
  have hza : za a = 72 + 4 * a := rfl
  obtain ⟨⟨x1, x2, x3, x4⟩, ⟨c1, c2, c3⟩, ⟨y1, y2, y3, y4⟩, s1, s2, -, ⟨u1, u2⟩, jm, nx, lo⟩ := x
  have u1 : 0 ≤ h := u1
  have u2 : h - 0 + 1 ≤ 6 := u2
  have e7 : zs1 σ a (za a) 7 = nI h := by unfold zs1; rw [zu_r _ _ (by omega)]; exact y3
  have e6 : zs1 σ a (za a) 6 = nI p := by unfold zs1; rw [zu_r _ _ (by omega)]; exact y1
  obtain ⟨n1, n2⟩ := nx (by omega)
  have n2 : H (p + 1) = nI (h - 0 + 1) := n2
  rw [show h - 0 + 1 = h + 1 by omega] at n2
  obtain ⟨j, j1, rfl⟩ := lo (by omega)
  rw [zpl_6, show zin (nI j) 4 = true from zin_nI (n := 4) j1 (by omega), if_pos rfl, nI_clamp (by omega), zpsh_e e7 (by omega)] at hX
  clear jm nx lo
  rw [wdo_6 rfl (nI_clamp (by omega))]
  unfold wpsh wst1 wz
  unfold zs1 at hX
  subst hX
  refine Rl_run hR ha h5 (h' := h + 1) (fun x b hx => ?_) ?_ ?_ c1 x2 c2 n1 (by omega) n2 ?_ ?_ ?_ ?_ (fun t ht => ?_) (fun t ht => ?_)
  · unfold rc at hx
    simp (disch := omega) only [zu_ne]
  · simp (disch := omega) only [zu_at, zu_ne]
  · simp (disch := omega) only [zu_at, zu_ne]
  · simp (disch := omega) only [zu_at, zu_ne]; rw [y1, nI_1]
  · simp (disch := omega) only [zu_at, zu_ne]; rw [y2, nI_1]
  · simp (disch := omega) only [zu_at, zu_ne]
  · simp (disch := omega) only [zu_at, zu_ne]
  · by_cases e : t = h
    · simp (disch := omega) only [zu_at, zu_ne]
      exact s2 j j1
    · simp (disch := omega) only [zu_at, zu_ne]; exact s1 t (by omega)
  · simp (disch := omega) only [zu_at, zu_ne]; exact s2 t ht
theorem o_7 (hR : Rl σ) (ha : a < 8) (h5 : ¬ σ 105 a = 0) (x : rnX σ a p h wn 7 H n) (X : zm) (w : Int32) (hX : X = zu (zu (zpl (zs1 σ a) a 7 n) (za a) 6 (zpl (zs1 σ a) a 7 n (za a) 6 + 1)) 130 0 w) : Rl (zu (wdoe (wst1 X a) a 7 n h z).1 122 a (wdoe (wst1 X a) a 7 n h z).2) := by
  have hza : za a = 72 + 4 * a := rfl
  obtain ⟨⟨x1, x2, x3, x4⟩, ⟨c1, c2, c3⟩, ⟨y1, y2, y3, y4⟩, s1, s2, -, ⟨u1, u2⟩, jm, nx, lo⟩ := x
  have u1 : 1 ≤ h := u1
  have u2 : h - 1 + 0 ≤ 6 := u2
  have e7 : zs1 σ a (za a) 7 = nI h := by unfold zs1; rw [zu_r _ _ (by omega)]; exact y3
  have e6 : zs1 σ a (za a) 6 = nI p := by unfold zs1; rw [zu_r _ _ (by omega)]; exact y1
  obtain ⟨n1, n2⟩ := nx (by omega)
  have n2 : H (p + 1) = nI (h - 1 + 0) := n2
  rw [show h - 1 + 0 = h - 1 by omega] at n2
  obtain ⟨j, j1, rfl⟩ := lo (by omega)
  rw [show zpl (zs1 σ a) a 7 (nI j) = zsto (zpop (zs1 σ a) a) a (nI j) (zup (zs1 σ a) a) from rfl] at hX
  unfold zsto at hX
  rw [show zin (nI j) 4 = true from zin_nI (n := 4) j1 (by omega), if_pos rfl, nI_clamp (by omega), zpop_e e7 u1 x3, zup_h e7 u1 x3] at hX
  clear jm nx lo
  rw [wdo_7 rfl (nI_clamp (by omega))]
  unfold wst1 wz
  unfold zs1 at hX
  subst hX
  refine Rl_run hR ha h5 (h' := h - 1) (fun x b hx => ?_) ?_ ?_ c1 x2 c2 n1 (by omega) n2 ?_ ?_ ?_ ?_ (fun t ht => ?_) (fun t ht => ?_)
  · unfold rc at hx
    simp (disch := omega) only [zu_ne]
  · simp (disch := omega) only [zu_at, zu_ne]
  · simp (disch := omega) only [zu_at, zu_ne]
  · simp (disch := omega) only [zu_at, zu_ne]; rw [y1, nI_1]
  · simp (disch := omega) only [zu_at, zu_ne]; rw [y2, nI_1]
  · simp (disch := omega) only [zu_at, zu_ne]
  · simp (disch := omega) only [zu_at, zu_ne]
  · simp (disch := omega) only [zu_at, zu_ne]; exact s1 t (by omega)
  · by_cases e : t = j
    · simp (disch := omega) only [zu_at, zu_ne]; exact s1 (h - 1) (by omega)
    · simp (disch := omega) only [zu_at, zu_ne]; exact s2 t ht
theorem o_8 (hR : Rl σ) (ha : a < 8) (h5 : ¬ σ 105 a = 0) (x : rnX σ a p h wn 8 H n) (X : zm) (w : Int32) (hX : X = zu (zturn (zs1 σ a) a 8 n) 130 0 w) : Rl (zu (wdoe (wst1 X a) a 8 n h z).1 122 a (wdoe (wst1 X a) a 8 n h z).2) := by
  have hza : za a = 72 + 4 * a := rfl
  obtain ⟨⟨x1, x2, x3, x4⟩, ⟨c1, c2, c3⟩, ⟨y1, y2, y3, y4⟩, s1, s2, -, ⟨u1, u2⟩, jm, nx, lo⟩ := x
  have u1 : 0 ≤ h := u1
  have u2 : h - 0 + 0 ≤ 6 := u2
  have e7 : zs1 σ a (za a) 7 = nI h := by unfold zs1; rw [zu_r _ _ (by omega)]; exact y3
  have e6 : zs1 σ a (za a) 6 = nI p := by unfold zs1; rw [zu_r _ _ (by omega)]; exact y1
  obtain ⟨j, n1, j2, n2⟩ := jm (by omega)
  have n2 : H j = nI h := n2
  rw [show zturn (zs1 σ a) a 8 n = zu (zs1 σ a) (za a) 6 (zs1 σ a (za a) 6 + n) from rfl] at hX
  clear jm nx lo
  rw [wdo_8 rfl]
  unfold wst1 wz
  unfold zs1 at hX
  subst hX
  refine Rl_run hR ha h5 (h' := h) (fun x b hx => ?_) ?_ ?_ c1 x2 c2 n1 (by omega) n2 ?_ ?_ ?_ ?_ (fun t ht => ?_) (fun t ht => ?_)
  · unfold rc at hx
    simp (disch := omega) only [zu_ne]
  · simp (disch := omega) only [zu_at, zu_ne]
  · simp (disch := omega) only [zu_at, zu_ne]
  · simp (disch := omega) only [zu_at, zu_ne]; rw [y1, j2]
  · simp (disch := omega) only [zu_at, zu_ne]; rw [y2, j2]
  · simp (disch := omega) only [zu_at, zu_ne]; exact y3
  · simp (disch := omega) only [zu_at, zu_ne]; exact y4
  · simp (disch := omega) only [zu_at, zu_ne]; exact s1 t (by omega)
  · simp (disch := omega) only [zu_at, zu_ne]; exact s2 t ht
theorem o_9a (hR : Rl σ) (ha : a < 8) (h5 : ¬ σ 105 a = 0) (x : rnX σ a p h wn 9 H n) (hc : σ (za a + 2) (h - 1) = 0) (X : zm) (w : Int32) (hX : X = zu (zturn (zs1 σ a) a 9 n) 130 0 w) : Rl (zu (wdoe (wst1 X a) a 9 n h z).1 122 a (wdoe (wst1 X a) a 9 n h z).2) := by
  have hza : za a = 72 + 4 * a := rfl
  obtain ⟨⟨x1, x2, x3, x4⟩, ⟨c1, c2, c3⟩, ⟨y1, y2, y3, y4⟩, s1, s2, -, ⟨u1, u2⟩, jm, nx, lo⟩ := x
  have u1 : 1 ≤ h := u1
  have u2 : h - 1 + 0 ≤ 6 := u2
  have e7 : zs1 σ a (za a) 7 = nI h := by unfold zs1; rw [zu_r _ _ (by omega)]; exact y3
  have e6 : zs1 σ a (za a) 6 = nI p := by unfold zs1; rw [zu_r _ _ (by omega)]; exact y1
  obtain ⟨j, n1, j2, n2⟩ := jm (by omega)
  have n2 : H j = nI (h - 1) := n2
  have hc2 : zs1 σ a (za a + 2) (h - 1) = σ (za a + 2) (h - 1) := by unfold zs1; exact zu_r _ _ (by omega)
  unfold zturn at hX
  rw [if_neg (by decide), if_neg (by decide), zup_h e7 u1 x3, hc2, if_pos hc, zpop_e e7 u1 x3] at hX
  clear jm nx lo
  rw [wdo_9 rfl]
  unfold wnx9 wst1 wz
  unfold zs1 at hX
  subst hX
  refine Rl_run hR ha h5 (h' := h - 1) (fun x b hx => ?_) ?_ ?_ c1 x2 c2 n1 (by omega) n2 ?_ ?_ ?_ ?_ (fun t ht => ?_) (fun t ht => ?_)
  · unfold rc at hx
    simp (disch := omega) only [zu_ne]
  · simp (disch := omega) only [zu_at, zu_ne]
  · simp (disch := omega) only [zu_at, zu_ne]
  · simp (disch := omega) only [zu_at, zu_ne]; rw [y1, j2]
  · simp (disch := omega) only [zu_at, zu_ne]; rw [show h - 1 - 0 = h - 1 by omega, if_pos (by rw [← s1 (h - 1) (by omega)]; exact hc), y2, j2]
  · simp (disch := omega) only [zu_at, zu_ne]
  · simp (disch := omega) only [zu_at, zu_ne]
  · simp (disch := omega) only [zu_at, zu_ne]; exact s1 t (by omega)
  · simp (disch := omega) only [zu_at, zu_ne]; exact s2 t ht
theorem o_9b (hR : Rl σ) (ha : a < 8) (h5 : ¬ σ 105 a = 0) (x : rnX σ a p h wn 9 H n) (hc : ¬ σ (za a + 2) (h - 1) = 0) (X : zm) (w : Int32) (hX : X = zu (zturn (zs1 σ a) a 9 n) 130 0 w) : Rl (zu (wdoe (wst1 X a) a 9 n h z).1 122 a (wdoe (wst1 X a) a 9 n h z).2) := by
  have hza : za a = 72 + 4 * a := rfl
  obtain ⟨⟨x1, x2, x3, x4⟩, ⟨c1, c2, c3⟩, ⟨y1, y2, y3, y4⟩, s1, s2, -, ⟨u1, u2⟩, jm, nx, lo⟩ := x
  have u1 : 1 ≤ h := u1
  have u2 : h - 1 + 0 ≤ 6 := u2
  have e7 : zs1 σ a (za a) 7 = nI h := by unfold zs1; rw [zu_r _ _ (by omega)]; exact y3
  have e6 : zs1 σ a (za a) 6 = nI p := by unfold zs1; rw [zu_r _ _ (by omega)]; exact y1
  obtain ⟨n1, n2⟩ := nx (by omega)
  have n2 : H (p + 1) = nI (h - 1) := n2
  have hc2 : zs1 σ a (za a + 2) (h - 1) = σ (za a + 2) (h - 1) := by unfold zs1; exact zu_r _ _ (by omega)
  unfold zturn at hX
  rw [if_neg (by decide), if_neg (by decide), zup_h e7 u1 x3, hc2, if_neg hc, zpop_e e7 u1 x3] at hX
  clear jm nx lo
  rw [wdo_9 rfl]
  unfold wnx9 wst1 wz
  unfold zs1 at hX
  subst hX
  refine Rl_run hR ha h5 (h' := h - 1) (fun x b hx => ?_) ?_ ?_ c1 x2 c2 n1 (by omega) n2 ?_ ?_ ?_ ?_ (fun t ht => ?_) (fun t ht => ?_)
  · unfold rc at hx
    simp (disch := omega) only [zu_ne]
  · simp (disch := omega) only [zu_at, zu_ne]
  · simp (disch := omega) only [zu_at, zu_ne]
  · simp (disch := omega) only [zu_at, zu_ne]; rw [y1, nI_1]
  · simp (disch := omega) only [zu_at, zu_ne]; rw [show h - 1 - 0 = h - 1 by omega, if_neg (by rw [← s1 (h - 1) (by omega)]; exact hc), y2, nI_1]
  · simp (disch := omega) only [zu_at, zu_ne]
  · simp (disch := omega) only [zu_at, zu_ne]
  · simp (disch := omega) only [zu_at, zu_ne]; exact s1 t (by omega)
  · simp (disch := omega) only [zu_at, zu_ne]; exact s2 t ht
end OPS
