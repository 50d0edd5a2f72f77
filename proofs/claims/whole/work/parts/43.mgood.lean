/-! the reference's loops over code, in pure words -/
def wW (σ : zm) : Nat → Int32 := fun j => σ 117 (192 + j)
def wL (σ : zm) : Nat → Int32 := fun t => σ 115 (32 + t)
def wHas (σ : zm) (wn pn : Nat) : Prop := ∃ H, zCons (wW σ) wn (wL σ) pn H
def wI1 (σ τ : zm) (wn pn : Nat) (b : Bool) (t : Nat) : Prop := mVI τ wn ∧ wOf σ τ ∧ (b = true → (∀ H, zCons (wW σ) wn (wL σ) pn H → mAg τ H) ∧ ∀ t', t' < t → ∃ j, j < wn ∧ wL σ t' = nI j ∧ τ 129 j = 0) ∧ (b = false → ¬ wHas σ wn pn)
theorem wI1_0 (σ : zm) (wn pn : Nat) : wI1 σ (zfill σ 129 24 (-1)) wn pn true 0 := by
  have e : ∀ k, k < 24 → zfill σ 129 24 (-1) 129 k = -1 := fun k hk => by simp [zfill, hk]
  exact ⟨fun k hk hne => absurd (e k hk) hne, fun a ha => zfill_off _ _ ha, fun _ => ⟨fun H hH k hk hne => absurd (e k hk) hne, fun t' ht => absurd ht (Nat.not_lt_zero _)⟩, (fun z => by cases z)⟩
theorem wst2_t {σ τ : zm} {wn pn t : Nat} {b : Bool} (hwn : wn ≤ 24) (ht : t < pn) (hI : wI1 σ τ wn pn b t) (hb : b = true) (h : (wcm τ wn (σ 115 (32 + t)) 0).1 = true) : wI1 σ (wcm τ wn (σ 115 (32 + t)) 0).2 wn pn true (t + 1) := by
  obtain ⟨i1, i2, i3, -⟩ := hI
  obtain ⟨hA, hD⟩ := i3 hb
  have z := wcm_ok (m := 0) i1 hwn (σ 115 (32 + t)) (by omega)
  rw [nI_0] at z
  obtain ⟨⟨v2, k2⟩, a2, a3⟩ := z
  refine ⟨v2, fun a ha => (wcm_off _ _ _ _ ha).trans (i2 a ha), fun _ => ⟨fun H hH => (a3 H (hA H hH) (hH.1 t ht)).2, fun t' ht' => ?_⟩, (fun z => by cases z)⟩
  by_cases e : t' = t
  · subst e
    exact a2 h
  · obtain ⟨j, j1, j2, j3⟩ := hD t' (by omega)
    exact ⟨j, j1, j2, by rw [k2 j (by rw [j3]; decide), j3]⟩
theorem wst2_f {σ τ : zm} {wn pn t : Nat} {b : Bool} (hwn : wn ≤ 24) (ht : t < pn) (hI : wI1 σ τ wn pn b t) (hb : b = true) (h : (wcm τ wn (σ 115 (32 + t)) 0).1 = false) : wI1 σ (wcm τ wn (σ 115 (32 + t)) 0).2 wn pn false (t + 1) := by
  obtain ⟨i1, i2, i3, -⟩ := hI
  obtain ⟨hA, hD⟩ := i3 hb
  have z := wcm_ok (m := 0) i1 hwn (σ 115 (32 + t)) (by omega)
  rw [nI_0] at z
  obtain ⟨⟨v2, k2⟩, a2, a3⟩ := z
  refine ⟨v2, fun a ha => (wcm_off _ _ _ _ ha).trans (i2 a ha), (fun z => by cases z), fun _ => ?_⟩
  rintro ⟨H, hH⟩
  have := (a3 H (hA H hH) (hH.1 t ht)).1
  rw [h] at this
  cases this
theorem wst2_0 {σ τ : zm} {wn pn t t2 : Nat} {b : Bool} (hI : wI1 σ τ wn pn b t) (hb : b = false) : wI1 σ τ wn pn false t2 := by
  obtain ⟨i1, i2, -, i4⟩ := hI
  exact ⟨i1, i2, (fun z => by cases z), fun _ => i4 hb⟩
def wI3 (σ τ : zm) (wn pn : Nat) (b : Bool) (r : Nat) : Prop := wI1 σ τ wn pn b pn ∧ (b = true → wHas σ wn pn ∨ r ≤ zcard (τ 129) 24)
theorem wI3_0 {σ τ : zm} {wn pn t : Nat} {b : Bool} (ht : t = pn) (hI : wI1 σ τ wn pn b t) : wI3 σ τ wn pn b 0 := ⟨by rw [← ht] at *; exact hI, fun _ => Or.inr (Nat.zero_le _)⟩
theorem wI3_a {σ τ : zm} {wn pn r : Nat} {b : Bool} (hI : wI3 σ τ wn pn b r) (hr : r = 25) : b = true ↔ wHas σ wn pn := by
  cases b with
  | false => exact ⟨(fun z => by cases z), fun z => absurd z (hI.1.2.2.2 rfl)⟩
  | true =>
    refine ⟨fun _ => ?_, fun _ => rfl⟩
    rcases hI.2 rfl with h | h
    · exact h
    · have := zcard_le (τ 129) 24
      omega
theorem wI3_b {σ τ : zm} {wn pn r : Nat} {b : Bool} (hI : wI3 σ τ wn pn b r) (hb : b = false) : b = true ↔ wHas σ wn pn := by
  subst hb
  exact ⟨(fun z => by cases z), fun z => absurd z (hI.1.2.2.2 rfl)⟩
def wI4 (σ ρ τ : zm) (wn pn : Nat) (b : Bool) (k : Nat) : Prop := wI1 σ τ wn pn b pn ∧ (∀ j, ¬ ρ 129 j = -1 → τ 129 j = ρ 129 j) ∧ (b = true → ∀ j, j < k → ¬ ρ 129 j = -1 → zCk (wW σ) wn (τ 129) j)
theorem wI4_0 {σ τ : zm} {wn pn : Nat} {b : Bool} (hI : wI1 σ τ wn pn b pn) : wI4 σ τ τ wn pn b 0 := ⟨hI, fun _ _ => rfl, fun _ j hj => absurd hj (Nat.not_lt_zero _)⟩
theorem wst4_s {σ ρ τ : zm} {wn pn k : Nat} {b : Bool} (hwn : wn ≤ 24) (hk : k < wn) (hJ : wI4 σ ρ τ wn pn b k) (hb : b = true) (h : τ 129 k < 0) : wI4 σ ρ τ wn pn true (k + 1) := by
  subst hb
  obtain ⟨j1, j2, j3⟩ := hJ
  refine ⟨j1, j2, fun _ j hj hne => ?_⟩
  by_cases e : j = k
  · subst e
    have := (mVI_neg j1.1 (by omega)).mp h
    rw [j2 j hne] at this
    exact absurd this hne
  · exact j3 rfl j (by omega) hne
theorem mCk_up {w : Nat → Int32} {wn k : Nat} {σ τ : zm} (hne : ¬ σ 129 k = -1) (hm : ∀ j, ¬ σ 129 j = -1 → τ 129 j = σ 129 j) (hs : ∃ m, m ≤ 6 ∧ σ 129 k = nI m) (h : zCk w wn (σ 129) k) : zCk w wn (τ 129) k := by
  obtain ⟨o, h1, h2, h3, h4, h5, h6, h7⟩ := h
  obtain ⟨m, hm1, hkm⟩ := hs
  have h4' := h4
  have h5' := h5
  rw [hkm] at h4' h5'
  obtain ⟨m2, hm2, hh⟩ := zhh hm1 h1 h4' h5'
  rw [← hkm] at hh
  have e := hm k hne
  refine ⟨o, h1, h2, h3, by rw [e]; exact h4, by rw [e]; exact h5, fun z => ?_, fun z => ?_⟩
  · obtain ⟨j, j1, j2, j3⟩ := h6 z
    exact ⟨j, j1, j2, by rw [e, hm j (by rw [j3, hh]; exact nI_m1 hm2)]; exact j3⟩
  · obtain ⟨j, j1, j2, j3⟩ := h7 z
    exact ⟨j, j1, j2, by rw [e, hm j (by rw [j3, hh]; exact nI_m1 hm2)]; exact j3⟩
theorem wst4_z {σ τ : zm} {wn pn k o : Nat} (hwn : wn ≤ 24) (hk : k < wn) (j1 : wI1 σ τ wn pn true pn) (h : ¬ τ 129 k < 0) (ho : o < 16) (hoe : σ 117 (192 + k) &&& 15 = nI o) : ¬ τ 129 k = -1 ∧ mGr τ (wgo τ wn k o).2 wn ∧ ((wgo τ wn k o).1 = true → zCk (wW σ) wn ((wgo τ wn k o).2 129) k) ∧ ∀ H : Nat → Int32, mAg τ H → zCk (wW σ) wn H k → (wgo τ wn k o).1 = true ∧ mAg (wgo τ wn k o).2 H := by
  have hne : ¬ τ 129 k = -1 := fun z => h ((mVI_neg j1.1 (by omega)).mpr z)
  have hW : τ 117 = σ 117 := j1.2.1 _ (by decide)
  have z := wgo_ok (σ := τ) j1.1 hwn hk hne ho (by rw [hW]; exact hoe)
  rw [hW] at z
  exact ⟨hne, z⟩
theorem wst4_t {σ ρ τ : zm} {wn pn k o : Nat} {b : Bool} (hwn : wn ≤ 24) (hk : k < wn) (hJ : wI4 σ ρ τ wn pn b k) (hb : b = true) (h : ¬ τ 129 k < 0) (ho : o < 16) (hoe : σ 117 (192 + k) &&& 15 = nI o) (hg : (wgo τ wn k o).1 = true) : wI4 σ ρ (wgo τ wn k o).2 wn pn true (k + 1) := by
  subst hb
  obtain ⟨j1, j2, j3⟩ := hJ
  obtain ⟨hne, ⟨v2, k2⟩, a2, a3⟩ := wst4_z hwn hk j1 h ho hoe
  obtain ⟨i1, i2, i3, i4⟩ := j1
  obtain ⟨hA, hD⟩ := i3 rfl
  refine ⟨⟨v2, fun a ha => (wgo_off _ _ _ _ ha).trans (i2 a ha), fun _ => ⟨fun H hH => (a3 H (hA H hH) (hH.2 k hk (by rw [← hA H hH k (by omega) hne]; exact hne))).2, fun t' ht' => ?_⟩, (fun z => by cases z)⟩, fun j hj => ?_, fun _ j hj hj2 => ?_⟩
  · obtain ⟨j, c1, c2, c3⟩ := hD t' ht'
    exact ⟨j, c1, c2, by rw [k2 j (by rw [c3]; decide), c3]⟩
  · have e := j2 j hj
    rw [k2 j (by rw [e]; exact hj), e]
  · by_cases e : j = k
    · subst e
      exact a2 hg
    · have e2 := j2 j hj2
      have hj3 : ¬ τ 129 j = -1 := by rw [e2]; exact hj2
      exact mCk_up hj3 k2 (i1 j (by omega) hj3).2 (j3 rfl j (by omega) hj2)
theorem wst4_f {σ ρ τ : zm} {wn pn k o : Nat} {b : Bool} (hwn : wn ≤ 24) (hk : k < wn) (hJ : wI4 σ ρ τ wn pn b k) (hb : b = true) (h : ¬ τ 129 k < 0) (ho : o < 16) (hoe : σ 117 (192 + k) &&& 15 = nI o) (hg : (wgo τ wn k o).1 = false) : wI4 σ ρ (wgo τ wn k o).2 wn pn false (k + 1) := by
  subst hb
  obtain ⟨j1, j2, j3⟩ := hJ
  obtain ⟨hne, ⟨v2, k2⟩, a2, a3⟩ := wst4_z hwn hk j1 h ho hoe
  obtain ⟨i1, i2, i3, i4⟩ := j1
  obtain ⟨hA, hD⟩ := i3 rfl
  refine ⟨⟨v2, fun a ha => (wgo_off _ _ _ _ ha).trans (i2 a ha), (fun z => by cases z), fun _ => ?_⟩, fun j hj => ?_, (fun z => by cases z)⟩
  · rintro ⟨H, hH⟩
    have := (a3 H (hA H hH) (hH.2 k hk (by rw [← hA H hH k (by omega) hne]; exact hne))).1
    rw [hg] at this
    cases this
  · have e := j2 j hj
    rw [k2 j (by rw [e]; exact hj), e]
theorem zcard_mono {f g : Nat → Int32} {n : Nat} (h : ∀ j, j < n → ¬ f j = -1 → ¬ g j = -1) : zcard f n ≤ zcard g n ∧ (zcard f n = zcard g n → ∀ j, j < n → ¬ g j = -1 → ¬ f j = -1) := by
  induction n with
  | zero => exact ⟨Nat.le_refl _, fun _ j hj => absurd hj (Nat.not_lt_zero _)⟩
  | succ n ih =>
    obtain ⟨i1, i2⟩ := ih (fun j hj => h j (by omega))
    show zcard f n + _ ≤ zcard g n + _ ∧ (zcard f n + _ = zcard g n + _ → _)
    by_cases hf : f n = -1
    · rw [if_pos hf]
      by_cases hg : g n = -1
      · rw [if_pos hg]
        refine ⟨by omega, fun e j hj hj2 => ?_⟩
        by_cases hjn : j = n
        · subst hjn; exact absurd hg hj2
        · exact i2 (by omega) j (by omega) hj2
      · rw [if_neg hg]
        exact ⟨by omega, fun e => by omega⟩
    · have hg := h n (by omega) hf
      rw [if_neg hf, if_neg hg]
      refine ⟨by omega, fun e j hj hj2 => ?_⟩
      by_cases hjn : j = n
      · subst hjn; exact hf
      · exact i2 (by omega) j (by omega) hj2
theorem wI3_s {σ ρ τ : zm} {wn pn r k : Nat} {b b2 : Bool} (hwn : wn ≤ 24) (hI : wI3 σ ρ wn pn b r) (hb : b = true) (hk : k = wn ∨ b2 = false) (hJ : wI4 σ ρ τ wn pn b2 k) : wI3 σ τ wn pn b2 (r + 1) := by
  subst hb
  refine ⟨hJ.1, fun h2 => ?_⟩
  subst h2
  have hkw : k = wn := hk.elim id (fun z => by cases z)
  subst hkw
  rcases hI.2 rfl with h | h
  · exact Or.inl h
  · obtain ⟨j1, j2, j3⟩ := hJ
    obtain ⟨c1, c2⟩ := zcard_mono (f := ρ 129) (g := τ 129) (n := 24) (fun j _ hj => by rw [j2 j hj]; exact hj)
    by_cases e : zcard (ρ 129) 24 = zcard (τ 129) 24
    · exact Or.inl ⟨τ 129, (j1.2.2.1 rfl).2, fun k hk hne => j3 rfl k hk (c2 e k (by omega) hne)⟩
    · exact Or.inr (by omega)
/-- the draft is sound by itself -/
def wSnd (σ : zm) (pn wn : Nat) : Prop := 0 < pn ∧ 0 < wn ∧ σ 108 8 = wsea σ pn wn ∧ wHas σ wn pn
def wBd (σ : zm) (wn pn : Nat) (b : Bool) : Prop := (b = true → ¬ (0 < pn ∧ 0 < wn ∧ wHas σ wn pn)) ∧ (b = false → 0 < pn ∧ 0 < wn)
theorem wBd_s {σ : zm} {wn pn t : Nat} {b : Bool} (ht : t < pn) (h : wBd σ wn pn b) (hb : b = false) (hz : zin (σ 115 (32 + t)) (nI wn) = false) (hwn : wn ≤ 24) : wBd σ wn pn true := by
  refine ⟨fun _ z => ?_, (fun z => by cases z)⟩
  obtain ⟨-, -, H, hH⟩ := z
  obtain ⟨j, j1, j2, -⟩ := hH.1 t ht
  have j2 : σ 115 (32 + t) = nI j := j2
  rw [j2, zin_nI j1 (by omega)] at hz
  cases hz
theorem wBd_1 {σ : zm} {wn pn : Nat} {b : Bool} (h : wBd σ wn pn b) (hb : b = true) : wBd σ wn pn true := by subst hb; exact h
theorem wBd_0 {σ : zm} {wn pn : Nat} {b : Bool} (h : wBd σ wn pn b) (hb : b = false) : wBd σ wn pn false := by subst hb; exact h
