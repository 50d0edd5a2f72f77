/-! step: whose turn it is, and what stands before a word -/
theorem znx_or {σ : zm} {L : Nat} : ∀ {f i : Nat}, (znx σ L f i = -1 ∧ ∀ k, i ≤ k → k < i + f → σ (za ((L + k - 1) % 8)) 5 = 0) ∨ ∃ k, i ≤ k ∧ k < i + f ∧ znx σ L f i = nI ((L + k - 1) % 8) ∧ ¬ σ (za ((L + k - 1) % 8)) 5 = 0 ∧ ∀ j, i ≤ j → j < k → σ (za ((L + j - 1) % 8)) 5 = 0
  | 0, _ => Or.inl ⟨rfl, fun _ h1 h2 => absurd h1 (by omega)⟩
  | f + 1, i => by
    by_cases hp : σ (za ((L + i - 1) % 8)) 5 = 0
    · rw [znx_f hp]
      rcases znx_or (σ := σ) (L := L) (f := f) (i := i + 1) with ⟨h1, h2⟩ | ⟨k, h1, h2, h3, h4, h5⟩
      · refine Or.inl ⟨h1, fun k a b => ?_⟩
        by_cases e : k = i
        · rw [e]; exact hp
        · exact h2 k (by omega) (by omega)
      · refine Or.inr ⟨k, by omega, by omega, h3, h4, fun j a b => ?_⟩
        by_cases e : j = i
        · rw [e]; exact hp
        · exact h5 j (by omega) b
    · exact Or.inr ⟨i, by omega, by omega, znx_t hp, hp, fun j h1 h2 => absurd h1 (by omega)⟩
theorem zfsb_fst {P : Nat → Bool} {b : Int32} : ∀ {f i : Nat}, (zfsb P b f i = b ∧ ∀ k, i ≤ k → k < i + f → P k = false) ∨ ∃ k, i ≤ k ∧ k < i + f ∧ zfsb P b f i = nI k ∧ P k = true ∧ ∀ j, i ≤ j → j < k → P j = false
  | 0, _ => Or.inl ⟨rfl, fun _ h1 h2 => absurd h1 (by omega)⟩
  | f + 1, i => by
    cases hp : P i with
    | true => exact Or.inr ⟨i, by omega, by omega, if_pos hp, hp, fun j h1 h2 => absurd h1 (by omega)⟩
    | false =>
      have e : zfsb P b (f + 1) i = zfsb P b f (i + 1) := if_neg (zif_f hp)
      rw [e]
      rcases zfsb_fst (P := P) (b := b) (f := f) (i := i + 1) with ⟨h1, h2⟩ | ⟨k, h1, h2, h3, h4, h5⟩
      · refine Or.inl ⟨h1, fun k a b => ?_⟩
        by_cases e : k = i
        · rw [e]; exact hp
        · exact h2 k (by omega) (by omega)
      · refine Or.inr ⟨k, by omega, by omega, h3, h4, fun j a b => ?_⟩
        by_cases e : j = i
        · rw [e]; exact hp
        · exact h5 j (by omega) b
theorem zfsb_e {P : Nat → Bool} {b : Int32} {f i k : Nat} (h1 : i ≤ k) (h2 : k < i + f) (h : P k = true) (he : ∀ j, i ≤ j → j < k → P j = false) : zfsb P b f i = nI k := by
  rcases zfsb_fst (P := P) (b := b) (f := f) (i := i) with ⟨-, q2⟩ | ⟨j, q1, q2, q3, q4, q5⟩
  · rw [q2 k h1 h2] at h; cases h
  · rcases Nat.lt_trichotomy j k with c | c | c
    · rw [he j q1 c] at q4; cases q4
    · rw [q3, c]
    · rw [q5 k h1 c] at h; cases h
theorem zfsb_n {P : Nat → Bool} {b : Int32} {f i : Nat} (he : ∀ j, i ≤ j → j < i + f → P j = false) : zfsb P b f i = b := by
  rcases zfsb_fst (P := P) (b := b) (f := f) (i := i) with ⟨q1, q2⟩ | ⟨j, q1, q2, q3, q4, q5⟩
  · exact q1
  · rw [he j q1 q2] at q4; cases q4
theorem a_turn {σ : zm} (hR : Rl σ) {L : Nat} (hL : L ≤ 8) : wnam σ L = znx σ L 8 1 := by
  have e : ∀ a, a < 8 → σ (za a) 5 = σ 121 a := fun a ha => (hR.2.2.1 a ha).2.2.1.1
  unfold wnam
  rcases znx_or (σ := σ) (L := L) (f := 8) (i := 1) with ⟨h1, h2⟩ | ⟨k, h1, h2, h3, h4, h5⟩
  · have no : ∀ a, a < 8 → wPr σ a = false := fun a ha => by
      refine wPr_f ?_
      rw [← e a ha]
      by_cases c : L ≤ a
      · have := h2 (a - L + 1) (by omega) (by omega)
        rw [show (L + (a - L + 1) - 1) % 8 = a by omega] at this
        exact this
      · have := h2 (a + 8 - L + 1) (by omega) (by omega)
        rw [show (L + (a + 8 - L + 1) - 1) % 8 = a by omega] at this
        exact this
    rw [h1, zfsb_n (fun j q1 q2 => no j (by omega)), zfsb_n (fun j q1 q2 => no j (by omega))]
  · rw [h3]
    by_cases c : L + k - 1 < 8
    · rw [show (L + k - 1) % 8 = L + k - 1 by omega] at h4 ⊢
      refine zfsb_e (by omega) (by omega) (wPr_t (by rw [← e _ (by omega)]; exact h4)) (fun j q1 q2 => ?_)
      have := h5 (j - L + 1) (by omega) (by omega)
      rw [show (L + (j - L + 1) - 1) % 8 = j by omega] at this
      exact wPr_f (by rw [← e _ (by omega)]; exact this)
    · rw [show (L + k - 1) % 8 = L + k - 9 by omega] at h4 ⊢
      rw [zfsb_n (fun j q1 q2 => ?_)]
      · refine zfsb_e (by omega) (by omega) (wPr_t (by rw [← e _ (by omega)]; exact h4)) (fun j q1 q2 => ?_)
        have := h5 (j + 8 - L + 1) (by omega) (by omega)
        rw [show (L + (j + 8 - L + 1) - 1) % 8 = j by omega] at this
        exact wPr_f (by rw [← e _ (by omega)]; exact this)
      · have := h5 (j - L + 1) (by omega) (by omega)
        rw [show (L + (j - L + 1) - 1) % 8 = j by omega] at this
        exact wPr_f (by rw [← e _ (by omega)]; exact this)
/-- app a runs: p its place, h its height, o the operation of its word, n the word's argument, and where it may go -/
def rnX (σ : zm) (a p h wn o : Nat) (H : Nat → Int32) (n : Int32) : Prop := (p < wn ∧ wn ≤ 24 ∧ h ≤ 6 ∧ o < 14) ∧ (rC σ a H ∧ σ 116 a = nI wn ∧ H p = nI h) ∧ (σ (za a) 6 = nI p ∧ σ 122 a = nI p ∧ σ (za a) 7 = nI h ∧ σ 123 a = nI h) ∧ (∀ t, t < h → σ (za a + 2) t = σ 124 (6 * a + t)) ∧ (∀ t, t < 4 → σ (za a + 3) t = σ 125 (4 * a + t)) ∧ (σ 117 (24 * a + p) &&& 15 = nI o ∧ σ 117 (24 * a + p) >>> ((4 : Int32) &&& 31) = n) ∧ (mNd o ≤ h ∧ h - mNd o + mLv o ≤ 6) ∧ ((o = 8 ∨ o = 9) → ∃ j, j < wn ∧ nI p + n = nI j ∧ H j = nI (h - mNd o + mLv o)) ∧ ((o ≠ 0 ∧ o ≠ 8) → p + 1 < wn ∧ H (p + 1) = nI (h - mNd o + mLv o)) ∧ ((o = 6 ∨ o = 7) → ∃ j, j < 4 ∧ n = nI j)
theorem nd_v : ∀ o, o < 14 → zNeed o = nI (mNd o) ∧ zLeav o = nI (mLv o) ∧ mNd o ≤ 2 ∧ mLv o ≤ 2 := by decide +kernel
theorem rn_of {σ : zm} {a : Nat} (hr : rRun σ a) : ∃ p h wn o H n, rnX σ a p h wn o H n := by
  obtain ⟨p, h, H, p1, p2, hC, ⟨wn, w1, w2, w3⟩, p5, p6, p7, p8, p9, p10, p11⟩ := hr
  have hC0 := hC
  obtain ⟨pn, wn', b1, b2, b3, b4, b5⟩ := hC
  have ew : wn' = wn := (nI_eq (by omega) (by omega)).mp (b4.symm.trans w1)
  subst ew
  have hne : H p ≠ -1 := by rw [p5]; exact nI_m1' (by omega)
  obtain ⟨o, o1, o2, o3, o4, o5, o6, o7⟩ := b5.2 p w3 hne
  obtain ⟨n1, n2, n3, n4⟩ := nd_v o o1
  rw [p5, n1] at o4
  rw [p5, n1, n2] at o5
  have c1 : mNd o ≤ h := Nat.not_lt.mp (fun c => o4 (nI_lt c (by omega)))
  have ed : nI h - nI (mNd o) + nI (mLv o) = nI (h - mNd o + mLv o) := by rw [pk_sub c1, nI_add]
  rw [ed] at o5
  have c2 : h - mNd o + mLv o ≤ 6 := Nat.not_lt.mp (fun c => o5 (nI_lt (a := 6) c (by omega)))
  refine ⟨p, h, wn', o, H, _, ⟨w3, w2, p2, o1⟩, ⟨hC0, w1, p5⟩, ⟨p6, p7, p8, p9⟩, p10, p11, ⟨o2, rfl⟩, ⟨c1, c2⟩, fun c => ?_, fun c => ?_, fun c => ?_⟩
  · obtain ⟨j, j1, j2, j3⟩ := o6 c
    rw [p5, n1, n2, ed] at j3
    exact ⟨j, j1, j2, j3⟩
  · obtain ⟨j, j1, j2, j3⟩ := o7 c
    rw [p5, n1, n2, ed] at j3
    rw [nI_1] at j2
    have : p + 1 = j := (nI_eq (by omega) (by omega)).mp j2
    subst this
    exact ⟨j1, j3⟩
  · unfold zga at o3
    rw [if_pos (by rcases c with rfl | rfl <;> decide)] at o3
    exact zin_of (n := 4) (by decide) o3
theorem K_step {σ σ1 : zm} (hR : Rl σ) (e : ∀ x, 105 ≤ x → x ≤ 128 → σ1 x = σ x) : wRuns σ1 := by
  intro a ha h
  rw [e 121 (by omega) (by omega)] at h
  obtain ⟨p, h', wn, o, H, n, ⟨x1, x2, x3, x4⟩, -, ⟨-, y2, -, y4⟩, -, -, ⟨z1, z2⟩, ⟨u1, u2⟩, -, -, v⟩ := rn_of ((hR.2.2.1 a ha).2.2.2.2.2.2.2.2.2 h)
  refine ⟨p, h', o, by omega, x3, x4, ?_, ?_, ?_, u1, u2, fun c => ?_⟩
  · rw [e 122 (by omega) (by omega)]; exact y2
  · rw [e 123 (by omega) (by omega)]; exact y4
  · rw [e 117 (by omega) (by omega)]; exact z1
  · rw [e 117 (by omega) (by omega), z2]; exact v c
