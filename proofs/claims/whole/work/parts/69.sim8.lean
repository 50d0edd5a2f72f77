/-! install: both call the same drafts sound, and let the same ones in -/
theorem wclp_iff {σ : zm} {nm : Nat} : ∀ {n : Nat}, wclp σ nm n = true ↔ wcl0 σ nm = true ∨ ∃ m, m < n ∧ wclq σ nm (m / 8) (m % 8) = true
  | 0 => ⟨Or.inl, fun h => h.elim id (fun ⟨m, hm, _⟩ => absurd hm (by omega))⟩
  | n + 1 => by
    show (wclp σ nm n || wclq σ nm (n / 8) (n % 8)) = true ↔ _
    rw [Bool.or_eq_true, wclp_iff]
    constructor
    · rintro ((h | ⟨m, h1, h2⟩) | h)
      · exact Or.inl h
      · exact Or.inr ⟨m, by omega, h2⟩
      · exact Or.inr ⟨n, by omega, h⟩
    · rintro (h | ⟨m, h1, h2⟩)
      · exact Or.inl (Or.inl h)
      · by_cases e : m = n
        · rw [e] at h2; exact Or.inr h2
        · exact Or.inl (Or.inr ⟨m, by omega, h2⟩)
theorem wclp_c {σ τ : zm} (e : ∀ a b, 105 ≤ a → a ≤ 120 → τ a b = σ a b) (nm n : Nat) : wclp τ nm n = wclp σ nm n := by
  induction n with
  | zero =>
    show wcl0 τ nm = wcl0 σ nm
    unfold wcl0
    rw [e 105 _ (by decide) (by decide), e 107 _ (by decide) (by decide), e 107 _ (by decide) (by decide), e 106 _ (by decide) (by decide), e 106 _ (by decide) (by decide)]
  | succ n ih =>
    show (wclp τ nm n || wclq τ nm (n / 8) (n % 8)) = (wclp σ nm n || wclq σ nm (n / 8) (n % 8))
    rw [ih]
    unfold wclq
    rw [e 105 _ (by decide) (by decide), e 110 _ (by decide) (by decide), e 110 _ (by decide) (by decide)]
theorem zall_iff {P : Nat → Bool} : ∀ {f i : Nat}, zall P f i = true ↔ ∀ k, i ≤ k → k < i + f → P k = true
  | 0, _ => ⟨fun _ k h1 h2 => absurd h1 (by omega), fun _ => rfl⟩
  | f + 1, i => by
    show (P i && zall P f (i + 1)) = true ↔ _
    rw [Bool.and_eq_true, zall_iff]
    constructor
    · rintro ⟨h1, h2⟩ k a b
      by_cases e : k = i
      · rw [e]; exact h1
      · exact h2 k (by omega) (by omega)
    · intro h
      exact ⟨h i (by omega) (by omega), fun k a b => h k (by omega) (by omega)⟩
theorem zdcl_c {σ τ : zm} (e : ∀ a, 9 ≤ a → τ a = σ a) (x : Int32) : zdcl τ x = zdcl σ x := by
  unfold zdcl
  congr 1
  funext k
  unfold zhit zdec
  rw [e (za k) (by unfold za; omega), e (zp k + 1) (by unfold zp; omega)]
theorem zent_c {σ τ : zm} (e : ∀ a, 9 ≤ a → τ a = σ a) (i nm : Nat) : zent τ i nm = zent σ i nm := by
  have ep : ∀ k, τ (zp k) = σ (zp k) := fun k => e _ (by unfold zp; omega)
  have ef : zenp τ i nm = zenp σ i nm := by
    funext p
    unfold zenp zdec zoth
    rw [zdcl_c e, e (zp i + 1) (by unfold zp; omega)]
  unfold zent
  rw [ef, e (za nm) (by unfold za; omega), ep, ep]
theorem a_ent0 {σ : zm} (hR : Rl σ) {nm : Nat} (hnm : nm < 8) : wcl0 σ nm = (!decide (σ (za nm) 0 = 0) && (!decide (σ (zp nm) 2 = σ (zp 8) 2) || decide (σ (zp 8) 1 ≤ σ (zp nm) 1))) := by
  have hA := hR.2.2.1 nm hnm
  unfold wcl0
  rw [rB_0 hA.2.1, hA.1.1, hR.1.1, hR.2.1.2.1]
  by_cases c : σ 105 nm = 0
  · rw [decide_eq_true c, Bool.not_true, Bool.false_and, Bool.false_and]
  · rw [(hA.2.2.2.1 c).1]
theorem a_ent1 {σ : zm} (hR : Rl σ) {nm : Nat} (hnm : nm < 8) : zall (zenp σ 8 nm) 8 0 = true ↔ ¬ ∃ m, m < 64 ∧ wclq σ nm (m / 8) (m % 8) = true := by
  rw [zall_iff]
  constructor
  · rintro h ⟨m, hm, hq⟩
    have hz := h (m % 8) (by omega) (by omega)
    unfold wclq at hq
    simp only [Bool.and_eq_true, Bool.not_eq_true', decide_eq_false_iff_not] at hq
    obtain ⟨⟨⟨q1, q2⟩, q3⟩, q4⟩ := hq
    unfold zenp at hz
    have hd : zdec σ 8 (nI (m % 8)) = true := by
      rw [zdec_nI (by omega), decide_eq_false (fun z => q4 ((rLv_0 (hR.1.2.2.2.2.1 (m % 8) (by omega))).mp z))]
      rfl
    have ho : zoth σ (nI (m % 8)) (nI nm) = true := by
      unfold zoth
      rcases a_dcl hR (j := m % 8) (by omega) with ⟨h1, h2⟩ | ⟨d, hd, h1, c1, c2, h2⟩
      · exact absurd (h2 (m / 8) (by omega)) (fun z => z.elim q2 q3)
      · have ed : m / 8 = d := by
          refine Classical.byContradiction (fun ne => ?_)
          exact absurd (h2 (m / 8) (by omega) ne) (fun z => z.elim q2 q3)
        rw [h1, decide_eq_false (nI_m1' (by omega)), decide_eq_false (by rw [← ed]; exact q1)]
        rfl
    rw [hd, ho] at hz
    exact absurd hz (by decide)
  · intro h k _ hk
    cases hz : zenp σ 8 nm k with
    | true => rfl
    | false =>
      refine absurd ?_ h
      unfold zenp at hz
      simp only [Bool.not_eq_false', Bool.and_eq_true] at hz
      obtain ⟨z1, z2⟩ := hz
      have c4 : ¬ σ 110 (64 + k) = 0 := fun z => by
        rw [zdec_nI (by omega), decide_eq_true ((rLv_0 (hR.1.2.2.2.2.1 k (by omega))).mpr z)] at z1
        cases z1
      unfold zoth at z2
      rcases a_dcl hR (j := k) (by omega) with ⟨h1, h2⟩ | ⟨d, hd, h1, c1, c2, h2⟩
      · rw [h1] at z2; simp at z2
      · refine ⟨8 * d + k, by omega, ?_⟩
        have c0 : ¬ nI d = nI nm := fun z => by
          rw [h1, z, decide_eq_true rfl, Bool.not_true, Bool.and_false] at z2
          cases z2
        unfold wclq
        rw [show (8 * d + k) / 8 = d by omega, show (8 * d + k) % 8 = k by omega, decide_eq_false c0, decide_eq_false c1, decide_eq_false c2, decide_eq_false c4]
        rfl
theorem a_ent {σ : zm} (hR : Rl σ) {nm : Nat} (hnm : nm < 8) : wclp σ nm 64 = !zent σ 8 nm := by
  have e0 := a_ent0 hR hnm
  have e1 := a_ent1 hR hnm
  rw [Bool.eq_iff_iff, wclp_iff]
  unfold zent
  rw [← e0]
  rw [Bool.not_eq_true', Bool.and_eq_false_iff, Bool.not_eq_false']
  constructor
  · rintro (h | h)
    · exact Or.inl h
    · refine Or.inr ?_
      cases hz : zall (zenp σ 8 nm) 8 0 with
      | false => rfl
      | true => exact absurd h (e1.mp hz)
  · rintro (h | h)
    · exact Or.inl h
    · refine Or.inr (Classical.byContradiction (fun c => ?_))
      rw [e1.mpr c] at h
      cases h
theorem a_snd {σ τ : zm} (hR : Rl σ) {pn wn : Nat} (hp : pn ≤ 4) (hw : wn ≤ 24) (e : ∀ a b, 104 ≤ a → (a = 104 → b = 14) → τ a b = σ a b ∨ a = 130) : wSnd τ pn wn ↔ zSnd σ 8 pn wn := by
  obtain ⟨-, -, -, -, -, a6, a7⟩ := hR.1
  have e' : ∀ a b, 104 ≤ a → (a = 104 → b = 14) → a ≠ 130 → τ a b = σ a b := fun a b h1 h2 h3 => (e a b h1 h2).elim id (fun z => absurd z h3)
  have es : wsea τ pn wn = zsea σ 8 pn wn := by
    have : wsea τ pn wn = wsea (fun a b => if a = 130 then σ a b else τ a b) pn wn := rfl
    rw [this]
    refine a_sea hR.1 hR.2.1 (fun a b h1 h2 => ?_) hp hw
    show (if a = 130 then σ a b else τ a b) = σ a b
    split
    · rfl
    · exact e' a b h1 h2 (by assumption)
  unfold wSnd zSnd
  rw [es, e' 108 8 (by omega) (by omega) (by omega), ← hR.2.1.2.2]
  refine and_congr_right (fun _ => and_congr_right (fun _ => and_congr_right (fun _ => ?_)))
  unfold wHas
  constructor
  · rintro ⟨H, h⟩
    refine ⟨H, zCons_c (fun k hk => ?_) (fun t ht => ?_) h⟩
    · rw [a7 k (by omega)]; exact (e' 117 _ (by omega) (by omega) (by omega)).symm
    · rw [(a6 t (by omega)).2.2.2.2]; exact (e' 115 _ (by omega) (by omega) (by omega)).symm
  · rintro ⟨H, h⟩
    refine ⟨H, zCons_c (fun k hk => ?_) (fun t ht => ?_) h⟩
    · rw [a7 k (by omega)]; exact e' 117 _ (by omega) (by omega) (by omega)
    · rw [(a6 t (by omega)).2.2.2.2]; exact e' 115 _ (by omega) (by omega) (by omega)
