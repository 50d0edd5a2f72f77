/-! the reference's check of code: its heights (row 129) -/
def wOf (σ τ : zm) : Prop := ∀ a, a ≠ 129 → τ a = σ a
def mVI (τ : zm) (wn : Nat) : Prop := ∀ k, k < 24 → ¬ τ 129 k = -1 → k < wn ∧ ∃ m, m ≤ 6 ∧ τ 129 k = nI m
def mAg (τ : zm) (H : Nat → Int32) : Prop := ∀ k, k < 24 → ¬ τ 129 k = -1 → τ 129 k = H k
def mGr (σ τ : zm) (wn : Nat) : Prop := mVI τ wn ∧ ∀ k, ¬ σ 129 k = -1 → τ 129 k = σ 129 k
theorem mVI_neg {τ : zm} {wn k : Nat} (hV : mVI τ wn) (hk : k < 24) : τ 129 k < 0 ↔ τ 129 k = -1 := by
  by_cases h : τ 129 k = -1
  · rw [h]; decide
  · obtain ⟨-, m, hm, e⟩ := hV k hk h
    rw [e]
    exact ⟨fun z => absurd z (nI_pos (by omega)), fun z => absurd z (nI_m1 hm)⟩
theorem wcm_ok {σ : zm} {wn m : Nat} (hV : mVI σ wn) (hwn : wn ≤ 24) (x : Int32) (hm : m ≤ 6) : mGr σ (wcm σ wn x (nI m)).2 wn ∧ ((wcm σ wn x (nI m)).1 = true → ∃ j, j < wn ∧ x = nI j ∧ (wcm σ wn x (nI m)).2 129 j = nI m) ∧ ∀ H : Nat → Int32, mAg σ H → (∃ j, j < wn ∧ x = nI j ∧ H j = nI m) → (wcm σ wn x (nI m)).1 = true ∧ mAg (wcm σ wn x (nI m)).2 H := by
  cases hz : zin x (nI wn) with
  | false =>
    rw [wcm_1 hz]
    refine ⟨⟨hV, fun _ _ => rfl⟩, (fun z => by cases z), fun H hA ⟨j, hj, hx, _⟩ => ?_⟩
    rw [hx, zin_nI hj (by omega)] at hz
    cases hz
  | true =>
    obtain ⟨j, hj, hx⟩ := zin_of (n := wn) (by omega) hz
    have hc : x.toNatClampNeg = j := by rw [hx]; exact nI_clamp (by omega)
    have inj : ∀ j2, x = nI j2 → j2 < wn → j2 = j := fun j2 h2 h3 => (nI_eq (by omega) (by omega)).mp (h2.symm.trans hx)
    by_cases h1 : σ 129 j < 0 ∨ σ 129 j = nI m
    · rw [wcm_3 hz hc h1]
      dsimp only
      have e : ∀ k, zu σ 129 j (nI m) 129 k = if k = j then nI m else σ 129 k := by
        intro k
        by_cases hk : k = j
        · rw [if_pos hk, hk, zu_eq]
        · rw [if_neg hk, zu_col _ _ hk]
      refine ⟨⟨fun k hk hne => ?_, fun k hk => ?_⟩, fun _ => ⟨j, hj, hx, by rw [e, if_pos rfl]⟩, fun H hA ⟨j2, hj2, hx2, hH⟩ => ⟨rfl, fun k hk hne => ?_⟩⟩
      · rw [e] at hne ⊢
        by_cases hkj : k = j
        · rw [if_pos hkj]
          exact ⟨by omega, m, hm, rfl⟩
        · rw [if_neg hkj] at hne ⊢
          exact hV k hk hne
      · rw [e]
        by_cases hkj : k = j
        · subst hkj
          rw [if_pos rfl]
          rcases h1 with h1 | h1
          · exact absurd ((mVI_neg hV (by omega)).mp h1) hk
          · exact h1.symm
        · rw [if_neg hkj]
      · have hjj := inj j2 hx2 hj2
        rw [hjj] at hH
        rw [e] at hne ⊢
        by_cases hkj : k = j
        · rw [if_pos hkj, hkj, hH]
        · rw [if_neg hkj] at hne ⊢
          exact hA k hk hne
    · have h1a : ¬ σ 129 j < 0 := fun z => h1 (Or.inl z)
      have h1b : ¬ σ 129 j = nI m := fun z => h1 (Or.inr z)
      rw [wcm_2 hz hc h1a h1b]
      refine ⟨⟨hV, fun _ _ => rfl⟩, (fun z => by cases z), fun H hA ⟨j2, hj2, hx2, hH⟩ => ?_⟩
      have hjj := inj j2 hx2 hj2
      rw [hjj] at hH
      have hne : ¬ σ 129 j = -1 := fun z => h1a ((mVI_neg hV (by omega)).mpr z)
      exact absurd ((hA j (by omega) hne).trans hH) h1b
def wgx (σ : zm) (wn : Nat) (x n h : Int32) (b g : Bool) : Bool × zm :=
  if (if b then wcm σ wn (x + n) h else (true, σ)).1 then (if g then wcm (if b then wcm σ wn (x + n) h else (true, σ)).2 wn (x + 1) h else (true, (if b then wcm σ wn (x + n) h else (true, σ)).2)) else (false, (if b then wcm σ wn (x + n) h else (true, σ)).2)
theorem wgx_f {σ : zm} {wn : Nat} {x n h : Int32} {g : Bool} : wgx σ wn x n h false g = if g then wcm σ wn (x + 1) h else (true, σ) := rfl
theorem wgx_tF {σ : zm} {wn : Nat} {x n h : Int32} {g : Bool} (e : (wcm σ wn (x + n) h).1 = false) : wgx σ wn x n h true g = (false, (wcm σ wn (x + n) h).2) := by
  unfold wgx
  simp [e]
theorem wgx_tT {σ : zm} {wn : Nat} {x n h : Int32} {g : Bool} (e : (wcm σ wn (x + n) h).1 = true) : wgx σ wn x n h true g = if g then wcm (wcm σ wn (x + n) h).2 wn (x + 1) h else (true, (wcm σ wn (x + n) h).2) := by
  unfold wgx
  simp [e]
def wok (n : Int32) (o : Nat) : Bool := decide (o < 14) && zga (nI o) n
def wgo (σ : zm) (wn k o : Nat) : Bool × zm :=
  if wok (σ 117 (192 + k) >>> ((4 : Int32) &&& 31)) o = false then (false, σ) else if σ 129 k < wnd (nI o) then (false, σ) else if 6 < σ 129 k + wch (nI o) then (false, σ)
  else wgx σ wn (nI k) (σ 117 (192 + k) >>> ((4 : Int32) &&& 31)) (σ 129 k + wch (nI o)) (decide (o = 8 ∨ o = 9)) (decide (o ≠ 0 ∧ o ≠ 8))
theorem wgo_1 {σ : zm} {wn k o : Nat} (h : wok (σ 117 (192 + k) >>> ((4 : Int32) &&& 31)) o = false) : wgo σ wn k o = (false, σ) := if_pos h
theorem wgo_2 {σ : zm} {wn k o : Nat} (h : wok (σ 117 (192 + k) >>> ((4 : Int32) &&& 31)) o = true) (h2 : σ 129 k < wnd (nI o)) : wgo σ wn k o = (false, σ) := by
  unfold wgo
  rw [if_neg (by rw [h]; decide), if_pos h2]
theorem wgo_3 {σ : zm} {wn k o : Nat} (h : wok (σ 117 (192 + k) >>> ((4 : Int32) &&& 31)) o = true) (h2 : ¬ σ 129 k < wnd (nI o)) (h3 : 6 < σ 129 k + wch (nI o)) : wgo σ wn k o = (false, σ) := by
  unfold wgo
  rw [if_neg (by rw [h]; decide), if_neg h2, if_pos h3]
theorem wgo_4 {σ : zm} {wn k o : Nat} (h : wok (σ 117 (192 + k) >>> ((4 : Int32) &&& 31)) o = true) (h2 : ¬ σ 129 k < wnd (nI o)) (h3 : ¬ 6 < σ 129 k + wch (nI o)) : wgo σ wn k o = wgx σ wn (nI k) (σ 117 (192 + k) >>> ((4 : Int32) &&& 31)) (σ 129 k + wch (nI o)) (decide (o = 8 ∨ o = 9)) (decide (o ≠ 0 ∧ o ≠ 8)) := by
  unfold wgo
  rw [if_neg (by rw [h]; decide), if_neg h2, if_neg h3]
theorem wcm_off (σ : zm) (wn : Nat) (x h : Int32) {a : Nat} (ha : a ≠ 129) : (wcm σ wn x h).2 a = σ a := by
  unfold wcm
  split
  · split
    · exact zu_row _ _ ha
    · rfl
  · rfl
theorem wgx_off (σ : zm) (wn : Nat) (x n h : Int32) (b g : Bool) {a : Nat} (ha : a ≠ 129) : (wgx σ wn x n h b g).2 a = σ a := by
  cases b with
  | false =>
    rw [wgx_f]
    cases g with
    | false => rfl
    | true => exact wcm_off _ _ _ _ ha
  | true =>
    cases e : (wcm σ wn (x + n) h).1 with
    | false => rw [wgx_tF e]; exact wcm_off _ _ _ _ ha
    | true =>
      rw [wgx_tT e]
      cases g with
      | false => exact wcm_off _ _ _ _ ha
      | true => exact (wcm_off _ _ _ _ ha).trans (wcm_off _ _ _ _ ha)
theorem wgo_off (σ : zm) (wn k o : Nat) {a : Nat} (ha : a ≠ 129) : (wgo σ wn k o).2 a = σ a := by
  unfold wgo
  split
  · rfl
  · split
    · rfl
    · split
      · rfl
      · exact wgx_off _ _ _ _ _ _ _ ha
theorem wnd_o {o : Nat} (h : o < 14) : wnd (nI o) = zNeed o := by
  have : ∀ o, o < 14 → wnd (nI o) = zNeed o := by decide +kernel
  exact this o h
theorem wch_o {o : Nat} (h : o < 14) (x : Int32) : x + wch (nI o) = x - zNeed o + zLeav o := by
  have : ∀ o, o < 14 → wch (nI o) = -zNeed o + zLeav o := by decide +kernel
  rw [this o h, Int32.sub_eq_add_neg, Int32.add_assoc]
theorem mGr.rf {σ : zm} {wn : Nat} (hV : mVI σ wn) : mGr σ σ wn := ⟨hV, fun _ _ => rfl⟩
theorem wgo_ok {σ : zm} {wn k o : Nat} (hV : mVI σ wn) (hwn : wn ≤ 24) (hk : k < wn) (hne : ¬ σ 129 k = -1) (ho : o < 16) (hoe : σ 117 (192 + k) &&& 15 = nI o) : mGr σ (wgo σ wn k o).2 wn ∧ ((wgo σ wn k o).1 = true → zCk (fun j => σ 117 (192 + j)) wn ((wgo σ wn k o).2 129) k) ∧ ∀ H : Nat → Int32, mAg σ H → zCk (fun j => σ 117 (192 + j)) wn H k → (wgo σ wn k o).1 = true ∧ mAg (wgo σ wn k o).2 H := by
  obtain ⟨-, m, hm, hkm⟩ := hV k (by omega) hne
  cases hw : wok (σ 117 (192 + k) >>> ((4 : Int32) &&& 31)) o with
  | false =>
    rw [wgo_1 hw]
    refine ⟨mGr.rf hV, (fun z => by cases z), fun H hA hc => ?_⟩
    obtain ⟨c1, c2, -⟩ := zCk_o (w := fun j => σ 117 (192 + j)) ho hoe hc
    have : wok (σ 117 (192 + k) >>> ((4 : Int32) &&& 31)) o = true := by
      unfold wok
      rw [decide_eq_true c1, Bool.true_and]
      exact c2
    rw [hw] at this
    cases this
  | true =>
    have hw2 := hw
    unfold wok at hw2
    rw [Bool.and_eq_true, decide_eq_true_eq] at hw2
    obtain ⟨ho14, hga⟩ := hw2
    by_cases h3 : σ 129 k < wnd (nI o)
    · rw [wgo_2 hw h3]
      refine ⟨mGr.rf hV, (fun z => by cases z), fun H hA hc => ?_⟩
      have := (zCk_o (w := fun j => σ 117 (192 + j)) ho hoe hc).2.2.1
      rw [← hA k (by omega) hne, ← wnd_o ho14] at this
      exact absurd h3 this
    by_cases h4 : 6 < σ 129 k + wch (nI o)
    · rw [wgo_3 hw h3 h4]
      refine ⟨mGr.rf hV, (fun z => by cases z), fun H hA hc => ?_⟩
      have := (zCk_o (w := fun j => σ 117 (192 + j)) ho hoe hc).2.2.2.1
      rw [← hA k (by omega) hne, ← wch_o ho14] at this
      exact absurd h4 this
    rw [wgo_4 hw h3 h4]
    rw [wnd_o ho14] at h3
    rw [wch_o ho14] at h4
    have h3' := h3
    have h4' := h4
    rw [hkm] at h3' h4'
    obtain ⟨m2, hm2, hh⟩ := zhh hm ho14 h3' h4'
    rw [← hkm] at hh
    have mk : ∀ τ : zm, (∀ k, ¬ σ 129 k = -1 → τ 129 k = σ 129 k) → ((o = 8 ∨ o = 9) → ∃ j, j < wn ∧ nI k + (σ 117 (192 + k) >>> ((4 : Int32) &&& 31)) = nI j ∧ τ 129 j = nI m2) → ((o ≠ 0 ∧ o ≠ 8) → ∃ j, j < wn ∧ nI k + 1 = nI j ∧ τ 129 j = nI m2) → zCk (fun j => σ 117 (192 + j)) wn (τ 129) k := by
      intro τ h5 h6 h7
      have e5 := h5 k hne
      refine ⟨o, ho14, hoe, hga, by rw [e5]; exact h3, by rw [e5]; exact h4, ?_, ?_⟩
      · rw [e5, hh]; exact h6
      · rw [e5, hh]; exact h7
    have rd : ∀ H : Nat → Int32, mAg σ H → zCk (fun j => σ 117 (192 + j)) wn H k → ((o = 8 ∨ o = 9) → ∃ j, j < wn ∧ nI k + (σ 117 (192 + k) >>> ((4 : Int32) &&& 31)) = nI j ∧ H j = nI m2) ∧ ((o ≠ 0 ∧ o ≠ 8) → ∃ j, j < wn ∧ nI k + 1 = nI j ∧ H j = nI m2) := by
      intro H hA hc
      have h5 := (zCk_o (w := fun j => σ 117 (192 + j)) ho hoe hc).2.2.2.2
      rw [← hA k (by omega) hne, hh] at h5
      exact h5
    rw [wch_o ho14, hh]
    by_cases hb : o = 8 ∨ o = 9 <;> by_cases hg : o ≠ 0 ∧ o ≠ 8
    · rw [decide_eq_true hb, decide_eq_true hg]
      obtain ⟨a1, a2, a3⟩ := wcm_ok hV hwn (nI k + (σ 117 (192 + k) >>> ((4 : Int32) &&& 31))) hm2
      cases hA1 : (wcm σ wn (nI k + (σ 117 (192 + k) >>> ((4 : Int32) &&& 31))) (nI m2)).1 with
      | false =>
        rw [wgx_tF hA1]
        refine ⟨a1, (fun z => by cases z), fun H hA hc => ?_⟩
        have := (a3 H hA ((rd H hA hc).1 hb)).1
        rw [hA1] at this
        cases this
      | true =>
        rw [wgx_tT hA1, if_pos rfl]
        obtain ⟨j, hj, hx, hj7⟩ := a2 hA1
        obtain ⟨v2, k2⟩ := a1
        obtain ⟨⟨v3, k3⟩, b2, b3⟩ := wcm_ok (m := m2) v2 hwn (nI k + 1) hm2
        have kk : ∀ k', ¬ σ 129 k' = -1 → (wcm (wcm σ wn (nI k + (σ 117 (192 + k) >>> ((4 : Int32) &&& 31))) (nI m2)).2 wn (nI k + 1) (nI m2)).2 129 k' = σ 129 k' := fun k' hk' => by
          have e := k2 k' hk'
          rw [k3 k' (by rw [e]; exact hk'), e]
        refine ⟨⟨v3, kk⟩, fun z => ?_, fun H hA hc => ?_⟩
        · obtain ⟨j2, hj2, hx2, hj72⟩ := b2 z
          refine mk _ kk (fun _ => ⟨j, hj, hx, ?_⟩) (fun _ => ⟨j2, hj2, hx2, hj72⟩)
          rw [k3 j (by rw [hj7]; exact nI_m1 hm2), hj7]
        · obtain ⟨r1, r2⟩ := rd H hA hc
          exact b3 H (a3 H hA (r1 hb)).2 (r2 hg)
    · rw [decide_eq_true hb, decide_eq_false hg]
      obtain ⟨a1, a2, a3⟩ := wcm_ok hV hwn (nI k + (σ 117 (192 + k) >>> ((4 : Int32) &&& 31))) hm2
      cases hA1 : (wcm σ wn (nI k + (σ 117 (192 + k) >>> ((4 : Int32) &&& 31))) (nI m2)).1 with
      | false =>
        rw [wgx_tF hA1]
        refine ⟨a1, (fun z => by cases z), fun H hA hc => ?_⟩
        have := (a3 H hA ((rd H hA hc).1 hb)).1
        rw [hA1] at this
        cases this
      | true =>
        rw [wgx_tT hA1, if_neg (by decide)]
        exact ⟨a1, fun _ => mk _ a1.2 (fun _ => a2 hA1) (fun z => absurd z hg), fun H hA hc => ⟨rfl, (a3 H hA ((rd H hA hc).1 hb)).2⟩⟩
    · rw [decide_eq_false hb, decide_eq_true hg, wgx_f, if_pos rfl]
      obtain ⟨a1, a2, a3⟩ := wcm_ok hV hwn (nI k + 1) hm2
      exact ⟨a1, fun z => mk _ a1.2 (fun y => absurd y hb) (fun _ => a2 z), fun H hA hc => a3 H hA ((rd H hA hc).2 hg)⟩
    · rw [decide_eq_false hb, decide_eq_false hg, wgx_f, if_neg (by decide)]
      exact ⟨mGr.rf hV, fun _ => mk _ (fun _ _ => rfl) (fun z => absurd z hb) (fun z => absurd z hg), fun H hA hc => ⟨rfl, hA⟩⟩
