/-! good code: there are heights that fit; what the verifier's rows hold of them -/
def zCk (w : Nat → Int32) (wn : Nat) (H : Nat → Int32) (k : Nat) : Prop := ∃ o : Nat, o < 14 ∧ w k &&& 15 = nI o ∧ zga (nI o) (w k >>> ((4 : Int32) &&& 31)) = true ∧ ¬ H k < zNeed o ∧ ¬ 6 < H k - zNeed o + zLeav o ∧ ((o = 8 ∨ o = 9) → ∃ j, j < wn ∧ nI k + (w k >>> ((4 : Int32) &&& 31)) = nI j ∧ H j = H k - zNeed o + zLeav o) ∧ ((o ≠ 0 ∧ o ≠ 8) → ∃ j, j < wn ∧ nI k + 1 = nI j ∧ H j = H k - zNeed o + zLeav o)
def zCons (w : Nat → Int32) (wn : Nat) (pl : Nat → Int32) (pn : Nat) (H : Nat → Int32) : Prop := (∀ t, t < pn → ∃ j, j < wn ∧ pl t = nI j ∧ H j = 0) ∧ ∀ k, k < wn → H k ≠ -1 → zCk w wn H k
def zcard (f : Nat → Int32) : Nat → Nat
  | 0 => 0
  | n + 1 => zcard f n + (if f n = -1 then 0 else 1)
theorem zcard_le (f : Nat → Int32) (n : Nat) : zcard f n ≤ n := by
  induction n with
  | zero => exact Nat.le_refl _
  | succ n ih =>
    show zcard f n + _ ≤ n + 1
    split <;> omega
theorem zcard_lt {f : Nat → Int32} {n k : Nat} (hk : k < n) (h : f k = -1) : zcard f n < n := by
  induction n with
  | zero => omega
  | succ n ih =>
    show zcard f n + _ < n + 1
    by_cases hkn : k = n
    · subst hkn
      have := zcard_le f k
      rw [if_pos h]
      omega
    · have := ih (by omega)
      split <;> omega
theorem zcard_same {f g : Nat → Int32} {n : Nat} (h : ∀ k, k < n → f k = g k) : zcard f n = zcard g n := by
  induction n with
  | zero => rfl
  | succ n ih =>
    show zcard f n + _ = zcard g n + _
    rw [ih (fun k hk => h k (by omega)), h n (by omega)]
theorem zcard_put {f g : Nat → Int32} {n k : Nat} (hk : k < n) (hf : f k = -1) (hg : ¬ g k = -1) (ho : ∀ j, j ≠ k → g j = f j) : zcard g n = zcard f n + 1 := by
  induction n with
  | zero => omega
  | succ n ih =>
    show zcard g n + _ = zcard f n + _ + 1
    by_cases hkn : k = n
    · subst hkn
      rw [if_pos hf, if_neg hg, zcard_same (fun j hj => ho j (by omega))]
    · rw [ih (by omega), ho n (fun z => hkn z.symm)]
      omega
/-- the verifier's rows: heights (7), the places reached (8), how many (6, 2) -/
def zVI (τ : zm) (wn cn : Nat) : Prop := cn ≤ 24 ∧ τ 6 2 = nI cn ∧ zcard (τ 7) 24 = cn ∧ (∀ t, t < cn → ∃ k, k < wn ∧ τ 8 t = nI k ∧ ¬ τ 7 k = -1) ∧ (∀ k, k < 24 → ¬ τ 7 k = -1 → k < wn ∧ (∃ t, t < cn ∧ τ 8 t = nI k) ∧ ∃ m, m ≤ 6 ∧ τ 7 k = nI m)
def zmk (σ : zm) (cn j : Nat) (h : Int32) : zm := zu (zu (zu σ 7 j h) 8 cn (nI j)) 6 2 (nI (cn + 1))
theorem zmk_7 (σ : zm) (cn j : Nat) (h : Int32) (k : Nat) : zmk σ cn j h 7 k = if k = j then h else σ 7 k := by
  unfold zmk
  rw [zu_row _ _ (by decide), zu_row _ _ (by decide)]
  by_cases hk : k = j
  · rw [if_pos hk, hk, zu_eq]
  · rw [if_neg hk, zu_col _ _ hk]
theorem zmk_8 (σ : zm) (cn j : Nat) (h : Int32) (k : Nat) : zmk σ cn j h 8 k = if k = cn then nI j else σ 8 k := by
  unfold zmk
  rw [zu_row _ _ (by decide)]
  by_cases hk : k = cn
  · rw [if_pos hk, hk, zu_eq]
  · rw [if_neg hk, zu_col _ _ hk, zu_row _ _ (by decide)]
theorem zmk_6 (σ : zm) (cn j : Nat) (h : Int32) : zmk σ cn j h 6 2 = nI (cn + 1) := zu_eq _ _ _ _
theorem nI_m1 {m : Nat} (h : m ≤ 6) : ¬ nI m = -1 := by
  have : ∀ m, m ≤ 6 → ¬ nI m = -1 := by decide +kernel
  exact this m h
theorem zmk_VI {σ : zm} {wn cn j m : Nat} (hV : zVI σ wn cn) (hwn : wn ≤ 24) (hj : j < wn) (h1 : σ 7 j = -1) (hcn : cn < 24) (hm : m ≤ 6) : zVI (zmk σ cn j (nI m)) wn (cn + 1) := by
  obtain ⟨v1, v2, v3, v4, v5⟩ := hV
  refine ⟨by omega, zmk_6 _ _ _ _, ?_, fun t ht => ?_, fun k hk hne => ?_⟩
  · rw [zcard_put (f := σ 7) (k := j) (by omega) h1 (by rw [zmk_7, if_pos rfl]; exact nI_m1 hm) (fun k hk => by rw [zmk_7, if_neg hk]), v3]
  · rw [zmk_8]
    by_cases htc : t = cn
    · exact ⟨j, hj, by rw [if_pos htc], by rw [zmk_7, if_pos rfl]; exact nI_m1 hm⟩
    · obtain ⟨k, k1, k2, k3⟩ := v4 t (by omega)
      have hkj : k ≠ j := fun z => k3 (by rw [z]; exact h1)
      exact ⟨k, k1, by rw [if_neg htc]; exact k2, by rw [zmk_7, if_neg hkj]; exact k3⟩
  · rw [zmk_7] at hne ⊢
    by_cases hkj : k = j
    · rw [if_pos hkj]
      exact ⟨by omega, ⟨cn, by omega, by rw [zmk_8, if_pos rfl, hkj]⟩, m, hm, rfl⟩
    · rw [if_neg hkj] at hne ⊢
      obtain ⟨k1, ⟨t, t1, t2⟩, k3⟩ := v5 k hk hne
      exact ⟨k1, ⟨t, by omega, by rw [zmk_8, if_neg (by omega)]; exact t2⟩, k3⟩
theorem zrc_cases {σ : zm} {wn cn : Nat} (hV : zVI σ wn cn) (hwn : wn ≤ 24) (x h : Int32) : (zrc σ wn x h = (false, σ) ∧ ∀ j, j < wn → ¬ x = nI j) ∨ (∃ j, j < wn ∧ x = nI j ∧ ¬ σ 7 j = -1 ∧ zrc σ wn x h = (decide (σ 7 j = h), σ)) ∨ (∃ j, j < wn ∧ x = nI j ∧ σ 7 j = -1 ∧ cn < 24 ∧ zrc σ wn x h = (true, zmk σ cn j h)) := by
  obtain ⟨v1, v2, v3, v4, v5⟩ := hV
  cases hz : zin x (nI wn) with
  | false =>
    refine Or.inl ⟨if_neg (zif_f hz), fun j hj hx => ?_⟩
    rw [hx, zin_nI hj (by omega)] at hz
    cases hz
  | true =>
    obtain ⟨j, hj, hx⟩ := zin_of (n := wn) (by omega) hz
    have hc : x.toNatClampNeg = j := by rw [hx]; exact nI_clamp (by omega)
    by_cases h1 : σ 7 j = -1
    · have hlt : cn < 24 := by rw [← v3]; exact zcard_lt (by omega) h1
      have hm : zrm1 σ x h = zmk σ cn j h := by
        unfold zrm1
        rw [hc, v2, nI_clamp (by omega), if_pos ⟨h1, nI_lt (a := cn) (b := 24) hlt (by decide)⟩, nI_1, hx]
        rfl
      refine Or.inr (Or.inr ⟨j, hj, hx, h1, hlt, ?_⟩)
      rw [zrc_t hz hc hm, zmk_7, if_pos rfl, decide_eq_true rfl]
    · have hm : zrm1 σ x h = σ := by
        unfold zrm1
        rw [hc, if_neg (fun z => h1 z.1)]
      exact Or.inr (Or.inl ⟨j, hj, hx, h1, zrc_t hz hc hm⟩)
/-- from σ the rows have come to τ: what was reached stays -/
def zGr (σ τ : zm) (wn cn : Nat) : Prop := ∃ c2, zVI τ wn c2 ∧ cn ≤ c2 ∧ (∀ t, t < cn → τ 8 t = σ 8 t) ∧ ∀ k, ¬ σ 7 k = -1 → τ 7 k = σ 7 k
def zAg (τ : zm) (H : Nat → Int32) : Prop := ∀ k, k < 24 → ¬ τ 7 k = -1 → τ 7 k = H k
theorem zGr.rf {σ : zm} {wn cn : Nat} (hV : zVI σ wn cn) : zGr σ σ wn cn := ⟨cn, hV, Nat.le_refl _, fun _ _ => rfl, fun _ _ => rfl⟩
theorem zrc_ok {σ : zm} {wn cn m : Nat} (hV : zVI σ wn cn) (hwn : wn ≤ 24) (x : Int32) (hm : m ≤ 6) : zGr σ (zrc σ wn x (nI m)).2 wn cn ∧ ((zrc σ wn x (nI m)).1 = true → ∃ j, j < wn ∧ x = nI j ∧ (zrc σ wn x (nI m)).2 7 j = nI m) ∧ ∀ H : Nat → Int32, zAg σ H → (∃ j, j < wn ∧ x = nI j ∧ H j = nI m) → (zrc σ wn x (nI m)).1 = true ∧ zAg (zrc σ wn x (nI m)).2 H := by
  rcases zrc_cases hV hwn x (nI m) with ⟨e, hx⟩ | ⟨j, hj, hx, h1, e⟩ | ⟨j, hj, hx, h1, hlt, e⟩
  · rw [e]
    exact ⟨zGr.rf hV, (fun z => by cases z), fun H hA ⟨j, hj, hx2, _⟩ => absurd hx2 (hx j hj)⟩
  · rw [e]
    refine ⟨zGr.rf hV, fun z => ⟨j, hj, hx, by simpa using z⟩, fun H hA ⟨j2, hj2, hx2, hH⟩ => ⟨?_, hA⟩⟩
    have hjj : j2 = j := (nI_eq (by omega) (by omega)).mp (hx2.symm.trans hx)
    rw [hjj] at hH
    rw [decide_eq_true_eq, hA j (by omega) h1, hH]
  · rw [e]
    dsimp only
    refine ⟨⟨cn + 1, zmk_VI hV hwn hj h1 hlt hm, by omega, fun t ht => by rw [zmk_8, if_neg (by omega)], fun k hk => ?_⟩, fun _ => ⟨j, hj, hx, by rw [zmk_7, if_pos rfl]⟩, fun H hA ⟨j2, hj2, hx2, hH⟩ => ⟨rfl, fun k hk hne => ?_⟩⟩
    · rw [zmk_7, if_neg (fun z => hk (by rw [z]; exact h1))]
    · have hjj : j2 = j := (nI_eq (by omega) (by omega)).mp (hx2.symm.trans hx)
      rw [hjj] at hH
      show zmk σ cn j (nI m) 7 k = H k
      have hne2 : ¬ zmk σ cn j (nI m) 7 k = -1 := hne
      rw [zmk_7] at hne2 ⊢
      by_cases hkj : k = j
      · rw [if_pos hkj, hkj, hH]
      · rw [if_neg hkj] at hne2 ⊢
        exact hA k hk hne2
theorem zGr.tr {σ τ ρ : zm} {wn cn : Nat} (h1 : zGr σ τ wn cn) (h2 : ∀ c2, zVI τ wn c2 → zGr τ ρ wn c2) : zGr σ ρ wn cn := by
  obtain ⟨c2, v, l, t, k⟩ := h1
  obtain ⟨c3, v3, l3, t3, k3⟩ := h2 c2 v
  refine ⟨c3, v3, by omega, fun t' ht => (t3 t' (by omega)).trans (t t' ht), fun k' hk => ?_⟩
  have e := k k' hk
  rw [k3 k' (by rw [e]; exact hk), e]
/-- the height behind a word is a small number -/
theorem zhh {m o : Nat} (hm : m ≤ 6) (ho : o < 14) (h3 : ¬ nI m < zNeed o) (h4 : ¬ 6 < nI m - zNeed o + zLeav o) : ∃ m2, m2 ≤ 6 ∧ nI m - zNeed o + zLeav o = nI m2 := by
  have : ∀ m, m ≤ 6 → ∀ o, o < 14 → ¬ nI m < zNeed o → ¬ 6 < nI m - zNeed o + zLeav o → ∃ m2, m2 ≤ 6 ∧ nI m - zNeed o + zLeav o = nI m2 := by decide +kernel
  exact this m hm o ho h3 h4
theorem zCk_o {w : Nat → Int32} {wn : Nat} {H : Nat → Int32} {k o : Nat} (ho : o < 16) (hoe : w k &&& 15 = nI o) (h : zCk w wn H k) : o < 14 ∧ zga (nI o) (w k >>> ((4 : Int32) &&& 31)) = true ∧ ¬ H k < zNeed o ∧ ¬ 6 < H k - zNeed o + zLeav o ∧ ((o = 8 ∨ o = 9) → ∃ j, j < wn ∧ nI k + (w k >>> ((4 : Int32) &&& 31)) = nI j ∧ H j = H k - zNeed o + zLeav o) ∧ ((o ≠ 0 ∧ o ≠ 8) → ∃ j, j < wn ∧ nI k + 1 = nI j ∧ H j = H k - zNeed o + zLeav o) := by
  obtain ⟨o', h1, h2, h3⟩ := h
  have e : o' = o := (nI_eq (by omega) (by omega)).mp (h2.symm.trans hoe)
  subst e
  exact ⟨h1, h3⟩
theorem zgw_ok {σ : zm} {i wn cn k o : Nat} (hV : zVI σ wn cn) (hwn : wn ≤ 24) (hk : k < wn) (hne : ¬ σ 7 k = -1) (ho : o < 16) (hoe : σ (zp i + 6) k &&& 15 = nI o) : zGr σ (zgw σ i wn k o).2 wn cn ∧ ((zgw σ i wn k o).1 = true → zCk (σ (zp i + 6)) wn ((zgw σ i wn k o).2 7) k) ∧ ∀ H : Nat → Int32, zAg σ H → zCk (σ (zp i + 6)) wn H k → (zgw σ i wn k o).1 = true ∧ zAg (zgw σ i wn k o).2 H := by
  obtain ⟨m, hm, hkm⟩ := (hV.2.2.2.2 k (by omega) hne).2.2
  by_cases ho14 : o < 14
  case neg =>
    rw [zgw_1 ho14]
    exact ⟨zGr.rf hV, (fun z => by cases z), fun H hA hc => absurd (zCk_o ho hoe hc).1 ho14⟩
  cases hga : zga (nI o) (σ (zp i + 6) k >>> ((4 : Int32) &&& 31)) with
  | false =>
    rw [zgw_2 ho14 hga]
    refine ⟨zGr.rf hV, (fun z => by cases z), fun H hA hc => ?_⟩
    have := (zCk_o ho hoe hc).2.1
    rw [hga] at this
    cases this
  | true =>
    by_cases h3 : σ 7 k < zNeed o
    · rw [zgw_3 ho14 hga h3]
      refine ⟨zGr.rf hV, (fun z => by cases z), fun H hA hc => ?_⟩
      have := (zCk_o ho hoe hc).2.2.1
      rw [← hA k (by omega) hne] at this
      exact absurd h3 this
    by_cases h4 : 6 < σ 7 k - zNeed o + zLeav o
    · rw [zgw_4 ho14 hga h3 h4]
      refine ⟨zGr.rf hV, (fun z => by cases z), fun H hA hc => ?_⟩
      have := (zCk_o ho hoe hc).2.2.2.1
      rw [← hA k (by omega) hne] at this
      exact absurd h4 this
    rw [zgw_5 ho14 hga h3 h4]
    have h3' := h3
    have h4' := h4
    rw [hkm] at h3' h4'
    obtain ⟨m2, hm2, hh⟩ := zhh hm ho14 h3' h4'
    rw [← hkm] at hh
    have mk : ∀ τ : zm, (∀ k, ¬ σ 7 k = -1 → τ 7 k = σ 7 k) → ((o = 8 ∨ o = 9) → ∃ j, j < wn ∧ nI k + (σ (zp i + 6) k >>> ((4 : Int32) &&& 31)) = nI j ∧ τ 7 j = nI m2) → ((o ≠ 0 ∧ o ≠ 8) → ∃ j, j < wn ∧ nI k + 1 = nI j ∧ τ 7 j = nI m2) → zCk (σ (zp i + 6)) wn (τ 7) k := by
      intro τ h5 h6 h7
      have e5 := h5 k hne
      refine ⟨o, ho14, hoe, hga, by rw [e5]; exact h3, by rw [e5]; exact h4, ?_, ?_⟩
      · rw [e5, hh]; exact h6
      · rw [e5, hh]; exact h7
    have rd : ∀ H : Nat → Int32, zAg σ H → zCk (σ (zp i + 6)) wn H k → ((o = 8 ∨ o = 9) → ∃ j, j < wn ∧ nI k + (σ (zp i + 6) k >>> ((4 : Int32) &&& 31)) = nI j ∧ H j = nI m2) ∧ ((o ≠ 0 ∧ o ≠ 8) → ∃ j, j < wn ∧ nI k + 1 = nI j ∧ H j = nI m2) := by
      intro H hA hc
      have h5 := (zCk_o ho hoe hc).2.2.2.2
      rw [← hA k (by omega) hne, hh] at h5
      exact h5
    rw [hh]
    by_cases hb : o = 8 ∨ o = 9 <;> by_cases hg : o ≠ 0 ∧ o ≠ 8
    · rw [decide_eq_true hb, decide_eq_true hg]
      obtain ⟨a1, a2, a3⟩ := zrc_ok hV hwn (nI k + (σ (zp i + 6) k >>> ((4 : Int32) &&& 31))) hm2
      cases hA1 : (zrc σ wn (nI k + (σ (zp i + 6) k >>> ((4 : Int32) &&& 31))) (nI m2)).1 with
      | false =>
        rw [zgx_tF hA1]
        refine ⟨a1, (fun z => by cases z), fun H hA hc => ?_⟩
        have := (a3 H hA ((rd H hA hc).1 hb)).1
        rw [hA1] at this
        cases this
      | true =>
        rw [zgx_tt hA1]
        obtain ⟨j, hj, hx, hj7⟩ := a2 hA1
        have key : ∀ c2, zVI (zrc σ wn (nI k + (σ (zp i + 6) k >>> ((4 : Int32) &&& 31))) (nI m2)).2 wn c2 → _ := fun c2 v => zrc_ok (m := m2) v hwn (nI k + 1) hm2
        obtain ⟨c2, v2, q1, q2, k2⟩ := a1
        obtain ⟨b1, b2, b3⟩ := key c2 v2
        refine ⟨zGr.tr ⟨c2, v2, q1, q2, k2⟩ (fun c v => (key c v).1), fun z => ?_, fun H hA hc => ?_⟩
        · obtain ⟨j2, hj2, hx2, hj72⟩ := b2 z
          obtain ⟨-, -, -, -, kk⟩ := b1
          refine mk _ (fun k' hk' => ?_) (fun _ => ⟨j, hj, hx, ?_⟩) (fun _ => ⟨j2, hj2, hx2, hj72⟩)
          · have e := k2 k' hk'
            rw [kk k' (by rw [e]; exact hk'), e]
          · rw [kk j (by rw [hj7]; exact nI_m1 hm2), hj7]
        · obtain ⟨r1, r2⟩ := rd H hA hc
          exact b3 H (a3 H hA (r1 hb)).2 (r2 hg)
    · rw [decide_eq_true hb, decide_eq_false hg]
      obtain ⟨a1, a2, a3⟩ := zrc_ok hV hwn (nI k + (σ (zp i + 6) k >>> ((4 : Int32) &&& 31))) hm2
      cases hA1 : (zrc σ wn (nI k + (σ (zp i + 6) k >>> ((4 : Int32) &&& 31))) (nI m2)).1 with
      | false =>
        rw [zgx_tF hA1]
        refine ⟨a1, (fun z => by cases z), fun H hA hc => ?_⟩
        have := (a3 H hA ((rd H hA hc).1 hb)).1
        rw [hA1] at this
        cases this
      | true =>
        rw [zgx_tf hA1]
        refine ⟨a1, fun _ => ?_, fun H hA hc => ⟨rfl, (a3 H hA ((rd H hA hc).1 hb)).2⟩⟩
        obtain ⟨c2, v2, -, -, k2⟩ := a1
        exact mk _ k2 (fun _ => a2 hA1) (fun z => absurd z hg)
    · rw [decide_eq_false hb, decide_eq_true hg, zgx_ft]
      obtain ⟨a1, a2, a3⟩ := zrc_ok hV hwn (nI k + 1) hm2
      refine ⟨a1, fun z => ?_, fun H hA hc => a3 H hA ((rd H hA hc).2 hg)⟩
      obtain ⟨c2, v2, -, -, k2⟩ := a1
      exact mk _ k2 (fun z => absurd z hb) (fun _ => a2 z)
    · rw [decide_eq_false hb, decide_eq_false hg, zgx_ff]
      exact ⟨zGr.rf hV, fun _ => mk _ (fun _ _ => rfl) (fun z => absurd z hb) (fun z => absurd z hg), fun H hA hc => ⟨rfl, hA⟩⟩
theorem zCk_up {w : Nat → Int32} {wn k : Nat} {σ τ : zm} (hne : ¬ σ 7 k = -1) (hm : ∀ j, ¬ σ 7 j = -1 → τ 7 j = σ 7 j) (hs : ∃ m, m ≤ 6 ∧ σ 7 k = nI m) (h : zCk w wn (σ 7) k) : zCk w wn (τ 7) k := by
  obtain ⟨o, h1, h2, h3, h4, h5, h6, h7⟩ := h
  obtain ⟨m, hm1, hkm⟩ := hs
  have h4' := h4
  have h5' := h5
  rw [hkm] at h4' h5'
  obtain ⟨m2, hm2, hh⟩ := zhh hm1 h1 h4' h5'
  rw [← hkm] at hh
  have e := hm k hne
  refine ⟨o, h1, h2, h3, by rw [e]; exact h4, by rw [e]; exact h5, fun z => ?_, fun z => ?_⟩
  · obtain ⟨j, j1, j2, j3⟩ := h6 z
    exact ⟨j, j1, j2, by rw [e, hm j (by rw [j3, hh]; exact nI_m1 hm2)]; exact j3⟩
  · obtain ⟨j, j1, j2, j3⟩ := h7 z
    exact ⟨j, j1, j2, by rw [e, hm j (by rw [j3, hh]; exact nI_m1 hm2)]; exact j3⟩
theorem zgx_off (σ : zm) (wn : Nat) (x n h : Int32) (b g : Bool) {a : Nat} (ha : a ≠ 6 ∧ a ≠ 7 ∧ a ≠ 8) : (zgx σ wn x n h b g).2 a = σ a := by
  cases b with
  | false =>
    cases g with
    | false => rw [zgx_ff]
    | true => rw [zgx_ft]; exact zrc_off _ _ _ _ ha
  | true =>
    cases e : (zrc σ wn (x + n) h).1 with
    | false => rw [zgx_tF e]; exact zrc_off _ _ _ _ ha
    | true =>
      cases g with
      | false => rw [zgx_tf e]; exact zrc_off _ _ _ _ ha
      | true => rw [zgx_tt e]; exact (zrc_off _ _ _ _ ha).trans (zrc_off _ _ _ _ ha)
theorem zgw_off (σ : zm) (i wn k o : Nat) {a : Nat} (ha : a ≠ 6 ∧ a ≠ 7 ∧ a ≠ 8) : (zgw σ i wn k o).2 a = σ a := by
  unfold zgw
  split
  · rfl
  · split
    · rfl
    · split
      · rfl
      · split
        · rfl
        · exact zgx_off _ _ _ _ _ _ _ ha
/-- the verifier's rows at the start of a check -/
def zv0 (σ : zm) : zm := zu (zfill σ 7 24 (-1)) 6 2 0
theorem zv0_7 (σ : zm) {k : Nat} (hk : k < 24) : zv0 σ 7 k = -1 := by
  unfold zv0
  rw [zu_row _ _ (by decide)]
  simp [zfill, hk]
theorem zcard_0 {f : Nat → Int32} {n : Nat} (h : ∀ k, k < n → f k = -1) : zcard f n = 0 := by
  induction n with
  | zero => rfl
  | succ n ih =>
    show zcard f n + _ = 0
    rw [ih (fun k hk => h k (by omega)), if_pos (h n (by omega))]
theorem zv0_VI (σ : zm) (wn : Nat) : zVI (zv0 σ) wn 0 := ⟨by omega, zu_eq _ _ _ _, zcard_0 (fun k hk => zv0_7 σ hk), fun t ht => absurd ht (Nat.not_lt_zero _), fun k hk hne => absurd (zv0_7 σ hk) hne⟩
theorem zv0_off (σ : zm) {a : Nat} (ha : a ≠ 6 ∧ a ≠ 7 ∧ a ≠ 8) : zv0 σ a = σ a := by
  unfold zv0
  rw [zu_row _ _ ha.1, zfill_off _ _ ha.2.1]
def zOf (σ τ : zm) : Prop := ∀ a, (a ≠ 6 ∧ a ≠ 7 ∧ a ≠ 8) → τ a = σ a
theorem zst1 {σ τ : zm} {i wn pn cn t : Nat} (hwn : wn ≤ 24) (ht : t < pn) (hV : zVI τ wn cn) (hO : zOf σ τ) (hA : ∀ H, zCons (σ (zp i + 6)) wn (σ (zp i + 5)) pn H → zAg τ H) (hD : ∀ t', t' < t → ∃ j, j < wn ∧ σ (zp i + 5) t' = nI j ∧ τ 7 j = 0) (hb : (zrc τ wn (σ (zp i + 5) t) 0).1 = true) :
    ∃ c2, zVI (zrc τ wn (σ (zp i + 5) t) 0).2 wn c2 ∧ zOf σ (zrc τ wn (σ (zp i + 5) t) 0).2 ∧ (∀ H, zCons (σ (zp i + 6)) wn (σ (zp i + 5)) pn H → zAg (zrc τ wn (σ (zp i + 5) t) 0).2 H) ∧ ∀ t', t' < t + 1 → ∃ j, j < wn ∧ σ (zp i + 5) t' = nI j ∧ (zrc τ wn (σ (zp i + 5) t) 0).2 7 j = 0 := by
  have z := zrc_ok (m := 0) hV hwn (σ (zp i + 5) t) (by omega)
  rw [nI_0] at z
  obtain ⟨⟨c2, v2, -, -, k2⟩, a2, a3⟩ := z
  refine ⟨c2, v2, fun a ha => (zrc_off _ _ _ _ ha).trans (hO a ha), fun H hH => (a3 H (hA H hH) (hH.1 t ht)).2, fun t' ht' => ?_⟩
  by_cases e : t' = t
  · subst e
    exact a2 hb
  · obtain ⟨j, j1, j2, j3⟩ := hD t' (by omega)
    exact ⟨j, j1, j2, by rw [k2 j (by rw [j3]; decide), j3]⟩
theorem zst1_f {σ τ : zm} {i wn pn cn t : Nat} (hwn : wn ≤ 24) (ht : t < pn) (hV : zVI τ wn cn) (hA : ∀ H, zCons (σ (zp i + 6)) wn (σ (zp i + 5)) pn H → zAg τ H) (hb : (zrc τ wn (σ (zp i + 5) t) 0).1 = false) : ¬ ∃ H, zCons (σ (zp i + 6)) wn (σ (zp i + 5)) pn H := by
  rintro ⟨H, hH⟩
  have z := zrc_ok (m := 0) hV hwn (σ (zp i + 5) t) (by omega)
  rw [nI_0] at z
  have := (z.2.2 H (hA H hH) (hH.1 t ht)).1
  rw [hb] at this
  cases this
theorem zst2 {σ τ : zm} {i wn pn cn t k o : Nat} (hwn : wn ≤ 24) (htc : t < cn) (hV : zVI τ wn cn) (hO : zOf σ τ) (hA : ∀ H, zCons (σ (zp i + 6)) wn (σ (zp i + 5)) pn H → zAg τ H) (hD : ∀ t', t' < pn → ∃ j, j < wn ∧ σ (zp i + 5) t' = nI j ∧ τ 7 j = 0) (hP : ∀ t', t' < t → ∀ k, k < wn → τ 8 t' = nI k → zCk (σ (zp i + 6)) wn (τ 7) k)
    (hk : k < wn) (hk8 : τ 8 t = nI k) (hk7 : ¬ τ 7 k = -1) (ho : o < 16) (hoe : σ (zp i + 6) k &&& 15 = nI o) (hb : (zgw τ i wn k o).1 = true) :
    ∃ c2, zVI (zgw τ i wn k o).2 wn c2 ∧ zOf σ (zgw τ i wn k o).2 ∧ (∀ H, zCons (σ (zp i + 6)) wn (σ (zp i + 5)) pn H → zAg (zgw τ i wn k o).2 H) ∧ (∀ t', t' < pn → ∃ j, j < wn ∧ σ (zp i + 5) t' = nI j ∧ (zgw τ i wn k o).2 7 j = 0) ∧ ∀ t', t' < t + 1 → ∀ k', k' < wn → (zgw τ i wn k o).2 8 t' = nI k' → zCk (σ (zp i + 6)) wn ((zgw τ i wn k o).2 7) k' := by
  have hW : τ (zp i + 6) = σ (zp i + 6) := hO _ (by unfold zp; omega)
  have z := zgw_ok (i := i) hV hwn hk hk7 ho (by rw [hW]; exact hoe)
  rw [hW] at z
  obtain ⟨⟨c2, v2, l2, t2, k2⟩, a2, a3⟩ := z
  refine ⟨c2, v2, fun a ha => (zgw_off _ _ _ _ _ ha).trans (hO a ha), fun H hH => (a3 H (hA H hH) (hH.2 k hk ?_)).2, fun t' ht' => ?_, fun t' ht' k' hk' h8 => ?_⟩
  · rw [← hA H hH k (by omega) hk7]; exact hk7
  · obtain ⟨j, j1, j2, j3⟩ := hD t' ht'
    exact ⟨j, j1, j2, by rw [k2 j (by rw [j3]; decide), j3]⟩
  · rw [t2 t' (by omega)] at h8
    by_cases e : t' = t
    · subst e
      have : k' = k := (nI_eq (by omega) (by omega)).mp (h8.symm.trans hk8)
      subst this
      exact a2 hb
    · obtain ⟨k'', e1, e2, e3⟩ := hV.2.2.2.1 t' (by omega)
      have : k'' = k' := (nI_eq (by omega) (by omega)).mp (e2.symm.trans h8)
      subst this
      exact zCk_up e3 k2 (hV.2.2.2.2 k'' (by omega) e3).2.2 (hP t' (by omega) k'' e1 e2)
theorem zst2_f {σ τ : zm} {i wn pn cn k o : Nat} (hwn : wn ≤ 24) (hV : zVI τ wn cn) (hO : zOf σ τ) (hA : ∀ H, zCons (σ (zp i + 6)) wn (σ (zp i + 5)) pn H → zAg τ H) (hk : k < wn) (hk7 : ¬ τ 7 k = -1) (ho : o < 16) (hoe : σ (zp i + 6) k &&& 15 = nI o) (hb : (zgw τ i wn k o).1 = false) : ¬ ∃ H, zCons (σ (zp i + 6)) wn (σ (zp i + 5)) pn H := by
  rintro ⟨H, hH⟩
  have hW : τ (zp i + 6) = σ (zp i + 6) := hO _ (by unfold zp; omega)
  have z := zgw_ok (i := i) hV hwn hk hk7 ho (by rw [hW]; exact hoe)
  rw [hW] at z
  have := (z.2.2 H (hA H hH) (hH.2 k hk (by rw [← hA H hH k (by omega) hk7]; exact hk7))).1
  rw [hb] at this
  cases this
theorem zst3 {σ τ : zm} {i wn pn cn t : Nat} (hwn : wn ≤ 24) (hct : cn ≤ t) (hV : zVI τ wn cn) (hD : ∀ t', t' < pn → ∃ j, j < wn ∧ σ (zp i + 5) t' = nI j ∧ τ 7 j = 0) (hP : ∀ t', t' < t → ∀ k, k < wn → τ 8 t' = nI k → zCk (σ (zp i + 6)) wn (τ 7) k) : ∃ H, zCons (σ (zp i + 6)) wn (σ (zp i + 5)) pn H := by
  refine ⟨τ 7, hD, fun k hk hne => ?_⟩
  obtain ⟨k1, ⟨t', t1, t2⟩, -⟩ := hV.2.2.2.2 k (by omega) hne
  exact hP t' (by omega) k hk t2
