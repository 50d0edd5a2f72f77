/-! install: the relation kept -/
/-- outside of app n, and of what is used for a while -/
def oI (n j k : Nat) : Prop := ¬ (fA n j k ∨ (j = 104 ∧ k = 0) ∨ j = 129 ∨ j = 130 ∨ j = 6 ∨ j = 7 ∨ j = 8)
theorem oI_o {n m j k : Nat} (hn : n < 8) (hm : m < 8) (hne : m ≠ n) (h : fA m j k) : oI n j k := by
  unfold fA fPk zp za at h
  unfold oI fA fPk zp za
  omega
theorem oI_8 {n j k : Nat} (hn : n < 8) (h : fPk 8 j k) : oI n j k := by
  unfold fPk zp at h
  unfold oI fA fPk zp za
  omega
theorem oI_x {n j k : Nat} (hn : n < 8) (h : fDx j k) : oI n j k := by
  unfold fDx zp at h
  unfold oI fA fPk zp za
  omega
theorem oI_q {n j k : Nat} (hn : n < 8) (h : fQ j k) : oI n j k := by
  unfold fQ at h
  unfold oI fA fPk zp za
  omega
theorem oI_t {n j k : Nat} (hn : n < 8) (h : fT j k) : oI n j k := by
  unfold fT at h
  unfold oI fA fPk zp za
  omega
theorem Rl_i {σ τ : zm} {n : Nat} (hn : n < 8) (hR : Rl σ) (h : ag (oI n) σ τ) (hA : rA τ n) (hU : ∀ a t, a < 8 → a ≠ n → t < 8 → ¬ σ 105 a = 0 → ¬ σ 110 (8 * a + t) = 0 → τ 110 (8 * n + t) = 0) : Rl τ := by
  have ho : ∀ m, m < 8 → m ≠ n → ag (fA m) σ τ := fun m hm hne j k z => h j k (oI_o hn hm hne z)
  have e5 : ∀ a, a < 8 → a ≠ n → τ 105 a = σ 105 a := fun a ha e => ho a ha e 105 a (Or.inr (Or.inr (Or.inl ⟨by omega, rfl⟩)))
  have e0 : ∀ a t, a < 8 → a ≠ n → t < 8 → τ 110 (8 * a + t) = σ 110 (8 * a + t) := fun a t ha e ht => ho a ha e 110 _ (Or.inl (Or.inr (Or.inr (Or.inl ⟨rfl, by omega, by omega⟩))))
  refine ⟨rPk_f (fun j k z => h j k (oI_8 hn z)) hR.1, rDx_f (fun j k z => h j k (oI_x hn z)) hR.2.1, fun m hm => ?_, rQ_f (fun j k z => h j k (oI_q hn z)) hR.2.2.2.1, rT_f (fun j k z => h j k (oI_t hn z)) hR.2.2.2.2.1, ?_⟩
  · by_cases e : m = n
    · subst e; exact hA
    · exact rA_f (ho m hm e) (hR.2.2.1 m hm)
  · intro a b t ha hb ht q1 q2 q3 q4
    by_cases ea : a = n
    · by_cases eb : b = n
      · rw [ea, eb]
      · subst ea
        rw [e5 b hb eb] at q2
        rw [e0 b t hb eb ht] at q4
        exact absurd (hU b t hb eb ht q2 q4) q3
    · by_cases eb : b = n
      · subst eb
        rw [e5 a ha ea] at q1
        rw [e0 a t ha ea ht] at q3
        exact absurd (hU a t ha ea ht q1 q3) q4
      · rw [e5 a ha ea] at q1
        rw [e5 b hb eb] at q2
        rw [e0 a t ha ea ht] at q3
        rw [e0 b t hb eb ht] at q4
        exact hR.2.2.2.2.2 a b t ha hb ht q1 q2 q3 q4
-- what the reference's rows are behind install
theorem wins_o {τ : zm} {nm x b : Nat} (hnm : nm < 8) (h : ¬ ((x = 104 ∧ b = 0) ∨ ((x = 105 ∨ x = 106 ∨ x = 107 ∨ x = 109 ∨ x = 111 ∨ x = 116 ∨ x = 120 ∨ x = 121) ∧ b = nm) ∨ (x = 110 ∧ 8 * nm ≤ b ∧ b < 8 * nm + 8) ∨ ((x = 112 ∨ x = 113 ∨ x = 114 ∨ x = 115) ∧ 4 * nm ≤ b ∧ b < 4 * nm + 4) ∨ (x = 117 ∧ 24 * nm ≤ b ∧ b < 24 * nm + 24))) : wins τ nm x b = τ x b := by
  unfold wins zcp zcp4
  rw [if_neg (by omega)]
  dsimp only
  rw [if_neg (by omega), if_neg (by omega)]
  unfold wi0
  rw [zu_ne _ _ (by omega), zu_ne _ _ (by omega), zu_ne _ _ (by omega), zu_ne _ _ (by omega), zu_ne _ _ (by omega), zu_ne _ _ (by omega), zu_ne _ _ (by omega), zu_ne _ _ (by omega), zu_ne _ _ (by omega)]
theorem wins_w {τ : zm} {nm x b : Nat} (h : x = 105 ∨ x = 106 ∨ x = 107 ∨ x = 109 ∨ x = 111 ∨ x = 116 ∨ x = 120 ∨ x = 121) : wins τ nm x b = wi0 τ nm x b := by
  unfold wins zcp zcp4
  rw [if_neg (by omega)]
  dsimp only
  rw [if_neg (by omega), if_neg (by omega)]
theorem wins_110 {τ : zm} {nm t : Nat} (hnm : nm < 8) (ht : t < 8) : wins τ nm 110 (8 * nm + t) = τ 110 (64 + t) := by
  unfold wins zcp zcp4
  rw [if_neg (by omega)]
  dsimp only
  rw [if_neg (by omega), if_pos (by omega), show 64 + (8 * nm + t - 8 * nm) = 64 + t by omega]
  unfold wi0
  simp (disch := omega) only [zu_r]
theorem wins_4 {τ : zm} {nm t x : Nat} (hx : x = 112 ∨ x = 113 ∨ x = 114 ∨ x = 115) (hnm : nm < 8) (ht : t < 4) : wins τ nm x (4 * nm + t) = τ x (32 + t) := by
  unfold wins zcp zcp4
  rw [if_neg (by omega)]
  dsimp only
  rw [if_pos (by omega), if_neg (by omega), show 32 + (4 * nm + t - 4 * nm) = 32 + t by omega]
  unfold wi0
  simp (disch := omega) only [zu_r]
theorem wins_117 {τ : zm} {nm t : Nat} (hnm : nm < 8) (ht : t < 24) : wins τ nm 117 (24 * nm + t) = τ 117 (192 + t) := by
  unfold wins zcp zcp4
  rw [if_pos (by omega)]
  dsimp only
  rw [if_neg (by omega), if_neg (by omega), show 192 + (24 * nm + t - 24 * nm) = 192 + t by omega]
  unfold wi0
  simp (disch := omega) only [zu_r]
/-- the class's install: what it answers (1, 2: which exception), and what it leaves -/
def zTk (ρ σ1 : zm) (nm : Nat) : Prop := ∃ τ, zPk ρ τ nm 8 ∧ σ1 = zu (zu (zu τ (za nm) 2 (ρ (za nm) 2 &&& ρ (zp 8) 4)) (za nm) 5 0) (za nm) 0 1
def zIns (σ : zm) (nm pn wn : Nat) (k : Int32) (σ1 : zm) : Prop := ∃ ρ, zOf σ ρ ∧ ((k = 1 ∧ ¬ zSnd σ 8 pn wn ∧ σ1 = ρ) ∨ (k = 2 ∧ zSnd σ 8 pn wn ∧ zent ρ 8 nm = false ∧ σ1 = ρ) ∨ (k = 0 ∧ zSnd σ 8 pn wn ∧ zent ρ 8 nm = true ∧ zTk ρ σ1 nm))
theorem zIns_hi {σ σ1 : zm} {nm pn wn : Nat} {k : Int32} (hnm : nm < 8) (h : zIns σ nm pn wn k σ1) : ∀ x, 104 ≤ x → σ1 x = σ x := by
  intro x hx
  obtain ⟨ρ, hO, h⟩ := h
  have e : ρ x = σ x := hO x (by omega)
  rcases h with ⟨-, -, rfl⟩ | ⟨-, -, -, rfl⟩ | ⟨-, -, -, τ, hP, rfl⟩
  · exact e
  · exact e
  · rw [zu_row _ _ (by unfold za; omega), zu_row _ _ (by unfold za; omega), zu_row _ _ (by unfold za; omega), ← e]
    funext b
    exact hP.1 x b (Or.inr (by unfold zp; omega))
theorem Rl_out {σ τ : zm} (hR : Rl σ) (h : ∀ x b, ¬ (x = 6 ∨ x = 7 ∨ x = 8 ∨ x = 129 ∨ x = 130 ∨ (x = 104 ∧ b = 0)) → τ x b = σ x b) : Rl τ := by
  refine Rl_q hR (fun n hn j k z => h j k ?_) (fun j k z => h j k ?_) (fun j k z => h j k ?_) (fun j k z => h j k ?_) (rQ_f (fun j k z => h j k ?_) hR.2.2.2.1)
  · unfold fA fPk zp za at z; omega
  · unfold fPk zp at z; omega
  · unfold fDx zp at z; omega
  · unfold fT at z; omega
  · unfold fQ at z; omega
theorem s_install {σ ρ σ1 σ1' τ' : zm} (hR : Rl σ) {nm : Nat} (hnm : nm < 8) {H : Nat → Int32} {pn wn : Nat} (hpn : pn ≤ 4) (hwn : wn ≤ 24) (h6 : σ (zp 8) 6 = nI pn) (h11 : σ (zp 8) 11 = nI wn) (hC : zCons (σ (zp 8 + 6)) wn (σ (zp 8 + 5)) pn H) (hO : zOf σ ρ) (hT : zTk ρ σ1 nm) (h130 : ∀ a, a ≠ 130 → σ1' a = σ1 a) (hW : wOf σ1' τ') (hcl : wclp σ nm 64 = false) : Rl (wins τ' nm) := by
  have hza : za nm = 72 + 4 * nm := rfl
  have hzp : zp nm = 9 + 7 * nm := rfl
  have hz8 : zp 8 = 65 := rfl
  obtain ⟨τ, hP, rfl⟩ := hT
  obtain ⟨P1, ⟨P20, P21, P22, P23, P24, P26, P211⟩, P3, P4, P5⟩ := hP
  have eρ : ∀ x b, ¬ (x = 6 ∨ x = 7 ∨ x = 8) → ρ x b = σ x b := fun x b h => by rw [hO x (by omega)]
  have eτ : ∀ x b, ¬ (x = 129 ∨ x = 130) → τ' x b = zu (zu (zu τ (za nm) 2 (ρ (za nm) 2 &&& ρ (zp 8) 4)) (za nm) 5 0) (za nm) 0 1 x b := fun x b h => by rw [hW x (by omega), h130 x (by omega)]
  have hi : ∀ x b, 104 ≤ x → ¬ (x = 129 ∨ x = 130) → τ' x b = σ x b := fun x b h h' => by
    rw [eτ x b h', zu_r _ _ (by omega), zu_r _ _ (by omega), zu_r _ _ (by omega), P1 x b (by omega), eρ x b (by omega)]
  have lo : ∀ x b, x < 104 → wins τ' nm x b = zu (zu (zu τ (za nm) 2 (ρ (za nm) 2 &&& ρ (zp 8) 4)) (za nm) 5 0) (za nm) 0 1 x b := fun x b h => by
    rw [wins_o hnm (by omega), eτ x b (by omega)]
  have lo2 : ∀ x b, x < 104 → ¬ (x = za nm) → ¬ (zp nm ≤ x ∧ x < zp nm + 7) → ¬ (x = 6 ∨ x = 7 ∨ x = 8) → wins τ' nm x b = σ x b := fun x b h h1 h2 h3 => by
    rw [lo x b h, zu_r _ _ h1, zu_r _ _ h1, zu_r _ _ h1, P1 x b (by omega), eρ x b h3]
  have lop : ∀ x b, (zp nm ≤ x ∧ x < zp nm + 7) → wins τ' nm x b = τ x b := fun x b h => by
    rw [lo x b (by omega), zu_r _ _ (by omega), zu_r _ _ (by omega), zu_r _ _ (by omega)]
  have hag : ag (oI nm) σ (wins τ' nm) := fun x b h => by
    unfold oI fA fPk at h
    by_cases c : x < 104
    · exact lo2 x b c (by omega) (by omega) (by omega)
    · rw [wins_o hnm (by omega), hi x b (by omega) (by omega)]
  obtain ⟨d1, d2, ⟨pn', p1, p2, p3⟩, ⟨wn', w1, w2, w3⟩, d5, d6, d7⟩ := hR.1
  have ep : pn' = pn := (nI_eq (by omega) (by omega)).mp (p2.symm.trans h6)
  have ew : wn' = wn := (nI_eq (by omega) (by omega)).mp (w2.symm.trans h11)
  subst ep ew
  have m105 : wins τ' nm 105 nm = 1 := by
    rw [wins_w (by omega)]
    unfold wi0
    simp (disch := omega) only [zu_at, zu_r]
  have m121 : wins τ' nm 121 nm = 0 := by
    rw [wins_w (by omega)]
    unfold wi0
    simp (disch := omega) only [zu_at, zu_r]
  have m120 : wins τ' nm 120 nm = wgv τ' nm := by
    rw [wins_w (by omega)]
    unfold wi0
    simp (disch := omega) only [zu_at, zu_r]
  have mc : ∀ x, (x = 106 ∨ x = 107 ∨ x = 109 ∨ x = 111 ∨ x = 116) → wins τ' nm x nm = σ x 8 := fun x hx => by
    rw [wins_w (by omega)]
    unfold wi0
    rcases hx with rfl | rfl | rfl | rfl | rfl <;> (simp (disch := omega) only [zu_at, zu_r]; exact hi _ _ (by omega) (by omega))
  have hA := hR.2.2.1 nm hnm
  refine Rl_i hnm hR hag ?_ ?_
  · refine ⟨⟨?_, ?_, ⟨pn', p1, ?_, ?_⟩, ⟨wn', w1, ?_, ?_⟩, fun t ht => ?_, fun t ht => ?_, fun t ht => ?_⟩, ?_, ?_, fun _ => ⟨?_, H, ⟨pn', wn', p1, w1, ?_, ?_, ?_⟩⟩, ?_, ?_, ⟨?_, ?_⟩, fun t ht => ?_, fun t ht => ?_, ?_⟩
    · rw [lop _ _ (by omega), P22, eρ _ _ (by omega), mc 107 (by omega)]; exact d1
    · rw [lop _ _ (by omega), P24, eρ _ _ (by omega), mc 109 (by omega)]; exact d2
    · rw [lop _ _ (by omega), P26, eρ _ _ (by omega)]; exact p2
    · rw [mc 111 (by omega)]; exact p3
    · rw [lop _ _ (by omega), P211, eρ _ _ (by omega)]; exact w2
    · rw [mc 116 (by omega)]; exact w3
    · rw [lop _ _ (by omega), P3 t ht, eρ _ _ (by omega), wins_110 hnm ht, hi _ _ (by omega) (by omega)]; exact d5 t ht
    · obtain ⟨y1, y2, y3, y4⟩ := P4 t ht
      rw [lop (zp nm + 2) t (by omega), lop (zp nm + 3) t (by omega), lop (zp nm + 4) t (by omega), lop (zp nm + 5) t (by omega), y1, y2, y3, y4, eρ (zp 8 + 2) t (by omega), eρ (zp 8 + 3) t (by omega), eρ (zp 8 + 4) t (by omega), eρ (zp 8 + 5) t (by omega), wins_4 (x := 112) (by omega) hnm ht, wins_4 (x := 113) (by omega) hnm ht, wins_4 (x := 114) (by omega) hnm ht, wins_4 (x := 115) (by omega) hnm ht, hi 112 _ (by omega) (by omega), hi 113 _ (by omega) (by omega), hi 114 _ (by omega) (by omega), hi 115 _ (by omega) (by omega)]
      exact d6 t ht
    · rw [lop _ _ (by omega), P5 t ht, eρ _ _ (by omega), wins_117 hnm ht, hi _ _ (by omega) (by omega)]; exact d7 t ht
    · rw [lo _ _ (by omega), zu_eq, m105]; exact ⟨rfl, Or.inr rfl⟩
    · rw [lo _ _ (by omega), zu_c _ _ (by omega), zu_eq, m121]; exact ⟨rfl, Or.inl rfl⟩
    · rw [lop _ _ (by omega), P21, eρ _ _ (by omega), mc 106 (by omega)]; exact hR.2.1.2.1
    · rw [mc 111 (by omega)]; exact p3
    · rw [mc 116 (by omega)]; exact w3
    · refine zCons_c (fun k hk => ?_) (fun t ht => ?_) hC
      · rw [wins_117 hnm (by omega), hi _ _ (by omega) (by omega)]; exact (d7 k (by omega)).symm
      · rw [wins_4 (by omega) hnm (by omega), hi _ _ (by omega) (by omega)]; exact (d6 t (by omega)).2.2.2.2.symm
    · rw [lo _ _ (by omega), zu_c _ _ (by omega), zu_c _ _ (by omega), zu_eq, m120, eρ _ _ (by omega), eρ _ _ (by omega)]
      unfold wgv
      rw [hi 105 _ (by omega) (by omega), hi 120 _ (by omega) (by omega), hi 109 _ (by omega) (by omega), hA.2.2.2.2.1, d2]
      by_cases c : σ 105 nm = 0
      · rw [if_pos c, (hA.2.2.2.2.2.1 c).1, Int32.zero_and]
      · rw [if_neg c]
    · rw [m105]; exact fun q => absurd q (by decide)
    · rw [lo _ _ (by omega), zu_c _ _ (by omega), zu_c _ _ (by omega), zu_c _ _ (by omega), P1 _ _ (by omega), eρ _ _ (by omega)]
      exact hA.2.2.2.2.2.2.1.1
    · rw [wcnt_c (σ := σ) (fun t ht => by rw [wins_o hnm (by omega), hi _ _ (by omega) (by omega)])]
      exact hA.2.2.2.2.2.2.1.2
    · rw [lo _ _ (by omega), zu_c _ _ (by omega), zu_c _ _ (by omega), zu_c _ _ (by omega), P1 _ _ (by omega), eρ _ _ (by omega), wins_o hnm (by omega), hi _ _ (by omega) (by omega)]
      exact hA.2.2.2.2.2.2.2.1 t ht
    · rw [lo2 _ _ (by omega) (by omega) (by omega) (by omega), wins_o hnm (by omega), hi _ _ (by omega) (by omega)]
      exact hA.2.2.2.2.2.2.2.2.1 t ht
    · rw [m121]; exact fun q => absurd rfl q
  · intro a t ha hne ht c5 c1
    rw [wins_110 hnm ht, hi _ _ (by omega) (by omega)]
    refine Classical.byContradiction (fun c => ?_)
    have : wclp σ nm 64 = true := wclp_iff.mpr (Or.inr ⟨8 * a + t, by omega, by
      unfold wclq
      rw [show (8 * a + t) / 8 = a by omega, show (8 * a + t) % 8 = t by omega, decide_eq_false (fun q => hne ((nI_eq (by omega) (by omega)).mp q)), decide_eq_false c5, decide_eq_false c1, decide_eq_false c]
      rfl⟩)
    rw [hcl] at this
    cases this
theorem L_install {σ σ1 σ1' σ2 : zm} {k r2 : Int32} (hR : Rl σ) {nm pn wn : Nat} (hnm : nm < 8) (hpn : pn ≤ 4) (hwn : wn ≤ 24) (h6 : σ (zp 8) 6 = nI pn) (h11 : σ (zp 8) 11 = nI wn) (h1 : zIns σ nm pn wn k σ1) (h130 : ∀ a, a ≠ 130 → σ1' a = σ1 a) (h2 : ∃ (τ : zm) (v : Int32), wOf σ1' τ ∧ wst σ1' τ nm pn wn v ∧ (if v = 0 then r2 = nI nm ∧ σ2 = wins τ nm else r2 = 0 ∧ σ2 = zu τ 104 0 v)) : σ2 104 0 = k ∧ (k = 0 → r2 = nI nm) ∧ Rl σ2 := by
  have hhi := zIns_hi hnm h1
  obtain ⟨ρ, hO, h1⟩ := h1
  obtain ⟨τ, v, hW, hst, h2⟩ := h2
  have e1 : ∀ a b, 104 ≤ a → (a = 104 → b = 14) → σ1' a b = σ a b ∨ a = 130 := fun a b ha _ => by
    by_cases c : a = 130
    · exact Or.inr c
    · left; rw [h130 a c, hhi a ha]
  have hs := a_snd hR hpn hwn e1
  have eρ : ∀ a, 9 ≤ a → ρ a = σ a := fun a ha => hO a (by omega)
  have eτ : ∀ a b, 105 ≤ a → a ≤ 120 → τ a b = σ a b := fun a b ha hb => by rw [hW a (by omega), h130 a (by omega), hhi a (by omega)]
  have he : wclp τ nm 64 = !zent ρ 8 nm := by rw [wclp_c eτ, zent_c eρ, a_ent hR hnm]
  rcases h1 with ⟨rfl, n1, rfl⟩ | ⟨rfl, y1, n2, rfl⟩ | ⟨rfl, y1, y2, hT⟩
  · have hv : v = 1 := by
      rcases hst with ⟨q, -⟩ | ⟨-, q, -⟩ | ⟨-, q, -⟩
      · exact q
      · exact absurd (hs.mp q) n1
      · exact absurd (hs.mp q) n1
    subst hv
    rw [if_neg (by decide)] at h2
    obtain ⟨rfl, rfl⟩ := h2
    refine ⟨zu_eq _ _ _ _, fun q => absurd q (by decide), Rl_out hR (fun x b h => ?_)⟩
    rw [zu_ne _ _ (by omega), hW x (by omega), h130 x (by omega), hO x (by omega)]
  · have hv : v = 2 := by
      rcases hst with ⟨-, q⟩ | ⟨q, -⟩ | ⟨-, -, q⟩
      · exact absurd (hs.mpr y1) q
      · exact q
      · rw [he, n2] at q; cases q
    subst hv
    rw [if_neg (by decide)] at h2
    obtain ⟨rfl, rfl⟩ := h2
    refine ⟨zu_eq _ _ _ _, fun q => absurd q (by decide), Rl_out hR (fun x b h => ?_)⟩
    rw [zu_ne _ _ (by omega), hW x (by omega), h130 x (by omega), hO x (by omega)]
  · have hv : v = 0 := by
      rcases hst with ⟨-, q⟩ | ⟨-, -, q⟩ | ⟨q, -⟩
      · exact absurd (hs.mpr y1) q
      · rw [he, y2] at q; cases q
      · exact q
    subst hv
    rw [if_pos rfl] at h2
    obtain ⟨rfl, rfl⟩ := h2
    obtain ⟨H, hC⟩ := y1.2.2.2
    refine ⟨?_, fun _ => rfl, s_install hR hnm hpn hwn h6 h11 hC hO hT h130 hW ?_⟩
    · unfold wins zcp zcp4
      rw [if_neg (by omega)]
      dsimp only
      rw [if_neg (by omega), if_neg (by omega)]
      unfold wi0
      simp (disch := omega) only [zu_at, zu_r]
    · rw [a_ent hR hnm, ← zent_c eρ, y2]; rfl
