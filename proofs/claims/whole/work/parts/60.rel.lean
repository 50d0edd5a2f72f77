/-! the relation between the class's rows and the reference's, on one memory -/
def rLv (x y : Int32) : Prop := ∃ v, v ≤ 3 ∧ y = nI v ∧ x = nI v - 1
def rB (x y : Int32) : Prop := x = y ∧ (x = 0 ∨ x = 1)
def rG (x : Int32) : Prop := x = -1 ∨ ∃ j, j < 8 ∧ x = nI j
/-- package i: what both hold of it, but its version -/
def rPk (σ : zm) (i : Nat) : Prop := σ (zp i) 2 = σ 107 i ∧ σ (zp i) 4 = σ 109 i ∧ (∃ pn, pn ≤ 4 ∧ σ (zp i) 6 = nI pn ∧ σ 111 i = nI pn) ∧ (∃ wn, wn ≤ 24 ∧ σ (zp i) 11 = nI wn ∧ σ 116 i = nI wn) ∧ (∀ t, t < 8 → rLv (σ (zp i + 1) t) (σ 110 (8 * i + t))) ∧ (∀ t, t < 4 → σ (zp i + 2) t = σ 112 (4 * i + t) ∧ rB (σ (zp i + 3) t) (σ 113 (4 * i + t)) ∧ σ (zp i + 4) t = σ 114 (4 * i + t) ∧ rG (σ 114 (4 * i + t)) ∧ σ (zp i + 5) t = σ 115 (4 * i + t)) ∧ ∀ t, t < 24 → σ (zp i + 6) t = σ 117 (24 * i + t)
def rDx (σ : zm) : Prop := (∃ nm, nm < 8 ∧ σ (zp 8) 0 = nI nm ∧ σ 104 14 = nI nm) ∧ σ (zp 8) 1 = σ 106 8 ∧ σ (zp 8) 3 = σ 108 8
/-- the code of app n fits the heights H -/
def rC (σ : zm) (n : Nat) (H : Nat → Int32) : Prop := ∃ pn wn, pn ≤ 4 ∧ wn ≤ 24 ∧ σ 111 n = nI pn ∧ σ 116 n = nI wn ∧ zCons (fun j => σ 117 (24 * n + j)) wn (fun t => σ 115 (4 * n + t)) pn H
def rRun (σ : zm) (n : Nat) : Prop := ∃ p h H, p < 24 ∧ h ≤ 6 ∧ rC σ n H ∧ (∃ wn, σ 116 n = nI wn ∧ wn ≤ 24 ∧ p < wn) ∧ H p = nI h ∧ σ (za n) 6 = nI p ∧ σ 122 n = nI p ∧ σ (za n) 7 = nI h ∧ σ 123 n = nI h ∧ (∀ t, t < h → σ (za n + 2) t = σ 124 (6 * n + t)) ∧ ∀ t, t < 4 → σ (za n + 3) t = σ 125 (4 * n + t)
def rA (σ : zm) (n : Nat) : Prop := rPk σ n ∧ rB (σ (za n) 0) (σ 105 n) ∧ rB (σ (za n) 5) (σ 121 n) ∧ (¬ σ 105 n = 0 → σ (zp n) 1 = σ 106 n ∧ ∃ H, rC σ n H) ∧ σ (za n) 2 = σ 120 n ∧ (σ 105 n = 0 → σ 120 n = 0 ∧ σ 121 n = 0) ∧ ((∃ m, m < 256 ∧ σ (za n) 3 = nI m) ∧ wcnt σ n 8 ≤ 3) ∧ (∀ t, t < 8 → zbit (σ (za n) 3) (nI t) = !decide (σ 118 (8 * n + t) = 0) ∧ (σ 118 (8 * n + t) = 0 ∨ σ 118 (8 * n + t) = 1)) ∧ (∀ t, t < 8 → σ (za n + 1) t = σ 119 (8 * n + t)) ∧ (¬ σ 121 n = 0 → rRun σ n)
def rQ (σ : zm) : Prop := ∃ z, z ≤ 8 ∧ σ 2 0 = nI z ∧ σ 104 24 = nI z ∧ ∀ t, t < z → σ 3 t = σ 126 t ∧ σ 4 t = σ 127 t ∧ σ 5 t = σ 128 t
def rT (σ : zm) : Prop := ∃ L, L ≤ 8 ∧ σ 0 4 = nI L - 1 ∧ σ 104 23 = nI L - 1
/-- no two installed apps declare one permission -/
def rU (σ : zm) : Prop := ∀ a b t, a < 8 → b < 8 → t < 8 → ¬ σ 105 a = 0 → ¬ σ 105 b = 0 → ¬ σ 110 (8 * a + t) = 0 → ¬ σ 110 (8 * b + t) = 0 → a = b
def Rl (σ : zm) : Prop := rPk σ 8 ∧ rDx σ ∧ (∀ n, n < 8 → rA σ n) ∧ rQ σ ∧ rT σ ∧ rU σ
-- where each part looks
def fPk (i j k : Nat) : Prop := (zp i ≤ j ∧ j < zp i + 7) ∨ ((j = 106 ∨ j = 107 ∨ j = 109 ∨ j = 111 ∨ j = 116) ∧ k = i) ∨ (j = 110 ∧ 8 * i ≤ k ∧ k < 8 * i + 8) ∨ ((j = 112 ∨ j = 113 ∨ j = 114 ∨ j = 115) ∧ 4 * i ≤ k ∧ k < 4 * i + 4) ∨ (j = 117 ∧ 24 * i ≤ k ∧ k < 24 * i + 24)
def fA (n j k : Nat) : Prop := fPk n j k ∨ (za n ≤ j ∧ j < za n + 4) ∨ ((j = 105 ∨ j = 120 ∨ j = 121 ∨ j = 122 ∨ j = 123) ∧ k = n) ∨ ((j = 118 ∨ j = 119) ∧ 8 * n ≤ k ∧ k < 8 * n + 8) ∨ (j = 124 ∧ 6 * n ≤ k ∧ k < 6 * n + 6) ∨ (j = 125 ∧ 4 * n ≤ k ∧ k < 4 * n + 4)
def fQ (j k : Nat) : Prop := j = 2 ∨ j = 3 ∨ j = 4 ∨ j = 5 ∨ (j = 104 ∧ k = 24) ∨ j = 126 ∨ j = 127 ∨ j = 128
def fT (j k : Nat) : Prop := (j = 0 ∧ k = 4) ∨ (j = 104 ∧ k = 23)
def fDx (j k : Nat) : Prop := (zp 8 ≤ j ∧ j < zp 8 + 7) ∨ (j = 104 ∧ k = 14) ∨ (j = 106 ∧ k = 8) ∨ (j = 108 ∧ k = 8)
/-- τ is as σ where F looks -/
def ag (F : Nat → Nat → Prop) (σ τ : zm) : Prop := ∀ j k, F j k → τ j k = σ j k
theorem ag.rf {F : Nat → Nat → Prop} {σ : zm} : ag F σ σ := fun _ _ _ => rfl
theorem ag.zu {F : Nat → Nat → Prop} {σ τ : zm} {j k : Nat} {v : Int32} (h : ag F σ τ) (hn : ¬ F j k) : ag F σ (zu τ j k v) := fun a b hab => by
  by_cases e : a = j ∧ b = k
  · rw [e.1, e.2] at hab; exact absurd hab hn
  · rw [zu_ne]
    · exact h a b hab
    · by_cases ea : a = j
      · exact Or.inr (fun eb => e ⟨ea, eb⟩)
      · exact Or.inl ea
theorem ag.fill {F : Nat → Nat → Prop} {σ τ : zm} {j n : Nat} {v : Int32} (h : ag F σ τ) (hn : ∀ k, k < n → ¬ F j k) : ag F σ (zfill τ j n v) := fun a b hab => by
  unfold zfill
  rw [if_neg (fun e => hn b e.2 (by rw [← e.1]; exact hab))]
  exact h a b hab
theorem ag.wfz {F : Nat → Nat → Prop} {σ τ : zm} {n : Nat} (h : ag F σ τ) (hn : ∀ k, 64 ≤ k → k < 64 + n → ¬ F 110 k) : ag F σ (wfz τ n) := fun a b hab => by
  show (if a = 110 ∧ 64 ≤ b ∧ b < 64 + n then 0 else τ a b) = σ a b
  rw [if_neg (fun e => hn b e.2.1 e.2.2 (by rw [← e.1]; exact hab))]
  exact h a b hab
theorem rPk_f {σ τ : zm} {i : Nat} (h : ag (fPk i) σ τ) (hr : rPk σ i) : rPk τ i := by
  obtain ⟨h1, h2, ⟨pn, p1, p2, p3⟩, ⟨wn, w1, w2, w3⟩, h5, h6, h7⟩ := hr
  have e : ∀ r k, r < 7 → τ (zp i + r) k = σ (zp i + r) k := fun r k hr => h _ _ (Or.inl (by omega))
  have e0 : ∀ k, τ (zp i) k = σ (zp i) k := fun k => h _ _ (Or.inl (by omega))
  refine ⟨?_, ?_, ⟨pn, p1, ?_, ?_⟩, ⟨wn, w1, ?_, ?_⟩, fun t ht => ?_, fun t ht => ?_, fun t ht => ?_⟩
  · rw [e0, h _ _ (Or.inr (Or.inl ⟨by omega, rfl⟩))]; exact h1
  · rw [e0, h _ _ (Or.inr (Or.inl ⟨by omega, rfl⟩))]; exact h2
  · rw [e0]; exact p2
  · rw [h _ _ (Or.inr (Or.inl ⟨by omega, rfl⟩))]; exact p3
  · rw [e0]; exact w2
  · rw [h _ _ (Or.inr (Or.inl ⟨by omega, rfl⟩))]; exact w3
  · rw [e 1 t (by omega), h 110 _ (Or.inr (Or.inr (Or.inl ⟨rfl, by omega, by omega⟩)))]; exact h5 t ht
  · have q : ∀ r, (r = 112 ∨ r = 113 ∨ r = 114 ∨ r = 115) → τ r (4 * i + t) = σ r (4 * i + t) := fun r hr => h r _ (Or.inr (Or.inr (Or.inr (Or.inl ⟨hr, by omega, by omega⟩))))
    rw [e 2 t (by omega), e 3 t (by omega), e 4 t (by omega), e 5 t (by omega), q 112 (by omega), q 113 (by omega), q 114 (by omega), q 115 (by omega)]
    exact h6 t ht
  · rw [e 6 t (by omega), h 117 _ (Or.inr (Or.inr (Or.inr (Or.inr ⟨rfl, by omega, by omega⟩))))]; exact h7 t ht
theorem rDx_f {σ τ : zm} (h : ag fDx σ τ) (hr : rDx σ) : rDx τ := by
  obtain ⟨⟨nm, n1, n2, n3⟩, h2, h3⟩ := hr
  have e : ∀ k, τ (zp 8) k = σ (zp 8) k := fun k => h _ _ (Or.inl (by omega))
  refine ⟨⟨nm, n1, by rw [e]; exact n2, by rw [h 104 14 (Or.inr (Or.inl ⟨rfl, rfl⟩))]; exact n3⟩, ?_, ?_⟩
  · rw [e, h 106 8 (Or.inr (Or.inr (Or.inl ⟨rfl, rfl⟩)))]; exact h2
  · rw [e, h 108 8 (Or.inr (Or.inr (Or.inr ⟨rfl, rfl⟩)))]; exact h3
theorem zCk_c {w w' : Nat → Int32} {wn k : Nat} {H : Nat → Int32} (e : w' k = w k) (h : zCk w wn H k) : zCk w' wn H k := by
  unfold zCk at h ⊢
  rw [e]
  exact h
theorem zCons_c {w w' pl pl' : Nat → Int32} {wn pn : Nat} {H : Nat → Int32} (e : ∀ k, k < wn → w' k = w k) (e2 : ∀ t, t < pn → pl' t = pl t) (h : zCons w wn pl pn H) : zCons w' wn pl' pn H := by
  refine ⟨fun t ht => ?_, fun k hk hne => zCk_c (e k hk) (h.2 k hk hne)⟩
  rw [e2 t ht]
  exact h.1 t ht
theorem rC_f {σ τ : zm} {n : Nat} {H : Nat → Int32} (h : ag (fPk n) σ τ) (hr : rC σ n H) : rC τ n H := by
  obtain ⟨pn, wn, h1, h2, h3, h4, h5⟩ := hr
  refine ⟨pn, wn, h1, h2, by rw [h _ _ (Or.inr (Or.inl ⟨by omega, rfl⟩))]; exact h3, by rw [h _ _ (Or.inr (Or.inl ⟨by omega, rfl⟩))]; exact h4, ?_⟩
  exact zCons_c (fun k hk => h 117 _ (Or.inr (Or.inr (Or.inr (Or.inr ⟨rfl, by omega, by omega⟩))))) (fun t ht => h 115 _ (Or.inr (Or.inr (Or.inr (Or.inl ⟨by omega, by omega, by omega⟩))))) h5
theorem wcnt_c {σ τ : zm} {a n : Nat} (e : ∀ t, t < n → τ 118 (8 * a + t) = σ 118 (8 * a + t)) : wcnt τ a n = wcnt σ a n := by
  induction n with
  | zero => rfl
  | succ n ih =>
    show (if τ 118 (8 * a + n) = 0 then wcnt τ a n else wcnt τ a n + 1) = if σ 118 (8 * a + n) = 0 then wcnt σ a n else wcnt σ a n + 1
    rw [e n (by omega), ih (fun t ht => e t (by omega))]
/-- where a running app looks, beside its package -/
def fR (n j k : Nat) : Prop := (j = za n ∧ (k = 6 ∨ k = 7)) ∨ j = za n + 2 ∨ j = za n + 3 ∨ ((j = 122 ∨ j = 123) ∧ k = n) ∨ (j = 124 ∧ 6 * n ≤ k ∧ k < 6 * n + 6) ∨ (j = 125 ∧ 4 * n ≤ k ∧ k < 4 * n + 4)
theorem rRun_f {σ τ : zm} {n : Nat} (hp : ag (fPk n) σ τ) (h : ag (fR n) σ τ) (hr : rRun σ n) : rRun τ n := by
  have e16 : τ 116 n = σ 116 n := hp _ _ (Or.inr (Or.inl ⟨by omega, rfl⟩))
  obtain ⟨p, hh, H, p1, p2, p3, p4, p5, p6, p7, p8, p9, p10, p11⟩ := hr
  refine ⟨p, hh, H, p1, p2, rC_f hp p3, by rw [e16]; exact p4, p5, ?_, ?_, ?_, ?_, fun t ht => ?_, fun t ht => ?_⟩
  · rw [h (za n) 6 (by unfold fR; omega)]; exact p6
  · rw [h 122 n (by unfold fR; omega)]; exact p7
  · rw [h (za n) 7 (by unfold fR; omega)]; exact p8
  · rw [h 123 n (by unfold fR; omega)]; exact p9
  · rw [h (za n + 2) t (by unfold fR; omega), h 124 _ (by unfold fR; omega)]; exact p10 t ht
  · rw [h (za n + 3) t (by unfold fR; omega), h 125 _ (by unfold fR; omega)]; exact p11 t ht
theorem rA_f {σ τ : zm} {n : Nat} (h : ag (fA n) σ τ) (hr : rA σ n) : rA τ n := by
  have hp : ag (fPk n) σ τ := fun j k hjk => h j k (Or.inl hjk)
  have ea : ∀ r k, r < 4 → τ (za n + r) k = σ (za n + r) k := fun r k hr => h _ _ (Or.inr (Or.inl (by omega)))
  have ea0 : ∀ k, τ (za n) k = σ (za n) k := fun k => h _ _ (Or.inr (Or.inl (by omega)))
  have ez : τ (zp n) 1 = σ (zp n) 1 := h _ _ (Or.inl (Or.inl (by omega)))
  have e6 : τ 106 n = σ 106 n := h _ _ (Or.inl (Or.inr (Or.inl ⟨by omega, rfl⟩)))
  have ec : ∀ r, (r = 105 ∨ r = 120 ∨ r = 121 ∨ r = 122 ∨ r = 123) → τ r n = σ r n := fun r hr => h r n (Or.inr (Or.inr (Or.inl ⟨hr, rfl⟩)))
  have e8 : ∀ r t, (r = 118 ∨ r = 119) → t < 8 → τ r (8 * n + t) = σ r (8 * n + t) := fun r t hr ht => h r _ (Or.inr (Or.inr (Or.inr (Or.inl ⟨hr, by omega, by omega⟩))))
  obtain ⟨h1, h2, h3, h4, h5, h6, h7, h8, h9, h10⟩ := hr
  refine ⟨rPk_f hp h1, ?_, ?_, ?_, ?_, ?_, ?_, fun t ht => ?_, fun t ht => ?_, ?_⟩
  · rw [ea0, ec 105 (by omega)]; exact h2
  · rw [ea0, ec 121 (by omega)]; exact h3
  · rw [ec 105 (by omega), ez, e6]
    intro z
    obtain ⟨a1, H, a2⟩ := h4 z
    exact ⟨a1, H, rC_f hp a2⟩
  · rw [ea0, ec 120 (by omega)]; exact h5
  · rw [ec 105 (by omega), ec 120 (by omega), ec 121 (by omega)]; exact h6
  · rw [ea0, wcnt_c (fun t ht => e8 118 t (by omega) (by omega))]; exact h7
  · rw [ea0, e8 118 t (by omega) ht]; exact h8 t ht
  · rw [ea 1 t (by omega), e8 119 t (by omega) ht]; exact h9 t ht
  · rw [ec 121 (by omega)]
    intro z
    exact rRun_f hp (fun j k hjk => h j k (by unfold fR at hjk; unfold fA; omega)) (h10 z)
theorem rQ_f {σ τ : zm} (h : ag fQ σ τ) (hr : rQ σ) : rQ τ := by
  obtain ⟨z, z1, z2, z3, z4⟩ := hr
  refine ⟨z, z1, by rw [h 2 0 (by unfold fQ; omega)]; exact z2, by rw [h 104 24 (by unfold fQ; omega)]; exact z3, fun t ht => ?_⟩
  rw [h 3 t (by unfold fQ; omega), h 4 t (by unfold fQ; omega), h 5 t (by unfold fQ; omega), h 126 t (by unfold fQ; omega), h 127 t (by unfold fQ; omega), h 128 t (by unfold fQ; omega)]
  exact z4 t ht
theorem rT_f {σ τ : zm} (h : ag fT σ τ) (hr : rT σ) : rT τ := by
  obtain ⟨L, l1, l2, l3⟩ := hr
  exact ⟨L, l1, by rw [h 0 4 (by unfold fT; omega)]; exact l2, by rw [h 104 23 (by unfold fT; omega)]; exact l3⟩
theorem rU_f {σ τ : zm} (h : ∀ n, n < 8 → ag (fA n) σ τ) (hr : rU σ) : rU τ := by
  have e5 : ∀ a, a < 8 → τ 105 a = σ 105 a := fun a ha => h a ha 105 a (Or.inr (Or.inr (Or.inl ⟨by omega, rfl⟩)))
  have e0 : ∀ a t, a < 8 → t < 8 → τ 110 (8 * a + t) = σ 110 (8 * a + t) := fun a t ha ht => h a ha 110 _ (Or.inl (Or.inr (Or.inr (Or.inl ⟨rfl, by omega, by omega⟩))))
  intro a b t ha hb ht
  rw [e5 a ha, e5 b hb, e0 a t ha ht, e0 b t hb ht]
  exact hr a b t ha hb ht
