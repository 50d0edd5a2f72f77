/-! send, remove, kept, queued -/
theorem Rl_q {σ τ : zm} (hR : Rl σ) (hA : ∀ n, n < 8 → ag (fA n) σ τ) (h8 : ag (fPk 8) σ τ) (hx : ag fDx σ τ) (hT : ag fT σ τ) (hQ : rQ τ) : Rl τ := ⟨rPk_f h8 hR.1, rDx_f hx hR.2.1, fun n hn => rA_f (hA n hn) (hR.2.2.1 n hn), hQ, rT_f hT hR.2.2.2.2.1, rU_f hA hR.2.2.2.2.2⟩
/-- outside of the queue -/
def oQ (j k : Nat) : Prop := ¬ (j = 2 ∨ j = 3 ∨ j = 4 ∨ j = 5 ∨ j = 126 ∨ j = 127 ∨ j = 128 ∨ (j = 104 ∧ (k = 0 ∨ k = 24)))
theorem Rl_qo {σ τ : zm} (hR : Rl σ) (h : ag oQ σ τ) (hQ : rQ τ) : Rl τ := by
  refine Rl_q hR (fun n hn j k z => h j k ?_) (fun j k z => h j k ?_) (fun j k z => h j k ?_) (fun j k z => h j k ?_) hQ
  · unfold fA fPk zp za at z; unfold oQ; omega
  · unfold fPk zp at z; unfold oQ; omega
  · unfold fDx zp at z; unfold oQ; omega
  · unfold fT at z; unfold oQ; omega
theorem K_send {σ σ1 : zm} {n x v : Int32} {z : Nat} {c : Bool} (h0 : σ 104 24 = nI z) (h1 : σ1 = if c then zu (zrow σ z n x v) 2 0 (nI (z + 1)) else σ) : σ1 104 24 = nI z := by
  subst h1
  split
  · unfold zrow
    simp (disch := omega) only [zu_at, zu_r, zu_c]; exact h0
  · exact h0
theorem s_send {σ : zm} (hR : Rl σ) {z : Nat} (hz : z < 8) (hz0 : σ 2 0 = nI z) (n x v : Int32) : Rl (zu (wrow (wz (zu (zrow σ z n x v) 2 0 (nI (z + 1)))) z n x v) 104 24 (nI (z + 1))) := by
  unfold wrow wz zrow
  refine Rl_qo hR (((((((((ag.rf.zu ?_).zu ?_).zu ?_).zu ?_).zu ?_).zu ?_).zu ?_).zu ?_).zu ?_) ?_
  · unfold oQ; omega
  · unfold oQ; omega
  · unfold oQ; omega
  · unfold oQ; omega
  · unfold oQ; omega
  · unfold oQ; omega
  · unfold oQ; omega
  · unfold oQ; omega
  · unfold oQ; omega
  · obtain ⟨z', z1, z2, z3, z4⟩ := hR.2.2.2.1
    have ez : z' = z := (nI_eq (by omega) (by omega)).mp (z2.symm.trans hz0)
    subst ez
    refine ⟨z' + 1, by omega, ?_, ?_, fun t ht => ?_⟩
    · simp (disch := omega) only [zu_at, zu_r, zu_c]
    · simp (disch := omega) only [zu_at, zu_r, zu_c]
    · by_cases e : t = z'
      · simp (disch := omega) only [zu_at, zu_r, zu_c, and_self]
      · simp (disch := omega) only [zu_at, zu_r, zu_c]
        exact z4 t (by omega)
theorem L_send {σ σ1 σ2 : zm} {r1 r2 n x v : Int32} {z : Nat} (hR : Rl σ) (hz0 : σ 2 0 = nI z) (h1 : r1 = zb (zsnok σ n x z) ∧ σ1 = if zsnok σ n x z then zu (zrow σ z n x v) 2 0 (nI (z + 1)) else σ) (h2 : r2 = zb (wsnok σ1 n x z) ∧ σ2 = if wsnok σ1 n x z then wqad (wz σ1) z n x v else wz σ1) : r1 = r2 ∧ Rl σ2 := by
  obtain ⟨rfl, rfl⟩ := h1
  obtain ⟨rfl, rfl⟩ := h2
  have e : ∀ c : Bool, wsnok (if c then zu (zrow σ z n x v) 2 0 (nI (z + 1)) else σ) n x z = zsnok σ n x z := fun c => by
    unfold wsnok zsnok
    rw [← a_inst hR]
    unfold wapp
    split
    · unfold zrow
      simp (disch := omega) only [zu_r]
    · rfl
  rw [e]
  refine ⟨rfl, ?_⟩
  by_cases c : zsnok σ n x z = true
  · have hz : z < 8 := by
      unfold zsnok at c
      simp only [Bool.and_eq_true, decide_eq_true_eq] at c
      exact c.2
    rw [if_pos c, if_pos c]
    unfold wqad
    rw [if_pos hz]
    exact s_send hR hz hz0 n x v
  · rw [if_neg c, if_neg c]
    exact Rl_wz hR
theorem L_queued {σ σ1 σ2 : zm} {r1 r2 : Int32} (hR : Rl σ) (h1 : r1 = σ 2 0 ∧ σ1 = σ) (h2 : r2 = σ1 104 24 ∧ σ2 = wz σ1) : r1 = r2 ∧ Rl σ2 := by
  obtain ⟨rfl, rfl⟩ := h1
  obtain ⟨rfl, rfl⟩ := h2
  obtain ⟨z, z1, z2, z3, -⟩ := hR.2.2.2.1
  exact ⟨by rw [z2, z3], Rl_wz hR⟩
theorem zdec118 {x : Int32} (h : x = 0 ∨ x = 1) : ¬ x = 0 → x = 1 := fun z => h.elim (fun y => absurd y z) id
theorem a_val {σ : zm} {k : Nat} (hA : rA σ k) {x : Int32} (hx : zin x 8 = true) : zvu σ k x = if σ 118 (8 * k + x.toNatClampNeg) = 0 then 0 else σ 119 (8 * k + x.toNatClampNeg) := by
  obtain ⟨j, hj, rfl⟩ := zin_of (n := 8) (by decide) hx
  obtain ⟨-, -, -, -, -, -, -, h8, h9, -⟩ := hA
  unfold zvu zhas
  rw [hx, Bool.true_and, (h8 j hj).1, nI_clamp (by omega), h9 j hj]
  by_cases c : σ 118 (8 * k + j) = 0
  · rw [if_pos c, decide_eq_true c]; rfl
  · rw [if_neg c, decide_eq_false c]; rfl
theorem L_kept {σ σ1 σ2 : zm} {r1 r2 n x : Int32} (hR : Rl σ) (h1 : r1 = zkpt σ n x ∧ σ1 = σ) (h2 : r2 = wkpt σ1 n x ∧ σ2 = wz σ1) : r1 = r2 ∧ Rl σ2 := by
  obtain ⟨rfl, rfl⟩ := h1
  obtain ⟨rfl, rfl⟩ := h2
  refine ⟨?_, Rl_wz hR⟩
  unfold zkpt wkpt
  rw [a_inst hR]
  cases hi : zinst σ1 n
  · rfl
  · obtain ⟨k, hk, rfl, h0⟩ := zinst_of hi
    rw [nI_clamp (by omega)]
    cases hx : zin x 8
    · show (if true = true then zvu σ1 k x else 0) = 0
      rw [if_pos rfl]
      unfold zvu zhas
      rw [hx]
      rfl
    · rw [if_pos rfl, a_val (hR.2.2.1 k hk) hx]
      by_cases c : σ1 118 (8 * k + x.toNatClampNeg) = 0
      · rw [if_pos c, decide_eq_true c]; rfl
      · rw [if_neg c, decide_eq_false c]; rfl
-- remove
theorem dq_dr {A B : zm} {g : Int32} {z : Nat} (h : ∀ t, t < z → A 3 t = B 126 t ∧ A 4 t = B 127 t ∧ A 5 t = B 128 t) : ∀ n, n ≤ z → (zdr A g n).2 = (wdq B g n).2 ∧ ∀ t, t < z → (zdr A g n).1 3 t = (wdq B g n).1 126 t ∧ (zdr A g n).1 4 t = (wdq B g n).1 127 t ∧ (zdr A g n).1 5 t = (wdq B g n).1 128 t := by
  intro n
  induction n with
  | zero => exact fun _ => ⟨rfl, h⟩
  | succ n ih =>
    intro hn
    obtain ⟨i1, i2⟩ := ih (by omega)
    obtain ⟨j1, j2, j3⟩ := i2 n (by omega)
    by_cases c : (zdr A g n).1 3 n = g
    · rw [zdr_t c, wdq_t (by rw [← j1]; exact c)]
      exact ⟨i1, i2⟩
    · rw [zdr_f c, wdq_f (by rw [← j1]; exact c)]
      refine ⟨congrArg (· + 1) i1, fun t ht => ?_⟩
      dsimp only
      rw [← i1, j1, j2, j3]
      unfold zrow wrow
      by_cases e : t = (zdr A g n).2
      · simp (disch := omega) only [zu_at, zu_r, zu_c, and_self]
      · simp (disch := omega) only [zu_at, zu_r, zu_c]
        exact i2 t ht
theorem wrm_off (σ : zm) (k n : Nat) {a b : Nat} (h : ¬ (a = 118 ∧ 8 * k ≤ b ∧ b < 8 * k + n)) : wrm σ k n a b = zu (zu (zu (zu σ 104 0 0) 105 k 0) 121 k 0) 120 k 0 a b := if_neg h
theorem wrm_in (σ : zm) (k n : Nat) {b : Nat} (h1 : 8 * k ≤ b) (h2 : b < 8 * k + n) : wrm σ k n 118 b = 0 := if_pos ⟨rfl, h1, h2⟩
theorem wcnt_0 {σ : zm} {a n : Nat} (e : ∀ t, t < n → σ 118 (8 * a + t) = 0) : wcnt σ a n = 0 := by
  induction n with
  | zero => rfl
  | succ n ih => rw [wcnt_f (e n (by omega))]; exact ih (fun t ht => e t (by omega))
theorem zdr_o (σ : zm) (g : Int32) (n : Nat) {a : Nat} (ha : a ≠ 3 ∧ a ≠ 4 ∧ a ≠ 5) (b : Nat) : (zdr σ g n).1 a b = σ a b := by rw [zdr_off σ g n ha]
theorem wdq_o (σ : zm) (g : Int32) (n : Nat) {a : Nat} (ha : a ≠ 126 ∧ a ≠ 127 ∧ a ≠ 128) (b : Nat) : (wdq σ g n).1 a b = σ a b := by rw [wdq_off σ g n ha]
theorem K_remove {σ σ1 : zm} {n : Int32} {k z : Nat} {c : Bool} {v : Int32} (h0 : σ 104 24 = nI z) (h1 : σ1 = if c then zu (zdr (zclr σ k) n z).1 2 0 v else σ) : σ1 104 24 = nI z := by
  subst h1
  split
  · rw [zu_r _ _ (by omega), zdr_o _ _ _ (by omega)]
    by_cases e : 104 = za k
    · unfold zclr
      simp (disch := omega) only [zu_c]; exact h0
    · unfold zclr
      simp (disch := omega) only [zu_r]; exact h0
  · exact h0
theorem s_remove {σ : zm} (hR : Rl σ) {k z : Nat} (hk : k < 8) (hz : z ≤ 8) (hz0 : σ 2 0 = nI z) (g : Int32) (σ1 : zm) (h1 : σ1 = zu (zdr (zclr σ k) g z).1 2 0 (nI (zdr (zclr σ k) g z).2)) : Rl (zu (wdq (wrm σ1 k 8) g z).1 104 24 (nI (wdq (wrm σ1 k 8) g z).2)) := by
  have hza : za k = 72 + 4 * k := rfl
  have hzp : zp k = 9 + 7 * k := rfl
  obtain ⟨z', q1, q2, q3, q4⟩ := hR.2.2.2.1
  have ez : z' = z := (nI_eq (by omega) (by omega)).mp (q2.symm.trans hz0)
  subst ez
  -- what stands behind the two calls
  have e1 : ∀ a b, ¬ (a = 2 ∨ a = 3 ∨ a = 4 ∨ a = 5) → σ1 a b = zclr σ k a b := fun a b h => by
    rw [h1, zu_r _ _ (by omega), zdr_o _ _ _ (by omega)]
  have e2 : ∀ a b, ¬ (a = 126 ∨ a = 127 ∨ a = 128) → ¬ (a = 104 ∧ b = 24) → ¬ (a = 118 ∧ 8 * k ≤ b ∧ b < 8 * k + 8) → zu (wdq (wrm σ1 k 8) g z').1 104 24 (nI (wdq (wrm σ1 k 8) g z').2) a b = zu (zu (zu (zu σ1 104 0 0) 105 k 0) 121 k 0) 120 k 0 a b := fun a b h h' h'' => by
    rw [zu_ne _ _ (by omega), wdq_o _ _ _ (by omega), wrm_off _ _ _ h'']
  have eb : ∀ t, zclr σ k 3 t = wrm σ1 k 8 126 t ∧ zclr σ k 4 t = wrm σ1 k 8 127 t ∧ zclr σ k 5 t = wrm σ1 k 8 128 t → True := fun _ _ => trivial
  have hd := dq_dr (A := zclr σ k) (B := wrm σ1 k 8) (g := g) (z := z') (fun t ht => by
    rw [wrm_off _ _ _ (by omega), wrm_off _ _ _ (by omega), wrm_off _ _ _ (by omega)]
    simp (disch := omega) only [zu_r]
    rw [e1 126 t (by omega), e1 127 t (by omega), e1 128 t (by omega)]
    unfold zclr
    simp (disch := omega) only [zu_r]
    exact q4 t ht) z' (Nat.le_refl _)
  have hag : ag (oA k) σ (zu (wdq (wrm σ1 k 8) g z').1 104 24 (nI (wdq (wrm σ1 k 8) g z').2)) := fun a b hab => by
    unfold oA at hab
    rw [e2 a b (by omega) (by omega) (by omega), zu_ne _ _ (by omega), zu_ne _ _ (by omega), zu_ne _ _ (by omega), zu_ne _ _ (by omega), e1 a b (by omega), zclr_off _ (by omega)]
  refine Rl_a hk hR hag ?_ ?_ ?_ ?_
  · have hp : ag (fPk k) σ (zu (wdq (wrm σ1 k 8) g z').1 104 24 (nI (wdq (wrm σ1 k 8) g z').2)) := fun a b hab => hag a b (oA_p hk (by omega) hab)
    obtain ⟨r1, r2, r3, r4, r5, r6, r7, r8, r9, r10⟩ := hR.2.2.1 k hk
    have f0 : ∀ b, (b = 0 ∨ b = 2 ∨ b = 3 ∨ b = 5) → zu (wdq (wrm σ1 k 8) g z').1 104 24 (nI (wdq (wrm σ1 k 8) g z').2) (za k) b = 0 := fun b hb => by
      rw [e2 _ _ (by omega) (by omega) (by omega)]
      simp (disch := omega) only [zu_r]
      rw [e1 _ _ (by omega)]
      unfold zclr
      rcases hb with rfl | rfl | rfl | rfl <;> simp (disch := omega) only [zu_at, zu_c]
    have f1 : ∀ b, (b = 105 ∨ b = 120 ∨ b = 121) → zu (wdq (wrm σ1 k 8) g z').1 104 24 (nI (wdq (wrm σ1 k 8) g z').2) b k = 0 := fun b hb => by
      rw [e2 _ _ (by omega) (by omega) (by omega)]
      rcases hb with rfl | rfl | rfl <;> simp (disch := omega) only [zu_at, zu_r]
    have f2 : ∀ t, t < 8 → zu (wdq (wrm σ1 k 8) g z').1 104 24 (nI (wdq (wrm σ1 k 8) g z').2) 118 (8 * k + t) = 0 := fun t ht => by
      rw [zu_r _ _ (by omega), wdq_o _ _ _ (by omega), wrm_in _ _ _ (by omega) (by omega)]
    refine ⟨rPk_f hp r1, ?_, ?_, ?_, ?_, ?_, ⟨⟨0, by omega, ?_⟩, ?_⟩, fun t ht => ?_, fun t ht => ?_, ?_⟩
    · rw [f0 0 (by omega), f1 105 (by omega)]; exact ⟨rfl, Or.inl rfl⟩
    · rw [f0 5 (by omega), f1 121 (by omega)]; exact ⟨rfl, Or.inl rfl⟩
    · rw [f1 105 (by omega)]; exact fun z => absurd rfl z
    · rw [f0 2 (by omega), f1 120 (by omega)]
    · rw [f1 120 (by omega), f1 121 (by omega)]; exact fun _ => ⟨rfl, rfl⟩
    · rw [f0 3 (by omega)]; rfl
    · rw [wcnt_0 (fun t ht => f2 t ht)]; omega
    · rw [f0 3 (by omega), f2 t ht]
      refine ⟨?_, Or.inl rfl⟩
      have : ∀ t, t < 8 → zbit 0 (nI t) = !decide ((0 : Int32) = 0) := by decide
      exact this t ht
    · rw [e2 _ _ (by omega) (by omega) (by omega), e2 _ _ (by omega) (by omega) (by omega)]
      simp (disch := omega) only [zu_r]
      rw [e1 _ _ (by omega), e1 _ _ (by omega)]
      unfold zclr
      simp (disch := omega) only [zu_r]
      exact r9 t ht
    · rw [f1 121 (by omega)]; exact fun z => absurd rfl z
  · have hle := zdr_le (zclr σ k) g z'
    refine ⟨(zdr (zclr σ k) g z').2, by omega, ?_, ?_, fun t ht => ?_⟩
    · rw [e2 _ _ (by omega) (by omega) (by omega)]
      simp (disch := omega) only [zu_r]
      rw [h1, zu_at _ _ rfl rfl]
    · rw [zu_at _ _ rfl rfl, hd.1]
    · have g3 : ∀ r, (r = 3 ∨ r = 4 ∨ r = 5) → zu (wdq (wrm σ1 k 8) g z').1 104 24 (nI (wdq (wrm σ1 k 8) g z').2) r t = (zdr (zclr σ k) g z').1 r t := fun r hr => by
        rw [e2 _ _ (by omega) (by omega) (by omega)]
        simp (disch := omega) only [zu_r]
        rw [h1, zu_r _ _ (by omega)]
      rw [g3 3 (by omega), g3 4 (by omega), g3 5 (by omega), zu_r _ _ (by omega), zu_r _ _ (by omega), zu_r _ _ (by omega)]
      exact hd.2 t (by omega)
  · refine rT_f (fun a b hab => ?_) hR.2.2.2.2.1
    unfold fT at hab
    rw [e2 a b (by omega) (by omega) (by omega), zu_ne _ _ (by omega), zu_ne _ _ (by omega), zu_ne _ _ (by omega), zu_ne _ _ (by omega), e1 a b (by omega), zclr_off _ (by omega)]
  · rw [e2 _ _ (by omega) (by omega) (by omega)]
    rw [zu_r _ _ (by omega), zu_r _ _ (by omega), zu_at _ _ rfl rfl]
    exact fun z => absurd rfl z
theorem L_remove {σ σ1 σ2 : zm} {r1 r2 n : Int32} {z : Nat} (hR : Rl σ) (hz : z ≤ 8) (hz0 : σ 2 0 = nI z) (h1 : r1 = zb (zinst σ n) ∧ σ1 = if zinst σ n then zu (zdr (zclr σ n.toNatClampNeg) n z).1 2 0 (nI (zdr (zclr σ n.toNatClampNeg) n z).2) else σ) (h2 : r2 = zb (wapp σ1 n) ∧ σ2 = if wapp σ1 n then zu (wdq (wrm σ1 n.toNatClampNeg 8) n z).1 104 24 (nI (wdq (wrm σ1 n.toNatClampNeg 8) n z).2) else wz σ1) : r1 = r2 ∧ Rl σ2 := by
  obtain ⟨rfl, h1⟩ := h1
  obtain ⟨rfl, rfl⟩ := h2
  by_cases c : zinst σ n = true
  · rw [if_pos c] at h1
    obtain ⟨k, hk, rfl, h0⟩ := zinst_of c
    have hza : za k = 72 + 4 * k := rfl
    rw [nI_clamp (by omega)] at h1 ⊢
    have e : wapp σ1 (nI k) = true := by
      rw [← c, ← a_inst hR]
      unfold wapp
      rw [nI_clamp (by omega), h1, zu_r _ _ (by omega), zdr_o _ _ _ (by omega), zclr_off _ (by omega)]
    rw [e, if_pos rfl, c]
    exact ⟨rfl, s_remove hR hk hz hz0 _ _ h1⟩
  · rw [if_neg c] at h1
    subst h1
    rw [a_inst hR, if_neg c]
    exact ⟨rfl, Rl_wz hR⟩
