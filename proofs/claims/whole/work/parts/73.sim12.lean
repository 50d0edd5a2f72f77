/-! step: the words that touch more than stack and locals, and the ends -/
theorem or_lt : ∀ m, m < 256 → ∀ j, j < 8 → (nI m ||| ((1 : Int32) <<< (nI j &&& 31))) = nI (m ||| (1 <<< j)) ∧ m ||| (1 <<< j) < 256 := by decide +kernel
theorem or_bit : ∀ m, m < 256 → ∀ j, j < 8 → ∀ t, t < 8 → zbit (nI (m ||| (1 <<< j))) (nI t) = (decide (t = j) || zbit (nI m) (nI t)) := by decide +kernel
theorem wcnt_up {σ τ : zm} {a j : Nat} (hj : τ 118 (8 * a + j) = 1) : ∀ {n : Nat}, (∀ t, t < n → t ≠ j → τ 118 (8 * a + t) = σ 118 (8 * a + t)) → j < n → wcnt τ a n = if σ 118 (8 * a + j) = 0 then wcnt σ a n + 1 else wcnt σ a n
  | 0, _, h => absurd h (by omega)
  | n + 1, e, h => by
    by_cases c : j = n
    · subst c
      rw [wcnt_t (by rw [hj]; decide), wcnt_c (fun t ht => e t (by omega) (by omega))]
      by_cases c2 : σ 118 (8 * a + j) = 0
      · rw [if_pos c2, wcnt_f c2]
      · rw [if_neg c2, wcnt_t c2]
    · have ih := wcnt_up hj (n := n) (fun t ht hne => e t (by omega) hne) (by omega)
      have en := e n (by omega) (by omega)
      by_cases c2 : σ 118 (8 * a + n) = 0
      · rw [wcnt_f (by rw [en]; exact c2), ih]
        by_cases c3 : σ 118 (8 * a + j) = 0
        · rw [if_pos c3, if_pos c3, wcnt_f c2]
        · rw [if_neg c3, if_neg c3, wcnt_f c2]
      · rw [wcnt_t (by rw [en]; exact c2), ih]
        by_cases c3 : σ 118 (8 * a + j) = 0
        · rw [if_pos c3, if_pos c3, wcnt_t c2]
        · rw [if_neg c3, if_neg c3, wcnt_t c2]
/-- app a keeps v under j -/
def sk (σ : zm) (a j : Nat) (v : Int32) : zm := zu (zu (zu (zu σ (za a) 3 (σ (za a) 3 ||| ((1 : Int32) <<< (nI j &&& 31)))) (za a + 1) j v) 118 (8 * a + j) 1) 119 (8 * a + j) v
theorem Rl_keep {σ : zm} (hR : Rl σ) {a j : Nat} (ha : a < 8) (hj : j < 8) (h5 : ¬ σ 105 a = 0) (hc : ¬ σ 118 (8 * a + j) = 0 ∨ wcnt σ a 8 < 3) (v : Int32) : Rl (sk σ a j v) := by
  have hza : za a = 72 + 4 * a := rfl
  have hzp : zp a = 9 + 7 * a := rfl
  have hA := hR.2.2.1 a ha
  obtain ⟨⟨⟨m, m1, m2⟩, k2⟩, k3, k4⟩ := rA_K hA
  obtain ⟨b1, b2⟩ := or_lt m m1 j hj
  unfold sk
  rw [m2, b1]
  refine Rl_st hR ha h5 ((((ag.rf.zu ?_).zu ?_).zu ?_).zu ?_) ?_ ?_ ?_ ?_ ?_ ⟨⟨⟨_, b2, ?_⟩, ?_⟩, fun t ht => ?_, fun t ht => ?_⟩ (fun q => ?_) (rQ_f ((((ag.rf.zu (by unfold fQ; omega)).zu (by unfold fQ; omega)).zu (by unfold fQ; omega)).zu (by unfold fQ; omega)) hR.2.2.2.1) (rT_f ((((ag.rf.zu (by unfold fT; omega)).zu (by unfold fT; omega)).zu (by unfold fT; omega)).zu (by unfold fT; omega)) hR.2.2.2.2.1)
  · unfold oA; omega
  · unfold oA; omega
  · unfold oA; omega
  · unfold oA; omega
  · simp (disch := omega) only [zu_at, zu_ne]
  · simp (disch := omega) only [zu_at, zu_ne]
  · simp (disch := omega) only [zu_at, zu_ne]
  · simp (disch := omega) only [zu_at, zu_ne]
  · simp (disch := omega) only [zu_at, zu_ne]; exact hA.2.2.1
  · simp (disch := omega) only [zu_at, zu_ne]
  · rw [wcnt_up (σ := σ) (j := j) (by simp (disch := omega) only [zu_at, zu_ne]) (fun t ht hne => by simp (disch := omega) only [zu_at, zu_ne]) hj]
    by_cases c : σ 118 (8 * a + j) = 0
    · rw [if_pos c]
      exact hc.elim (fun q => absurd c q) (fun q => q)
    · rw [if_neg c]; exact k2
  · by_cases e : t = j
    · simp (disch := omega) only [zu_at, zu_ne]
      rw [or_bit m m1 j hj t ht, decide_eq_true e]
      exact ⟨rfl, Or.inr trivial⟩
    · simp (disch := omega) only [zu_at, zu_ne]
      rw [or_bit m m1 j hj t ht, decide_eq_false e, Bool.false_or, ← m2]
      exact k3 t ht
  · by_cases e : t = j
    · simp (disch := omega) only [zu_at, zu_ne]
    · simp (disch := omega) only [zu_at, zu_ne]
      exact k4 t ht
  · refine rRun_f ((((ag.rf.zu ?_).zu ?_).zu ?_).zu ?_) ((((ag.rf.zu ?_).zu ?_).zu ?_).zu ?_) (hA.2.2.2.2.2.2.2.2.2 ?_)
    · unfold fPk; omega
    · unfold fPk; omega
    · unfold fPk; omega
    · unfold fPk; omega
    · unfold fR; omega
    · unfold fR; omega
    · unfold fR; omega
    · unfold fR; omega
    · revert q; simp (disch := omega) only [zu_at, zu_ne]; exact id
/-- app a doesn't run any more -/
theorem Rl_end {σ θ : zm} (hR : Rl σ) {a : Nat} (ha : a < 8) (h5 : ¬ σ 105 a = 0) (o : ∀ x b, ¬ ((x = za a ∧ b = 5) ∨ (x = 0 ∧ b = 4) ∨ ((x = 121 ∨ x = 122) ∧ b = a) ∨ (x = 104 ∧ (b = 0 ∨ b = 23)) ∨ x = 130) → θ x b = σ x b) (t1 : θ 0 4 = nI a) (t2 : θ 104 23 = nI a) (r1 : θ (za a) 5 = 0) (r2 : θ 121 a = 0) : Rl θ := by
  have hza : za a = 72 + 4 * a := rfl
  have hA := hR.2.2.1 a ha
  refine Rl_st hR ha h5 (fun x b h => o x b (by unfold oA at h; omega)) (o _ _ (by omega)) (o _ _ (by omega)) (o _ _ (by omega)) (o _ _ (by omega)) ?_ (rK_c (o _ _ (by omega)) (fun t ht => o _ _ (by omega)) (fun t ht => o _ _ (by omega)) (fun t ht => o _ _ (by omega)) (rA_K hA)) (fun q => absurd r2 q) (rQ_f (fun x b h => o x b (by unfold fQ at h; omega)) hR.2.2.2.1) ⟨a + 1, by omega, ?_, ?_⟩
  · rw [r1, r2]; exact ⟨rfl, Or.inl rfl⟩
  · rw [t1, nI_pred]
  · rw [t2, nI_pred]
section OPS2
variable {σ : zm} {a p h wn z : Nat} {H : Nat → Int32} {n : Int32}
theorem o_0 (hR : Rl σ) (ha : a < 8) (h5 : ¬ σ 105 a = 0) (X : zm) (w : Int32) (hX : X = zu (zturn (zs1 σ a) a 0 n) 130 0 w) : Rl (zu (wdoe (wst1 X a) a 0 n h z).1 122 a (wdoe (wst1 X a) a 0 n h z).2) := by
  have hza : za a = 72 + 4 * a := rfl
  rw [show zturn (zs1 σ a) a 0 n = zu (zs1 σ a) (za a) 5 0 from rfl] at hX
  rw [wdo_0 rfl]
  unfold wst1 wz
  unfold zs1 at hX
  subst hX
  refine Rl_end hR ha h5 (fun x b hx => ?_) ?_ ?_ ?_ ?_
  · simp (disch := omega) only [zu_ne]
  · simp (disch := omega) only [zu_at, zu_ne]
  · simp (disch := omega) only [zu_at, zu_ne]
  · simp (disch := omega) only [zu_at, zu_ne]
  · simp (disch := omega) only [zu_at, zu_ne]
theorem o_f (hR : Rl σ) (ha : a < 8) (h5 : ¬ σ 105 a = 0) (X : zm) (hX : X = zu (zs1 σ a) (za a) 5 0) : Rl (zu (zu (wst1 X a) 121 a 0) 104 0 1) := by
  have hza : za a = 72 + 4 * a := rfl
  unfold wst1 wz
  unfold zs1 at hX
  subst hX
  refine Rl_end hR ha h5 (fun x b hx => ?_) ?_ ?_ ?_ ?_
  · simp (disch := omega) only [zu_ne]
  · simp (disch := omega) only [zu_at, zu_ne]
  · simp (disch := omega) only [zu_at, zu_ne]
  · simp (disch := omega) only [zu_at, zu_ne]
  · simp (disch := omega) only [zu_at, zu_ne]
theorem o_13 (hR : Rl σ) (ha : a < 8) (h5 : ¬ σ 105 a = 0) (x : rnX σ a p h wn 13 H n) (X : zm) (w : Int32) (hX : X = zu (zpsp (zs1 σ a) a (zb (zhold (zs1 σ a) (nI a) n))) 130 0 w) : Rl (zu (wdoe (wst1 X a) a 13 n h z).1 122 a (wdoe (wst1 X a) a 13 n h z).2) := by
  have hza : za a = 72 + 4 * a := rfl
  obtain ⟨⟨x1, x2, x3, x4⟩, ⟨c1, c2, c3⟩, ⟨y1, y2, y3, y4⟩, s1, s2, -, ⟨u1, u2⟩, jm, nx, lo⟩ := x
  have u2 : h - 0 + 1 ≤ 6 := u2
  have e7 : zs1 σ a (za a) 7 = nI h := by unfold zs1; rw [zu_r _ _ (by omega)]; exact y3
  obtain ⟨n1, n2⟩ := nx (by omega)
  have n2 : H (p + 1) = nI (h + 1) := n2
  clear jm nx lo
  have eh : zhold (zs1 σ a) (nI a) n = zhold σ (nI a) n := zhold_c (fun x hx => by unfold zs1; exact zu_row _ _ (by omega)) _ _
  unfold zpsp at hX
  rw [eh, zpsh_e e7 (by omega)] at hX
  have ew : wmay (wst1 X a) (nI a) n = zhold σ (nI a) n := by
    rw [← a_holds hR]
    refine wmay_c (fun x b h1 h2 => ?_) _ _
    rw [hX]
    unfold wst1 wz zs1
    simp (disch := omega) only [zu_ne]
  rw [wdo_a (by omega), wact_13, ew]
  unfold wpsh wst1 wz
  unfold zs1 at hX
  subst hX
  refine Rl_run hR ha h5 (h' := h + 1) (fun x b hx => ?_) ?_ ?_ c1 x2 c2 n1 (by omega) n2 ?_ ?_ ?_ ?_ (fun t ht => ?_) (fun t ht => ?_)
  · unfold rc at hx
    simp (disch := omega) only [zu_ne]
  · simp (disch := omega) only [zu_at, zu_ne]
  · simp (disch := omega) only [zu_at, zu_ne]
  · simp (disch := omega) only [zu_at, zu_ne]; rw [y1, nI_1]
  · simp (disch := omega) only [zu_at, zu_ne]; rw [y2, nI_1]
  · simp (disch := omega) only [zu_at, zu_ne]
  · simp (disch := omega) only [zu_at, zu_ne]
  · by_cases e : t = h
    · simp (disch := omega) only [zu_at, zu_ne]
    · simp (disch := omega) only [zu_at, zu_ne]; exact s1 t (by omega)
  · simp (disch := omega) only [zu_at, zu_ne]; exact s2 t ht
theorem f_10 (x : rnX σ a p h wn 10 H n) : zup (zs1 σ a) a = σ 124 (6 * a + (h - 1)) := by
  obtain ⟨⟨x1, x2, x3, x4⟩, -, ⟨y1, y2, y3, y4⟩, s1, -, -, ⟨u1, u2⟩, -⟩ := x
  have u1 : 1 ≤ h := u1
  have hza : za a = 72 + 4 * a := rfl
  rw [zup_h (h := h) (by unfold zs1; rw [zu_r _ _ (by omega)]; exact y3) u1 x3]
  unfold zs1
  rw [zu_r _ _ (by omega)]
  exact s1 (h - 1) (by omega)
theorem o_10 (hR : Rl σ) (ha : a < 8) (h5 : ¬ σ 105 a = 0) (x : rnX σ a p h wn 10 H n) (hk : zin (zup (zs1 σ a) a) 8 = true) (X : zm) (w : Int32) (hX : X = zu (zgot (zs1 σ a) a) 130 0 w) : Rl (zu (wdoe (wst1 X a) a 10 n h z).1 122 a (wdoe (wst1 X a) a 10 n h z).2) := by
  have hza : za a = 72 + 4 * a := rfl
  have hf := f_10 x
  obtain ⟨⟨x1, x2, x3, x4⟩, ⟨c1, c2, c3⟩, ⟨y1, y2, y3, y4⟩, s1, s2, -, ⟨u1, u2⟩, jm, nx, lo⟩ := x
  have u1 : 1 ≤ h := u1
  have u2 : h - 1 + 1 ≤ 6 := u2
  have e7 : zs1 σ a (za a) 7 = nI h := by unfold zs1; rw [zu_r _ _ (by omega)]; exact y3
  obtain ⟨n1, n2⟩ := nx (by omega)
  have n2 : H (p + 1) = nI (h - 1 + 1) := n2
  clear jm nx lo
  have ev : zvu (zpop (zs1 σ a) a) a (zup (zs1 σ a) a) = if σ 118 (8 * a + (zup (zs1 σ a) a).toNatClampNeg) = 0 then 0 else σ 119 (8 * a + (zup (zs1 σ a) a).toNatClampNeg) := by
    rw [← a_val (hR.2.2.1 a ha) hk]
    unfold zvu
    rw [zpop_e e7 u1 x3]
    unfold zs1
    simp (disch := omega) only [zu_ne]
  unfold zgot at hX
  rw [ev, hf, zpop_e e7 u1 x3, zpsh_e (h := h - 1) (zu_eq _ _ _ _) (by omega)] at hX
  rw [wdo_a (by omega), wact_10]
  unfold wpsh wval wst1 wz
  unfold zs1 at hX
  subst hX
  refine Rl_run hR ha h5 (h' := h - 1 + 1) (fun x b hx => ?_) ?_ ?_ c1 x2 c2 n1 (by omega) n2 ?_ ?_ ?_ ?_ (fun t ht => ?_) (fun t ht => ?_)
  · unfold rc at hx
    simp (disch := omega) only [zu_ne]
  · simp (disch := omega) only [zu_at, zu_ne]
  · simp (disch := omega) only [zu_at, zu_ne]
  · simp (disch := omega) only [zu_at, zu_ne]; rw [y1, nI_1]
  · simp (disch := omega) only [zu_at, zu_ne]; rw [y2, nI_1]
  · simp (disch := omega) only [zu_at, zu_ne]
  · simp (disch := omega) only [zu_at, zu_ne]
  · by_cases e : t = h - 1
    · simp (disch := omega) only [zu_at, zu_ne]; rfl
    · simp (disch := omega) only [zu_at, zu_ne]; exact s1 t (by omega)
  · simp (disch := omega) only [zu_at, zu_ne]; exact s2 t ht
end OPS2
