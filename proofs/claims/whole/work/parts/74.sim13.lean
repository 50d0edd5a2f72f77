/-! step: keep and send -/
section OPS3
variable {σ : zm} {a p h wn z : Nat} {H : Nat → Int32} {n : Int32}
theorem f_2 {o : Nat} (ho : o = 11 ∨ o = 12) (x : rnX σ a p h wn o H n) : 2 ≤ h ∧ zup2 (zs1 σ a) a = σ 124 (6 * a + (h - 2)) ∧ zup (zs1 σ a) a = σ 124 (6 * a + (h - 1)) := by
  obtain ⟨⟨x1, x2, x3, x4⟩, -, ⟨y1, y2, y3, y4⟩, s1, -, -, ⟨u1, u2⟩, -⟩ := x
  have u1 : 2 ≤ h := by rcases ho with rfl | rfl <;> exact u1
  have hza : za a = 72 + 4 * a := rfl
  have e7 : zs1 σ a (za a) 7 = nI h := by unfold zs1; rw [zu_r _ _ (by omega)]; exact y3
  refine ⟨u1, ?_, ?_⟩
  · rw [zup2_h e7 u1 x3]
    unfold zs1
    rw [zu_r _ _ (by omega)]
    exact s1 (h - 2) (by omega)
  · rw [zup_h e7 (by omega) x3]
    unfold zs1
    rw [zu_r _ _ (by omega)]
    exact s1 (h - 1) (by omega)
theorem f_11 (hR : Rl σ) (ha : a < 8) (x : rnX σ a p h wn 11 H n) {j : Nat} (hj : j < 8) (ej : σ 124 (6 * a + (h - 2)) = nI j) : zkok (zs1 σ a) a = (!decide (σ 118 (8 * a + j) = 0) || !decide (nI (wcnt σ a 8) = 3)) := by
  obtain ⟨u1, e2, -⟩ := f_2 (Or.inl rfl) x
  have hza : za a = 72 + 4 * a := rfl
  have hA := hR.2.2.1 a ha
  unfold zkok zhas
  rw [e2, ej, show zin (nI j) 8 = true from zin_nI (n := 8) hj (by omega), Bool.true_and, Bool.true_and]
  have e3 : zs1 σ a (za a) 3 = σ (za a) 3 := by unfold zs1; rw [zu_r _ _ (by omega)]
  rw [e3, a_cnt hA, (hA.2.2.2.2.2.2.2.1 j hj).1]
  have hw := hA.2.2.2.2.2.2.1.2
  congr 1
  have : ∀ c, c ≤ 3 → decide (nI c < 3) = !decide (nI c = 3) := by decide +kernel
  exact this _ hw
theorem o_11 (hR : Rl σ) (ha : a < 8) (h5 : ¬ σ 105 a = 0) (x : rnX σ a p h wn 11 H n) {j : Nat} (hj : j < 8) (ej : σ 124 (6 * a + (h - 2)) = nI j) (hc : ¬ σ 118 (8 * a + j) = 0 ∨ wcnt σ a 8 < 3) (X : zm) (w : Int32) (hX : X = zu (zkep (zs1 σ a) a) 130 0 w) : Rl (zu (wdoe (wst1 X a) a 11 n h z).1 122 a (wdoe (wst1 X a) a 11 n h z).2) := by
  have hza : za a = 72 + 4 * a := rfl
  have hzp : zp a = 9 + 7 * a := rfl
  obtain ⟨u1, e2, -⟩ := f_2 (Or.inl rfl) x
  obtain ⟨⟨x1, x2, x3, x4⟩, ⟨c1, c2, c3⟩, ⟨y1, y2, y3, y4⟩, s1, s2, -, ⟨-, u2⟩, jm, nx, lo⟩ := x
  obtain ⟨n1, n2⟩ := nx (by omega)
  have n2 : H (p + 1) = nI (h - 2) := n2
  clear jm nx lo u2
  -- the class's memory
  have q1 : zkp1 (zs1 σ a) a = zu (zs1 σ a) (za a) 3 (σ (za a) 3 ||| ((1 : Int32) <<< (nI j &&& 31))) := by
    unfold zkp1
    rw [e2, ej]
    unfold zs1
    rw [zu_r _ _ (by omega)]
  have e7 : zu (zs1 σ a) (za a) 3 (σ (za a) 3 ||| ((1 : Int32) <<< (nI j &&& 31))) (za a) 7 = nI h := by
    unfold zs1
    rw [zu_c _ _ (by omega), zu_r _ _ (by omega)]; exact y3
  have qu : zup (zkp1 (zs1 σ a) a) a = σ 124 (6 * a + (h - 1)) := by
    rw [q1, zup_h e7 (by omega) x3]
    unfold zs1
    rw [zu_r _ _ (by omega), zu_r _ _ (by omega)]
    exact s1 (h - 1) (by omega)
  unfold zkep zkp2 at hX
  rw [qu, q1, e2, ej, nI_clamp (by omega), zpop_e e7 (by omega) x3, zpop_e (h := h - 1) (by rw [zu_r _ _ (by omega), zu_eq]) (by omega) (by omega)] at hX
  have hk := Rl_keep hR ha hj h5 hc (σ 124 (6 * a + (h - 1)))
  have hwt : wst1 X a 124 (6 * a + (h - 1 - 1)) = nI j := by
    rw [hX]
    unfold wst1 wz zs1
    simp (disch := omega) only [zu_ne]
    rw [show h - 1 - 1 = h - 2 by omega]
    exact ej
  rw [wdo_a (by omega), wact_11, hwt, nI_clamp (by omega)]
  unfold wst1 wz
  unfold zs1 at hX
  subst hX
  have hCk : rC (sk σ a j (σ 124 (6 * a + (h - 1)))) a H := rC_f (by
    unfold sk
    exact (((ag.rf.zu (by unfold fPk; omega)).zu (by unfold fPk; omega)).zu (by unfold fPk; omega)).zu (by unfold fPk; omega)) c1
  refine Rl_run hk ha (h' := h - 2) ?_ (fun x b hx => ?_) ?_ ?_ hCk x2 ?_ n1 (by omega) n2 ?_ ?_ ?_ ?_ (fun t ht => ?_) (fun t ht => ?_)
  · unfold sk; simp (disch := omega) only [zu_ne]; exact h5
  · unfold rc at hx
    unfold sk
    by_cases k1 : x = za a ∧ b = 3
    · simp (disch := omega) only [zu_at, zu_ne]
    · by_cases k2 : x = za a + 1 ∧ b = j
      · simp (disch := omega) only [zu_at, zu_ne]
      · by_cases k3 : x = 118 ∧ b = 8 * a + j
        · simp (disch := omega) only [zu_at, zu_ne]
        · by_cases k4 : x = 119 ∧ b = 8 * a + j
          · simp (disch := omega) only [zu_at, zu_ne]
            rfl
          · simp (disch := omega) only [zu_ne]
  · simp (disch := omega) only [zu_at, zu_ne]
  · simp (disch := omega) only [zu_at, zu_ne]
  · unfold sk; simp (disch := omega) only [zu_ne]; exact c2
  · simp (disch := omega) only [zu_at, zu_ne]; rw [y1, nI_1]
  · simp (disch := omega) only [zu_at, zu_ne]; rw [y2, nI_1]
  · simp (disch := omega) only [zu_at, zu_ne]; rw [show h - 1 - 1 = h - 2 by omega]
  · simp (disch := omega) only [zu_at, zu_ne]
  · simp (disch := omega) only [zu_at, zu_ne]; exact s1 t (by omega)
  · simp (disch := omega) only [zu_at, zu_ne]; exact s2 t ht
theorem zu_cg {τ τ' : zm} {j k x b : Nat} {v : Int32} (h : τ x b = τ' x b) : zu τ j k v x b = zu τ' j k v x b := by
  by_cases e : x = j ∧ b = k
  · rw [zu_at _ _ e.1 e.2, zu_at _ _ e.1 e.2]
  · rw [zu_ne _ _ (by omega), zu_ne _ _ (by omega), h]
set_option maxHeartbeats 8000000 in
theorem o_12 (hR : Rl σ) (ha : a < 8) (h5 : ¬ σ 105 a = 0) (x : rnX σ a p h wn 12 H n) (hz8 : z ≤ 8) (hz0 : σ 2 0 = nI z) (X : zm) (w : Int32) (hX : X = zu (zsfs (zs1 σ a) a z) 130 0 w) : Rl (zu (wdoe (wst1 X a) a 12 n h z).1 122 a (wdoe (wst1 X a) a 12 n h z).2) := by
  have hza : za a = 72 + 4 * a := rfl
  have hzp : zp a = 9 + 7 * a := rfl
  obtain ⟨u1, e2, e1⟩ := f_2 (Or.inr rfl) x
  obtain ⟨⟨x1, x2, x3, x4⟩, ⟨c1, c2, c3⟩, ⟨y1, y2, y3, y4⟩, s1, s2, -, ⟨-, u2⟩, jm, nx, lo⟩ := x
  obtain ⟨n1, n2⟩ := nx (by omega)
  have n2 : H (p + 1) = nI (h - 2) := n2
  clear jm nx lo u2
  have e7 : zs1 σ a (za a) 7 = nI h := by unfold zs1; rw [zu_r _ _ (by omega)]; exact y3
  unfold zsfs at hX
  rw [e2, e1, zpop2_e e7 u1 x3] at hX
  have rz : ∀ {τ : zm} {j k x b : Nat} {v : Int32}, rc a j k → ¬ rc a x b → zu τ j k v x b = τ x b := fun {τ j k x b v} h1 h2 => zu_ne _ _ (by
    by_cases e : x = j
    · exact Or.inr (fun eb => h2 (by rw [e, eb]; exact h1))
    · exact Or.inl e)
  rw [wdo_a (by omega), wact_12e]
  by_cases hz : z < 8
  · have hq := s_send hR hz hz0 (nI a) (σ 124 (6 * a + (h - 2))) (σ 124 (6 * a + (h - 1)))
    unfold zqad at hX
    rw [if_pos hz] at hX
    have hwt : wst1 X a 124 (6 * a + (h - 1 - 1)) = σ 124 (6 * a + (h - 2)) ∧ wst1 X a 124 (6 * a + (h - 1 - 0)) = σ 124 (6 * a + (h - 1)) := by
      rw [hX]
      unfold wst1 wz zs1 zrow
      simp (disch := omega) only [zu_ne]
      exact ⟨rfl, rfl⟩
    rw [hwt.1, hwt.2]
    unfold wqad
    rw [if_pos hz]
    unfold wst1 wz wrow
    unfold wz wrow zrow at hq
    unfold zs1 zrow at hX
    subst hX
    refine Rl_run hq ha (h' := h - 2) ?_ (fun x b hx => ?_) ?_ ?_ (rC_f ?_ c1) x2 ?_ n1 (by omega) n2 ?_ ?_ ?_ ?_ (fun t ht => ?_) (fun t ht => ?_)
    · simp (disch := omega) only [zu_ne]; exact h5
    · refine (rz (by unfold rc; omega) hx).trans ?_
      refine zu_cg (zu_cg (zu_cg (zu_cg ?_)))
      refine (rz (by unfold rc; omega) hx).trans ?_
      refine (rz (by unfold rc; omega) hx).trans ?_
      refine (rz (by unfold rc; omega) hx).trans ?_
      refine (rz (by unfold rc; omega) hx).trans ?_
      refine (rz (by unfold rc; omega) hx).trans ?_
      refine Eq.trans ?_ (rz (by unfold rc; omega) hx).symm
      refine zu_cg (zu_cg (zu_cg (zu_cg ?_)))
      refine (rz (by unfold rc; omega) hx).trans ?_
      refine (rz (by unfold rc; omega) hx).trans ?_
      exact rz (by unfold rc; omega) hx
    · simp (disch := omega) only [zu_at, zu_ne]
    · simp (disch := omega) only [zu_at, zu_ne]
    · repeat' first | exact ag.rf | refine ag.zu ?_ (by unfold fPk; omega)
    · simp (disch := omega) only [zu_ne]; exact c2
    · simp (disch := omega) only [zu_at, zu_ne]; rw [y1, nI_1]
    · simp (disch := omega) only [zu_at, zu_ne]; rw [y2, nI_1]
    · simp (disch := omega) only [zu_at, zu_ne]
    · simp (disch := omega) only [zu_at, zu_ne]
    · simp (disch := omega) only [zu_at, zu_ne]; exact s1 t (by omega)
    · simp (disch := omega) only [zu_at, zu_ne]; exact s2 t ht
  · unfold zqad at hX
    rw [if_neg hz] at hX
    unfold wqad
    rw [if_neg hz]
    unfold wst1 wz
    unfold zs1 at hX
    subst hX
    refine Rl_run hR ha (h' := h - 2) h5 (fun x b hx => ?_) ?_ ?_ c1 x2 c2 n1 (by omega) n2 ?_ ?_ ?_ ?_ (fun t ht => ?_) (fun t ht => ?_)
    · unfold rc at hx
      simp (disch := omega) only [zu_ne]
    · simp (disch := omega) only [zu_at, zu_ne]
    · simp (disch := omega) only [zu_at, zu_ne]
    · simp (disch := omega) only [zu_at, zu_ne]; rw [y1, nI_1]
    · simp (disch := omega) only [zu_at, zu_ne]; rw [y2, nI_1]
    · simp (disch := omega) only [zu_at, zu_ne]
    · simp (disch := omega) only [zu_at, zu_ne]
    · simp (disch := omega) only [zu_at, zu_ne]; exact s1 t (by omega)
    · simp (disch := omega) only [zu_at, zu_ne]; exact s2 t ht
end OPS3
