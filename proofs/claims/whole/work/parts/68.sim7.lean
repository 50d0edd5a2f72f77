/-! deliver: the pair -/
theorem a_pl {σ : zm} (hR : Rl σ) {a pn : Nat} (ha : a < 8) (h5 : ¬ σ 105 a = 0) (hp4 : pn ≤ 4) (hp : σ (zp a) 6 = nI pn) : ∃ H wn, rC σ a H ∧ wn ≤ 24 ∧ σ 116 a = nI wn ∧ ∀ t, t < pn → ∃ j, j < wn ∧ σ (zp a + 5) t = nI j ∧ σ 115 (4 * a + t) = nI j ∧ H j = 0 := by
  have hA := hR.2.2.1 a ha
  obtain ⟨-, H, hC⟩ := hA.2.2.2.1 h5
  obtain ⟨p1, w1, b1, b2, b3, b4, b5⟩ := hC
  obtain ⟨p2, c1, c2, c3⟩ := hA.1.2.2.1
  have e1 : p2 = pn := (nI_eq (by omega) (by omega)).mp (c2.symm.trans hp)
  have e2 : p1 = p2 := (nI_eq (by omega) (by omega)).mp (b3.symm.trans c3)
  refine ⟨H, w1, ⟨p1, w1, b1, b2, b3, b4, b5⟩, b2, b4, fun t ht => ?_⟩
  obtain ⟨j, j1, j2, j3⟩ := b5.1 t (by omega)
  refine ⟨j, j1, ?_, j2, j3⟩
  rw [(hA.1.2.2.2.2.2.1 t (by omega)).2.2.2.2]
  exact j2
theorem s_none {σ : zm} (hR : Rl σ) {z : Nat} (hz8 : z ≤ 8) (hz0 : σ 2 0 = nI z) (hz : ¬ z = 0) : Rl (wdf (zdf σ z) z) := by
  refine Rl_qo hR (fun j k h => ?_) (rQ_df hR.2.2.2.1 hz0 hz8 hz ?_ wdf_q (fun r t hr => ?_) (fun r t hr ht => ?_))
  · unfold oQ at h
    by_cases e : j = 104
    · subst e
      rw [wdf_k (by omega), zdf_off _ _ (by omega)]
    · rw [wdf_off _ _ (by omega), zdf_off _ _ (by omega)]
  · rw [wdf_off _ _ (by omega)]
    unfold zdf
    rw [zu_eq]
  · rw [wdf_off _ _ (by omega)]
    unfold zdf
    rw [zu_r _ _ (by omega)]
  · rw [wdf_v hr ht, zdf_off _ _ (by omega)]
theorem s_begin {σ : zm} (hR : Rl σ) {z a t wn j : Nat} (hz8 : z ≤ 8) (hz0 : σ 2 0 = nI z) (hz : ¬ z = 0) (ha : a < 8) (ht : t < 4) (h5 : ¬ σ 105 a = 0) {H : Nat → Int32} (hC : rC σ a H) (hw : wn ≤ 24) (hw2 : σ 116 a = nI wn) (hj : j < wn) (hpl : σ 115 (4 * a + t) = nI j) (hH : H j = 0) (v g : Int32) : Rl (wbeg (wdf (zrun (zdf σ z) a (nI j) v g) z) (4 * a + t) v g) := by
  have hza : za a = 72 + 4 * a := rfl
  have hzp : zp a = 9 + 7 * a := rfl
  have F : ∀ x b, ¬ (x = 104 ∨ x = 126 ∨ x = 127 ∨ x = 128) → wdf (zrun (zdf σ z) a (nI j) v g) z x b = zrun (zdf σ z) a (nI j) v g x b := fun x b h => by rw [wdf_off _ _ (by omega)]
  have G : ∀ x b, ¬ (za a ≤ x ∧ x < za a + 4) → ¬ (x = 2 ∨ x = 3 ∨ x = 4 ∨ x = 5) → zrun (zdf σ z) a (nI j) v g x b = σ x b := fun x b h h' => by rw [zrun_off _ _ _ _ h, zdf_off _ _ (by omega)]
  have E : ∀ x b, ¬ (x = 121 ∨ x = 122 ∨ x = 123 ∨ x = 125) → wbeg (wdf (zrun (zdf σ z) a (nI j) v g) z) (4 * a + t) v g x b = wdf (zrun (zdf σ z) a (nI j) v g) z x b := fun x b h => by
    unfold wbeg
    simp (disch := omega) only [zu_r]
  have U : ∀ x b, ¬ (za a ≤ x ∧ x < za a + 4) → ¬ (x = 104 ∨ x = 121 ∨ x = 122 ∨ x = 123 ∨ x = 125 ∨ x = 126 ∨ x = 127 ∨ x = 128 ∨ x = 2 ∨ x = 3 ∨ x = 4 ∨ x = 5) → wbeg (wdf (zrun (zdf σ z) a (nI j) v g) z) (4 * a + t) v g x b = σ x b := fun x b h h' => by
    rw [E x b (by omega), F x b (by omega), G x b h (by omega)]
  have W : ∀ x b, (za a ≤ x ∧ x < za a + 4) → wbeg (wdf (zrun (zdf σ z) a (nI j) v g) z) (4 * a + t) v g x b = zrun (zdf σ z) a (nI j) v g x b := fun x b h => by
    rw [E x b (by omega), F x b (by omega)]
  have Y : ∀ x b, ¬ (x = 2 ∨ x = 3 ∨ x = 4 ∨ x = 5) → zdf σ z x b = σ x b := fun x b h => by rw [zdf_off _ _ (by omega)]
  have hm : (4 * a + t) / 4 = a := by omega
  have hag : ag (oA a) σ (wbeg (wdf (zrun (zdf σ z) a (nI j) v g) z) (4 * a + t) v g) := fun x b h => by
    unfold oA at h
    by_cases e4 : x = 104
    · subst e4
      rw [E _ _ (by omega), wdf_k (by omega), G _ _ (by omega) (by omega)]
    · by_cases e : x = 121 ∨ x = 122 ∨ x = 123 ∨ x = 125
      · unfold wbeg
        rw [hm]
        rw [zu_ne _ _ (by omega), zu_ne _ _ (by omega), zu_ne _ _ (by omega), zu_ne _ _ (by omega), zu_ne _ _ (by omega), zu_ne _ _ (by omega), zu_ne _ _ (by omega), F x b (by omega), G _ _ (by omega) (by omega)]
      · exact U x b (by omega) (by omega)
  refine Rl_a ha hR hag ?_ ?_ ?_ ?_
  · have hp : ag (fPk a) σ (wbeg (wdf (zrun (zdf σ z) a (nI j) v g) z) (4 * a + t) v g) := fun x b h => hag x b (oA_p ha (by omega) h)
    obtain ⟨r1, r2, r3, r4, r5, r6, r7, r8, r9, r10⟩ := hR.2.2.1 a ha
    have e5 : wbeg (wdf (zrun (zdf σ z) a (nI j) v g) z) (4 * a + t) v g (za a) 5 = 1 := by
      rw [W _ _ (by omega)]
      unfold zrun
      rw [zu_r _ _ (by omega), zu_r _ _ (by omega), zfill_off _ _ (by omega), zu_c _ _ (by omega), zu_c _ _ (by omega), zu_eq]
    have e6 : wbeg (wdf (zrun (zdf σ z) a (nI j) v g) z) (4 * a + t) v g (za a) 6 = nI j := by
      rw [W _ _ (by omega)]
      unfold zrun
      rw [zu_r _ _ (by omega), zu_r _ _ (by omega), zfill_off _ _ (by omega), zu_c _ _ (by omega), zu_eq]
    have e7 : wbeg (wdf (zrun (zdf σ z) a (nI j) v g) z) (4 * a + t) v g (za a) 7 = 0 := by
      rw [W _ _ (by omega)]
      unfold zrun
      rw [zu_r _ _ (by omega), zu_r _ _ (by omega), zfill_off _ _ (by omega), zu_eq]
    have eo : ∀ b, ¬ (b = 5 ∨ b = 6 ∨ b = 7) → wbeg (wdf (zrun (zdf σ z) a (nI j) v g) z) (4 * a + t) v g (za a) b = σ (za a) b := fun b hb => by
      rw [W _ _ (by omega)]
      unfold zrun
      rw [zu_r _ _ (by omega), zu_r _ _ (by omega), zfill_off _ _ (by omega), zu_c _ _ (by omega), zu_c _ _ (by omega), zu_c _ _ (by omega), Y _ _ (by omega)]
    have er : ∀ x b, (x = za a + 1 ∨ x = za a + 2) → wbeg (wdf (zrun (zdf σ z) a (nI j) v g) z) (4 * a + t) v g x b = σ x b := fun x b hb => by
      rw [W _ _ (by omega)]
      unfold zrun
      rw [zu_r _ _ (by omega), zu_r _ _ (by omega), zfill_off _ _ (by omega), zu_r _ _ (by omega), zu_r _ _ (by omega), zu_r _ _ (by omega), Y _ _ (by omega)]
    have m1 : wbeg (wdf (zrun (zdf σ z) a (nI j) v g) z) (4 * a + t) v g 121 a = 1 := by
      unfold wbeg
      rw [hm]
      simp (disch := omega) only [zu_at, zu_r]
    have m2 : wbeg (wdf (zrun (zdf σ z) a (nI j) v g) z) (4 * a + t) v g 122 a = nI j := by
      unfold wbeg
      rw [hm]
      simp (disch := omega) only [zu_at, zu_r]
      rw [F _ _ (by omega), G _ _ (by omega) (by omega)]
      exact hpl
    have m3 : wbeg (wdf (zrun (zdf σ z) a (nI j) v g) z) (4 * a + t) v g 123 a = 0 := by
      unfold wbeg
      rw [hm]
      simp (disch := omega) only [zu_at, zu_r]
    refine ⟨rPk_f hp r1, ?_, ?_, ?_, ?_, ?_, ⟨?_, ?_⟩, fun i hi => ?_, fun i hi => ?_, fun _ => ?_⟩
    · rw [eo 0 (by omega), U _ _ (by omega) (by omega)]; exact r2
    · rw [e5, m1]; exact ⟨rfl, Or.inr rfl⟩
    · rw [U 105 a (by omega) (by omega), U 106 a (by omega) (by omega), U (zp a) 1 (by omega) (by omega)]
      exact fun q => ⟨(r4 q).1, H, rC_f hp hC⟩
    · rw [eo 2 (by omega), U _ _ (by omega) (by omega)]; exact r5
    · rw [U 105 a (by omega) (by omega)]; exact fun q => absurd q h5
    · rw [eo 3 (by omega)]; exact r7.1
    · rw [wcnt_c (σ := σ) (fun i hi => U _ _ (by omega) (by omega))]; exact r7.2
    · rw [eo 3 (by omega), U 118 _ (by omega) (by omega)]; exact r8 i hi
    · rw [er _ _ (by omega), U 119 _ (by omega) (by omega)]; exact r9 i hi
    · refine ⟨j, 0, H, by omega, by omega, rC_f hp hC, ⟨wn, ?_, hw, hj⟩, hH, e6, m2, e7, m3, fun i hi => absurd hi (by omega), fun i hi => ?_⟩
      · rw [U 116 a (by omega) (by omega)]; exact hw2
      · rw [W _ _ (by omega)]
        unfold zrun wbeg
        rw [hm]
        have : i = 0 ∨ i = 1 ∨ i = 2 ∨ i = 3 := by omega
        rcases this with rfl | rfl | rfl | rfl
        · simp (disch := omega) only [zu_at, zu_c]
        · simp (disch := omega) only [zu_at, zu_c]
        · simp (disch := omega) only [zu_at, zu_c, zfill_in]
        · simp (disch := omega) only [zu_at, zu_c, zfill_in]
  · refine rQ_df hR.2.2.2.1 hz0 hz8 hz ?_ ?_ (fun r i hr => ?_) (fun r i hr hi => ?_)
    · rw [E _ _ (by omega), F _ _ (by omega), zrun_off _ _ _ _ (by omega)]
      unfold zdf
      rw [zu_eq]
    · rw [E _ _ (by omega)]; exact wdf_q
    · rw [E _ _ (by omega), F _ _ (by omega), zrun_off _ _ _ _ (by omega)]
      unfold zdf
      rw [zu_r _ _ (by omega)]
    · rw [E _ _ (by omega), wdf_v hr hi, G _ _ (by omega) (by omega)]
  · refine rT_f (fun x b h => ?_) hR.2.2.2.2.1
    unfold fT at h
    by_cases e4 : x = 104
    · subst e4
      rw [E _ _ (by omega), wdf_k (by omega), G _ _ (by omega) (by omega)]
    · exact U x b (by omega) (by omega)
  · exact fun _ => h5
theorem L_deliver {σ σ1 σ2 : zm} {r1 r2 : Int32} {z : Nat} {pf : Nat → Nat} (hR : Rl σ) (hz8 : z ≤ 8) (hz0 : σ 2 0 = nI z) (hpf : ∀ a, a < 8 → pf a ≤ 4 ∧ σ (zp a) 6 = nI (pf a)) (h1 : r1 = (zdel σ z pf).1 ∧ σ1 = (zdel σ z pf).2) (h2 : r2 = (wdel σ1 z pf).1 ∧ σ2 = (wdel σ1 z pf).2) : r1 = r2 ∧ Rl σ2 := by
  obtain ⟨hr1, hs1⟩ := h1
  obtain ⟨hr2, hs2⟩ := h2
  by_cases hz : z = 0
  · have a1 : zdel σ z pf = (-1, σ) := if_pos hz
    rw [a1] at hr1 hs1
    have a2 : wdel σ1 z pf = (-1, wz σ1) := if_pos hz
    rw [a2] at hr2 hs2
    rw [hr1, hr2, hs2, hs1]
    exact ⟨rfl, Rl_wz hR⟩
  · have a1 : zdel σ z pf = zdlv (zdf σ z) (σ 3 0) (σ 4 0) (σ 5 0) pf 8 0 := if_neg hz
    have K : ∀ a, 104 ≤ a → σ1 a = σ a := fun a ha => by rw [hs1]; exact K_deliver σ z pf ha
    obtain ⟨z', q1, q2, q3, q4⟩ := hR.2.2.2.1
    have ez : z' = z := (nI_eq (by omega) (by omega)).mp (q2.symm.trans hz0)
    subst ez
    obtain ⟨g1, g2, g3⟩ := q4 0 (by omega)
    have et : ∀ a, 9 ≤ a → zdf σ z' a = σ a := fun a ha => zdf_off _ _ (by omega)
    have er : ∀ a b, 105 ≤ a → a ≤ 125 → wdf σ1 z' a b = σ a b := fun a b ha hb => by rw [wdf_off _ _ (by omega), K a (by omega)]
    have hQ : ∀ a t, a < 8 → t < 4 → wdQ (wdf σ1 z') (σ 3 0) (σ 4 0) pf (4 * a + t) = (!decide (σ 105 a = 0) && decide (σ 121 a = 0) && (decide (t < pf a) && zmat (zdf σ z') a (σ 3 0) (σ 4 0) t)) := fun a t ha ht => by
      unfold wdQ
      rw [show (4 * a + t) / 4 = a by omega, show (4 * a + t) % 4 = t by omega, er 105 _ (by omega) (by omega), er 121 _ (by omega) (by omega), a_mat hR et (fun a b h1 h2 => er a b h1 (by omega)) ha ht]
    have hN : ∀ a, a < 8 → zptb (zdf σ z') a (σ 3 0) (σ 4 0) (pf a) = -1 → ∀ t, t < 4 → wdQ (wdf σ1 z') (σ 3 0) (σ 4 0) pf (4 * a + t) = false := fun a ha hp t ht => by
      have hza : za a = 72 + 4 * a := rfl
      have hzp : zp a = 9 + 7 * a := rfl
      rw [hQ a t ha ht]
      have hA := hR.2.2.1 a ha
      unfold zptb at hp
      rw [et (za a) (by omega), hA.2.1.1, hA.2.2.1.1] at hp
      by_cases c5 : σ 105 a = 0
      · rw [decide_eq_true c5]; rfl
      · by_cases c21 : σ 121 a = 0
        · rw [if_neg (by simp [c5, c21])] at hp
          by_cases hl : t < pf a
          · rcases zptl_or (σ := zdf σ z') (a := a) (g := σ 3 0) (ac := σ 4 0) (f := pf a) (i := 0) with ⟨y1, y2⟩ | ⟨k, y1, y2, y3, y4, y5⟩
            · rw [y2 t (by omega) (by omega), Bool.and_false, Bool.and_false]
            · obtain ⟨H, wn, -, hw, -, pl⟩ := a_pl hR ha c5 (hpf a ha).1 (hpf a ha).2
              obtain ⟨j, j1, j2, -, -⟩ := pl k (by omega)
              rw [hp, et (zp a + 5) (by omega), j2] at y3
              exact absurd y3.symm (nI_m1' (by omega))
          · rw [decide_eq_false hl, Bool.false_and, Bool.and_false]
        · rw [decide_eq_false c21, Bool.and_false, Bool.false_and]
    have gg : zfst (wdQ (wdf σ1 z') (σ1 126 0) (σ1 127 0) pf) 32 0 = zfst (wdQ (wdf σ1 z') (σ 3 0) (σ 4 0) pf) 32 0 := by rw [K 126 (by omega), K 127 (by omega), ← g1, ← g2]
    rcases zdlv_or (τ := zdf σ z') (g := σ 3 0) (ac := σ 4 0) (v := σ 5 0) (pf := pf) (f := 8) (i := 0) with ⟨y1, y2⟩ | ⟨a, y1, y2, y3, y4, y5⟩
    · rw [a1, y1] at hr1 hs1
      have no : zfst (wdQ (wdf σ1 z') (σ1 126 0) (σ1 127 0) pf) 32 0 = -1 := by
        rw [gg]
        refine zfst_no (fun n hn => ?_)
        have := hN (n / 4) (by omega) (y2 _ (by omega) (by omega)) (n % 4) (by omega)
        rw [show 4 * (n / 4) + n % 4 = n by omega] at this
        exact this
      rw [wdel_f hz no] at hr2 hs2
      rw [hr1, hr2, hs2, hs1]
      exact ⟨rfl, s_none hR hz8 hz0 hz⟩
    · have ha : a < 8 := by omega
      have hza : za a = 72 + 4 * a := rfl
      have hzp : zp a = 9 + 7 * a := rfl
      have hA := hR.2.2.1 a ha
      have y4' := y4
      unfold zptb at y4'
      rw [et (za a) (by omega), hA.2.1.1, hA.2.2.1.1] at y4'
      have c5 : ¬ σ 105 a = 0 := fun c => y4' (if_pos (Or.inl c))
      have c21 : σ 121 a = 0 := Classical.byContradiction (fun c => y4' (if_pos (Or.inr c)))
      have ep : zptb (zdf σ z') a (σ 3 0) (σ 4 0) (pf a) = zptl (zdf σ z') a (σ 3 0) (σ 4 0) (pf a) 0 := by
        unfold zptb
        rw [et (za a) (by omega), hA.2.1.1, hA.2.2.1.1, if_neg (by simp [c5, c21])]
      rcases zptl_or (σ := zdf σ z') (a := a) (g := σ 3 0) (ac := σ 4 0) (f := pf a) (i := 0) with ⟨x1, x2⟩ | ⟨t, x1, x2, x3, x4, x5⟩
      · rw [ep] at y4; exact absurd x1 y4
      · have ht : t < 4 := by have := (hpf a ha).1; omega
        obtain ⟨H, wn, hC, hw, hw2, pl⟩ := a_pl hR ha c5 (hpf a ha).1 (hpf a ha).2
        obtain ⟨j, j1, j2, j3, j4⟩ := pl t (by omega)
        rw [a1, y3, ep, x3, et (zp a + 5) (by omega), j2] at hr1 hs1
        have yes : zfst (wdQ (wdf σ1 z') (σ1 126 0) (σ1 127 0) pf) 32 0 = nI (4 * a + t) := by
          rw [gg]
          refine zfst_eq (by omega) ?_ (fun n hn => ?_) (by omega)
          · rw [hQ a t ha ht, decide_eq_false c5, decide_eq_true c21, decide_eq_true (show t < pf a by omega), x4]
            rfl
          · by_cases e : n / 4 = a
            · have := hQ a (n % 4) ha (by omega)
              rw [show 4 * a + n % 4 = n by omega] at this
              rw [this, x5 (n % 4) (by omega) (by omega), Bool.and_false, Bool.and_false]
            · have := hN (n / 4) (by omega) (y5 _ (by omega) (by omega)) (n % 4) (by omega)
              rw [show 4 * (n / 4) + n % 4 = n by omega] at this
              exact this
        have wd : wdel σ1 z' pf = (nI a, wbeg (wdf σ1 z') (4 * a + t) (σ 5 0) (σ 3 0)) := by
          unfold wdel
          rw [if_neg hz, yes, if_neg (nI_m1' (by omega)), nI_clamp (by omega), show (4 * a + t) / 4 = a by omega, K 128 (by omega), K 126 (by omega), g1, g3]
        rw [wd] at hr2 hs2
        rw [hr1, hr2, hs2, hs1]
        exact ⟨rfl, s_begin hR hz8 hz0 hz ha ht c5 hC hw hw2 j1 j3 j4 _ _⟩
