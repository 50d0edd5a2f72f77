/-! step: the whole of it, alike -/
theorem zpsh_of (σ : zm) {a x : Nat} (v : Int32) (h : x ≠ za a ∧ x ≠ za a + 2) : zpsh σ a v x = σ x := by
  unfold zpsh
  split
  · rw [zu_row _ _ h.1, zu_row _ _ h.2]
  · rfl
theorem zsto_of (σ : zm) {a x : Nat} (n v : Int32) (h : x ≠ za a + 3) : zsto σ a n v x = σ x := by
  unfold zsto
  split
  · exact zu_row _ _ h
  · rfl
theorem zpl_of (σ : zm) {a x : Nat} (o n : Int32) (h : ¬ (za a ≤ x ∧ x < za a + 4)) : zpl σ a o n x = σ x := by
  have p1 : ∀ τ : zm, zpop τ a x = τ x := fun τ => zpop_off τ (by omega)
  have p2 : ∀ (τ : zm) v, zpsh τ a v x = τ x := fun τ v => zpsh_of τ v (by omega)
  unfold zpl
  by_cases c1 : o = 1
  · rw [if_pos c1]; exact p2 _ _
  rw [if_neg c1]
  by_cases c1 : o = 2
  · rw [if_pos c1]; exact (p2 _ _).trans ((p1 _).trans (p1 _))
  rw [if_neg c1]
  by_cases c1 : o = 3
  · rw [if_pos c1]; exact (p2 _ _).trans ((p1 _).trans (p1 _))
  rw [if_neg c1]
  by_cases c1 : o = 4
  · rw [if_pos c1]; exact p2 _ _
  rw [if_neg c1]
  by_cases c1 : o = 5
  · rw [if_pos c1]; exact p1 _
  rw [if_neg c1]
  by_cases c1 : o = 6
  · rw [if_pos c1]; exact p2 _ _
  rw [if_neg c1]
  by_cases c1 : o = 7
  · rw [if_pos c1]; exact (zsto_of _ _ _ (by omega)).trans (p1 _)
  rw [if_neg c1]
theorem zturn_of (σ : zm) {a x : Nat} (o n : Int32) (h : ¬ (za a ≤ x ∧ x < za a + 4)) : zturn σ a o n x = σ x := by
  have p1 : ∀ τ : zm, zpop τ a x = τ x := fun τ => zpop_off τ (by omega)
  have p2 : ∀ (τ : zm) k v, zu τ (za a) k v x = τ x := fun τ k v => zu_row _ _ (by omega)
  unfold zturn
  by_cases c1 : o = 0
  · rw [if_pos c1]; exact p2 _ _ _
  rw [if_neg c1]
  by_cases c1 : o = 8
  · rw [if_pos c1]; exact p2 _ _ _
  rw [if_neg c1]
  by_cases c1 : zup σ a = 0
  · rw [if_pos c1]; exact (p2 _ _ _).trans (p1 _)
  · rw [if_neg c1]; exact (p2 _ _ _).trans (p1 _)
theorem zqad_of (σ : zm) {z x : Nat} (g1 g2 g3 : Int32) (h : ¬ (2 ≤ x ∧ x ≤ 5)) : zqad σ z g1 g2 g3 x = σ x := by
  unfold zqad
  split
  · exact (zu_row _ _ (by omega)).trans (zrow_off _ _ _ _ _ (by omega))
  · rfl
theorem zdo_of (σ : zm) {a wn z x : Nat} (h : ¬ (za a ≤ x ∧ x < za a + 4)) (h2 : ¬ (2 ≤ x ∧ x ≤ 5)) : (zdo σ a wn z).2 x = σ x := by
  have p1 : ∀ τ : zm, zpop τ a x = τ x := fun τ => zpop_off τ (by omega)
  have p2 : ∀ (τ : zm) k v, zu τ (za a) k v x = τ x := fun τ k v => zu_row _ _ (by omega)
  have p3 : ∀ (τ : zm) v, zpsh τ a v x = τ x := fun τ v => zpsh_of τ v (by omega)
  by_cases c1 : zwip σ a wn &&& 15 = 12
  · rw [zdo_12 c1]
    show (if zin (zup2 σ a) 10 then zsfs σ a z else σ) x = σ x
    cases zin (zup2 σ a) 10
    · rfl
    · exact (p2 _ _ _).trans ((zqad_of _ _ _ _ h2).trans ((p1 _).trans (p1 _)))
  by_cases c2 : zwip σ a wn &&& 15 = 13
  · rw [zdo_13 c2]
    exact (p2 _ _ _).trans (p3 _ _)
  by_cases c3 : zwip σ a wn &&& 15 = 10
  · rw [zdo_10 c3]
    show (if zin (zup σ a) 8 then zgot σ a else σ) x = σ x
    cases zin (zup σ a) 8
    · rfl
    · exact (p2 _ _ _).trans ((p3 _ _).trans (p1 _))
  by_cases c4 : zwip σ a wn &&& 15 = 11
  · rw [zdo_11 c4]
    show (if zkok σ a then zkep σ a else σ) x = σ x
    cases zkok σ a
    · rfl
    · exact (p2 _ _ _).trans ((p1 _).trans ((zu_row _ _ (by omega)).trans ((p1 _).trans (p2 _ _ _))))
  by_cases c5 : zwip σ a wn &&& 15 = 0 ∨ zwip σ a wn &&& 15 = 8 ∨ zwip σ a wn &&& 15 = 9
  · rw [zdo_j c5]
    exact zturn_of _ _ _ h
  · rw [zdo_p ⟨c1, c2, c3, c4, fun q => c5 (Or.inl q), fun q => c5 (Or.inr (Or.inl q)), fun q => c5 (Or.inr (Or.inr q))⟩]
    exact (p2 _ _ _).trans (zpl_of _ _ _ h)
theorem zs1_of (σ : zm) {a x : Nat} (h : x ≠ 0) : zs1 σ a x = σ x := zu_row _ _ h
theorem wst1_of (σ : zm) {a x : Nat} (h : x ≠ 104) : wst1 σ a x = σ x := (zu_row _ _ h).trans (wz_row _ h)
theorem wqad_0 (σ : zm) (z : Nat) (g1 g2 g3 : Int32) : wqad σ z g1 g2 g3 104 0 = σ 104 0 := by
  unfold wqad wrow
  split
  · rw [zu_c _ _ (by omega), zu_r _ _ (by omega), zu_r _ _ (by omega), zu_r _ _ (by omega)]
  · rfl
theorem wpsh_0 (σ : zm) (a h : Nat) (v : Int32) : wpsh σ a h v 104 0 = σ 104 0 := by
  unfold wpsh
  rw [zu_r _ _ (by omega), zu_r _ _ (by omega)]
theorem wact_0 (σ : zm) (a o : Nat) (n : Int32) (h z : Nat) : wact σ a o n h z 104 0 = σ 104 0 := by
  unfold wact
  by_cases c : o = 13
  · rw [if_pos c, wpsh_0]
  rw [if_neg c]
  by_cases c : o = 10
  · rw [if_pos c, wpsh_0, zu_r _ _ (by omega)]
  rw [if_neg c]
  by_cases c : o = 11
  · rw [if_pos c, zu_r _ _ (by omega), zu_r _ _ (by omega), zu_r _ _ (by omega)]
  rw [if_neg c, wqad_0, zu_r _ _ (by omega)]
theorem wdoe_0 (σ : zm) (a o : Nat) (n : Int32) (h z : Nat) : (wdoe σ a o n h z).1 104 0 = σ 104 0 := by
  unfold wdoe
  by_cases c : o = 0
  · rw [if_pos c]; dsimp only; rw [zu_r _ _ (by decide)]
  rw [if_neg c]
  by_cases c : o = 1
  · rw [if_pos c]; dsimp only; rw [wpsh_0]
  rw [if_neg c]
  by_cases c : o = 2 ∨ o = 3
  · rw [if_pos c]; dsimp only; rw [wpsh_0, zu_r _ _ (by decide)]
  rw [if_neg c]
  by_cases c : o = 4
  · rw [if_pos c]; dsimp only; rw [wpsh_0]
  rw [if_neg c]
  by_cases c : o = 5
  · rw [if_pos c]; dsimp only; rw [zu_r _ _ (by decide)]
  rw [if_neg c]
  by_cases c : o = 6
  · rw [if_pos c]; dsimp only; rw [wpsh_0]
  rw [if_neg c]
  by_cases c : o = 7
  · rw [if_pos c]; dsimp only; rw [zu_r _ _ (by decide), zu_r _ _ (by decide)]
  rw [if_neg c]
  by_cases c : o = 8
  · rw [if_pos c]
  rw [if_neg c]
  by_cases c : o = 9
  · rw [if_pos c]; dsimp only; rw [zu_r _ _ (by decide)]
  rw [if_neg c]; dsimp only; rw [wact_0]
section OPS4
variable {σ : zm} {a p h wn z o : Nat} {H : Nat → Int32} {n : Int32}
/-- the word of app a, done or failed by both alike -/
def zSm (σ : zm) (a o h wn z : Nat) (n : Int32) : Prop := ((zdo (zs1 σ a) a wn z).1 = true → ∀ X w, X = zu (zdo (zs1 σ a) a wn z).2 130 0 w → wfai (wst1 X a) a o h = false ∧ Rl (zu (wdoe (wst1 X a) a o n h z).1 122 a (wdoe (wst1 X a) a o n h z).2)) ∧ ((zdo (zs1 σ a) a wn z).1 = false → ∀ X, X = zu (zdo (zs1 σ a) a wn z).2 (za a) 5 0 → wfai (wst1 X a) a o h = true ∧ Rl (zu (zu (wst1 X a) 121 a 0) 104 0 1))
theorem zX_t (ha : a < 8) {X : zm} {w : Int32} (hX : X = zu (zdo (zs1 σ a) a wn z).2 130 0 w) : ∀ y, 105 ≤ y → y ≤ 128 → X y = σ y := fun y h1 h2 => by
  rw [hX, zu_row _ _ (by omega), zdo_of _ (by unfold za; omega) (by omega), zs1_of _ (by omega)]
theorem zX_f (ha : a < 8) {X : zm} (hX : X = zu (zdo (zs1 σ a) a wn z).2 (za a) 5 0) : ∀ y, 105 ≤ y → y ≤ 128 → X y = σ y := fun y h1 h2 => by
  rw [hX, zu_row _ _ (by unfold za; omega), zdo_of _ (by unfold za; omega) (by omega), zs1_of _ (by omega)]
theorem zSm_t {τ : zm} (e : zdo (zs1 σ a) a wn z = (true, τ)) (h1 : ¬ nI o = 10) (h2 : ¬ nI o = 11) (h3 : ¬ nI o = 12) (hr : ∀ X w, X = zu τ 130 0 w → Rl (zu (wdoe (wst1 X a) a o n h z).1 122 a (wdoe (wst1 X a) a o n h z).2)) : zSm σ a o h wn z n := by
  unfold zSm
  rw [e]
  exact ⟨fun _ X w hX => ⟨wf_no h1 h2 h3, hr X w hX⟩, fun q => by cases q⟩
theorem zSm_b (hR : Rl σ) (ha : a < 8) (h5 : ¬ σ 105 a = 0) {b : Bool} {τ : zm} (e : zdo (zs1 σ a) a wn z = (b, if b then τ else zs1 σ a)) (hf : ∀ X : zm, (∀ y, 105 ≤ y → y ≤ 128 → X y = σ y) → wfai (wst1 X a) a o h = !b) (hr : b = true → ∀ X w, X = zu τ 130 0 w → Rl (zu (wdoe (wst1 X a) a o n h z).1 122 a (wdoe (wst1 X a) a o n h z).2)) : zSm σ a o h wn z n := by
  refine ⟨fun q X w hX => ?_, fun q X hX => ?_⟩
  · have hq := zX_t ha hX
    rw [e] at q hX
    have q : b = true := q
    subst q
    exact ⟨hf X hq, hr rfl X w hX⟩
  · have hq := zX_f ha hX
    rw [e] at q hX
    have q : b = false := q
    subst q
    exact ⟨hf X hq, o_f hR ha h5 X hX⟩
theorem o_all (hR : Rl σ) (ha : a < 8) (h5 : ¬ σ 105 a = 0) (x : rnX σ a p h wn o H n) (hz8 : z ≤ 8) (hz0 : σ 2 0 = nI z) : zSm σ a o h wn z n := by
  obtain ⟨w1, w2⟩ := zw_ip hR ha x
  have ho : o < 14 := x.1.2.2.2
  have hA := hR.2.2.1 a ha
  have hc : o = 0 ∨ o = 1 ∨ o = 2 ∨ o = 3 ∨ o = 4 ∨ o = 5 ∨ o = 6 ∨ o = 7 ∨ o = 8 ∨ o = 9 ∨ o = 10 ∨ o = 11 ∨ o = 12 ∨ o = 13 := by omega
  rcases hc with rfl | rfl | rfl | rfl | rfl | rfl | rfl | rfl | rfl | rfl | rfl | rfl | rfl | rfl
  · exact zSm_t (by rw [zdo_j (Or.inl w1), w1, w2]; rfl) (by decide) (by decide) (by decide) (fun X w hX => o_0 hR ha h5 X w hX)
  · exact zSm_t (by rw [zdo_p (by rw [w1]; decide), w1, w2]; rfl) (by decide) (by decide) (by decide) (fun X w hX => o_1 hR ha h5 x X w hX)
  · exact zSm_t (by rw [zdo_p (by rw [w1]; decide), w1, w2]; rfl) (by decide) (by decide) (by decide) (fun X w hX => o_2 hR ha h5 x X w hX)
  · exact zSm_t (by rw [zdo_p (by rw [w1]; decide), w1, w2]; rfl) (by decide) (by decide) (by decide) (fun X w hX => o_3 hR ha h5 x X w hX)
  · exact zSm_t (by rw [zdo_p (by rw [w1]; decide), w1, w2]; rfl) (by decide) (by decide) (by decide) (fun X w hX => o_4 hR ha h5 x X w hX)
  · exact zSm_t (by rw [zdo_p (by rw [w1]; decide), w1, w2]; rfl) (by decide) (by decide) (by decide) (fun X w hX => o_5 hR ha h5 x X w hX)
  · exact zSm_t (by rw [zdo_p (by rw [w1]; decide), w1, w2]; rfl) (by decide) (by decide) (by decide) (fun X w hX => o_6 hR ha h5 x X w hX)
  · exact zSm_t (by rw [zdo_p (by rw [w1]; decide), w1, w2]; rfl) (by decide) (by decide) (by decide) (fun X w hX => o_7 hR ha h5 x X w hX)
  · exact zSm_t (by rw [zdo_j (Or.inr (Or.inl w1)), w1, w2]; rfl) (by decide) (by decide) (by decide) (fun X w hX => o_8 hR ha h5 x X w hX)
  · refine zSm_t (by rw [zdo_j (Or.inr (Or.inr w1)), w1, w2]) (by decide) (by decide) (by decide) (fun X w hX => ?_)
    by_cases c : σ (za a + 2) (h - 1) = 0
    · exact o_9a hR ha h5 x c X w hX
    · exact o_9b hR ha h5 x c X w hX
  · refine zSm_b hR ha h5 (zdo_10 w1) (fun X hq => ?_) (fun q X w hX => o_10 hR ha h5 x q X w hX)
    rw [wf_10, wst1_of _ (by omega), hq 124 (by omega) (by omega), f_10 x]
    rfl
  · obtain ⟨u1, e2, -⟩ := f_2 (Or.inl rfl) x
    have h12 : h - 1 - 1 = h - 2 := by omega
    cases hz : zin (zup2 (zs1 σ a) a) 8 with
    | false =>
      have hk : zkok (zs1 σ a) a = false := by unfold zkok; rw [hz, Bool.false_and]
      refine zSm_b (b := false) (τ := σ) hR ha h5 (by rw [zdo_11 w1, hk]; rfl) (fun X hq => ?_) (fun q => by cases q)
      refine wf_11a ?_
      rw [wst1_of _ (by omega), hq 124 (by omega) (by omega), h12, ← e2]
      exact hz
    | true =>
      rw [e2] at hz
      obtain ⟨j, hj, ej⟩ := zin_of (n := 8) (by decide) hz
      have hk := f_11 hR ha x hj ej
      have ew : ∀ X : zm, (∀ y, 105 ≤ y → y ≤ 128 → X y = σ y) → wst1 X a 124 (6 * a + (h - 1 - 1)) = nI j := fun X hq => by rw [wst1_of _ (by omega), hq 124 (by omega) (by omega), h12, ej]
      refine zSm_b hR ha h5 (zdo_11 w1) (fun X hq => ?_) (fun q X w hX => ?_)
      · have e118 : wst1 X a 118 = σ 118 := by rw [wst1_of _ (by omega), hq 118 (by omega) (by omega)]
        have ec : (wst1 X a 124 (6 * a + (h - 1 - 1))).toNatClampNeg = j := by rw [ew X hq, nI_clamp (by omega)]
        have ez : zin (wst1 X a 124 (6 * a + (h - 1 - 1))) 8 = true := by rw [ew X hq]; exact zin_nI (n := 8) hj (by omega)
        rw [hk]
        by_cases c : σ 118 (8 * a + j) = 0
        · rw [wf_11c ec ez (by rw [e118]; exact c), decide_eq_true c, wcnt_c (fun t ht => by rw [e118]), Bool.not_true, Bool.false_or, Bool.not_not]
        · rw [wf_11b ec (by rw [e118]; exact c), ez, decide_eq_false c, Bool.not_false, Bool.true_or]
      · refine o_11 hR ha h5 x hj ej ?_ X w hX
        by_cases c : σ 118 (8 * a + j) = 0
        · right
          rw [hk, decide_eq_true c, Bool.not_true, Bool.false_or] at q
          have hw : wcnt σ a 8 ≤ 3 := hA.2.2.2.2.2.2.1.2
          by_cases c3 : wcnt σ a 8 = 3
          · rw [c3] at q; exact absurd q (by decide)
          · omega
        · exact Or.inl c
  · obtain ⟨u1, e2, -⟩ := f_2 (Or.inr rfl) x
    have h12 : h - 1 - 1 = h - 2 := by omega
    refine zSm_b hR ha h5 (zdo_12 w1) (fun X hq => ?_) (fun q X w hX => o_12 hR ha h5 x hz8 hz0 X w hX)
    rw [wf_12, wst1_of _ (by omega), hq 124 (by omega) (by omega), h12, e2]
  · exact zSm_t (by rw [zdo_13 w1, w2]) (by decide) (by decide) (by decide) (fun X w hX => o_13 hR ha h5 x X w hX)
end OPS4
/-- what the class's step does: k is what it throws -/
def zStp (σ : zm) (L z : Nat) (wf : Nat → Nat) (k r : Int32) (σ1 : zm) : Prop := (znx σ L 8 1 = -1 ∧ k = 0 ∧ r = -1 ∧ σ1 = σ) ∨ ∃ a, a < 8 ∧ znx σ L 8 1 = nI a ∧ (if (zdo (zs1 σ a) a (wf a) z).1 then k = 0 ∧ r = nI a ∧ σ1 = (zdo (zs1 σ a) a (wf a) z).2 else k = 1 ∧ σ1 = zu (zdo (zs1 σ a) a (wf a) z).2 (za a) 5 0)
theorem zStp_hi {σ σ1 : zm} {L z : Nat} {wf : Nat → Nat} {k r : Int32} (h : zStp σ L z wf k r σ1) : ∀ x, 104 ≤ x → σ1 x = σ x := by
  intro x hx
  rcases h with ⟨-, -, -, rfl⟩ | ⟨a, ha, -, h⟩
  · rfl
  · have e : (zdo (zs1 σ a) a (wf a) z).2 x = σ x := by rw [zdo_of _ (by unfold za; omega) (by omega), zs1_of _ (by omega)]
    cases hb : (zdo (zs1 σ a) a (wf a) z).1 with
    | true => rw [hb, if_pos rfl] at h; rw [h.2.2, e]
    | false => rw [hb, if_neg (by decide)] at h; rw [h.2, zu_row _ _ (by unfold za; omega), e]
theorem wnam_c {σ τ : zm} {L : Nat} (e : τ 121 = σ 121) : wnam τ L = wnam σ L := by
  have : wPr τ = wPr σ := by funext a; unfold wPr; rw [e]
  unfold wnam
  rw [this]
theorem L_step {σ σ1 X σ2 : zm} {k r1 r2 : Int32} {L z : Nat} {wf : Nat → Nat} (hR : Rl σ) (hL : L ≤ 8) (hz8 : z ≤ 8) (hz0 : σ 2 0 = nI z) (hwf : ∀ a, a < 8 → wf a ≤ 24 ∧ σ (zp a) 11 = nI (wf a)) (h1 : zStp σ L z wf k r1 σ1) (hX0 : k = 0 → ∃ w, X = zu σ1 130 0 w) (hX1 : ¬ k = 0 → X = σ1) (h2 : wStp X L z r2 σ2) : σ2 104 0 = k ∧ (k = 0 → r2 = r1) ∧ Rl σ2 := by
  have hi : ∀ x, 104 ≤ x → x ≤ 129 → X x = σ x := fun x q1 q2 => by
    rw [← zStp_hi h1 x q1]
    by_cases c : k = 0
    · obtain ⟨w, hw⟩ := hX0 c
      rw [hw, zu_row _ _ (by omega)]
    · rw [hX1 c]
  have ewn : wnam X L = znx σ L 8 1 := by rw [wnam_c (hi 121 (by omega) (by omega)), a_turn hR hL]
  have ws0 : ∀ a, wst1 X a 104 0 = 0 := fun a => by unfold wst1 wz; rw [zu_c _ _ (by omega), zu_eq]
  rcases h1 with ⟨n1, rfl, rfl, rfl⟩ | ⟨a, ha, n1, h1⟩
  · obtain ⟨w, hX⟩ := hX0 rfl
    rcases h2 with ⟨-, rfl, rfl⟩ | ⟨a', -, -, -, ha', w1, -⟩
    · refine ⟨zu_eq _ _ _ _, fun _ => rfl, Rl_out hR (fun x b h => ?_)⟩
      unfold wz
      rw [zu_ne _ _ (by omega), hX, zu_r _ _ (by omega)]
    · rw [ewn, n1] at w1
      exact absurd w1.symm (nI_m1' (by omega))
  · rcases h2 with ⟨w1, -, -⟩ | ⟨a', p', h', o', ha', w1, w2, w3, h2⟩
    · rw [ewn, n1] at w1
      exact absurd w1 (nI_m1' (by omega))
    · rw [ewn, n1] at w1
      have ea : a = a' := (nI_eq (by omega) (by omega)).mp w1
      subst ea
      have hA := hR.2.2.1 a ha
      rw [hi 121 (by omega) (by omega)] at w2
      have h5 : ¬ σ 105 a = 0 := fun q => w2 (hA.2.2.2.2.2.1 q).2
      obtain ⟨p, h, wn, o, H, n, x⟩ := rn_of (hA.2.2.2.2.2.2.2.2.2 w2)
      have hwn : wf a = wn := by
        obtain ⟨wn', q1, q2, q3⟩ := hA.1.2.2.2.1
        have := (nI_eq (by omega) (by have := x.1.2.1; omega)).mp (q3.symm.trans x.2.1.2.1)
        rw [← this]
        exact (nI_eq (by have := (hwf a ha).1; omega) (by omega)).mp ((hwf a ha).2.symm.trans q2)
      have hu : p' = p ∧ h' = h ∧ o' = o := by
        obtain ⟨v1, v2, v3, v4, v5, v6, -⟩ := w3
        obtain ⟨⟨y1, y2, y3, y4⟩, -, ⟨-, y5, -, y6⟩, -, -, ⟨y7, -⟩, -⟩ := x
        rw [hi 122 (by omega) (by omega), y5] at v4
        rw [hi 123 (by omega) (by omega), y6] at v5
        have e1 : p = p' := (nI_eq (by omega) (by omega)).mp v4
        subst e1
        rw [hi 117 (by omega) (by omega), y7] at v6
        exact ⟨rfl, ((nI_eq (by omega) (by omega)).mp v5).symm, ((nI_eq (by omega) (by omega)).mp v6).symm⟩
      obtain ⟨rfl, rfl, rfl⟩ := hu
      rw [hi 117 (by omega) (by omega), x.2.2.2.2.2.1.2] at h2
      have hs := o_all hR ha h5 x hz8 hz0
      rw [hwn] at h1
      unfold zSm at hs
      cases hb : (zdo (zs1 σ a) a wn z).1 with
      | true =>
        rw [hb, if_pos rfl] at h1
        obtain ⟨rfl, rfl, rfl⟩ := h1
        obtain ⟨w, hX⟩ := hX0 rfl
        obtain ⟨g1, g2⟩ := hs.1 hb X w hX
        rw [g1, if_neg (by decide)] at h2
        obtain ⟨rfl, rfl⟩ := h2
        refine ⟨?_, fun _ => rfl, g2⟩
        rw [zu_r _ _ (by omega), wdoe_0, ws0]
      | false =>
        rw [hb, if_neg (by decide)] at h1
        obtain ⟨rfl, rfl⟩ := h1
        obtain ⟨g1, g2⟩ := hs.2 hb X (hX1 (by decide))
        rw [g1, if_pos rfl] at h2
        obtain ⟨rfl, rfl⟩ := h2
        exact ⟨zu_eq _ _ _ _, fun q => absurd q (by decide), g2⟩
