/-! holds and app -/
theorem zfst_or {P : Nat → Bool} : ∀ {f i : Nat}, (zfst P f i = -1 ∧ ∀ k, i ≤ k → k < i + f → P k = false) ∨ ∃ k, i ≤ k ∧ k < i + f ∧ zfst P f i = nI k ∧ P k = true ∧ ∀ j, i ≤ j → j < k → P j = false
  | 0, _ => Or.inl ⟨rfl, fun _ h1 h2 => absurd h1 (by omega)⟩
  | f + 1, i => by
    cases hp : P i with
    | true => exact Or.inr ⟨i, by omega, by omega, zfst_t hp, hp, fun j h1 h2 => absurd h1 (by omega)⟩
    | false =>
      rw [zfst_f hp]
      rcases zfst_or (P := P) (f := f) (i := i + 1) with ⟨h1, h2⟩ | ⟨k, h1, h2, h3, h4, h5⟩
      · refine Or.inl ⟨h1, fun k a b => ?_⟩
        by_cases e : k = i
        · rw [e]; exact hp
        · exact h2 k (by omega) (by omega)
      · refine Or.inr ⟨k, by omega, by omega, h3, h4, fun j a b => ?_⟩
        by_cases e : j = i
        · rw [e]; exact hp
        · exact h5 j (by omega) b
theorem wmyp_f {σ : zm} {k j : Nat} {x : Int32} {n : Nat} (h : ∀ a, a < n → whit σ k x j a = false) : wmyp σ k x j n = false := by
  induction n with
  | zero => rfl
  | succ n ih =>
    show (wmyp σ k x j n || whit σ k x j n) = false
    rw [ih (fun a ha => h a (by omega)), h n (by omega)]
    rfl
theorem wmyp_1 {σ : zm} {k j d : Nat} {x : Int32} {n : Nat} (hd : d < n) (h : ∀ a, a < n → a ≠ d → whit σ k x j a = false) : wmyp σ k x j n = whit σ k x j d := by
  induction n with
  | zero => omega
  | succ n ih =>
    show (wmyp σ k x j n || whit σ k x j n) = _
    by_cases e : d = n
    · subst e
      rw [wmyp_f (fun a ha => h a (by omega) (by omega)), Bool.false_or]
    · rw [ih (by omega) (fun a ha hne => h a (by omega) hne), h n (by omega) (by omega), Bool.or_false]
theorem whit_n {σ : zm} {k j a : Nat} {x : Int32} (h : σ 105 a = 0 ∨ σ 110 (8 * a + j) = 0) : whit σ k x j a = false := by
  have e : wlev σ a j = -1 := by
    unfold wlev
    rcases h with h | h
    · rw [if_pos h]
    · split
      · rfl
      · rw [h]; decide
  unfold whit
  rw [e]
  rfl
/-- an installed app declares permission j, by the class's rows and by the reference's -/
theorem a_hit {σ : zm} (hR : Rl σ) {a j : Nat} (ha : a < 8) (hj : j < 8) : zhit σ (nI j) a = (!decide (σ 105 a = 0) && !decide (σ 110 (8 * a + j) = 0)) := by
  have hA := hR.2.2.1 a ha
  unfold zhit
  rw [zdec_nI hj, rB_0 hA.2.1, show decide (σ (zp a + 1) j = -1) = decide (σ 110 (8 * a + j) = 0) from decide_eq_decide.mpr (rLv_0 (hA.1.2.2.2.2.1 j hj))]
theorem a_hit_f {σ : zm} (hR : Rl σ) {a j : Nat} (ha : a < 8) (hj : j < 8) (h : zhit σ (nI j) a = false) : σ 105 a = 0 ∨ σ 110 (8 * a + j) = 0 := by
  rw [a_hit hR ha hj] at h
  by_cases c : σ 105 a = 0
  · exact Or.inl c
  · by_cases c2 : σ 110 (8 * a + j) = 0
    · exact Or.inr c2
    · rw [decide_eq_false c, decide_eq_false c2] at h
      exact absurd h (by decide)
theorem a_hit_t {σ : zm} (hR : Rl σ) {a j : Nat} (ha : a < 8) (hj : j < 8) (h : zhit σ (nI j) a = true) : ¬ σ 105 a = 0 ∧ ¬ σ 110 (8 * a + j) = 0 := by
  rw [a_hit hR ha hj] at h
  simpa using h
/-- who declares permission j: nobody, or one alone -/
theorem a_dcl {σ : zm} (hR : Rl σ) {j : Nat} (hj : j < 8) : (zdcl σ (nI j) = -1 ∧ ∀ a, a < 8 → σ 105 a = 0 ∨ σ 110 (8 * a + j) = 0) ∨ ∃ d, d < 8 ∧ zdcl σ (nI j) = nI d ∧ ¬ σ 105 d = 0 ∧ ¬ σ 110 (8 * d + j) = 0 ∧ ∀ a, a < 8 → a ≠ d → σ 105 a = 0 ∨ σ 110 (8 * a + j) = 0 := by
  unfold zdcl
  rcases zfst_or (P := zhit σ (nI j)) (f := 8) (i := 0) with ⟨h1, h2⟩ | ⟨k, h1, h2, h3, h4, h5⟩
  · exact Or.inl ⟨h1, fun a ha => a_hit_f hR ha hj (h2 a (by omega) (by omega))⟩
  · obtain ⟨c1, c2⟩ := a_hit_t hR (by omega) hj h4
    refine Or.inr ⟨k, by omega, h3, c1, c2, fun a ha hne => ?_⟩
    by_cases e1 : σ 105 a = 0
    · exact Or.inl e1
    · by_cases e2 : σ 110 (8 * a + j) = 0
      · exact Or.inr e2
      · exact absurd (hR.2.2.2.2.2 a k j ha (by omega) hj e1 c1 e2 c2) hne
theorem a_holds {σ : zm} (hR : Rl σ) (n x : Int32) : wmay σ n x = zhold σ n x := by
  unfold wmay zhold
  rw [a_inst hR]
  cases hi : zinst σ n
  · rfl
  · obtain ⟨k, hk, rfl, h0⟩ := zinst_of hi
    rw [nI_clamp (by omega)]
    have hA := hR.2.2.1 k hk
    unfold zhas
    rw [hA.1.2.1, hA.2.2.2.2.1]
    cases hx : zin x 8
    · rfl
    · obtain ⟨j, hj, rfl⟩ := zin_of (n := 8) (by decide) hx
      rw [nI_clamp (by omega)]
      cases hb : zbit (σ 109 k) (nI j)
      · rfl
      · simp only [Bool.true_and]
        rcases a_dcl hR hj with ⟨h1, h2⟩ | ⟨d, hd, h1, c1, c2, h2⟩
        · rw [h1, wmyp_f (fun a ha => whit_n (h2 a ha))]
          rfl
        · rw [h1, nI_clamp (by omega), decide_eq_false (nI_m1' (by omega)), wmyp_1 hd (fun a ha hne => whit_n (h2 a ha hne))]
          have hD := hR.2.2.1 d hd
          obtain ⟨v, hv, e1, e2⟩ := hD.1.2.2.2.2.1 j hj
          unfold whit wlev
          rw [if_neg c1, e1, e2, ← hD.1.1, ← hA.1.1]
          have : v = 0 ∨ v = 1 ∨ v = 2 ∨ v = 3 := by omega
          rcases this with rfl | rfl | rfl | rfl
          · rw [e1] at c2; exact absurd rfl c2
          · rfl
          · cases zbit (σ 120 k) (nI j) <;> rfl
          · have e3 : decide (σ (zp d) 2 = σ (zp k) 2) = decide (σ (zp k) 2 = σ (zp d) 2) := decide_eq_decide.mpr ⟨Eq.symm, Eq.symm⟩
            rw [e3]
            cases decide (σ (zp k) 2 = σ (zp d) 2) <;> rfl
theorem L_holds {σ σ1 σ2 : zm} {r1 r2 n x : Int32} (hR : Rl σ) (h1 : r1 = zb (zhold σ n x) ∧ σ1 = σ) (h2 : r2 = zb (wmay (wz σ1) n x) ∧ σ2 = wz σ1) : r1 = r2 ∧ Rl σ2 := by
  obtain ⟨rfl, rfl⟩ := h1
  obtain ⟨rfl, rfl⟩ := h2
  refine ⟨?_, Rl_wz hR⟩
  rw [a_holds (Rl_wz hR)]
  congr 1
  have e : ∀ a b, a ≠ 104 → wz σ1 a b = σ1 a b := fun a b h => by rw [wz_row _ h]
  rw [← a_holds (Rl_wz hR), ← a_holds hR]
  have e2 : ∀ k j m, wmyp (wz σ1) k x j m = wmyp σ1 k x j m := fun k j m => by
    induction m with
    | zero => rfl
    | succ m ih =>
      show (wmyp (wz σ1) k x j m || whit (wz σ1) k x j m) = (wmyp σ1 k x j m || whit σ1 k x j m)
      rw [ih]
      unfold whit wlev
      rw [e 105 _ (by decide), e 110 _ (by decide), e 120 _ (by decide), e 107 _ (by decide), e 107 _ (by decide)]
  unfold wmay wapp
  rw [e 105 _ (by decide), e 109 _ (by decide), e2]
-- the count of the kept keys
def bcnt (P : Nat → Bool) : Nat → Nat
  | 0 => 0
  | n + 1 => if P n then bcnt P n + 1 else bcnt P n
theorem bcnt_w {σ : zm} {a : Nat} {P : Nat → Bool} {n : Nat} (h : ∀ t, t < n → P t = !decide (σ 118 (8 * a + t) = 0)) : bcnt P n = wcnt σ a n := by
  induction n with
  | zero => rfl
  | succ n ih =>
    have i := ih (fun t ht => h t (by omega))
    show (if P n then bcnt P n + 1 else bcnt P n) = if σ 118 (8 * a + n) = 0 then wcnt σ a n else wcnt σ a n + 1
    rw [h n (by omega), i]
    by_cases c : σ 118 (8 * a + n) = 0
    · rw [if_pos c, decide_eq_true c]; rfl
    · rw [if_neg c, decide_eq_false c]; rfl
theorem zbc_m : ∀ m, m < 256 → zbc (nI m) = nI (bcnt (fun t => zbit (nI m) (nI t)) 8) := by decide +kernel
theorem a_cnt {σ : zm} {k : Nat} (hA : rA σ k) : zbc (σ (za k) 3) = nI (wcnt σ k 8) := by
  obtain ⟨-, -, -, -, -, -, ⟨⟨m, hm, e⟩, -⟩, h8, -, -⟩ := hA
  rw [e, zbc_m m hm]
  congr 1
  exact bcnt_w (fun t ht => by rw [← e]; exact (h8 t ht).1)
theorem zup_h {σ : zm} {a h : Nat} (e : σ (za a) 7 = nI h) (h1 : 1 ≤ h) (h6 : h ≤ 6) : zup σ a = σ (za a + 2) (h - 1) := by
  obtain ⟨j, rfl⟩ : ∃ j, h = j + 1 := ⟨h - 1, by omega⟩
  unfold zup
  rw [e, nI_pred, show (6 : Int32) = nI 6 from rfl, zin_nI (by omega) (by omega), if_pos rfl, nI_clamp (by omega)]
  rfl
theorem zup2_h {σ : zm} {a h : Nat} (e : σ (za a) 7 = nI h) (h1 : 2 ≤ h) (h6 : h ≤ 6) : zup2 σ a = σ (za a + 2) (h - 2) := by
  unfold zup2
  rw [e, show (2 : Int32) = nI 2 from rfl, pk_sub (a := h) (b := 2) h1, show (6 : Int32) = nI 6 from rfl, zin_nI (by omega) (by omega), if_pos rfl, nI_clamp (by omega)]
theorem K_app {σ : zm} (hR : Rl σ) : ∀ a, a < 8 → ¬ σ 121 a = 0 → ∃ h, h ≤ 6 ∧ σ 123 a = nI h := fun a ha h0 => by
  obtain ⟨p, h, H, p1, p2, p3, p4, p5, p6, p7, p8, p9, -⟩ := (hR.2.2.1 a ha).2.2.2.2.2.2.2.2.2 h0
  exact ⟨h, p2, p9⟩
theorem a_app {σ : zm} (hR : Rl σ) (n x : Int32) : wappw σ n x = zapp σ n x := by
  unfold wappw zapp
  rw [a_inst hR]
  cases hi : zinst σ n
  · rfl
  · obtain ⟨k, hk, rfl, h0⟩ := zinst_of hi
    rw [nI_clamp (by omega), if_pos rfl, Bool.true_and]
    have hA := hR.2.2.1 k hk
    have h105 := zinst_105 hR hk h0
    have e5 : σ (za k) 5 = σ 121 k := hA.2.2.1.1
    have ev : σ (zp k) 1 = σ 106 k := (hA.2.2.2.1 h105).1
    have hw : ∀ m, wcnt (wz σ) k m = wcnt σ k m := fun m => wcnt_c (fun t ht => by rw [wz_row _ (by decide)])
    by_cases hx : x < 0
    · have : ∀ y : Int32, 0 ≤ y → ¬ x = y := fun y hy z => absurd (z ▸ hx) (Int32.not_lt.mpr hy)
      unfold zap1
      rw [decide_eq_true hx, if_neg (this 0 (by decide)), if_neg (this 1 (by decide)), if_neg (this 2 (by decide)), if_neg (this 3 (by decide)), if_neg (this 4 (by decide)), if_neg (this 5 (by decide)), if_neg (this 6 (by decide))]
      rfl
    · by_cases hx6 : x ≤ 6
      · rw [decide_eq_false hx, decide_eq_true hx6]
        show wap1 σ k x = zap1 σ k x
        obtain ⟨j, hj, rfl⟩ := nI_of2 (M := 6) (n := 6) (by decide) hx hx6
        have : j = 0 ∨ j = 1 ∨ j = 2 ∨ j = 3 ∨ j = 4 ∨ j = 5 ∨ j = 6 := by omega
        by_cases hr : σ 121 k = 0
        · unfold wap1 zap1
          rw [e5, ev, hA.1.1, a_cnt hA, hr, hw]
          rcases this with rfl | rfl | rfl | rfl | rfl | rfl | rfl <;> rfl
        · obtain ⟨p, h, H, p1, p2, p3, p4, p5, p6, p7, p8, p9, p10, p11⟩ := hA.2.2.2.2.2.2.2.2.2 hr
          have e7 : (if σ 123 k ≤ 0 then 0 else σ 124 (6 * k + ((σ 123 k).toNatClampNeg - 1))) = zup σ k := by
            by_cases hh : h = 0
            · subst hh
              unfold zup
              rw [p9, p8]
              rfl
            · rw [zup_h p8 (by omega) p2, p9, if_neg (nI_nle (by omega) (by omega)), nI_clamp (by omega), p10 (h - 1) (by omega)]
          unfold wap1 zap1
          rw [e7, e5, ev, hA.1.1, a_cnt hA, hw, p6, p7, p8, p9, if_neg hr, if_neg hr, if_neg hr, if_neg hr, if_neg hr]
          rcases this with rfl | rfl | rfl | rfl | rfl | rfl | rfl <;> rfl
      · have : ∀ y : Int32, y ≤ 6 → ¬ x = y := fun y hy z => hx6 (z ▸ hy)
        unfold zap1
        rw [decide_eq_false hx, decide_eq_false hx6, if_neg (this 0 (by decide)), if_neg (this 1 (by decide)), if_neg (this 2 (by decide)), if_neg (this 3 (by decide)), if_neg (this 4 (by decide)), if_neg (this 5 (by decide)), if_neg (this 6 (by decide))]
        rfl
theorem L_app {σ σ1 σ2 : zm} {r1 r2 n x : Int32} (hR : Rl σ) (h1 : r1 = zapp σ n x ∧ σ1 = σ) (h2 : r2 = wappw σ1 n x ∧ σ2 = wz σ1) : r1 = r2 ∧ Rl σ2 := by
  obtain ⟨rfl, rfl⟩ := h1
  obtain ⟨rfl, rfl⟩ := h2
  exact ⟨(a_app hR n x).symm, Rl_wz hR⟩
