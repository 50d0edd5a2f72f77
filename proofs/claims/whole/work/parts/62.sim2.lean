/-! the calls, one by one: the rest of the draft's -/
theorem zu_at (σ : zm) {j k a b : Nat} (v : Int32) (h1 : a = j) (h2 : b = k) : zu σ j k v a b = v := by subst h1; subst h2; exact zu_eq _ _ _ _
theorem zu_r (σ : zm) {j k a b : Nat} (v : Int32) (h : a ≠ j) : zu σ j k v a b = σ a b := zu_ne σ v (Or.inl h)
theorem zu_c (σ : zm) {j k a b : Nat} (v : Int32) (h : b ≠ k) : zu σ j k v a b = σ a b := zu_ne σ v (Or.inr h)
/-- outside of the draft and of what is used for a while -/
def oD (j k : Nat) : Prop := ¬ ((65 ≤ j ∧ j < 72) ∨ (j = 104 ∧ (k = 0 ∨ k = 14)) ∨ ((j = 106 ∨ j = 107 ∨ j = 108 ∨ j = 109 ∨ j = 111 ∨ j = 116) ∧ k = 8) ∨ (j = 110 ∧ 64 ≤ k ∧ k < 72) ∨ ((j = 112 ∨ j = 113 ∨ j = 114 ∨ j = 115) ∧ 32 ≤ k ∧ k < 36) ∨ (j = 117 ∧ 192 ≤ k ∧ k < 216) ∨ j = 129 ∨ j = 6 ∨ j = 7 ∨ j = 8)
theorem oD_A {n j k : Nat} (hn : n < 8) (h : fA n j k) : oD j k := by
  unfold fA fPk zp za at h
  unfold oD
  omega
theorem oD_Q {j k : Nat} (h : fQ j k) : oD j k := by
  unfold fQ at h
  unfold oD
  omega
theorem oD_T {j k : Nat} (h : fT j k) : oD j k := by
  unfold fT at h
  unfold oD
  omega
theorem Rl_d {σ τ : zm} (hR : Rl σ) (h : ag oD σ τ) (h8 : rPk τ 8) (hx : rDx τ) : Rl τ := Rl_dr hR (fun _ hn j k z => h j k (oD_A hn z)) (fun j k z => h j k (oD_Q z)) (fun j k z => h j k (oD_T z)) h8 hx
theorem rLv_0 {x y : Int32} (h : rLv x y) : x = -1 ↔ y = 0 := by
  obtain ⟨v, hv, rfl, rfl⟩ := h
  have : v = 0 ∨ v = 1 ∨ v = 2 ∨ v = 3 := by omega
  rcases this with rfl | rfl | rfl | rfl <;> decide
theorem rLv_u {j : Nat} (h : j < 3) : rLv (nI j) (nI j + 1) := by
  refine ⟨j + 1, by omega, ?_, ?_⟩
  · have : j = 0 ∨ j = 1 ∨ j = 2 := by omega
    rcases this with rfl | rfl | rfl <;> decide
  · have : j = 0 ∨ j = 1 ∨ j = 2 := by omega
    rcases this with rfl | rfl | rfl <;> decide
theorem s_word {σ : zm} (hR : Rl σ) {n : Nat} (hn : n < 24) (h : σ (zp 8) 11 = nI n) (w : Int32) : Rl (zu (zu (wz (zu (zu σ (zp 8 + 6) n w) (zp 8) 11 (nI (n + 1)))) 117 (192 + n) w) 116 8 (nI (n + 1))) := by
  have hz : zp 8 = 65 := rfl
  unfold wz
  refine Rl_d hR (((((ag.rf.zu ?_).zu ?_).zu ?_).zu ?_).zu ?_) ?_ ?_
  · unfold oD; omega
  · unfold oD; omega
  · unfold oD; omega
  · unfold oD; omega
  · unfold oD; omega
  · obtain ⟨h1, h2, ⟨pn, p1, p2, p3⟩, -, h5, h6, h7⟩ := hR.1
    refine ⟨?_, ?_, ⟨pn, p1, ?_, ?_⟩, ⟨n + 1, by omega, ?_, ?_⟩, fun t ht => ?_, fun t ht => ?_, fun t ht => ?_⟩
    · simp (disch := omega) only [zu_at, zu_r, zu_c]; exact h1
    · simp (disch := omega) only [zu_at, zu_r, zu_c]; exact h2
    · simp (disch := omega) only [zu_at, zu_r, zu_c]; exact p2
    · simp (disch := omega) only [zu_at, zu_r, zu_c]; exact p3
    · simp (disch := omega) only [zu_at, zu_r, zu_c]
    · simp (disch := omega) only [zu_at, zu_r, zu_c]
    · simp (disch := omega) only [zu_at, zu_r, zu_c]; exact h5 t ht
    · simp (disch := omega) only [zu_at, zu_r, zu_c]; exact h6 t ht
    · by_cases e : t = n
      · simp (disch := omega) only [zu_at, zu_r, zu_c]
      · simp (disch := omega) only [zu_at, zu_r, zu_c]; exact h7 t ht
  · obtain ⟨⟨nm, n1, n2, n3⟩, h2, h3⟩ := hR.2.1
    refine ⟨⟨nm, n1, ?_, ?_⟩, ?_, ?_⟩
    · simp (disch := omega) only [zu_at, zu_r, zu_c]; exact n2
    · simp (disch := omega) only [zu_at, zu_r, zu_c]; exact n3
    · simp (disch := omega) only [zu_at, zu_r, zu_c]; exact h2
    · simp (disch := omega) only [zu_at, zu_r, zu_c]; exact h3
theorem s_part {σ : zm} (hR : Rl σ) {n : Nat} (h : σ (zp 8) 6 = nI n) {a g : Int32} (hp : zpok a g n = true) (b : Bool) (p : Int32) : Rl (wpar (zpar σ 8 n a (zb b) g p) n a (zb b) g p) := by
  have hz : zp 8 = 65 := rfl
  have hn : n < 4 := by
    unfold zpok at hp
    simp only [Bool.and_eq_true, decide_eq_true_eq] at hp
    exact hp.2
  have hg : rG g := by
    unfold zpok at hp
    simp only [Bool.and_eq_true, Bool.or_eq_true, decide_eq_true_eq] at hp
    rcases hp.1.2 with e | e
    · exact Or.inl e
    · exact Or.inr (zin_of (n := 8) (by decide) e)
  unfold wpar zpar wz
  refine Rl_d hR (((((((((((ag.rf.zu ?_).zu ?_).zu ?_).zu ?_).zu ?_).zu ?_).zu ?_).zu ?_).zu ?_).zu ?_).zu ?_) ?_ ?_
  · unfold oD; omega
  · unfold oD; omega
  · unfold oD; omega
  · unfold oD; omega
  · unfold oD; omega
  · unfold oD; omega
  · unfold oD; omega
  · unfold oD; omega
  · unfold oD; omega
  · unfold oD; omega
  · unfold oD; omega
  · obtain ⟨h1, h2, -, ⟨wn, p1, p2, p3⟩, h5, h6, h7⟩ := hR.1
    refine ⟨?_, ?_, ⟨n + 1, by omega, ?_, ?_⟩, ⟨wn, p1, ?_, ?_⟩, fun t ht => ?_, fun t ht => ?_, fun t ht => ?_⟩
    · simp (disch := omega) only [zu_at, zu_r, zu_c]; exact h1
    · simp (disch := omega) only [zu_at, zu_r, zu_c]; exact h2
    · simp (disch := omega) only [zu_at, zu_r, zu_c]
    · simp (disch := omega) only [zu_at, zu_r, zu_c]
    · simp (disch := omega) only [zu_at, zu_r, zu_c]; exact p2
    · simp (disch := omega) only [zu_at, zu_r, zu_c]; exact p3
    · simp (disch := omega) only [zu_at, zu_r, zu_c]; exact h5 t ht
    · by_cases e : t = n
      · simp (disch := omega) only [zu_at, zu_r, zu_c]
        exact ⟨trivial, ⟨rfl, zb01 b⟩, trivial, hg, trivial⟩
      · simp (disch := omega) only [zu_at, zu_r, zu_c]; exact h6 t ht
    · simp (disch := omega) only [zu_at, zu_r, zu_c]; exact h7 t ht
  · obtain ⟨⟨nm, n1, n2, n3⟩, h2, h3⟩ := hR.2.1
    refine ⟨⟨nm, n1, ?_, ?_⟩, ?_, ?_⟩
    · simp (disch := omega) only [zu_at, zu_r, zu_c]; exact n2
    · simp (disch := omega) only [zu_at, zu_r, zu_c]; exact n3
    · simp (disch := omega) only [zu_at, zu_r, zu_c]; exact h2
    · simp (disch := omega) only [zu_at, zu_r, zu_c]; exact h3
theorem a_ask {σ : zm} (hR : Rl σ) (x : Int32) : waok σ x = zaok σ x := by
  unfold waok zaok zhas
  rw [hR.1.2.1]
  show (zin x 8 && !zbit (σ 109 8) x) = _
  cases zin x 8 <;> rfl
theorem s_ask {σ : zm} (hR : Rl σ) (x : Int32) : Rl (zu (wz (zu σ (zp 8) 4 (σ (zp 8) 4 ||| (1 <<< (x &&& 31))))) 109 8 (σ 109 8 ||| (1 <<< (x &&& 31)))) := by
  have hz : zp 8 = 65 := rfl
  unfold wz
  refine Rl_d hR (((ag.rf.zu ?_).zu ?_).zu ?_) ?_ ?_
  · unfold oD; omega
  · unfold oD; omega
  · unfold oD; omega
  · obtain ⟨h1, h2, ⟨pn, p1, p2, p3⟩, ⟨wn, w1, w2, w3⟩, h5, h6, h7⟩ := hR.1
    refine ⟨?_, ?_, ⟨pn, p1, ?_, ?_⟩, ⟨wn, w1, ?_, ?_⟩, fun t ht => ?_, fun t ht => ?_, fun t ht => ?_⟩
    · simp (disch := omega) only [zu_at, zu_r, zu_c]; exact h1
    · simp (disch := omega) only [zu_at, zu_r, zu_c]; rw [h2]
    · simp (disch := omega) only [zu_at, zu_r, zu_c]; exact p2
    · simp (disch := omega) only [zu_at, zu_r, zu_c]; exact p3
    · simp (disch := omega) only [zu_at, zu_r, zu_c]; exact w2
    · simp (disch := omega) only [zu_at, zu_r, zu_c]; exact w3
    · simp (disch := omega) only [zu_at, zu_r, zu_c]; exact h5 t ht
    · simp (disch := omega) only [zu_at, zu_r, zu_c]; exact h6 t ht
    · simp (disch := omega) only [zu_at, zu_r, zu_c]; exact h7 t ht
  · obtain ⟨⟨nm, n1, n2, n3⟩, h2, h3⟩ := hR.2.1
    refine ⟨⟨nm, n1, ?_, ?_⟩, ?_, ?_⟩
    · simp (disch := omega) only [zu_at, zu_r, zu_c]; exact n2
    · simp (disch := omega) only [zu_at, zu_r, zu_c]; exact n3
    · simp (disch := omega) only [zu_at, zu_r, zu_c]; exact h2
    · simp (disch := omega) only [zu_at, zu_r, zu_c]; exact h3
theorem a_declare {σ : zm} (hR : Rl σ) (x v : Int32) : weok σ x v = zeok σ x v := by
  unfold weok zeok zdec
  cases hx : zin x 8
  · rfl
  · obtain ⟨k, hk, rfl⟩ := zin_of (n := 8) (by decide) hx
    rw [nI_clamp (by omega)]
    have := rLv_0 (hR.1.2.2.2.2.1 k hk)
    have e : decide (σ (zp 8 + 1) k = -1) = decide (σ 110 (64 + k) = 0) := decide_eq_decide.mpr this
    rw [e]
    cases decide (σ 110 (64 + k) = 0) <;> rfl
theorem s_declare {σ : zm} (hR : Rl σ) {x v : Int32} (h : zeok σ x v = true) : Rl (zu (wz (zu σ (zp 8 + 1) x.toNatClampNeg v)) 110 (64 + x.toNatClampNeg) (v + 1)) := by
  have hz : zp 8 = 65 := rfl
  unfold zeok at h
  simp only [Bool.and_eq_true] at h
  obtain ⟨k, hk, rfl⟩ := zin_of (n := 8) (by decide) h.1.1
  obtain ⟨c, hc, rfl⟩ := zin_of (n := 3) (by decide) h.1.2
  rw [nI_clamp (by omega)]
  unfold wz
  refine Rl_d hR (((ag.rf.zu ?_).zu ?_).zu ?_) ?_ ?_
  · unfold oD; omega
  · unfold oD; omega
  · unfold oD; omega
  · obtain ⟨h1, h2, ⟨pn, p1, p2, p3⟩, ⟨wn, w1, w2, w3⟩, h5, h6, h7⟩ := hR.1
    refine ⟨?_, ?_, ⟨pn, p1, ?_, ?_⟩, ⟨wn, w1, ?_, ?_⟩, fun t ht => ?_, fun t ht => ?_, fun t ht => ?_⟩
    · simp (disch := omega) only [zu_at, zu_r, zu_c]; exact h1
    · simp (disch := omega) only [zu_at, zu_r, zu_c]; exact h2
    · simp (disch := omega) only [zu_at, zu_r, zu_c]; exact p2
    · simp (disch := omega) only [zu_at, zu_r, zu_c]; exact p3
    · simp (disch := omega) only [zu_at, zu_r, zu_c]; exact w2
    · simp (disch := omega) only [zu_at, zu_r, zu_c]; exact w3
    · by_cases e : t = k
      · simp (disch := omega) only [zu_at, zu_r, zu_c]; exact rLv_u hc
      · simp (disch := omega) only [zu_at, zu_r, zu_c]; exact h5 t ht
    · simp (disch := omega) only [zu_at, zu_r, zu_c]; exact h6 t ht
    · simp (disch := omega) only [zu_at, zu_r, zu_c]; exact h7 t ht
  · obtain ⟨⟨nm, n1, n2, n3⟩, h2, h3⟩ := hR.2.1
    refine ⟨⟨nm, n1, ?_, ?_⟩, ?_, ?_⟩
    · simp (disch := omega) only [zu_at, zu_r, zu_c]; exact n2
    · simp (disch := omega) only [zu_at, zu_r, zu_c]; exact n3
    · simp (disch := omega) only [zu_at, zu_r, zu_c]; exact h2
    · simp (disch := omega) only [zu_at, zu_r, zu_c]; exact h3
theorem s_seal {σ : zm} (hR : Rl σ) (x : Int32) : Rl (zu (wz (zu σ (zp 8) 3 x)) 108 8 x) := by
  have hz : zp 8 = 65 := rfl
  unfold wz
  refine Rl_d hR (((ag.rf.zu ?_).zu ?_).zu ?_) ?_ ?_
  · unfold oD; omega
  · unfold oD; omega
  · unfold oD; omega
  · obtain ⟨h1, h2, ⟨pn, p1, p2, p3⟩, ⟨wn, w1, w2, w3⟩, h5, h6, h7⟩ := hR.1
    refine ⟨?_, ?_, ⟨pn, p1, ?_, ?_⟩, ⟨wn, w1, ?_, ?_⟩, fun t ht => ?_, fun t ht => ?_, fun t ht => ?_⟩
    · simp (disch := omega) only [zu_at, zu_r, zu_c]; exact h1
    · simp (disch := omega) only [zu_at, zu_r, zu_c]; exact h2
    · simp (disch := omega) only [zu_at, zu_r, zu_c]; exact p2
    · simp (disch := omega) only [zu_at, zu_r, zu_c]; exact p3
    · simp (disch := omega) only [zu_at, zu_r, zu_c]; exact w2
    · simp (disch := omega) only [zu_at, zu_r, zu_c]; exact w3
    · simp (disch := omega) only [zu_at, zu_r, zu_c]; exact h5 t ht
    · simp (disch := omega) only [zu_at, zu_r, zu_c]; exact h6 t ht
    · simp (disch := omega) only [zu_at, zu_r, zu_c]; exact h7 t ht
  · obtain ⟨⟨nm, n1, n2, n3⟩, h2, h3⟩ := hR.2.1
    refine ⟨⟨nm, n1, ?_, ?_⟩, ?_, ?_⟩
    · simp (disch := omega) only [zu_at, zu_r, zu_c]; exact n2
    · simp (disch := omega) only [zu_at, zu_r, zu_c]; exact n3
    · simp (disch := omega) only [zu_at, zu_r, zu_c]; exact h2
    · simp (disch := omega) only [zu_at, zu_r, zu_c]
theorem dgW_c {w w' : Nat → Int32} {h h' : Int32} {n : Nat} (e : ∀ k, k < n → w k = w' k) (eh : h = h') : dgW w h n = dgW w' h' n := by
  induction n with
  | zero => exact eh
  | succ n ih =>
    show zmix (dgW w h n) (w n) = zmix (dgW w' h' n) (w' n)
    rw [ih (fun k hk => e k (by omega)), e n (by omega)]
theorem dgP_c {a o g p a' o' g' p' : Nat → Int32} {h h' : Int32} {n : Nat} (e1 : ∀ k, k < n → a k = a' k) (e2 : ∀ k, k < n → o k = o' k) (e3 : ∀ k, k < n → g k = g' k) (e4 : ∀ k, k < n → p k = p' k) (eh : h = h') : dgP a o g p h n = dgP a' o' g' p' h' n := by
  induction n with
  | zero => exact eh
  | succ n ih =>
    rw [dgP_s, dgP_s, ih (fun k hk => e1 k (by omega)) (fun k hk => e2 k (by omega)) (fun k hk => e3 k (by omega)) (fun k hk => e4 k (by omega)), e1 n (by omega), e2 n (by omega), e3 n (by omega), e4 n (by omega)]
theorem dgL_m {f d : Nat → Int32} {h h' : Int32} {n : Nat} (e : ∀ k, k < n → rLv (f k) (d k)) (eh : h = h') : dgL f h n = mgL d h' n := by
  induction n with
  | zero => exact eh
  | succ n ih =>
    have i := ih (fun k hk => e k (by omega))
    have el := e n (by omega)
    by_cases z : f n = -1
    · rw [dgL_f z, mgL_f ((rLv_0 el).mp z), i]
    · rw [dgL_t z, mgL_t (fun y => z ((rLv_0 el).mpr y)), i]
      obtain ⟨v, hv, e1, e2⟩ := el
      rw [e1, e2, Int32.sub_eq_add_neg, Int32.sub_eq_add_neg, Int32.add_assoc]
theorem a_sea {σ τ : zm} (h1 : rPk σ 8) (h2 : rDx σ) (e : ∀ a b, 104 ≤ a → (a = 104 → b = 14) → τ a b = σ a b) {pn wn : Nat} (hp : pn ≤ 4) (hw : wn ≤ 24) : wsea τ pn wn = zsea σ 8 pn wn := by
  obtain ⟨a1, a2, -, -, a5, a6, a7⟩ := h1
  obtain ⟨⟨nm, n1, n2, n3⟩, b2, -⟩ := h2
  unfold wsea zsea zdig
  rw [e 107 8 (by omega) (by omega), ← a1, e 104 14 (by omega) (by omega), e 106 8 (by omega) (by omega), e 109 8 (by omega) (by omega), ← a2, ← b2, n2, n3]
  congr 1
  symm
  refine dgW_c (fun k hk => ?_) (dgP_c (fun k hk => ?_) (fun k hk => ?_) (fun k hk => ?_) (fun k hk => ?_) (dgL_m (fun k hk => ?_) rfl))
  · rw [e 117 _ (by omega) (by omega)]; exact a7 k (by omega)
  · rw [e 112 _ (by omega) (by omega)]; exact (a6 k (by omega)).1
  · rw [e 113 _ (by omega) (by omega)]
    obtain ⟨c1, c2⟩ := (a6 k (by omega)).2.1
    show σ (zp 8 + 3) k = if σ 113 (4 * 8 + k) = 0 then 0 else 1
    rw [← c1]
    rcases c2 with c2 | c2 <;> rw [c2] <;> rfl
  · rw [e 114 _ (by omega) (by omega)]; exact (a6 k (by omega)).2.2.1
  · rw [e 115 _ (by omega) (by omega)]; exact (a6 k (by omega)).2.2.2.2
  · rw [e 110 _ (by omega) (by omega)]; exact a5 k (by omega)
