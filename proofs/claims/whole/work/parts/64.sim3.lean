/-! the calls on one app: what both answer of it, and what they leave as it was -/
/-- outside of app n's own state, of the queue, of the turn and of what is used for a while -/
def oA (n j k : Nat) : Prop := ¬ ((za n ≤ j ∧ j < za n + 4) ∨ ((j = 105 ∨ j = 120 ∨ j = 121 ∨ j = 122 ∨ j = 123) ∧ k = n) ∨ ((j = 118 ∨ j = 119) ∧ 8 * n ≤ k ∧ k < 8 * n + 8) ∨ (j = 124 ∧ 6 * n ≤ k ∧ k < 6 * n + 6) ∨ (j = 125 ∧ 4 * n ≤ k ∧ k < 4 * n + 4) ∨ (j = 104 ∧ (k = 0 ∨ k = 23 ∨ k = 24)) ∨ (j = 0 ∧ k = 4) ∨ j = 2 ∨ j = 3 ∨ j = 4 ∨ j = 5 ∨ j = 126 ∨ j = 127 ∨ j = 128 ∨ j = 129 ∨ j = 130 ∨ j = 6 ∨ j = 7 ∨ j = 8)
theorem oA_o {n m j k : Nat} (hn : n < 8) (hm : m < 8) (hne : m ≠ n) (h : fA m j k) : oA n j k := by
  unfold fA fPk zp za at h
  unfold oA za
  omega
theorem oA_p {n i j k : Nat} (hn : n < 8) (hi : i < 9) (h : fPk i j k) : oA n j k := by
  unfold fPk zp at h
  unfold oA za
  omega
theorem oA_x {n j k : Nat} (hn : n < 8) (h : fDx j k) : oA n j k := by
  unfold fDx zp at h
  unfold oA za
  omega
theorem Rl_a {σ τ : zm} {n : Nat} (hn : n < 8) (hR : Rl σ) (h : ag (oA n) σ τ) (hA : rA τ n) (hQ : rQ τ) (hT : rT τ) (h5 : ¬ τ 105 n = 0 → ¬ σ 105 n = 0) : Rl τ := by
  have ho : ∀ m, m < 8 → m ≠ n → ag (fA m) σ τ := fun m hm hne j k z => h j k (oA_o hn hm hne z)
  have hp : ∀ m, m < 9 → ag (fPk m) σ τ := fun m hm j k z => h j k (oA_p hn hm z)
  refine ⟨rPk_f (hp 8 (by omega)) hR.1, rDx_f (fun j k z => h j k (oA_x hn z)) hR.2.1, fun m hm => ?_, hQ, hT, ?_⟩
  · by_cases e : m = n
    · subst e; exact hA
    · exact rA_f (ho m hm e) (hR.2.2.1 m hm)
  · have e5 : ∀ a, a < 8 → ¬ τ 105 a = 0 → ¬ σ 105 a = 0 := fun a ha z => by
      by_cases e : a = n
      · subst e; exact h5 z
      · rw [ho a ha e 105 a (Or.inr (Or.inr (Or.inl ⟨by omega, rfl⟩)))] at z; exact z
    have e0 : ∀ a t, a < 8 → t < 8 → τ 110 (8 * a + t) = σ 110 (8 * a + t) := fun a t ha ht => hp a (by omega) 110 _ (Or.inr (Or.inr (Or.inl ⟨rfl, by omega, by omega⟩)))
    intro a b t ha hb ht za zb zc zd
    rw [e0 a t ha ht] at zc
    rw [e0 b t hb ht] at zd
    exact hR.2.2.2.2.2 a b t ha hb ht (e5 a ha za) (e5 b hb zb) zc zd
theorem rB_0 {x y : Int32} (h : rB x y) : decide (x = 0) = decide (y = 0) := by rw [h.1]
theorem a_inst {σ : zm} (hR : Rl σ) (n : Int32) : wapp σ n = zinst σ n := by
  unfold wapp zinst
  cases hx : zin n 8
  · rfl
  · obtain ⟨k, hk, rfl⟩ := zin_of (n := 8) (by decide) hx
    rw [nI_clamp (by omega), rB_0 (hR.2.2.1 k hk).2.1]
theorem zinst_of {σ : zm} {n : Int32} (h : zinst σ n = true) : ∃ k, k < 8 ∧ n = nI k ∧ ¬ σ (za k) 0 = 0 := by
  unfold zinst at h
  rw [Bool.and_eq_true] at h
  obtain ⟨k, hk, rfl⟩ := zin_of (n := 8) (by decide) h.1
  refine ⟨k, hk, rfl, ?_⟩
  have := h.2
  rw [nI_clamp (by omega)] at this
  simpa using this
theorem zinst_105 {σ : zm} (hR : Rl σ) {k : Nat} (hk : k < 8) (h : ¬ σ (za k) 0 = 0) : ¬ σ 105 k = 0 := by
  rw [← (hR.2.2.1 k hk).2.1.1]; exact h
theorem a_grant {σ : zm} (hR : Rl σ) (n x : Int32) : wgrok σ n x = zgrok σ n x := by
  unfold wgrok zgrok
  rw [a_inst hR]
  cases hi : zinst σ n
  · rfl
  · obtain ⟨k, hk, rfl, h0⟩ := zinst_of hi
    rw [nI_clamp (by omega)]
    have hA := hR.2.2.1 k hk
    rw [← hA.1.2.1, ← hA.2.2.2.2.1]
    unfold zhas
    cases zin x 8 <;> simp
theorem a_revoke {σ : zm} (hR : Rl σ) (n x : Int32) : wrvok σ n x = zrvok σ n x := by
  unfold wrvok zrvok
  rw [a_inst hR]
  cases hi : zinst σ n
  · rfl
  · obtain ⟨k, hk, rfl, h0⟩ := zinst_of hi
    rw [nI_clamp (by omega)]
    have hA := hR.2.2.1 k hk
    rw [← hA.2.2.2.2.1]
    unfold zhas
    cases zin x 8 <;> simp
/-- only what is granted changes -/
theorem s_gr {σ : zm} (hR : Rl σ) {k : Nat} (hk : k < 8) (h0 : ¬ σ 105 k = 0) (v : Int32) : Rl (zu (wz (zu σ (za k) 2 v)) 120 k v) := by
  have hz : za k = 72 + 4 * k := rfl
  have hzp : zp k = 9 + 7 * k := rfl
  unfold wz
  refine Rl_a hk hR (((ag.rf.zu ?_).zu ?_).zu ?_) ?_ ?_ ?_ ?_
  · unfold oA za; omega
  · unfold oA za; omega
  · unfold oA za; omega
  · obtain ⟨h1, h2, h3, h4, h5, h6, h7, h8, h9, h10⟩ := hR.2.2.1 k hk
    have hp : ag (fPk k) σ (zu (zu (zu σ (za k) 2 v) 104 0 0) 120 k v) := ((ag.rf.zu (by unfold fPk; omega)).zu (by unfold fPk; omega)).zu (by unfold fPk; omega)
    have hf : ag (fR k) σ (zu (zu (zu σ (za k) 2 v) 104 0 0) 120 k v) := ((ag.rf.zu (by unfold fR; omega)).zu (by unfold fR; omega)).zu (by unfold fR; omega)
    refine ⟨rPk_f hp h1, ?_, ?_, ?_, ?_, ?_, ⟨?_, ?_⟩, fun t ht => ?_, fun t ht => ?_, ?_⟩
    · simp (disch := omega) only [zu_at, zu_r, zu_c]; exact h2
    · simp (disch := omega) only [zu_at, zu_r, zu_c]; exact h3
    · simp (disch := omega) only [zu_at, zu_r, zu_c]
      intro z
      obtain ⟨a1, H, a2⟩ := h4 z
      exact ⟨a1, H, rC_f hp a2⟩
    · simp (disch := omega) only [zu_at, zu_r, zu_c]
    · simp (disch := omega) only [zu_at, zu_r, zu_c]; exact fun z => absurd z h0
    · simp (disch := omega) only [zu_at, zu_r, zu_c]; exact h7.1
    · rw [wcnt_c (σ := σ) (fun t ht => by simp (disch := omega) only [zu_at, zu_r, zu_c])]; exact h7.2
    · simp (disch := omega) only [zu_at, zu_r, zu_c]; exact h8 t ht
    · simp (disch := omega) only [zu_at, zu_r, zu_c]; exact h9 t ht
    · simp (disch := omega) only [zu_at, zu_r, zu_c]
      exact fun z => rRun_f hp hf (h10 z)
  · exact rQ_f (((ag.rf.zu (by unfold fQ; omega)).zu (by unfold fQ; omega)).zu (by unfold fQ; omega)) hR.2.2.2.1
  · exact rT_f (((ag.rf.zu (by unfold fT; omega)).zu (by unfold fT; omega)).zu (by unfold fT; omega)) hR.2.2.2.2.1
  · exact fun _ => h0
theorem L_grant {σ σ1 σ2 : zm} {r1 r2 n x : Int32} (hR : Rl σ) (h1 : r1 = zb (zgrok σ n x) ∧ σ1 = if zgrok σ n x then zu σ (za n.toNatClampNeg) 2 (σ (za n.toNatClampNeg) 2 ||| (1 <<< (x &&& 31))) else σ) (h2 : r2 = zb (wgrok σ1 n x) ∧ σ2 = if wgrok σ1 n x then zu (wz σ1) 120 n.toNatClampNeg (σ1 120 n.toNatClampNeg ||| (1 <<< (x &&& 31))) else wz σ1) : r1 = r2 ∧ Rl σ2 := by
  obtain ⟨rfl, rfl⟩ := h1
  obtain ⟨rfl, rfl⟩ := h2
  by_cases c : zgrok σ n x = true
  · have hi : zinst σ n = true := by
      unfold zgrok at c
      simp only [Bool.and_eq_true] at c
      exact c.1.1
    obtain ⟨k, hk, rfl, h0⟩ := zinst_of hi
    have hz : za k = 72 + 4 * k := rfl
    rw [if_pos c, nI_clamp (by omega)]
    have e : ∀ v, wgrok (zu σ (za k) 2 v) (nI k) x = true := fun v => by
      rw [← c, ← a_grant hR]
      unfold wgrok wapp
      rw [nI_clamp (by omega)]
      simp (disch := omega) only [zu_r]
    rw [e, if_pos rfl, c]
    refine ⟨rfl, ?_⟩
    rw [zu_r _ _ (by omega), ← (hR.2.2.1 k hk).2.2.2.2.1]
    exact s_gr hR hk (zinst_105 hR hk h0) _
  · rw [if_neg c, a_grant hR, if_neg c]
    exact ⟨rfl, Rl_wz hR⟩
theorem L_revoke {σ σ1 σ2 : zm} {r1 r2 n x : Int32} (hR : Rl σ) (h1 : r1 = zb (zrvok σ n x) ∧ σ1 = if zrvok σ n x then zu σ (za n.toNatClampNeg) 2 (σ (za n.toNatClampNeg) 2 &&& ((1 <<< (x &&& 31)) ^^^ (-1))) else σ) (h2 : r2 = zb (wrvok σ1 n x) ∧ σ2 = if wrvok σ1 n x then zu (wz σ1) 120 n.toNatClampNeg (σ1 120 n.toNatClampNeg &&& ((1 <<< (x &&& 31)) ^^^ (-1))) else wz σ1) : r1 = r2 ∧ Rl σ2 := by
  obtain ⟨rfl, rfl⟩ := h1
  obtain ⟨rfl, rfl⟩ := h2
  by_cases c : zrvok σ n x = true
  · have hi : zinst σ n = true := by
      unfold zrvok at c
      simp only [Bool.and_eq_true] at c
      exact c.1
    obtain ⟨k, hk, rfl, h0⟩ := zinst_of hi
    have hz : za k = 72 + 4 * k := rfl
    rw [if_pos c, nI_clamp (by omega)]
    have e : ∀ v, wrvok (zu σ (za k) 2 v) (nI k) x = true := fun v => by
      rw [← c, ← a_revoke hR]
      unfold wrvok wapp
      rw [nI_clamp (by omega)]
      simp (disch := omega) only [zu_r]
    rw [e, if_pos rfl, c]
    refine ⟨rfl, ?_⟩
    rw [zu_r _ _ (by omega), ← (hR.2.2.1 k hk).2.2.2.2.1]
    exact s_gr hR hk (zinst_105 hR hk h0) _
  · rw [if_neg c, a_revoke hR, if_neg c]
    exact ⟨rfl, Rl_wz hR⟩
