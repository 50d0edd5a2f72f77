/-! the draft's calls as pairs: answers alike, the relation kept -/
theorem zbt {b : Bool} (h : ¬ b = true) : b = false := by cases b <;> simp_all
theorem L_draft {σ σ1 σ2 : zm} {r1 r2 n v g : Int32} (hR : Rl σ) (h1 : r1 = zb (zdok n v g) ∧ σ1 = if zdok n v g then zbeg σ 8 n v g else σ) (h2 : r2 = zb (zdok n v g) ∧ σ2 = if zdok n v g then wdr σ1 n v g else wz σ1) : r1 = r2 ∧ Rl σ2 := by
  obtain ⟨rfl, rfl⟩ := h1
  obtain ⟨rfl, rfl⟩ := h2
  refine ⟨rfl, ?_⟩
  by_cases c : zdok n v g = true
  · rw [if_pos c, if_pos c]; exact s_draft hR c
  · rw [if_neg c, if_neg c]; exact Rl_wz hR
theorem K_word {σ σ1 : zm} {w : Int32} {n : Nat} (h0 : σ 116 8 = nI n) (h1 : σ1 = if n < 24 then zu (zu σ (zp 8 + 6) n w) (zp 8) 11 (nI (n + 1)) else σ) : σ1 116 8 = nI n := by
  have hz : zp 8 = 65 := rfl
  subst h1
  split
  · simp (disch := omega) only [zu_at, zu_r, zu_c]; exact h0
  · exact h0
theorem L_word {σ σ1 σ2 : zm} {r1 r2 w : Int32} {n : Nat} (hR : Rl σ) (h0 : σ (zp 8) 11 = nI n) (h1 : r1 = zb (decide (n < 24)) ∧ σ1 = if n < 24 then zu (zu σ (zp 8 + 6) n w) (zp 8) 11 (nI (n + 1)) else σ) (h2 : r2 = zb (decide (n < 24)) ∧ σ2 = if n < 24 then zu (zu (wz σ1) 117 (192 + n) w) 116 8 (nI (n + 1)) else wz σ1) : r1 = r2 ∧ Rl σ2 := by
  obtain ⟨rfl, rfl⟩ := h1
  obtain ⟨rfl, rfl⟩ := h2
  refine ⟨rfl, ?_⟩
  by_cases c : n < 24
  · rw [if_pos c, if_pos c]; exact s_word hR c h0 w
  · rw [if_neg c, if_neg c]; exact Rl_wz hR
theorem K_part {σ σ1 : zm} {a g p : Int32} {b : Bool} {n : Nat} (h0 : σ 111 8 = nI n) (h1 : σ1 = if zpok a g n then zpar σ 8 n a (zb b) g p else σ) : σ1 111 8 = nI n := by
  have hz : zp 8 = 65 := rfl
  subst h1
  split
  · unfold zpar
    simp (disch := omega) only [zu_at, zu_r, zu_c]; exact h0
  · exact h0
theorem L_part {σ σ1 σ2 : zm} {r1 r2 a g p : Int32} {b : Bool} {n : Nat} (hR : Rl σ) (h0 : σ (zp 8) 6 = nI n) (h1 : r1 = zb (zpok a g n) ∧ σ1 = if zpok a g n then zpar σ 8 n a (zb b) g p else σ) (h2 : r2 = zb (zpok a g n) ∧ σ2 = if zpok a g n then wpar σ1 n a (zb b) g p else wz σ1) : r1 = r2 ∧ Rl σ2 := by
  obtain ⟨rfl, rfl⟩ := h1
  obtain ⟨rfl, rfl⟩ := h2
  refine ⟨rfl, ?_⟩
  by_cases c : zpok a g n = true
  · rw [if_pos c, if_pos c]; exact s_part hR h0 c b p
  · rw [if_neg c, if_neg c]; exact Rl_wz hR
theorem L_ask {σ σ1 σ2 : zm} {r1 r2 x : Int32} (hR : Rl σ) (h1 : r1 = zb (zaok σ x) ∧ σ1 = if zaok σ x then zu σ (zp 8) 4 (σ (zp 8) 4 ||| (1 <<< (x &&& 31))) else σ) (h2 : r2 = zb (waok σ1 x) ∧ σ2 = if waok σ1 x then zu (wz σ1) 109 8 (σ1 109 8 ||| (1 <<< (x &&& 31))) else wz σ1) : r1 = r2 ∧ Rl σ2 := by
  have hz : zp 8 = 65 := rfl
  obtain ⟨rfl, rfl⟩ := h1
  obtain ⟨rfl, rfl⟩ := h2
  have e : ∀ b : Bool, (if b then zu σ (zp 8) 4 (σ (zp 8) 4 ||| (1 <<< (x &&& 31))) else σ) 109 8 = σ 109 8 := by
    intro b
    split
    · simp (disch := omega) only [zu_at, zu_r, zu_c]
    · rfl
  have e2 : ∀ b : Bool, waok (if b then zu σ (zp 8) 4 (σ (zp 8) 4 ||| (1 <<< (x &&& 31))) else σ) x = zaok σ x := by
    intro b
    rw [← a_ask hR]
    unfold waok
    rw [e]
  rw [e2, e]
  refine ⟨rfl, ?_⟩
  by_cases c : zaok σ x = true
  · rw [if_pos c, if_pos c]; exact s_ask hR x
  · rw [if_neg c, if_neg c]; exact Rl_wz hR
theorem L_declare {σ σ1 σ2 : zm} {r1 r2 x v : Int32} (hR : Rl σ) (h1 : r1 = zb (zeok σ x v) ∧ σ1 = if zeok σ x v then zu σ (zp 8 + 1) x.toNatClampNeg v else σ) (h2 : r2 = zb (weok σ1 x v) ∧ σ2 = if weok σ1 x v then zu (wz σ1) 110 (64 + x.toNatClampNeg) (v + 1) else wz σ1) : r1 = r2 ∧ Rl σ2 := by
  have hz : zp 8 = 65 := rfl
  obtain ⟨rfl, rfl⟩ := h1
  obtain ⟨rfl, rfl⟩ := h2
  have e2 : ∀ b : Bool, weok (if b then zu σ (zp 8 + 1) x.toNatClampNeg v else σ) x v = zeok σ x v := by
    intro b
    rw [← a_declare hR]
    unfold weok
    split
    · simp (disch := omega) only [zu_r]
    · rfl
  rw [e2]
  refine ⟨rfl, ?_⟩
  by_cases c : zeok σ x v = true
  · rw [if_pos c, if_pos c]; exact s_declare hR c
  · rw [if_neg c, if_neg c]; exact Rl_wz hR
theorem K_sign {σ σ1 : zm} {v : Int32} (h1 : σ1 = zu σ (zp 8) 3 v) : σ1 111 8 = σ 111 8 ∧ σ1 116 8 = σ 116 8 := by
  have hz : zp 8 = 65 := rfl
  subst h1
  simp (disch := omega) only [zu_r, and_self]
theorem L_sign {σ σ1 σ2 : zm} {r1 r2 : Int32} {pn wn : Nat} (hR : Rl σ) (hp : pn ≤ 4) (hw : wn ≤ 24) (h1 : r1 = zsea σ 8 pn wn ∧ σ1 = zu σ (zp 8) 3 (zsea σ 8 pn wn)) (h2 : r2 = wsea (wz σ1) pn wn ∧ σ2 = zu (wz σ1) 108 8 (wsea (wz σ1) pn wn)) : r1 = r2 ∧ Rl σ2 := by
  have hz : zp 8 = 65 := rfl
  obtain ⟨rfl, rfl⟩ := h1
  obtain ⟨rfl, rfl⟩ := h2
  have e : wsea (wz (zu σ (zp 8) 3 (zsea σ 8 pn wn))) pn wn = zsea σ 8 pn wn := a_sea hR.1 hR.2.1 (fun a b ha hb => by
    unfold wz
    by_cases z : a = 104
    · rw [zu_c _ _ (by omega), zu_r _ _ (by omega)]
    · rw [zu_r _ _ z, zu_r _ _ (by omega)]) hp hw
  rw [e]
  exact ⟨rfl, s_seal hR _⟩
theorem L_seal {σ σ1 σ2 : zm} {x : Int32} (hR : Rl σ) (h1 : σ1 = zu σ (zp 8) 3 x) (h2 : σ2 = zu (wz σ1) 108 8 x) : Rl σ2 := by
  subst h1
  subst h2
  exact s_seal hR x
