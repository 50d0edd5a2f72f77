/-! the calls, one by one: the draft -/
theorem Rl_dr {σ τ : zm} (hR : Rl σ) (hA : ∀ n, n < 8 → ag (fA n) σ τ) (hQ : ag fQ σ τ) (hT : ag fT σ τ) (h8 : rPk τ 8) (hx : rDx τ) : Rl τ := ⟨h8, hx, fun n hn => rA_f (hA n hn) (hR.2.2.1 n hn), rQ_f hQ hR.2.2.2.1, rT_f hT hR.2.2.2.2.1, rU_f hA hR.2.2.2.2.2⟩
theorem Rl_wz {σ : zm} (hR : Rl σ) : Rl (wz σ) := by
  refine Rl_dr hR (fun n hn => ag.rf.zu (by unfold fA fPk zp za; omega)) (ag.rf.zu (by unfold fQ; omega)) (ag.rf.zu (by unfold fT; omega)) (rPk_f (ag.rf.zu (by unfold fPk zp; omega)) hR.1) (rDx_f (ag.rf.zu (by unfold fDx zp; omega)) hR.2.1)
theorem wfz_off (τ : zm) (n : Nat) {a : Nat} (h : a ≠ 110) (b : Nat) : wfz τ n a b = τ a b := if_neg (fun e => h e.1)
theorem wfz_in (τ : zm) {n b : Nat} (h1 : 64 ≤ b) (h2 : b < 64 + n) : wfz τ n 110 b = 0 := if_pos ⟨rfl, h1, h2⟩
theorem zfill_in (σ : zm) {j n b : Nat} (v : Int32) (h : b < n) : zfill σ j n v j b = v := if_pos ⟨rfl, h⟩
theorem zdok_n {n v g : Int32} (h : zdok n v g = true) : ∃ nm, nm < 8 ∧ n = nI nm := by
  unfold zdok at h
  rw [Bool.and_eq_true, Bool.and_eq_true] at h
  exact zin_of (n := 8) (by decide) h.1.1
theorem s_draft {σ : zm} (hR : Rl σ) {n v g : Int32} (h : zdok n v g = true) : Rl (wdr (zbeg σ 8 n v g) n v g) := by
  obtain ⟨nm, hnm, rfl⟩ := zdok_n h
  have hz : zp 8 = 65 := rfl
  refine Rl_dr hR (fun k hk => ?_) ?_ ?_ ?_ ?_
  · unfold wdr wz zbeg
    refine ag.wfz ?_ (fun j h1 h2 => by unfold fA fPk zp za; omega)
    repeat' first | exact ag.rf | refine ag.zu ?_ (by unfold fA fPk zp za; omega) | refine ag.fill ?_ (fun j hj => by unfold fA fPk zp za; omega)
  · unfold wdr wz zbeg
    refine ag.wfz ?_ (fun j h1 h2 => by unfold fQ; omega)
    repeat' first | exact ag.rf | refine ag.zu ?_ (by unfold fQ; omega) | refine ag.fill ?_ (fun j hj => by unfold fQ; omega)
  · unfold wdr wz zbeg
    refine ag.wfz ?_ (fun j h1 h2 => by unfold fT; omega)
    repeat' first | exact ag.rf | refine ag.zu ?_ (by unfold fT; omega) | refine ag.fill ?_ (fun j hj => by unfold fT; omega)
  · obtain ⟨-, -, -, -, -, h6, h7⟩ := hR.1
    unfold wdr wz zbeg
    refine ⟨?_, ?_, ⟨0, by omega, ?_, ?_⟩, ⟨0, by omega, ?_, ?_⟩, fun t ht => ⟨0, by omega, ?_, ?_⟩, fun t ht => ?_, fun t ht => ?_⟩
    · simp (disch := omega) only [wfz_off, zu_row, zu_col, zu_eq, zfill_off]
    · simp (disch := omega) only [wfz_off, zu_row, zu_col, zu_eq, zfill_off]
    · simp (disch := omega) only [wfz_off, zu_row, zu_col, zu_eq, zfill_off]; rfl
    · simp (disch := omega) only [wfz_off, zu_row, zu_col, zu_eq, zfill_off]; rfl
    · simp (disch := omega) only [wfz_off, zu_row, zu_col, zu_eq, zfill_off]; rfl
    · simp (disch := omega) only [wfz_off, zu_row, zu_col, zu_eq, zfill_off]; rfl
    · rw [wfz_in _ (by omega) (by omega)]; rfl
    · simp (disch := omega) only [wfz_off, zu_row, zu_col, zu_eq, zfill_in]; rfl
    · simp (disch := omega) only [wfz_off, zu_row, zu_col, zu_eq, zfill_off]; exact h6 t ht
    · simp (disch := omega) only [wfz_off, zu_row, zu_col, zu_eq, zfill_off]; exact h7 t ht
  · unfold wdr wz zbeg
    refine ⟨⟨nm, hnm, ?_, ?_⟩, ?_, ?_⟩ <;> simp (disch := omega) only [wfz_off, zu_row, zu_col, zu_eq, zfill_off]
