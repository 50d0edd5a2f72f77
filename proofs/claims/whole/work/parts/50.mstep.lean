/-! the reference's does and step -/
def wKy (σ : zm) (a o h : Nat) (n : Int32) : Prop := ((o = 6 ∨ o = 7) → ∃ j, j < 4 ∧ n = nI j) ∧ (o = 10 → ∃ j, j < 8 ∧ σ 124 (6 * a + (h - 1 - 0)) = nI j) ∧ (o = 11 → ∃ j, j < 8 ∧ σ 124 (6 * a + (h - 1 - 1)) = nI j)
def wbin (σ : zm) (a o h : Nat) : Int32 := if o = 2 then σ 124 (6 * a + (h - 1 - 1)) + σ 124 (6 * a + (h - 1 - 0)) else σ 124 (6 * a + (h - 1 - 1)) - σ 124 (6 * a + (h - 1 - 0))
def wnx9 (σ : zm) (a h : Nat) (n : Int32) : Int32 := if σ 124 (6 * a + (h - 1 - 0)) = 0 then σ 122 a + n else σ 122 a + 1
def wdoe (σ : zm) (a o : Nat) (n : Int32) (h z : Nat) : zm × Int32 :=
  if o = 0 then (zu σ 121 a 0, σ 122 a + 1) else if o = 1 then (wpsh σ a h n, σ 122 a + 1) else if o = 2 ∨ o = 3 then (wpsh (zu σ 123 a (nI (h - 2))) a (h - 2) (wbin σ a o h), σ 122 a + 1) else if o = 4 then (wpsh σ a h (σ 124 (6 * a + (h - 1 - 0))), σ 122 a + 1) else if o = 5 then (zu σ 123 a (nI (h - 1)), σ 122 a + 1) else if o = 6 then (wpsh σ a h (σ 125 (4 * a + n.toNatClampNeg)), σ 122 a + 1) else if o = 7 then (zu (zu σ 125 (4 * a + n.toNatClampNeg) (σ 124 (6 * a + (h - 1 - 0)))) 123 a (nI (h - 1)), σ 122 a + 1) else if o = 8 then (σ, σ 122 a + n) else if o = 9 then (zu σ 123 a (nI (h - 1)), wnx9 σ a h n) else (wact σ a o n h z, σ 122 a + 1)
section WDO
variable {σ : zm} {a o h z j : Nat} {n : Int32}
theorem wdo_0 (e : o = 0) : wdoe σ a o n h z = (zu σ 121 a 0, σ 122 a + 1) := if_pos e
theorem wdo_1 (e : o = 1) : wdoe σ a o n h z = (wpsh σ a h n, σ 122 a + 1) := by subst e; rfl
theorem wdo_2 (e : o = 2 ∨ o = 3) : wdoe σ a o n h z = (wpsh (zu σ 123 a (nI (h - 2))) a (h - 2) (wbin σ a o h), σ 122 a + 1) := by rcases e with rfl | rfl <;> rfl
theorem wdo_4 (e : o = 4) : wdoe σ a o n h z = (wpsh σ a h (σ 124 (6 * a + (h - 1 - 0))), σ 122 a + 1) := by subst e; rfl
theorem wdo_5 (e : o = 5) : wdoe σ a o n h z = (zu σ 123 a (nI (h - 1)), σ 122 a + 1) := by subst e; rfl
theorem wdo_6 (e : o = 6) (hj : n.toNatClampNeg = j) : wdoe σ a o n h z = (wpsh σ a h (σ 125 (4 * a + j)), σ 122 a + 1) := by subst e; subst hj; rfl
theorem wdo_7 (e : o = 7) (hj : n.toNatClampNeg = j) : wdoe σ a o n h z = (zu (zu σ 125 (4 * a + j) (σ 124 (6 * a + (h - 1 - 0)))) 123 a (nI (h - 1)), σ 122 a + 1) := by subst e; subst hj; rfl
theorem wdo_8 (e : o = 8) : wdoe σ a o n h z = (σ, σ 122 a + n) := by subst e; rfl
theorem wdo_9 (e : o = 9) : wdoe σ a o n h z = (zu σ 123 a (nI (h - 1)), wnx9 σ a h n) := by subst e; rfl
theorem wdo_a (e : o = 10 ∨ o = 11 ∨ o = 12 ∨ o = 13) : wdoe σ a o n h z = (wact σ a o n h z, σ 122 a + 1) := by rcases e with rfl | rfl | rfl | rfl <;> rfl
theorem wdo_n2 (e : o = 2 ∨ o = 3) (hN : mNd o ≤ h) : 2 ≤ h := by rcases e with rfl | rfl <;> exact hN
theorem wdo_r (ho : o < 14) (h0 : ¬ nI o = 0) (h1 : ¬ nI o = 1) (h2 : ¬ nI o = 2) (h3 : ¬ nI o = 3) (h4 : ¬ nI o = 4) (h5 : ¬ nI o = 5) (h6 : ¬ nI o = 6) (h7 : ¬ nI o = 7) (h8 : ¬ nI o = 8) (h9 : ¬ nI o = 9) : o = 10 ∨ o = 11 ∨ o = 12 ∨ o = 13 := by
  have e : ∀ j, ¬ nI o = nI j → ¬ o = j := fun j hj z => hj (by rw [z])
  have := e 0 h0
  have := e 1 h1
  have := e 2 h2
  have := e 3 h3
  have := e 4 h4
  have := e 5 h5
  have := e 6 h6
  have := e 7 h7
  have := e 8 h8
  have := e 9 h9
  omega
end WDO
/-- the first of f numbers from i on that P has; b if there is none -/
def zfsb (P : Nat → Bool) (b : Int32) : Nat → Nat → Int32
  | 0, _ => b
  | f + 1, i => if P i then nI i else zfsb P b f (i + 1)
theorem zfsb_t {P : Nat → Bool} {b : Int32} {k : Nat} (h1 : 1 ≤ k) (h8 : k ≤ 8) (h : P (k - 1) = true) : zfsb P b (8 - (k - 1)) (k - 1) = nI (k - 1) := by
  rw [show 8 - (k - 1) = (8 - k) + 1 by omega]
  exact if_pos h
theorem zfsb_f {P : Nat → Bool} {b : Int32} {k : Nat} (h1 : 1 ≤ k) (h8 : k ≤ 8) (h : P (k - 1) = false) : zfsb P b (8 - (k - 1)) (k - 1) = zfsb P b (8 - k) k := by
  rw [show 8 - (k - 1) = (8 - k) + 1 by omega]
  show (if P (k - 1) then nI (k - 1) else zfsb P b (8 - k) (k - 1 + 1)) = _
  rw [if_neg (zif_f h), show k - 1 + 1 = k by omega]
theorem zfsb_or {P : Nat → Bool} {b : Int32} : ∀ {f i : Nat}, zfsb P b f i = b ∨ ∃ k, i ≤ k ∧ k < i + f ∧ zfsb P b f i = nI k ∧ P k = true
  | 0, _ => Or.inl rfl
  | f + 1, i => by
    cases hp : P i with
    | true => exact Or.inr ⟨i, by omega, by omega, if_pos hp, hp⟩
    | false =>
      have e : zfsb P b (f + 1) i = zfsb P b f (i + 1) := if_neg (zif_f hp)
      rw [e]
      rcases zfsb_or (P := P) (b := b) (f := f) (i := i + 1) with h | ⟨k, h1, h2, h3⟩
      · exact Or.inl h
      · exact Or.inr ⟨k, by omega, by omega, h3⟩
def wPr (σ : zm) (a : Nat) : Bool := !decide (σ 121 a = 0)
theorem wPr_t {σ : zm} {a : Nat} (h : ¬ σ 121 a = 0) : wPr σ a = true := by unfold wPr; rw [decide_eq_false h]; rfl
theorem wPr_f {σ : zm} {a : Nat} (h : σ 121 a = 0) : wPr σ a = false := by unfold wPr; rw [decide_eq_true h]; rfl
def wnam (σ : zm) (L : Nat) : Int32 := zfsb (wPr σ) (zfsb (wPr σ) (-1) 8 0) (8 - L) L
theorem wnam_or {σ : zm} {L : Nat} (hL : L ≤ 8 := by omega) : wnam σ L = -1 ∨ ∃ a, a < 8 ∧ wnam σ L = nI a ∧ ¬ σ 121 a = 0 := by
  have pr : ∀ a, wPr σ a = true → ¬ σ 121 a = 0 := fun a h z => by rw [wPr_f z] at h; cases h
  unfold wnam
  rcases zfsb_or (P := wPr σ) (b := zfsb (wPr σ) (-1) 8 0) (f := 8 - L) (i := L) with h | ⟨k, h1, h2, h3, h4⟩
  · rw [h]
    rcases zfsb_or (P := wPr σ) (b := -1) (f := 8) (i := 0) with h | ⟨k, h1, h2, h3, h4⟩
    · exact Or.inl h
    · exact Or.inr ⟨k, by omega, h3, pr k h4⟩
  · exact Or.inr ⟨k, by omega, h3, pr k h4⟩
theorem wnam_n {σ : zm} {L : Nat} (h : ¬ 0 ≤ wnam σ L) (hL : L ≤ 8 := by omega) : wnam σ L = -1 := by
  rcases wnam_or (σ := σ) hL with e | ⟨a, ha, e, -⟩
  · exact e
  · rw [e] at h; exact absurd (nI_pos' (by omega)) h
theorem wnam_a {σ : zm} {L : Nat} (h : 0 ≤ wnam σ L) (hL : L ≤ 8 := by omega) : ∃ a, a < 8 ∧ wnam σ L = nI a ∧ ¬ σ 121 a = 0 := by
  rcases wnam_or (σ := σ) hL with e | e
  · rw [e] at h; exact absurd h (by decide)
  · exact e
theorem nI_p {k : Nat} (h : 1 ≤ k) : nI k - 1 = nI (k - 1) := pk_sub (a := k) (b := 1) h
theorem z_dec (x : Int32) : x + Int32.ofInt (-1) = x - 1 := by
  rw [Int32.sub_eq_add_neg]
  rfl
theorem z_le1 {k L : Nat} (h : k ≤ L) (hL : L ≤ 8) : nI k - 1 ≤ nI L - 1 := by
  have : ∀ L, L ≤ 8 → ∀ k, k ≤ L → nI k - 1 ≤ nI L - 1 := by decide +kernel
  exact this L hL k h
theorem z_gt1 {k L : Nat} (h1 : 1 ≤ k) (h : L < k) (hk : k ≤ 8) : ¬ nI (k - 1) ≤ nI L - 1 := by
  have : ∀ k, k ≤ 8 → ∀ L, L < k → ¬ nI (k - 1) ≤ nI L - 1 := by decide +kernel
  exact this k hk L h
/-- a running app of the reference: where it is, how high its stack is, what its word is, and that the word may be done -/
def wRn (σ : zm) (a p h o : Nat) : Prop := p < 24 ∧ h ≤ 6 ∧ o < 14 ∧ σ 122 a = nI p ∧ σ 123 a = nI h ∧ σ 117 (24 * a + p) &&& 15 = nI o ∧ mNd o ≤ h ∧ h - mNd o + mLv o ≤ 6 ∧ ((o = 6 ∨ o = 7) → ∃ j, j < 4 ∧ σ 117 (24 * a + p) >>> ((4 : Int32) &&& 31) = nI j)
def wRuns (σ : zm) : Prop := ∀ a, a < 8 → ¬ σ 121 a = 0 → ∃ p h o, wRn σ a p h o
theorem wst_ix {σ : zm} {a p h o : Nat} (ha : a < 8) (hR : wRn σ a p h o) : 24 * a + p < 216 := by have := hR.1; omega
def wst1 (σ : zm) (a : Nat) : zm := zu (wz σ) 104 23 (nI a)
theorem wst1_e {σ : zm} {a p h o : Nat} (hR : wRn σ a p h o) : wst1 σ a 123 a = nI h := by
  unfold wst1
  rw [zu_row _ _ (by decide), wz_row _ (by decide)]
  exact hR.2.2.2.2.1
theorem wst1_q {σ : zm} {a z : Nat} (h : σ 104 24 = nI z) : wst1 σ a 104 24 = nI z := by
  unfold wst1 wz
  rw [zu_ne _ _ (Or.inr (by decide)), zu_ne _ _ (Or.inr (by decide))]
  exact h
theorem wKy_of {σ : zm} {a p h o : Nat} (hR : wRn σ a p h o) (hf : wfai (wst1 σ a) a o h = false) : wKy (wst1 σ a) a o h (σ 117 (24 * a + p) >>> ((4 : Int32) &&& 31)) := by
  refine ⟨hR.2.2.2.2.2.2.2.2, fun e => ?_, fun e => ?_⟩
  · subst e
    rw [wf_10] at hf
    have hf2 : zin (wst1 σ a 124 (6 * a + (h - 1 - 0))) 8 = true := by
      cases hz : zin (wst1 σ a 124 (6 * a + (h - 1 - 0))) 8 with
      | true => rfl
      | false => rw [hz] at hf; cases hf
    exact zin_of (n := 8) (by decide) hf2
  · subst e
    have hf2 : zin (wst1 σ a 124 (6 * a + (h - 1 - 1))) 8 = true := by
      cases hz : zin (wst1 σ a 124 (6 * a + (h - 1 - 1))) 8 with
      | true => rfl
      | false => rw [wf_11a hz] at hf; cases hf
    exact zin_of (n := 8) (by decide) hf2
def wStp (σ : zm) (L z : Nat) (r : Int32) (τ : zm) : Prop := (wnam σ L = -1 ∧ r = -1 ∧ τ = wz σ) ∨ ∃ a p h o, a < 8 ∧ wnam σ L = nI a ∧ ¬ σ 121 a = 0 ∧ wRn σ a p h o ∧ (if wfai (wst1 σ a) a o h then r = 0 ∧ τ = zu (zu (wst1 σ a) 121 a 0) 104 0 1 else r = nI a ∧ τ = zu (wdoe (wst1 σ a) a o (σ 117 (24 * a + p) >>> ((4 : Int32) &&& 31)) h z).1 122 a (wdoe (wst1 σ a) a o (σ 117 (24 * a + p) >>> ((4 : Int32) &&& 31)) h z).2)
set_option maxHeartbeats 4000000 in
set_option maxRecDepth 100000 in
theorem c_M_does (l : Launch) (D : va_G) (K : Nat → ClassId) (q : Nat → Nat) (hq : zI q) (a h o : Nat) (ha : a < 8) (ho : o < 14) (hN : mNd o ≤ h) (hL : h - mNd o + mLv o ≤ 6) (hh : h ≤ 6) (n : Int32) (σ : zm) (e0 : σ 123 a = nI h) (hky : wKy σ a o h n) (z : Nat) (hz : z ≤ 8) (hqz : σ 104 24 = nI z) : zMv l y_M_does b_M_does 8 none 4 D K q [.ref (q (104)), .int (nI a), .int (nI o), .int (n)] σ (fun σ' => σ' = zu (wdoe σ a o n h z).1 122 a (wdoe σ a o n h z).2) := by
  refine zMv.of (own := "AppDeskModel") (lv := [(0, .ref (q (104))), (1, .int (nI a)), (2, .int (nI o)), (3, .int (n))]) (by decide) rfl hq (Nat.le_of_ble_eq_true rfl) rfl ?_
  intro p e s m below meth c hC hr hlk
  have ho16 : o < 16 := by omega
  have J275 : ∀ (τ : zm) (nx : Int32) (hτ : wdoe σ a o n h z = (τ, nx)), zG p l e (zrm 4) s m ([.ref (q (104)), .int (nI a), .int (nI o), .int (n)] : List Value).toArray below meth c D K q (zA q) 8 0 0 (MQ below (va_Qv (fun σ' => σ' = zu (wdoe σ a o n h z).1 122 a (wdoe σ a o n h z).2) (zO D K q) (zA q)) ([.ref (q (104)), .int (nI a), .int (nI o), .int (n)] : List Value).toArray s 0 0 (zA q)) τ 275 [(0, .ref (q (104))), (1, .int (nI a)), (5, .int (nx))] [] := by
    intro τ nx hτ
    refine g_aload_n hC d_M_does_275 rfl rfl ?_
    refine g_getR hC _ 5 19 _ (by decide) rfl rfl fl_M_62 d_M_does_276 rfl ?_
    refine g_iload_n hC d_M_does_279 rfl rfl ?_
    refine g_iload hC d_M_does_280 rfl rfl ?_
    refine g_iast hC _ _ a (by decide) rfl rfl ha (by decide) d_M_does_282 rfl ?_
    exact g_vret hC hr hlk d_M_does_283 (by rw [hτ])
  refine g_aload_n hC d_M_does_0 rfl rfl ?_
  refine g_getR hC _ 5 20 _ (by decide) rfl rfl fl_M_65 d_M_does_1 rfl ?_
  refine g_iload_n hC d_M_does_4 rfl rfl ?_
  refine g_ialdV hC _ _ a (nI h) (e0) (by decide) rfl rfl ha (by decide) d_M_does_5 rfl ?_
  refine g_istore hC d_M_does_6 rfl (by decide) ?_
  refine g_aload_n hC d_M_does_8 rfl rfl ?_
  refine g_getR hC _ 5 19 _ (by decide) rfl rfl fl_M_62 d_M_does_9 rfl ?_
  refine g_iload_n hC d_M_does_12 rfl rfl ?_
  refine g_iald hC _ _ a (by decide) rfl rfl ha (by decide) d_M_does_13 rfl ?_
  refine g_iconst hC (1) d_M_does_14 (by decide) rfl ?_
  refine g_iadd hC d_M_does_15 rfl ?_
  refine g_istore hC d_M_does_16 rfl (by decide) ?_
  refine g_iload_n hC d_M_does_18 rfl rfl ?_
  refine g_if_ne hC 32 d_M_does_19 rfl rfl (fun h19 => ?_) (fun h19 => ?_)
  ·
    refine g_iload_n hC d_M_does_32 rfl rfl ?_
    refine g_iconst hC (1) d_M_does_33 (by decide) rfl ?_
    refine g_icmp_ne hC 46 d_M_does_34 rfl rfl (fun h34 => ?_) (fun h34 => ?_)
    ·
      refine g_iload_n hC d_M_does_46 rfl rfl ?_
      refine g_iconst hC (2) d_M_does_47 (by decide) rfl ?_
      refine g_icmp_eq hC 56 d_M_does_48 rfl rfl (fun h48 => ?_) (fun h48 => ?_)
      ·
        have ho_ : o = 2 ∨ o = 3 := by first | exact Or.inl (go_n (j := 2) ho16 (by decide) h48) | exact Or.inr (go_n (j := 3) ho16 (by decide) h53)
        have hN_ : 2 ≤ h := wdo_n2 ho_ hN
        refine g_aload_n hC d_M_does_56 rfl rfl ?_
        refine g_iload_n hC d_M_does_57 rfl rfl ?_
        refine g_iconst hC (0) d_M_does_58 (by decide) rfl ?_
        refine g_goi hC rfl (z_runV hC (c_M_top l D K q hq a 0 h ha (by omega) hh _ e0) yy_M_top yv_M_154 (by decide) rfl ⟨Nat.le_of_ble_eq_true rfl, Nat.le_of_ble_eq_true rfl⟩ ⟨Nat.zero_le _, Nat.zero_le _⟩ rfl (Nat.le_of_ble_eq_true rfl) d_M_does_59) (fun r0 σ0 q0 => ?_)
        obtain ⟨rfl, w0⟩ := q0
        obtain rfl := w0.symm
        refine g_istore hC d_M_does_62 rfl (by decide) ?_
        refine g_aload_n hC d_M_does_64 rfl rfl ?_
        refine g_iload_n hC d_M_does_65 rfl rfl ?_
        refine g_iconst hC (1) d_M_does_66 (by decide) rfl ?_
        refine g_goi hC rfl (z_runV hC (c_M_top l D K q hq a 1 h ha (by omega) hh _ e0) yy_M_top yv_M_154 (by decide) rfl ⟨Nat.le_of_ble_eq_true rfl, Nat.le_of_ble_eq_true rfl⟩ ⟨Nat.zero_le _, Nat.zero_le _⟩ rfl (Nat.le_of_ble_eq_true rfl) d_M_does_67) (fun r1 σ1 q1 => ?_)
        obtain ⟨rfl, w1⟩ := q1
        obtain rfl := w1.symm
        refine g_istore hC d_M_does_70 rfl (by decide) ?_
        refine g_aload_n hC d_M_does_72 rfl rfl ?_
        refine g_getR hC _ 5 20 _ (by decide) rfl rfl fl_M_65 d_M_does_73 rfl ?_
        refine g_iload_n hC d_M_does_76 rfl rfl ?_
        refine g_iload hC d_M_does_77 rfl rfl ?_
        refine g_iconst hC (2) d_M_does_79 (by decide) rfl ?_
        refine g_isub hC d_M_does_80 rfl ?_
        refine g_top hC (nI (h - 2)) (pk_sub (a := h) (b := 2) (by omega)) ?_
        refine g_iast hC _ _ a (by decide) rfl rfl ha (by decide) d_M_does_81 rfl ?_
        refine g_aload_n hC d_M_does_82 rfl rfl ?_
        refine g_iload_n hC d_M_does_83 rfl rfl ?_
        refine g_iload_n hC d_M_does_84 rfl rfl ?_
        refine g_iconst hC (2) d_M_does_85 (by decide) rfl ?_
        refine g_icmp_ne hC 97 d_M_does_86 rfl rfl (fun h86 => ?_) (fun h86 => ?_)
        ·
          refine g_iload hC d_M_does_97 rfl rfl ?_
          refine g_iload hC d_M_does_99 rfl rfl ?_
          refine g_isub hC d_M_does_101 rfl ?_
          refine g_top hC (wbin σ a o h) ((if_neg (fun z => h86 (by rw [z]; rfl))).symm) ?_
          refine g_gov hC rfl (z_runV hC (c_M_push l D K q hq a (h - 2) ha (by omega) _ _ (zu_eq _ _ _ _)) yy_M_push yv_M_166 (by decide) rfl ⟨Nat.le_of_ble_eq_true rfl, Nat.le_of_ble_eq_true rfl⟩ ⟨Nat.zero_le _, Nat.zero_le _⟩ rfl (Nat.le_of_ble_eq_true rfl) d_M_does_102) (fun σ2 q2 => ?_)
          obtain rfl := q2.symm
          refine g_goto hC 275 d_M_does_105 rfl ?_
          first | exact zG.to (J275 _ _ (wdo_0 ho_)) rfl rfl ⟨rfl, rfl, rfl, trivial⟩ | exact zG.to (J275 _ _ (wdo_1 ho_)) rfl rfl ⟨rfl, rfl, rfl, trivial⟩ | exact zG.to (J275 _ _ (wdo_2 ho_)) rfl rfl ⟨rfl, rfl, rfl, trivial⟩ | exact zG.to (J275 _ _ (wdo_4 ho_)) rfl rfl ⟨rfl, rfl, rfl, trivial⟩ | exact zG.to (J275 _ _ (wdo_5 ho_)) rfl rfl ⟨rfl, rfl, rfl, trivial⟩ | exact zG.to (J275 _ _ (wdo_6 ho_ hjc)) rfl rfl ⟨rfl, rfl, rfl, trivial⟩ | exact zG.to (J275 _ _ (wdo_7 ho_ hjc)) rfl rfl ⟨rfl, rfl, rfl, trivial⟩ | exact zG.to (J275 _ _ (wdo_8 ho_)) rfl rfl ⟨rfl, rfl, rfl, trivial⟩ | exact zG.to (J275 _ _ (wdo_9 ho_)) rfl rfl ⟨rfl, rfl, rfl, trivial⟩ | exact zG.to (J275 _ _ (wdo_a ho_)) rfl rfl ⟨rfl, rfl, rfl, trivial⟩
        ·
          refine g_iload hC d_M_does_89 rfl rfl ?_
          refine g_iload hC d_M_does_91 rfl rfl ?_
          refine g_iadd hC d_M_does_93 rfl ?_
          refine g_top hC (wbin σ a o h) ((if_pos (go_n (j := 2) ho16 (by decide) h86)).symm) ?_
          refine g_goto hC 102 d_M_does_94 rfl ?_
          refine g_gov hC rfl (z_runV hC (c_M_push l D K q hq a (h - 2) ha (by omega) _ _ (zu_eq _ _ _ _)) yy_M_push yv_M_166 (by decide) rfl ⟨Nat.le_of_ble_eq_true rfl, Nat.le_of_ble_eq_true rfl⟩ ⟨Nat.zero_le _, Nat.zero_le _⟩ rfl (Nat.le_of_ble_eq_true rfl) d_M_does_102) (fun σ3 q3 => ?_)
          obtain rfl := q3.symm
          refine g_goto hC 275 d_M_does_105 rfl ?_
          first | exact zG.to (J275 _ _ (wdo_0 ho_)) rfl rfl ⟨rfl, rfl, rfl, trivial⟩ | exact zG.to (J275 _ _ (wdo_1 ho_)) rfl rfl ⟨rfl, rfl, rfl, trivial⟩ | exact zG.to (J275 _ _ (wdo_2 ho_)) rfl rfl ⟨rfl, rfl, rfl, trivial⟩ | exact zG.to (J275 _ _ (wdo_4 ho_)) rfl rfl ⟨rfl, rfl, rfl, trivial⟩ | exact zG.to (J275 _ _ (wdo_5 ho_)) rfl rfl ⟨rfl, rfl, rfl, trivial⟩ | exact zG.to (J275 _ _ (wdo_6 ho_ hjc)) rfl rfl ⟨rfl, rfl, rfl, trivial⟩ | exact zG.to (J275 _ _ (wdo_7 ho_ hjc)) rfl rfl ⟨rfl, rfl, rfl, trivial⟩ | exact zG.to (J275 _ _ (wdo_8 ho_)) rfl rfl ⟨rfl, rfl, rfl, trivial⟩ | exact zG.to (J275 _ _ (wdo_9 ho_)) rfl rfl ⟨rfl, rfl, rfl, trivial⟩ | exact zG.to (J275 _ _ (wdo_a ho_)) rfl rfl ⟨rfl, rfl, rfl, trivial⟩
      ·
        refine g_iload_n hC d_M_does_51 rfl rfl ?_
        refine g_iconst hC (3) d_M_does_52 (by decide) rfl ?_
        refine g_icmp_ne hC 108 d_M_does_53 rfl rfl (fun h53 => ?_) (fun h53 => ?_)
        ·
          refine g_iload_n hC d_M_does_108 rfl rfl ?_
          refine g_iconst hC (4) d_M_does_109 (by decide) rfl ?_
          refine g_icmp_ne hC 127 d_M_does_110 rfl rfl (fun h110 => ?_) (fun h110 => ?_)
          ·
            refine g_iload_n hC d_M_does_127 rfl rfl ?_
            refine g_iconst hC (5) d_M_does_128 (by decide) rfl ?_
            refine g_icmp_ne hC 145 d_M_does_129 rfl rfl (fun h129 => ?_) (fun h129 => ?_)
            ·
              refine g_iload_n hC d_M_does_145 rfl rfl ?_
              refine g_bipush hC (6) d_M_does_146 (by decide) rfl ?_
              refine g_icmp_ne hC 169 d_M_does_148 rfl rfl (fun h148 => ?_) (fun h148 => ?_)
              ·
                refine g_iload_n hC d_M_does_169 rfl rfl ?_
                refine g_bipush hC (7) d_M_does_170 (by decide) rfl ?_
                refine g_icmp_ne hC 204 d_M_does_172 rfl rfl (fun h172 => ?_) (fun h172 => ?_)
                ·
                  refine g_iload_n hC d_M_does_204 rfl rfl ?_
                  refine g_bipush hC (8) d_M_does_205 (by decide) rfl ?_
                  refine g_icmp_ne hC 223 d_M_does_207 rfl rfl (fun h207 => ?_) (fun h207 => ?_)
                  ·
                    refine g_iload_n hC d_M_does_223 rfl rfl ?_
                    refine g_bipush hC (9) d_M_does_224 (by decide) rfl ?_
                    refine g_icmp_ne hC 266 d_M_does_226 rfl rfl (fun h226 => ?_) (fun h226 => ?_)
                    ·
                      have ho_ : o = 10 ∨ o = 11 ∨ o = 12 ∨ o = 13 := wdo_r ho h19 h34 h48 h53 h110 h129 h148 h172 h207 h226
                      refine g_aload_n hC d_M_does_266 rfl rfl ?_
                      refine g_iload_n hC d_M_does_267 rfl rfl ?_
                      refine g_iload_n hC d_M_does_268 rfl rfl ?_
                      refine g_iload_n hC d_M_does_269 rfl rfl ?_
                      refine g_iload hC d_M_does_270 rfl rfl ?_
                      refine g_gov hC rfl (z_runV hC (c_M_acts l D K q hq a h o ha ho_ hN hL hh n _ e0 hky.2.1 hky.2.2 z hz hqz) yy_M_acts yv_M_169 (by decide) rfl ⟨Nat.le_of_ble_eq_true rfl, Nat.le_of_ble_eq_true rfl⟩ ⟨Nat.zero_le _, Nat.zero_le _⟩ rfl (Nat.le_of_ble_eq_true rfl) d_M_does_272) (fun σ4 q4 => ?_)
                      obtain rfl := q4.symm
                      first | exact zG.to (J275 _ _ (wdo_0 ho_)) rfl rfl ⟨rfl, rfl, rfl, trivial⟩ | exact zG.to (J275 _ _ (wdo_1 ho_)) rfl rfl ⟨rfl, rfl, rfl, trivial⟩ | exact zG.to (J275 _ _ (wdo_2 ho_)) rfl rfl ⟨rfl, rfl, rfl, trivial⟩ | exact zG.to (J275 _ _ (wdo_4 ho_)) rfl rfl ⟨rfl, rfl, rfl, trivial⟩ | exact zG.to (J275 _ _ (wdo_5 ho_)) rfl rfl ⟨rfl, rfl, rfl, trivial⟩ | exact zG.to (J275 _ _ (wdo_6 ho_ hjc)) rfl rfl ⟨rfl, rfl, rfl, trivial⟩ | exact zG.to (J275 _ _ (wdo_7 ho_ hjc)) rfl rfl ⟨rfl, rfl, rfl, trivial⟩ | exact zG.to (J275 _ _ (wdo_8 ho_)) rfl rfl ⟨rfl, rfl, rfl, trivial⟩ | exact zG.to (J275 _ _ (wdo_9 ho_)) rfl rfl ⟨rfl, rfl, rfl, trivial⟩ | exact zG.to (J275 _ _ (wdo_a ho_)) rfl rfl ⟨rfl, rfl, rfl, trivial⟩
                    ·
                      have ho_ : o = 9 := go_n (j := 9) (by omega) (by decide) h226
                      have hN_ : 1 ≤ h := by rw [ho_] at hN; exact hN
                      refine g_aload_n hC d_M_does_229 rfl rfl ?_
                      refine g_iload_n hC d_M_does_230 rfl rfl ?_
                      refine g_iconst hC (0) d_M_does_231 (by decide) rfl ?_
                      refine g_goi hC rfl (z_runV hC (c_M_top l D K q hq a 0 h ha (by omega) hh _ e0) yy_M_top yv_M_154 (by decide) rfl ⟨Nat.le_of_ble_eq_true rfl, Nat.le_of_ble_eq_true rfl⟩ ⟨Nat.zero_le _, Nat.zero_le _⟩ rfl (Nat.le_of_ble_eq_true rfl) d_M_does_232) (fun r5 σ5 q5 => ?_)
                      obtain ⟨rfl, w5⟩ := q5
                      obtain rfl := w5.symm
                      refine g_if_ne hC 249 d_M_does_235 rfl rfl (fun h235 => ?_) (fun h235 => ?_)
                      ·
                        refine g_iload hC d_M_does_249 rfl rfl ?_
                        refine g_top hC (wnx9 σ a h n) ((if_neg h235).symm) ?_
                        refine g_istore hC d_M_does_251 rfl (by decide) ?_
                        refine g_aload_n hC d_M_does_253 rfl rfl ?_
                        refine g_getR hC _ 5 20 _ (by decide) rfl rfl fl_M_65 d_M_does_254 rfl ?_
                        refine g_iload_n hC d_M_does_257 rfl rfl ?_
                        refine g_iload hC d_M_does_258 rfl rfl ?_
                        refine g_iconst hC (1) d_M_does_260 (by decide) rfl ?_
                        refine g_isub hC d_M_does_261 rfl ?_
                        refine g_top hC (nI (h - 1)) (pk_sub (a := h) (b := 1) (by omega)) ?_
                        refine g_iast hC _ _ a (by decide) rfl rfl ha (by decide) d_M_does_262 rfl ?_
                        refine g_goto hC 275 d_M_does_263 rfl ?_
                        first | exact zG.to (J275 _ _ (wdo_0 ho_)) rfl rfl ⟨rfl, rfl, rfl, trivial⟩ | exact zG.to (J275 _ _ (wdo_1 ho_)) rfl rfl ⟨rfl, rfl, rfl, trivial⟩ | exact zG.to (J275 _ _ (wdo_2 ho_)) rfl rfl ⟨rfl, rfl, rfl, trivial⟩ | exact zG.to (J275 _ _ (wdo_4 ho_)) rfl rfl ⟨rfl, rfl, rfl, trivial⟩ | exact zG.to (J275 _ _ (wdo_5 ho_)) rfl rfl ⟨rfl, rfl, rfl, trivial⟩ | exact zG.to (J275 _ _ (wdo_6 ho_ hjc)) rfl rfl ⟨rfl, rfl, rfl, trivial⟩ | exact zG.to (J275 _ _ (wdo_7 ho_ hjc)) rfl rfl ⟨rfl, rfl, rfl, trivial⟩ | exact zG.to (J275 _ _ (wdo_8 ho_)) rfl rfl ⟨rfl, rfl, rfl, trivial⟩ | exact zG.to (J275 _ _ (wdo_9 ho_)) rfl rfl ⟨rfl, rfl, rfl, trivial⟩ | exact zG.to (J275 _ _ (wdo_a ho_)) rfl rfl ⟨rfl, rfl, rfl, trivial⟩
                      ·
                        refine g_aload_n hC d_M_does_238 rfl rfl ?_
                        refine g_getR hC _ 5 19 _ (by decide) rfl rfl fl_M_62 d_M_does_239 rfl ?_
                        refine g_iload_n hC d_M_does_242 rfl rfl ?_
                        refine g_iald hC _ _ a (by decide) rfl rfl ha (by decide) d_M_does_243 rfl ?_
                        refine g_iload_n hC d_M_does_244 rfl rfl ?_
                        refine g_iadd hC d_M_does_245 rfl ?_
                        refine g_top hC (wnx9 σ a h n) ((if_pos h235).symm) ?_
                        refine g_goto hC 251 d_M_does_246 rfl ?_
                        refine g_istore hC d_M_does_251 rfl (by decide) ?_
                        refine g_aload_n hC d_M_does_253 rfl rfl ?_
                        refine g_getR hC _ 5 20 _ (by decide) rfl rfl fl_M_65 d_M_does_254 rfl ?_
                        refine g_iload_n hC d_M_does_257 rfl rfl ?_
                        refine g_iload hC d_M_does_258 rfl rfl ?_
                        refine g_iconst hC (1) d_M_does_260 (by decide) rfl ?_
                        refine g_isub hC d_M_does_261 rfl ?_
                        refine g_top hC (nI (h - 1)) (pk_sub (a := h) (b := 1) (by omega)) ?_
                        refine g_iast hC _ _ a (by decide) rfl rfl ha (by decide) d_M_does_262 rfl ?_
                        refine g_goto hC 275 d_M_does_263 rfl ?_
                        first | exact zG.to (J275 _ _ (wdo_0 ho_)) rfl rfl ⟨rfl, rfl, rfl, trivial⟩ | exact zG.to (J275 _ _ (wdo_1 ho_)) rfl rfl ⟨rfl, rfl, rfl, trivial⟩ | exact zG.to (J275 _ _ (wdo_2 ho_)) rfl rfl ⟨rfl, rfl, rfl, trivial⟩ | exact zG.to (J275 _ _ (wdo_4 ho_)) rfl rfl ⟨rfl, rfl, rfl, trivial⟩ | exact zG.to (J275 _ _ (wdo_5 ho_)) rfl rfl ⟨rfl, rfl, rfl, trivial⟩ | exact zG.to (J275 _ _ (wdo_6 ho_ hjc)) rfl rfl ⟨rfl, rfl, rfl, trivial⟩ | exact zG.to (J275 _ _ (wdo_7 ho_ hjc)) rfl rfl ⟨rfl, rfl, rfl, trivial⟩ | exact zG.to (J275 _ _ (wdo_8 ho_)) rfl rfl ⟨rfl, rfl, rfl, trivial⟩ | exact zG.to (J275 _ _ (wdo_9 ho_)) rfl rfl ⟨rfl, rfl, rfl, trivial⟩ | exact zG.to (J275 _ _ (wdo_a ho_)) rfl rfl ⟨rfl, rfl, rfl, trivial⟩
                  ·
                    have ho_ : o = 8 := go_n (j := 8) (by omega) (by decide) h207
                    refine g_aload_n hC d_M_does_210 rfl rfl ?_
                    refine g_getR hC _ 5 19 _ (by decide) rfl rfl fl_M_62 d_M_does_211 rfl ?_
                    refine g_iload_n hC d_M_does_214 rfl rfl ?_
                    refine g_iald hC _ _ a (by decide) rfl rfl ha (by decide) d_M_does_215 rfl ?_
                    refine g_iload_n hC d_M_does_216 rfl rfl ?_
                    refine g_iadd hC d_M_does_217 rfl ?_
                    refine g_istore hC d_M_does_218 rfl (by decide) ?_
                    refine g_goto hC 275 d_M_does_220 rfl ?_
                    first | exact zG.to (J275 _ _ (wdo_0 ho_)) rfl rfl ⟨rfl, rfl, rfl, trivial⟩ | exact zG.to (J275 _ _ (wdo_1 ho_)) rfl rfl ⟨rfl, rfl, rfl, trivial⟩ | exact zG.to (J275 _ _ (wdo_2 ho_)) rfl rfl ⟨rfl, rfl, rfl, trivial⟩ | exact zG.to (J275 _ _ (wdo_4 ho_)) rfl rfl ⟨rfl, rfl, rfl, trivial⟩ | exact zG.to (J275 _ _ (wdo_5 ho_)) rfl rfl ⟨rfl, rfl, rfl, trivial⟩ | exact zG.to (J275 _ _ (wdo_6 ho_ hjc)) rfl rfl ⟨rfl, rfl, rfl, trivial⟩ | exact zG.to (J275 _ _ (wdo_7 ho_ hjc)) rfl rfl ⟨rfl, rfl, rfl, trivial⟩ | exact zG.to (J275 _ _ (wdo_8 ho_)) rfl rfl ⟨rfl, rfl, rfl, trivial⟩ | exact zG.to (J275 _ _ (wdo_9 ho_)) rfl rfl ⟨rfl, rfl, rfl, trivial⟩ | exact zG.to (J275 _ _ (wdo_a ho_)) rfl rfl ⟨rfl, rfl, rfl, trivial⟩
                ·
                  have ho_ : o = 7 := go_n (j := 7) (by omega) (by decide) h172
                  have hN_ : 1 ≤ h := by rw [ho_] at hN; exact hN
                  obtain ⟨j, hj, hje⟩ := hky.1 (Or.inr ho_)
                  have hjc : n.toNatClampNeg = j := by rw [hje]; exact nI_clamp (by omega)
                  refine g_aload_n hC d_M_does_175 rfl rfl ?_
                  refine g_getR hC _ 5 22 _ (by decide) rfl rfl fl_M_71 d_M_does_176 rfl ?_
                  refine g_iconst hC (4) d_M_does_179 (by decide) rfl ?_
                  refine g_iload_n hC d_M_does_180 rfl rfl ?_
                  refine g_imul hC d_M_does_181 rfl ?_
                  refine g_top hC (nI (4 * a)) (pk_mul 4 a) ?_
                  refine g_iload_n hC d_M_does_182 rfl rfl ?_
                  refine g_iadd hC d_M_does_183 rfl ?_
                  refine g_top hC (nI (4 * a + j)) (by rw [hje]; exact nI_add (4 * a) j) ?_
                  refine g_aload_n hC d_M_does_184 rfl rfl ?_
                  refine g_iload_n hC d_M_does_185 rfl rfl ?_
                  refine g_iconst hC (0) d_M_does_186 (by decide) rfl ?_
                  refine g_goi hC rfl (z_runV hC (c_M_top l D K q hq a 0 h ha (by omega) hh _ e0) yy_M_top yv_M_154 (by decide) rfl ⟨Nat.le_of_ble_eq_true rfl, Nat.le_of_ble_eq_true rfl⟩ ⟨Nat.zero_le _, Nat.zero_le _⟩ rfl (Nat.le_of_ble_eq_true rfl) d_M_does_187) (fun r6 σ6 q6 => ?_)
                  obtain ⟨rfl, w6⟩ := q6
                  obtain rfl := w6.symm
                  refine g_iast hC _ _ (4 * a + j) (by decide) rfl rfl (by show 4 * a + j < 32; omega) (by decide) d_M_does_190 rfl ?_
                  refine g_aload_n hC d_M_does_191 rfl rfl ?_
                  refine g_getR hC _ 5 20 _ (by decide) rfl rfl fl_M_65 d_M_does_192 rfl ?_
                  refine g_iload_n hC d_M_does_195 rfl rfl ?_
                  refine g_iload hC d_M_does_196 rfl rfl ?_
                  refine g_iconst hC (1) d_M_does_198 (by decide) rfl ?_
                  refine g_isub hC d_M_does_199 rfl ?_
                  refine g_top hC (nI (h - 1)) (pk_sub (a := h) (b := 1) (by omega)) ?_
                  refine g_iast hC _ _ a (by decide) rfl rfl ha (by decide) d_M_does_200 rfl ?_
                  refine g_goto hC 275 d_M_does_201 rfl ?_
                  first | exact zG.to (J275 _ _ (wdo_0 ho_)) rfl rfl ⟨rfl, rfl, rfl, trivial⟩ | exact zG.to (J275 _ _ (wdo_1 ho_)) rfl rfl ⟨rfl, rfl, rfl, trivial⟩ | exact zG.to (J275 _ _ (wdo_2 ho_)) rfl rfl ⟨rfl, rfl, rfl, trivial⟩ | exact zG.to (J275 _ _ (wdo_4 ho_)) rfl rfl ⟨rfl, rfl, rfl, trivial⟩ | exact zG.to (J275 _ _ (wdo_5 ho_)) rfl rfl ⟨rfl, rfl, rfl, trivial⟩ | exact zG.to (J275 _ _ (wdo_6 ho_ hjc)) rfl rfl ⟨rfl, rfl, rfl, trivial⟩ | exact zG.to (J275 _ _ (wdo_7 ho_ hjc)) rfl rfl ⟨rfl, rfl, rfl, trivial⟩ | exact zG.to (J275 _ _ (wdo_8 ho_)) rfl rfl ⟨rfl, rfl, rfl, trivial⟩ | exact zG.to (J275 _ _ (wdo_9 ho_)) rfl rfl ⟨rfl, rfl, rfl, trivial⟩ | exact zG.to (J275 _ _ (wdo_a ho_)) rfl rfl ⟨rfl, rfl, rfl, trivial⟩
              ·
                have ho_ : o = 6 := go_n (j := 6) (by omega) (by decide) h148
                have hL_ : h - 0 + 1 ≤ 6 := by rw [ho_] at hL; exact hL
                obtain ⟨j, hj, hje⟩ := hky.1 (Or.inl ho_)
                have hjc : n.toNatClampNeg = j := by rw [hje]; exact nI_clamp (by omega)
                refine g_aload_n hC d_M_does_151 rfl rfl ?_
                refine g_iload_n hC d_M_does_152 rfl rfl ?_
                refine g_aload_n hC d_M_does_153 rfl rfl ?_
                refine g_getR hC _ 5 22 _ (by decide) rfl rfl fl_M_71 d_M_does_154 rfl ?_
                refine g_iconst hC (4) d_M_does_157 (by decide) rfl ?_
                refine g_iload_n hC d_M_does_158 rfl rfl ?_
                refine g_imul hC d_M_does_159 rfl ?_
                refine g_top hC (nI (4 * a)) (pk_mul 4 a) ?_
                refine g_iload_n hC d_M_does_160 rfl rfl ?_
                refine g_iadd hC d_M_does_161 rfl ?_
                refine g_top hC (nI (4 * a + j)) (by rw [hje]; exact nI_add (4 * a) j) ?_
                refine g_iald hC _ _ (4 * a + j) (by decide) rfl rfl (by show 4 * a + j < 32; omega) (by decide) d_M_does_162 rfl ?_
                refine g_gov hC rfl (z_runV hC (c_M_push l D K q hq a h ha (by omega) _ _ e0) yy_M_push yv_M_166 (by decide) rfl ⟨Nat.le_of_ble_eq_true rfl, Nat.le_of_ble_eq_true rfl⟩ ⟨Nat.zero_le _, Nat.zero_le _⟩ rfl (Nat.le_of_ble_eq_true rfl) d_M_does_163) (fun σ7 q7 => ?_)
                obtain rfl := q7.symm
                refine g_goto hC 275 d_M_does_166 rfl ?_
                first | exact zG.to (J275 _ _ (wdo_0 ho_)) rfl rfl ⟨rfl, rfl, rfl, trivial⟩ | exact zG.to (J275 _ _ (wdo_1 ho_)) rfl rfl ⟨rfl, rfl, rfl, trivial⟩ | exact zG.to (J275 _ _ (wdo_2 ho_)) rfl rfl ⟨rfl, rfl, rfl, trivial⟩ | exact zG.to (J275 _ _ (wdo_4 ho_)) rfl rfl ⟨rfl, rfl, rfl, trivial⟩ | exact zG.to (J275 _ _ (wdo_5 ho_)) rfl rfl ⟨rfl, rfl, rfl, trivial⟩ | exact zG.to (J275 _ _ (wdo_6 ho_ hjc)) rfl rfl ⟨rfl, rfl, rfl, trivial⟩ | exact zG.to (J275 _ _ (wdo_7 ho_ hjc)) rfl rfl ⟨rfl, rfl, rfl, trivial⟩ | exact zG.to (J275 _ _ (wdo_8 ho_)) rfl rfl ⟨rfl, rfl, rfl, trivial⟩ | exact zG.to (J275 _ _ (wdo_9 ho_)) rfl rfl ⟨rfl, rfl, rfl, trivial⟩ | exact zG.to (J275 _ _ (wdo_a ho_)) rfl rfl ⟨rfl, rfl, rfl, trivial⟩
            ·
              have ho_ : o = 5 := go_n (j := 5) (by omega) (by decide) h129
              have hN_ : 1 ≤ h := by rw [ho_] at hN; exact hN
              refine g_aload_n hC d_M_does_132 rfl rfl ?_
              refine g_getR hC _ 5 20 _ (by decide) rfl rfl fl_M_65 d_M_does_133 rfl ?_
              refine g_iload_n hC d_M_does_136 rfl rfl ?_
              refine g_iload hC d_M_does_137 rfl rfl ?_
              refine g_iconst hC (1) d_M_does_139 (by decide) rfl ?_
              refine g_isub hC d_M_does_140 rfl ?_
              refine g_top hC (nI (h - 1)) (pk_sub (a := h) (b := 1) (by omega)) ?_
              refine g_iast hC _ _ a (by decide) rfl rfl ha (by decide) d_M_does_141 rfl ?_
              refine g_goto hC 275 d_M_does_142 rfl ?_
              first | exact zG.to (J275 _ _ (wdo_0 ho_)) rfl rfl ⟨rfl, rfl, rfl, trivial⟩ | exact zG.to (J275 _ _ (wdo_1 ho_)) rfl rfl ⟨rfl, rfl, rfl, trivial⟩ | exact zG.to (J275 _ _ (wdo_2 ho_)) rfl rfl ⟨rfl, rfl, rfl, trivial⟩ | exact zG.to (J275 _ _ (wdo_4 ho_)) rfl rfl ⟨rfl, rfl, rfl, trivial⟩ | exact zG.to (J275 _ _ (wdo_5 ho_)) rfl rfl ⟨rfl, rfl, rfl, trivial⟩ | exact zG.to (J275 _ _ (wdo_6 ho_ hjc)) rfl rfl ⟨rfl, rfl, rfl, trivial⟩ | exact zG.to (J275 _ _ (wdo_7 ho_ hjc)) rfl rfl ⟨rfl, rfl, rfl, trivial⟩ | exact zG.to (J275 _ _ (wdo_8 ho_)) rfl rfl ⟨rfl, rfl, rfl, trivial⟩ | exact zG.to (J275 _ _ (wdo_9 ho_)) rfl rfl ⟨rfl, rfl, rfl, trivial⟩ | exact zG.to (J275 _ _ (wdo_a ho_)) rfl rfl ⟨rfl, rfl, rfl, trivial⟩
          ·
            have ho_ : o = 4 := go_n (j := 4) (by omega) (by decide) h110
            have hN_ : 1 ≤ h := by rw [ho_] at hN; exact hN
            have hL_ : h - 1 + 2 ≤ 6 := by rw [ho_] at hL; exact hL
            refine g_aload_n hC d_M_does_113 rfl rfl ?_
            refine g_iload_n hC d_M_does_114 rfl rfl ?_
            refine g_aload_n hC d_M_does_115 rfl rfl ?_
            refine g_iload_n hC d_M_does_116 rfl rfl ?_
            refine g_iconst hC (0) d_M_does_117 (by decide) rfl ?_
            refine g_goi hC rfl (z_runV hC (c_M_top l D K q hq a 0 h ha (by omega) hh _ e0) yy_M_top yv_M_154 (by decide) rfl ⟨Nat.le_of_ble_eq_true rfl, Nat.le_of_ble_eq_true rfl⟩ ⟨Nat.zero_le _, Nat.zero_le _⟩ rfl (Nat.le_of_ble_eq_true rfl) d_M_does_118) (fun r8 σ8 q8 => ?_)
            obtain ⟨rfl, w8⟩ := q8
            obtain rfl := w8.symm
            refine g_gov hC rfl (z_runV hC (c_M_push l D K q hq a h ha (by omega) _ _ e0) yy_M_push yv_M_166 (by decide) rfl ⟨Nat.le_of_ble_eq_true rfl, Nat.le_of_ble_eq_true rfl⟩ ⟨Nat.zero_le _, Nat.zero_le _⟩ rfl (Nat.le_of_ble_eq_true rfl) d_M_does_121) (fun σ9 q9 => ?_)
            obtain rfl := q9.symm
            refine g_goto hC 275 d_M_does_124 rfl ?_
            first | exact zG.to (J275 _ _ (wdo_0 ho_)) rfl rfl ⟨rfl, rfl, rfl, trivial⟩ | exact zG.to (J275 _ _ (wdo_1 ho_)) rfl rfl ⟨rfl, rfl, rfl, trivial⟩ | exact zG.to (J275 _ _ (wdo_2 ho_)) rfl rfl ⟨rfl, rfl, rfl, trivial⟩ | exact zG.to (J275 _ _ (wdo_4 ho_)) rfl rfl ⟨rfl, rfl, rfl, trivial⟩ | exact zG.to (J275 _ _ (wdo_5 ho_)) rfl rfl ⟨rfl, rfl, rfl, trivial⟩ | exact zG.to (J275 _ _ (wdo_6 ho_ hjc)) rfl rfl ⟨rfl, rfl, rfl, trivial⟩ | exact zG.to (J275 _ _ (wdo_7 ho_ hjc)) rfl rfl ⟨rfl, rfl, rfl, trivial⟩ | exact zG.to (J275 _ _ (wdo_8 ho_)) rfl rfl ⟨rfl, rfl, rfl, trivial⟩ | exact zG.to (J275 _ _ (wdo_9 ho_)) rfl rfl ⟨rfl, rfl, rfl, trivial⟩ | exact zG.to (J275 _ _ (wdo_a ho_)) rfl rfl ⟨rfl, rfl, rfl, trivial⟩
        ·
          have ho_ : o = 2 ∨ o = 3 := by first | exact Or.inl (go_n (j := 2) ho16 (by decide) h48) | exact Or.inr (go_n (j := 3) ho16 (by decide) h53)
          have hN_ : 2 ≤ h := wdo_n2 ho_ hN
          refine g_aload_n hC d_M_does_56 rfl rfl ?_
          refine g_iload_n hC d_M_does_57 rfl rfl ?_
          refine g_iconst hC (0) d_M_does_58 (by decide) rfl ?_
          refine g_goi hC rfl (z_runV hC (c_M_top l D K q hq a 0 h ha (by omega) hh _ e0) yy_M_top yv_M_154 (by decide) rfl ⟨Nat.le_of_ble_eq_true rfl, Nat.le_of_ble_eq_true rfl⟩ ⟨Nat.zero_le _, Nat.zero_le _⟩ rfl (Nat.le_of_ble_eq_true rfl) d_M_does_59) (fun r10 σ10 q10 => ?_)
          obtain ⟨rfl, w10⟩ := q10
          obtain rfl := w10.symm
          refine g_istore hC d_M_does_62 rfl (by decide) ?_
          refine g_aload_n hC d_M_does_64 rfl rfl ?_
          refine g_iload_n hC d_M_does_65 rfl rfl ?_
          refine g_iconst hC (1) d_M_does_66 (by decide) rfl ?_
          refine g_goi hC rfl (z_runV hC (c_M_top l D K q hq a 1 h ha (by omega) hh _ e0) yy_M_top yv_M_154 (by decide) rfl ⟨Nat.le_of_ble_eq_true rfl, Nat.le_of_ble_eq_true rfl⟩ ⟨Nat.zero_le _, Nat.zero_le _⟩ rfl (Nat.le_of_ble_eq_true rfl) d_M_does_67) (fun r11 σ11 q11 => ?_)
          obtain ⟨rfl, w11⟩ := q11
          obtain rfl := w11.symm
          refine g_istore hC d_M_does_70 rfl (by decide) ?_
          refine g_aload_n hC d_M_does_72 rfl rfl ?_
          refine g_getR hC _ 5 20 _ (by decide) rfl rfl fl_M_65 d_M_does_73 rfl ?_
          refine g_iload_n hC d_M_does_76 rfl rfl ?_
          refine g_iload hC d_M_does_77 rfl rfl ?_
          refine g_iconst hC (2) d_M_does_79 (by decide) rfl ?_
          refine g_isub hC d_M_does_80 rfl ?_
          refine g_top hC (nI (h - 2)) (pk_sub (a := h) (b := 2) (by omega)) ?_
          refine g_iast hC _ _ a (by decide) rfl rfl ha (by decide) d_M_does_81 rfl ?_
          refine g_aload_n hC d_M_does_82 rfl rfl ?_
          refine g_iload_n hC d_M_does_83 rfl rfl ?_
          refine g_iload_n hC d_M_does_84 rfl rfl ?_
          refine g_iconst hC (2) d_M_does_85 (by decide) rfl ?_
          refine g_icmp_ne hC 97 d_M_does_86 rfl rfl (fun h86 => ?_) (fun h86 => ?_)
          ·
            refine g_iload hC d_M_does_97 rfl rfl ?_
            refine g_iload hC d_M_does_99 rfl rfl ?_
            refine g_isub hC d_M_does_101 rfl ?_
            refine g_top hC (wbin σ a o h) ((if_neg (fun z => h86 (by rw [z]; rfl))).symm) ?_
            refine g_gov hC rfl (z_runV hC (c_M_push l D K q hq a (h - 2) ha (by omega) _ _ (zu_eq _ _ _ _)) yy_M_push yv_M_166 (by decide) rfl ⟨Nat.le_of_ble_eq_true rfl, Nat.le_of_ble_eq_true rfl⟩ ⟨Nat.zero_le _, Nat.zero_le _⟩ rfl (Nat.le_of_ble_eq_true rfl) d_M_does_102) (fun σ12 q12 => ?_)
            obtain rfl := q12.symm
            refine g_goto hC 275 d_M_does_105 rfl ?_
            first | exact zG.to (J275 _ _ (wdo_0 ho_)) rfl rfl ⟨rfl, rfl, rfl, trivial⟩ | exact zG.to (J275 _ _ (wdo_1 ho_)) rfl rfl ⟨rfl, rfl, rfl, trivial⟩ | exact zG.to (J275 _ _ (wdo_2 ho_)) rfl rfl ⟨rfl, rfl, rfl, trivial⟩ | exact zG.to (J275 _ _ (wdo_4 ho_)) rfl rfl ⟨rfl, rfl, rfl, trivial⟩ | exact zG.to (J275 _ _ (wdo_5 ho_)) rfl rfl ⟨rfl, rfl, rfl, trivial⟩ | exact zG.to (J275 _ _ (wdo_6 ho_ hjc)) rfl rfl ⟨rfl, rfl, rfl, trivial⟩ | exact zG.to (J275 _ _ (wdo_7 ho_ hjc)) rfl rfl ⟨rfl, rfl, rfl, trivial⟩ | exact zG.to (J275 _ _ (wdo_8 ho_)) rfl rfl ⟨rfl, rfl, rfl, trivial⟩ | exact zG.to (J275 _ _ (wdo_9 ho_)) rfl rfl ⟨rfl, rfl, rfl, trivial⟩ | exact zG.to (J275 _ _ (wdo_a ho_)) rfl rfl ⟨rfl, rfl, rfl, trivial⟩
          ·
            refine g_iload hC d_M_does_89 rfl rfl ?_
            refine g_iload hC d_M_does_91 rfl rfl ?_
            refine g_iadd hC d_M_does_93 rfl ?_
            refine g_top hC (wbin σ a o h) ((if_pos (go_n (j := 2) ho16 (by decide) h86)).symm) ?_
            refine g_goto hC 102 d_M_does_94 rfl ?_
            refine g_gov hC rfl (z_runV hC (c_M_push l D K q hq a (h - 2) ha (by omega) _ _ (zu_eq _ _ _ _)) yy_M_push yv_M_166 (by decide) rfl ⟨Nat.le_of_ble_eq_true rfl, Nat.le_of_ble_eq_true rfl⟩ ⟨Nat.zero_le _, Nat.zero_le _⟩ rfl (Nat.le_of_ble_eq_true rfl) d_M_does_102) (fun σ13 q13 => ?_)
            obtain rfl := q13.symm
            refine g_goto hC 275 d_M_does_105 rfl ?_
            first | exact zG.to (J275 _ _ (wdo_0 ho_)) rfl rfl ⟨rfl, rfl, rfl, trivial⟩ | exact zG.to (J275 _ _ (wdo_1 ho_)) rfl rfl ⟨rfl, rfl, rfl, trivial⟩ | exact zG.to (J275 _ _ (wdo_2 ho_)) rfl rfl ⟨rfl, rfl, rfl, trivial⟩ | exact zG.to (J275 _ _ (wdo_4 ho_)) rfl rfl ⟨rfl, rfl, rfl, trivial⟩ | exact zG.to (J275 _ _ (wdo_5 ho_)) rfl rfl ⟨rfl, rfl, rfl, trivial⟩ | exact zG.to (J275 _ _ (wdo_6 ho_ hjc)) rfl rfl ⟨rfl, rfl, rfl, trivial⟩ | exact zG.to (J275 _ _ (wdo_7 ho_ hjc)) rfl rfl ⟨rfl, rfl, rfl, trivial⟩ | exact zG.to (J275 _ _ (wdo_8 ho_)) rfl rfl ⟨rfl, rfl, rfl, trivial⟩ | exact zG.to (J275 _ _ (wdo_9 ho_)) rfl rfl ⟨rfl, rfl, rfl, trivial⟩ | exact zG.to (J275 _ _ (wdo_a ho_)) rfl rfl ⟨rfl, rfl, rfl, trivial⟩
    ·
      have ho_ : o = 1 := go_n (j := 1) (by omega) (by decide) h34
      have hL_ : h - 0 + 1 ≤ 6 := by rw [ho_] at hL; exact hL
      refine g_aload_n hC d_M_does_37 rfl rfl ?_
      refine g_iload_n hC d_M_does_38 rfl rfl ?_
      refine g_iload_n hC d_M_does_39 rfl rfl ?_
      refine g_gov hC rfl (z_runV hC (c_M_push l D K q hq a h ha (by omega) _ _ e0) yy_M_push yv_M_166 (by decide) rfl ⟨Nat.le_of_ble_eq_true rfl, Nat.le_of_ble_eq_true rfl⟩ ⟨Nat.zero_le _, Nat.zero_le _⟩ rfl (Nat.le_of_ble_eq_true rfl) d_M_does_40) (fun σ14 q14 => ?_)
      obtain rfl := q14.symm
      refine g_goto hC 275 d_M_does_43 rfl ?_
      first | exact zG.to (J275 _ _ (wdo_0 ho_)) rfl rfl ⟨rfl, rfl, rfl, trivial⟩ | exact zG.to (J275 _ _ (wdo_1 ho_)) rfl rfl ⟨rfl, rfl, rfl, trivial⟩ | exact zG.to (J275 _ _ (wdo_2 ho_)) rfl rfl ⟨rfl, rfl, rfl, trivial⟩ | exact zG.to (J275 _ _ (wdo_4 ho_)) rfl rfl ⟨rfl, rfl, rfl, trivial⟩ | exact zG.to (J275 _ _ (wdo_5 ho_)) rfl rfl ⟨rfl, rfl, rfl, trivial⟩ | exact zG.to (J275 _ _ (wdo_6 ho_ hjc)) rfl rfl ⟨rfl, rfl, rfl, trivial⟩ | exact zG.to (J275 _ _ (wdo_7 ho_ hjc)) rfl rfl ⟨rfl, rfl, rfl, trivial⟩ | exact zG.to (J275 _ _ (wdo_8 ho_)) rfl rfl ⟨rfl, rfl, rfl, trivial⟩ | exact zG.to (J275 _ _ (wdo_9 ho_)) rfl rfl ⟨rfl, rfl, rfl, trivial⟩ | exact zG.to (J275 _ _ (wdo_a ho_)) rfl rfl ⟨rfl, rfl, rfl, trivial⟩
  ·
    have ho_ : o = 0 := go_n (j := 0) (by omega) (by decide) h19
    refine g_aload_n hC d_M_does_22 rfl rfl ?_
    refine g_getR hC _ 5 18 _ (by decide) rfl rfl fl_M_59 d_M_does_23 rfl ?_
    refine g_iload_n hC d_M_does_26 rfl rfl ?_
    refine g_iconst hC (0) d_M_does_27 (by decide) rfl ?_
    refine g_zast hC _ _ a (by decide) rfl rfl ha (by decide) (Or.inl rfl) d_M_does_28 rfl ?_
    refine g_goto hC 275 d_M_does_29 rfl ?_
    first | exact zG.to (J275 _ _ (wdo_0 ho_)) rfl rfl ⟨rfl, rfl, rfl, trivial⟩ | exact zG.to (J275 _ _ (wdo_1 ho_)) rfl rfl ⟨rfl, rfl, rfl, trivial⟩ | exact zG.to (J275 _ _ (wdo_2 ho_)) rfl rfl ⟨rfl, rfl, rfl, trivial⟩ | exact zG.to (J275 _ _ (wdo_4 ho_)) rfl rfl ⟨rfl, rfl, rfl, trivial⟩ | exact zG.to (J275 _ _ (wdo_5 ho_)) rfl rfl ⟨rfl, rfl, rfl, trivial⟩ | exact zG.to (J275 _ _ (wdo_6 ho_ hjc)) rfl rfl ⟨rfl, rfl, rfl, trivial⟩ | exact zG.to (J275 _ _ (wdo_7 ho_ hjc)) rfl rfl ⟨rfl, rfl, rfl, trivial⟩ | exact zG.to (J275 _ _ (wdo_8 ho_)) rfl rfl ⟨rfl, rfl, rfl, trivial⟩ | exact zG.to (J275 _ _ (wdo_9 ho_)) rfl rfl ⟨rfl, rfl, rfl, trivial⟩ | exact zG.to (J275 _ _ (wdo_a ho_)) rfl rfl ⟨rfl, rfl, rfl, trivial⟩
set_option maxHeartbeats 4000000 in
set_option maxRecDepth 100000 in
theorem c_M_step (l : Launch) (D : va_G) (K : Nat → ClassId) (q : Nat → Nat) (hq : zI q) (σ : zm) (L z : Nat) (hL : L ≤ 8) (hz : z ≤ 8) (h23 : σ 104 23 = nI L - 1) (hqz : σ 104 24 = nI z) (hrun : wRuns σ) : zMi l y_M_step b_M_step 3 (some .int) 5 D K q [.ref (q (104))] σ (fun r σ' => wStp σ L z r σ') := by
  refine zMi.of (own := "AppDeskModel") (lv := [(0, .ref (q (104)))]) (by decide) rfl hq (Nat.le_of_ble_eq_true rfl) rfl ?_
  intro p e s m below meth c hC hr hlk
  have J67 : ∀ (u : Unit), zG p l e (zrm 5) s m ([.ref (q (104))] : List Value).toArray below meth c D K q (zA q) 3 0 0 (MQ below (va_Qi (fun r σ' => wStp σ L z r σ') (zO D K q) (zA q)) ([.ref (q (104))] : List Value).toArray s 0 0 (zA q)) (wz σ) 67 [(0, .ref (q (104))), (1, .int (wnam σ L))] [] := by
    intro u
    refine g_iload_n hC d_M_step_67 rfl rfl ?_
    refine g_if_ge hC 73 d_M_step_68 rfl rfl (fun h68 => ?_) (fun h68 => ?_)
    ·
      obtain ⟨a, ha, hae, har⟩ := wnam_a h68
      obtain ⟨p0, h, o, hR⟩ := hrun a ha har
      refine g_aload_n hC d_M_step_73 rfl rfl ?_
      refine g_iload_n hC d_M_step_74 rfl rfl ?_
      refine g_top hC (nI a) (hae) ?_
      refine g_putI hC _ 5 23 (by decide) rfl rfl fp_M_74 d_M_step_75 rfl ?_
      refine g_aload_n hC d_M_step_78 rfl rfl ?_
      refine g_getR hC _ 5 13 _ (by decide) rfl rfl fl_M_47 d_M_step_79 rfl ?_
      refine g_bipush hC (24) d_M_step_82 (by decide) rfl ?_
      refine g_iload_n hC d_M_step_84 rfl rfl ?_
      refine g_top hC (nI a) (hae) ?_
      refine g_imul hC d_M_step_85 rfl ?_
      refine g_top hC (nI (24 * a)) (pk_mul 24 a) ?_
      refine g_aload_n hC d_M_step_86 rfl rfl ?_
      refine g_getR hC _ 5 19 _ (by decide) rfl rfl fl_M_62 d_M_step_87 rfl ?_
      refine g_iload_n hC d_M_step_90 rfl rfl ?_
      refine g_top hC (nI a) (hae) ?_
      refine g_ialdV hC _ _ a (nI p0) (by rw [zu_row _ _ (by decide), wz_row _ (by decide)]; exact hR.2.2.2.1) (by decide) rfl rfl ha (by decide) d_M_step_91 rfl ?_
      refine g_iadd hC d_M_step_92 rfl ?_
      refine g_top hC (nI (24 * a + p0)) (nI_add (24 * a) p0) ?_
      refine g_ialdV hC _ _ (24 * a + p0) (σ 117 (24 * a + p0)) (by simp (disch := omega) only [zu_row, wz_row]) (by decide) rfl rfl (wst_ix ha hR) (by decide) d_M_step_93 rfl ?_
      refine g_istore_n hC d_M_step_94 rfl (by decide) ?_
      refine g_aload_n hC d_M_step_95 rfl rfl ?_
      refine g_iload_n hC d_M_step_96 rfl rfl ?_
      refine g_top hC (nI a) (hae) ?_
      refine g_iload_n hC d_M_step_97 rfl rfl ?_
      refine g_bipush hC (15) d_M_step_98 (by decide) rfl ?_
      refine g_iand hC d_M_step_100 rfl ?_
      refine g_top hC (nI o) (hR.2.2.2.2.2.1) ?_
      refine g_goi hC rfl (z_runV hC (c_M_fails l D K q hq a h o ha hR.2.2.1 hR.2.2.2.2.2.2.1 hR.2.1 _ (by rw [zu_row _ _ (by decide), wz_row _ (by decide)]; exact hR.2.2.2.2.1)) yy_M_fails yv_M_160 (by decide) rfl ⟨Nat.le_of_ble_eq_true rfl, Nat.le_of_ble_eq_true rfl⟩ ⟨Nat.zero_le _, Nat.zero_le _⟩ rfl (Nat.le_of_ble_eq_true rfl) d_M_step_101) (fun r0 σ0 q0 => ?_)
      obtain ⟨rfl, w0⟩ := q0
      obtain rfl := w0.symm
      refine g_ifeq_b hC 121 d_M_step_104 rfl rfl (fun h104 => ?_) (fun h104 => ?_)
      ·
        refine g_aload_n hC d_M_step_121 rfl rfl ?_
        refine g_iload_n hC d_M_step_122 rfl rfl ?_
        refine g_top hC (nI a) (hae) ?_
        refine g_iload_n hC d_M_step_123 rfl rfl ?_
        refine g_bipush hC (15) d_M_step_124 (by decide) rfl ?_
        refine g_iand hC d_M_step_126 rfl ?_
        refine g_top hC (nI o) (hR.2.2.2.2.2.1) ?_
        refine g_iload_n hC d_M_step_127 rfl rfl ?_
        refine g_iconst hC (4) d_M_step_128 (by decide) rfl ?_
        refine g_ishr hC d_M_step_129 rfl ?_
        refine g_gov hC rfl (z_runV hC (c_M_does l D K q hq a h o ha hR.2.2.1 hR.2.2.2.2.2.2.1 hR.2.2.2.2.2.2.2.1 hR.2.1 _ _ (wst1_e hR) (wKy_of hR h104) z hz (wst1_q hqz)) yy_M_does yv_M_163 (by decide) rfl ⟨Nat.le_of_ble_eq_true rfl, Nat.le_of_ble_eq_true rfl⟩ ⟨Nat.zero_le _, Nat.zero_le _⟩ rfl (Nat.le_of_ble_eq_true rfl) d_M_step_130) (fun σ1 q1 => ?_)
        obtain rfl := q1.symm
        refine g_iload_n hC d_M_step_133 rfl rfl ?_
        refine g_top hC (nI a) (hae) ?_
        exact g_iret hC hr hlk d_M_step_134 (Or.inr ⟨a, p0, h, o, ha, hae, har, hR, by rw [if_neg (zif_f (show wfai (wst1 σ a) a o h = false from h104))]; exact ⟨rfl, rfl⟩⟩)
      ·
        refine g_aload_n hC d_M_step_107 rfl rfl ?_
        refine g_getR hC _ 5 18 _ (by decide) rfl rfl fl_M_59 d_M_step_108 rfl ?_
        refine g_iload_n hC d_M_step_111 rfl rfl ?_
        refine g_top hC (nI a) (hae) ?_
        refine g_iconst hC (0) d_M_step_112 (by decide) rfl ?_
        refine g_zast hC _ _ a (by decide) rfl rfl ha (by decide) (Or.inl rfl) d_M_step_113 rfl ?_
        refine g_aload_n hC d_M_step_114 rfl rfl ?_
        refine g_iconst hC (1) d_M_step_115 (by decide) rfl ?_
        refine g_putI hC _ 5 0 (by decide) rfl rfl fp_M_90 d_M_step_116 rfl ?_
        refine g_iconst hC (0) d_M_step_119 (by decide) rfl ?_
        exact g_iret hC hr hlk d_M_step_120 (Or.inr ⟨a, p0, h, o, ha, hae, har, hR, by rw [if_pos (show wfai (wst1 σ a) a o h = true from h104)]; exact ⟨rfl, rfl⟩⟩)
    ·
      have hnm : wnam σ L = -1 := wnam_n h68
      refine g_iconst hC (-1) d_M_step_71 (by decide) rfl ?_
      exact g_iret hC hr hlk d_M_step_72 (Or.inl ⟨hnm, rfl, rfl⟩)
  have J38 : ∀ (f : Nat) (k : Nat) (hif : k = f + L) (hk8 : k ≤ 8), zG p l e (zrm 5) s m ([.ref (q (104))] : List Value).toArray below meth c D K q (zA q) 3 0 0 (MQ below (va_Qi (fun r σ' => wStp σ L z r σ') (zO D K q) (zA q)) ([.ref (q (104))] : List Value).toArray s 0 0 (zA q)) (wz σ) 38 [(0, .ref (q (104))), (1, .int (zfsb (wPr σ) (zfsb (wPr σ) (-1) 8 0) (8 - k) k)), (2, .int (nI k - 1))] [] := by
    intro f
    induction f with
    | zero =>
      intro k hif hk8
      have hkL : k = L := by omega
      refine g_iload_n hC d_M_step_38 rfl rfl ?_
      refine g_aload_n hC d_M_step_39 rfl rfl ?_
      refine g_getV hC _ 5 23 (nI L - 1) (by unfold wz; rw [zu_ne _ _ (Or.inr (by decide))]; exact h23) (by decide) rfl rfl fl_M_74 d_M_step_40 rfl ?_
      refine g_icmp_le hC 67 d_M_step_43 rfl rfl (fun h43 => ?_) (fun h43 => absurd (z_le1 (by omega) (by omega)) h43)
      exact zG.to (J67 ()) rfl rfl ⟨rfl, by rw [hkL]; rfl, trivial⟩
    | succ f ih =>
      intro k hif hk8
      have hk1 : 1 ≤ k := by omega
      refine g_iload_n hC d_M_step_38 rfl rfl ?_
      refine g_top hC (nI (k - 1)) (nI_p hk1) ?_
      refine g_aload_n hC d_M_step_39 rfl rfl ?_
      refine g_getV hC _ 5 23 (nI L - 1) (by unfold wz; rw [zu_ne _ _ (Or.inr (by decide))]; exact h23) (by decide) rfl rfl fl_M_74 d_M_step_40 rfl ?_
      refine g_icmp_le hC 67 d_M_step_43 rfl rfl (fun h43 => absurd h43 (z_gt1 hk1 (by omega) (by omega))) (fun h43 => ?_)
      refine g_aload_n hC d_M_step_46 rfl rfl ?_
      refine g_getR hC _ 5 18 _ (by decide) rfl rfl fl_M_59 d_M_step_47 rfl ?_
      refine g_iload_n hC d_M_step_50 rfl rfl ?_
      refine g_top hC (nI (k - 1)) (nI_p hk1) ?_
      refine g_zaldV hC _ _ (k - 1) (σ 121 (k - 1)) (by simp (disch := omega) only [zu_row, wz_row]) (by decide) rfl rfl (by show k - 1 < 8; omega) (by decide) d_M_step_51 rfl ?_
      refine g_if_eq hC 59 d_M_step_52 rfl rfl (fun h52 => ?_) (fun h52 => ?_)
      ·
        refine g_iload_n hC d_M_step_59 rfl rfl ?_
        refine g_istore_n hC d_M_step_60 rfl (by decide) ?_
        refine g_iinc hC (nI (k - 1) - 1) d_M_step_61 rfl rfl (by rw [nI_p hk1]; exact z_dec _) (by decide) ?_
        refine g_goto hC 38 d_M_step_64 rfl ?_
        first | exact zG.to (ih (k - 1) (by omega) (by omega)) rfl rfl ⟨rfl, congrArg (fun z => some (Value.int z)) (zfsb_t hk1 hk8 (wPr_t h52)).symm, rfl, trivial⟩ | exact zG.to (ih (k - 1) (by omega) (by omega)) rfl rfl ⟨rfl, congrArg (fun z => some (Value.int z)) (zfsb_f hk1 hk8 (wPr_f h52)).symm, rfl, trivial⟩
      ·
        refine g_iload_n hC d_M_step_55 rfl rfl ?_
        refine g_top hC (nI (k - 1)) (nI_p hk1) ?_
        refine g_goto hC 60 d_M_step_56 rfl ?_
        refine g_istore_n hC d_M_step_60 rfl (by decide) ?_
        refine g_iinc hC (nI (k - 1) - 1) d_M_step_61 rfl rfl (by rw [nI_p hk1]; exact z_dec _) (by decide) ?_
        refine g_goto hC 38 d_M_step_64 rfl ?_
        first | exact zG.to (ih (k - 1) (by omega) (by omega)) rfl rfl ⟨rfl, congrArg (fun z => some (Value.int z)) (zfsb_t hk1 hk8 (wPr_t h52)).symm, rfl, trivial⟩ | exact zG.to (ih (k - 1) (by omega) (by omega)) rfl rfl ⟨rfl, congrArg (fun z => some (Value.int z)) (zfsb_f hk1 hk8 (wPr_f h52)).symm, rfl, trivial⟩
  have J10 : ∀ (f : Nat) (k : Nat) (hif : k = f) (hk8 : k ≤ 8), zG p l e (zrm 5) s m ([.ref (q (104))] : List Value).toArray below meth c D K q (zA q) 3 0 0 (MQ below (va_Qi (fun r σ' => wStp σ L z r σ') (zO D K q) (zA q)) ([.ref (q (104))] : List Value).toArray s 0 0 (zA q)) (wz σ) 10 [(0, .ref (q (104))), (1, .int (zfsb (wPr σ) (-1) (8 - k) k)), (2, .int (nI k - 1))] [] := by
    intro f
    induction f with
    | zero =>
      intro k hif hk8
      refine g_iload_n hC d_M_step_10 rfl rfl ?_
      refine g_if_lt hC 35 d_M_step_11 rfl rfl (fun h11 => ?_) (fun h11 => absurd (by rw [hif]; decide) h11)
      refine g_bipush hC (7) d_M_step_35 (by decide) rfl ?_
      refine g_istore_n hC d_M_step_37 rfl (by decide) ?_
      exact zG.to (J38 (8 - L) 8 (by omega) (by omega)) rfl rfl ⟨rfl, by rw [show k = 0 by omega]; rfl, rfl, trivial⟩
    | succ f ih =>
      intro k hif hk8
      have hk1 : 1 ≤ k := by omega
      refine g_iload_n hC d_M_step_10 rfl rfl ?_
      refine g_top hC (nI (k - 1)) (nI_p hk1) ?_
      refine g_if_lt hC 35 d_M_step_11 rfl rfl (fun h11 => absurd h11 (nI_pos (by omega))) (fun h11 => ?_)
      refine g_aload_n hC d_M_step_14 rfl rfl ?_
      refine g_getR hC _ 5 18 _ (by decide) rfl rfl fl_M_59 d_M_step_15 rfl ?_
      refine g_iload_n hC d_M_step_18 rfl rfl ?_
      refine g_top hC (nI (k - 1)) (nI_p hk1) ?_
      refine g_zaldV hC _ _ (k - 1) (σ 121 (k - 1)) (by simp (disch := omega) only [zu_row, wz_row]) (by decide) rfl rfl (by show k - 1 < 8; omega) (by decide) d_M_step_19 rfl ?_
      refine g_if_eq hC 27 d_M_step_20 rfl rfl (fun h20 => ?_) (fun h20 => ?_)
      ·
        refine g_iload_n hC d_M_step_27 rfl rfl ?_
        refine g_istore_n hC d_M_step_28 rfl (by decide) ?_
        refine g_iinc hC (nI (k - 1) - 1) d_M_step_29 rfl rfl (by rw [nI_p hk1]; exact z_dec _) (by decide) ?_
        refine g_goto hC 10 d_M_step_32 rfl ?_
        first | exact zG.to (ih (k - 1) (by omega) (by omega)) rfl rfl ⟨rfl, congrArg (fun z => some (Value.int z)) (zfsb_t hk1 hk8 (wPr_t h20)).symm, rfl, trivial⟩ | exact zG.to (ih (k - 1) (by omega) (by omega)) rfl rfl ⟨rfl, congrArg (fun z => some (Value.int z)) (zfsb_f hk1 hk8 (wPr_f h20)).symm, rfl, trivial⟩
      ·
        refine g_iload_n hC d_M_step_23 rfl rfl ?_
        refine g_top hC (nI (k - 1)) (nI_p hk1) ?_
        refine g_goto hC 28 d_M_step_24 rfl ?_
        refine g_istore_n hC d_M_step_28 rfl (by decide) ?_
        refine g_iinc hC (nI (k - 1) - 1) d_M_step_29 rfl rfl (by rw [nI_p hk1]; exact z_dec _) (by decide) ?_
        refine g_goto hC 10 d_M_step_32 rfl ?_
        first | exact zG.to (ih (k - 1) (by omega) (by omega)) rfl rfl ⟨rfl, congrArg (fun z => some (Value.int z)) (zfsb_t hk1 hk8 (wPr_t h20)).symm, rfl, trivial⟩ | exact zG.to (ih (k - 1) (by omega) (by omega)) rfl rfl ⟨rfl, congrArg (fun z => some (Value.int z)) (zfsb_f hk1 hk8 (wPr_f h20)).symm, rfl, trivial⟩
  refine g_aload_n hC d_M_step_0 rfl rfl ?_
  refine g_iconst hC (0) d_M_step_1 (by decide) rfl ?_
  refine g_putI hC _ 5 0 (by decide) rfl rfl fp_M_90 d_M_step_2 rfl ?_
  refine g_iconst hC (-1) d_M_step_5 (by decide) rfl ?_
  refine g_istore_n hC d_M_step_6 rfl (by decide) ?_
  refine g_bipush hC (7) d_M_step_7 (by decide) rfl ?_
  refine g_istore_n hC d_M_step_9 rfl (by decide) ?_
  exact zG.to (J10 8 8 rfl (by omega)) rfl rfl ⟨rfl, rfl, rfl, trivial⟩
