/-! AppDesk.install and AppDesk.step -/
def nkI : Int32 → String := fun k => if k = 1 then "java/lang/IllegalArgumentException" else "java/lang/IllegalStateException"
def nkS : Int32 → String := fun _ => "java/lang/IllegalStateException"
theorem zEx_ok : ∀ n ∈ zEx, Bundle.fit n = true := by decide +kernel
set_option maxHeartbeats 4000000 in
set_option maxRecDepth 100000 in
theorem c_D_install (l : Launch) (htr : l.stackTraces = false) (D : va_G) (K : Nat → ClassId) (q : Nat → Nat) (hq : zI q) (σ : zm) (nm pn wn : Nat) (hnm : nm < 8) (hpn : pn ≤ 4) (hwn : wn ≤ 24) (h0 : σ (zp 8) 0 = nI nm) (h6 : σ (zp 8) 6 = nI pn) (h11 : σ (zp 8) 11 = nI wn) : zMt l y_D_install b_D_install 1 (some .int) 6 D K q [.ref (q 0)] σ nkI (fun k r σ' => zIns σ nm pn wn k σ' ∧ (k = 0 → r = nI nm)) := by
  refine zMt.of (own := "AppDesk") (lv := [(0, .ref (q 0))]) (by decide) rfl hq (Nat.le_of_ble_eq_true rfl) rfl ?_
  intro p e s m below meth c hC hr hlk het
  refine g_aload_n hC d_D_install_0 rfl rfl ?_
  refine g_aload_n hC d_D_install_1 rfl rfl ?_
  refine g_getR hC _ 0 0 _ (by decide) rfl rfl fl_D_10 d_D_install_2 rfl ?_
  refine g_goi hC rfl (z_runV hC (c_D_isSound l D K q hq 8 (by decide) pn wn hpn hwn σ h6 h11) yy_D_isSound yv_D_77 (by decide) rfl ⟨Nat.le_of_ble_eq_true rfl, Nat.le_of_ble_eq_true rfl⟩ ⟨Nat.zero_le _, Nat.zero_le _⟩ rfl (Nat.le_of_ble_eq_true rfl) d_D_install_5) (fun r ρ hq1 => ?_)
  obtain ⟨⟨b, rfl, hbs⟩, hO⟩ := hq1
  have hp0 : ρ (zp 8) 0 = nI nm := by rw [hO (zp 8) (by unfold zp; omega)]; exact h0
  refine g_ifne_b hC 19 d_D_install_8 rfl rfl (fun h8 => ?_) (fun h8 => ?_)
  · have hs : zSnd σ 8 pn wn := hbs.mp h8
    refine g_aload_n hC d_D_install_19 rfl rfl ?_
    refine g_aload_n hC d_D_install_20 rfl rfl ?_
    refine g_getR hC _ 0 0 _ (by decide) rfl rfl fl_D_10 d_D_install_21 rfl ?_
    refine g_goi hC rfl (z_runV hC (c_D_mayEnter l D K q hq 8 (by decide) nm hnm ρ hp0) yy_D_mayEnter yv_D_84 (by decide) rfl ⟨Nat.le_of_ble_eq_true rfl, Nat.le_of_ble_eq_true rfl⟩ ⟨Nat.zero_le _, Nat.zero_le _⟩ rfl (Nat.le_of_ble_eq_true rfl) d_D_install_24) (fun r2 ρ2 hq2 => ?_)
    obtain ⟨rfl, rfl⟩ := hq2
    refine g_ifne_b hC 38 d_D_install_27 rfl rfl (fun h27 => ?_) (fun h27 => ?_)
    · refine g_aload_n hC d_D_install_38 rfl rfl ?_
      refine g_getR hC _ 0 1 _ (by decide) rfl rfl fl_D_18 d_D_install_39 rfl ?_
      refine g_aload_n hC d_D_install_42 rfl rfl ?_
      refine g_getR hC _ 0 0 _ (by decide) rfl rfl fl_D_10 d_D_install_43 rfl ?_
      refine g_getI hC _ 1 0 (zp_lt (by decide)) (zS_p (by decide)) rfl fl_D_90 d_D_install_46 rfl ?_
      refine g_aald hC _ _ nm _ (by decide) rfl hp0 hnm (by decide) (zS_app hnm) d_D_install_49 rfl ?_
      refine g_aload_n hC d_D_install_50 rfl rfl ?_
      refine g_getR hC _ 0 0 _ (by decide) rfl rfl fl_D_10 d_D_install_51 rfl ?_
      refine g_gov hC rfl (z_runV hC (c_A_takeIn l D K q hq nm hnm 8 (by decide) (by omega) _) yy_A_takeIn yv_D_93 (za_lt hnm) (zS_a hnm) ⟨Nat.le_of_ble_eq_true rfl, Nat.le_of_ble_eq_true rfl⟩ ⟨Nat.zero_le _, Nat.zero_le _⟩ rfl (Nat.le_of_ble_eq_true rfl) d_D_install_54) (fun σ2 hq3 => ?_)
      have hv : σ2 (zp 8) 0 = nI nm := by
        obtain ⟨τ, hPk, rfl⟩ := hq3
        have hza : za nm = 72 + 4 * nm := rfl
        have hzp : zp nm = 9 + 7 * nm := rfl
        have hz8 : zp 8 = 65 := rfl
        rw [zu_r _ _ (by omega), zu_r _ _ (by omega), zu_r _ _ (by omega), hPk.1 _ _ (by omega)]
        exact hp0
      refine g_aload_n hC d_D_install_57 rfl rfl ?_
      refine g_getR hC _ 0 0 _ (by decide) rfl rfl fl_D_10 d_D_install_58 rfl ?_
      refine g_getI hC _ 1 0 (zp_lt (by decide)) (zS_p (by decide)) rfl fl_D_90 d_D_install_61 rfl ?_
      exact g_tret hC hr hlk d_D_install_64 ⟨⟨_, hO, Or.inr (Or.inr ⟨rfl, hs, h27, hq3⟩)⟩, fun _ => hv⟩
    · exact g_tthrow hC htr het hlk (nm := "java/lang/IllegalStateException") (names := zEx) (by decide +kernel) zEx_ok th_S kl_D_87 ki_IllegalStateException kx_S d_D_install_30 d_D_install_33 d_D_install_34 d_D_install_37 (Nat.le_of_ble_eq_true rfl) (Nat.le_of_ble_eq_true rfl) (Nat.le_of_ble_eq_true rfl) (Nat.le_of_ble_eq_true rfl) (k := 2) (r := 0) (by decide) rfl ⟨⟨_, hO, Or.inr (Or.inl ⟨rfl, hs, h27, rfl⟩)⟩, fun h => absurd h (by decide)⟩
  · exact g_tthrow hC htr het hlk (nm := "java/lang/IllegalArgumentException") (names := zEx) (by decide +kernel) zEx_ok th_A kl_D_81 ki_IllegalArgumentException kx_A2 d_D_install_11 d_D_install_14 d_D_install_15 d_D_install_18 (Nat.le_of_ble_eq_true rfl) (Nat.le_of_ble_eq_true rfl) (Nat.le_of_ble_eq_true rfl) (Nat.le_of_ble_eq_true rfl) (k := 1) (r := 0) (by decide) rfl ⟨⟨_, hO, Or.inl ⟨rfl, fun hs => (by rw [hbs.mpr hs] at h8; cases h8), rfl⟩⟩, fun h => absurd h (by decide)⟩
set_option maxHeartbeats 4000000 in
set_option maxRecDepth 100000 in
theorem c_D_step (l : Launch) (htr : l.stackTraces = false) (D : va_G) (K : Nat → ClassId) (q : Nat → Nat) (hq : zI q) (σ : zm) (L z : Nat) (wf : Nat → Nat) (hL : L ≤ 8) (hL0 : σ 0 4 = nI L - 1) (hz : z ≤ 8) (hz0 : σ 2 0 = nI z) (hwf : ∀ a, a < 8 → wf a ≤ 24 ∧ σ (zp a) 11 = nI (wf a)) : zMt l y_D_step b_D_step 2 (some .int) 6 D K q [.ref (q 0)] σ nkS (fun k r σ' => zStp σ L z wf k r σ') := by
  refine zMt.of (own := "AppDesk") (lv := [(0, .ref (q 0))]) (by decide) rfl hq (Nat.le_of_ble_eq_true rfl) rfl ?_
  intro p e s m below meth c hC hr hlk het
  have hn : znx σ L 8 1 = -1 ∨ ∃ a, a < 8 ∧ znx σ L 8 1 = nI a := by
    rcases znx_or (σ := σ) (L := L) (f := 8) (i := 1) with ⟨h1, -⟩ | ⟨k, -, -, h3, -⟩
    · exact Or.inl h1
    · exact Or.inr ⟨_, Nat.mod_lt _ (by decide), h3⟩
  refine g_aload_n hC d_D_step_0 rfl rfl ?_
  refine g_goi hC rfl (z_runV hC (c_D_nextInTurn l D K q hq σ L hL hL0) yy_D_nextInTurn yv_D_142 (by decide) rfl ⟨Nat.le_of_ble_eq_true rfl, Nat.le_of_ble_eq_true rfl⟩ ⟨Nat.zero_le _, Nat.zero_le _⟩ rfl (Nat.le_of_ble_eq_true rfl) d_D_step_1) (fun r ρ hq1 => ?_)
  obtain ⟨hr1, rfl⟩ := hq1
  refine g_istore_n hC d_D_step_4 rfl (by decide) ?_
  refine g_iload_n hC d_D_step_5 rfl rfl ?_
  refine g_iconst hC (-1) d_D_step_6 (by decide) rfl ?_
  refine g_icmp_ne hC 12 d_D_step_7 rfl rfl (fun h7 => ?_) (fun h7 => ?_)
  · rcases hn with hn | ⟨a, ha, hn⟩
    · exact absurd (hr1.trans hn) h7
    rw [hn] at hr1
    subst hr1
    have hza : za a = 72 + 4 * a := rfl
    have hzp : zp a = 9 + 7 * a := rfl
    refine g_aload_n hC d_D_step_12 rfl rfl ?_
    refine g_iload_n hC d_D_step_13 rfl rfl ?_
    refine g_putI hC _ 0 4 (by decide) rfl rfl fp_D_37 d_D_step_14 rfl ?_
    refine g_aload_n hC d_D_step_17 rfl rfl ?_
    refine g_iload_n hC d_D_step_18 rfl rfl ?_
    refine g_goi hC rfl (z_runV hC (c_D_doWord l D K q hq a ha (zs1 ρ a) (wf a) z (hwf a ha).1 hz (by unfold zs1; rw [zu_r _ _ (by omega)]; exact (hwf a ha).2) (by unfold zs1; rw [zu_r _ _ (by omega)]; exact hz0)) yy_D_doWord yv_D_145 (by decide) rfl ⟨Nat.le_of_ble_eq_true rfl, Nat.le_of_ble_eq_true rfl⟩ ⟨Nat.zero_le _, Nat.zero_le _⟩ rfl (Nat.le_of_ble_eq_true rfl) d_D_step_19) (fun r2 τ hq2 => ?_)
    obtain ⟨rfl, hτ⟩ := hq2
    refine g_ifne_b hC 43 d_D_step_22 rfl rfl (fun h22 => ?_) (fun h22 => ?_)
    · refine g_iload_n hC d_D_step_43 rfl rfl ?_
      exact g_tret hC hr hlk d_D_step_44 (Or.inr ⟨a, ha, hn, by rw [h22, if_pos rfl]; exact ⟨rfl, rfl, hτ⟩⟩)
    · refine g_aload_n hC d_D_step_25 rfl rfl ?_
      refine g_getR hC _ 0 1 _ (by decide) rfl rfl fl_D_18 d_D_step_26 rfl ?_
      refine g_iload_n hC d_D_step_29 rfl rfl ?_
      refine g_aald hC _ _ a _ (by decide) rfl rfl ha (by decide) (zS_app ha) d_D_step_30 rfl ?_
      refine g_iconst hC 0 d_D_step_31 (by decide) rfl ?_
      refine g_putZ hC _ 2 5 (za_lt ha) (zS_a ha) rfl fp_D_148 (Or.inl rfl) d_D_step_32 rfl ?_
      exact g_tthrow hC htr het hlk (nm := "java/lang/IllegalStateException") (names := zEx) (by decide +kernel) zEx_ok th_S kl_D_87 ki_IllegalStateException kx_S d_D_step_35 d_D_step_38 d_D_step_39 d_D_step_42 (Nat.le_of_ble_eq_true rfl) (Nat.le_of_ble_eq_true rfl) (Nat.le_of_ble_eq_true rfl) (Nat.le_of_ble_eq_true rfl) (k := 1) (r := 0) (by decide) rfl (Or.inr ⟨a, ha, hn, by rw [h22, if_neg (by decide), hτ]; exact ⟨rfl, rfl⟩⟩)
  · subst h7
    refine g_iconst hC (-1) d_D_step_10 (by decide) rfl ?_
    exact g_tret hC hr hlk d_D_step_11 (Or.inl ⟨hr1.symm, rfl, rfl, rfl⟩)
