set_option maxHeartbeats 4000000 in
set_option maxRecDepth 100000 in
theorem c_V_isGood (l : Launch) (D : va_G) (K : Nat → ClassId) (q : Nat → Nat) (hq : zI q) (i : Nat) (hi : i < 9) (pn wn : Nat) (hpn : pn ≤ 4) (hwn : wn ≤ 24) (σ : zm) (h6 : σ (zp i) 6 = nI pn) (h11 : σ (zp i) 11 = nI wn) : zMi l y_V_isGood b_V_isGood 3 (some .boolean) 3 D K q [.ref (q (6)), .ref (q (zp i))] σ (fun r σ' => (∃ b : Bool, r = zb b ∧ (b = true ↔ ∃ H, zCons (σ (zp i + 6)) wn (σ (zp i + 5)) pn H)) ∧ zOf σ σ') := by
  refine zMi.of (own := "AppDesk$Verifier") (lv := [(0, .ref (q (6))), (1, .ref (q (zp i)))]) (by decide) rfl hq (Nat.le_of_ble_eq_true rfl) rfl ?_
  intro p e s m below meth c hC hr hlk
  have J48 : ∀ (f : Nat) (t : Nat) (hif : t + f = 24) (τ : zm) (cn : Nat) (hV : zVI τ wn cn) (hO : zOf σ τ) (hA : ∀ H, zCons (σ (zp i + 6)) wn (σ (zp i + 5)) pn H → zAg τ H) (hD : ∀ t', t' < pn → ∃ j, j < wn ∧ σ (zp i + 5) t' = nI j ∧ τ 7 j = 0) (hP : ∀ t', t' < t → ∀ k, k < wn → τ 8 t' = nI k → zCk (σ (zp i + 6)) wn (τ 7) k), zG p l e (zrm 3) s m ([.ref (q (6)), .ref (q (zp i))] : List Value).toArray below meth c D K q (zA q) 3 0 0 (MQ below (va_Qi (fun r σ' => (∃ b : Bool, r = zb b ∧ (b = true ↔ ∃ H, zCons (σ (zp i + 6)) wn (σ (zp i + 5)) pn H)) ∧ zOf σ σ') (zO D K q) (zA q)) ([.ref (q (6)), .ref (q (zp i))] : List Value).toArray s 0 0 (zA q)) τ 48 [(0, .ref (q (6))), (1, .ref (q (zp i))), (2, .int (nI t))] [] := by
    intro f
    induction f with
    | zero =>
      intro t hif τ cn hV hO hA hD hP
      refine g_iload_n hC d_V_isGood_48 rfl rfl ?_
      refine g_aload_n hC d_V_isGood_49 rfl rfl ?_
      refine g_getV hC _ 4 2 (nI cn) (hV.2.1) (by decide) rfl rfl fl_V_24 d_V_isGood_50 rfl ?_
      refine g_icmp_ge hC 84 d_V_isGood_53 rfl rfl (fun h53 => ?_) (fun h53 => absurd (nI_le (a := cn) (b := t) (by have := hV.1; omega) (by omega)) h53)
      have hct : cn ≤ t := (nI_leI (a := cn) (b := t) (by have := hV.1; omega) (by omega)).mp h53
      refine g_iconst hC (1) d_V_isGood_84 (by decide) rfl ?_
      exact g_zret hC hr hlk d_V_isGood_85 (Or.inr rfl) ⟨⟨true, rfl, ⟨fun _ => zst3 hwn hct hV hD hP, fun _ => rfl⟩⟩, hO⟩
    | succ f ih =>
      intro t hif τ cn hV hO hA hD hP
      refine g_iload_n hC d_V_isGood_48 rfl rfl ?_
      refine g_aload_n hC d_V_isGood_49 rfl rfl ?_
      refine g_getV hC _ 4 2 (nI cn) (hV.2.1) (by decide) rfl rfl fl_V_24 d_V_isGood_50 rfl ?_
      refine g_icmp_ge hC 84 d_V_isGood_53 rfl rfl (fun h53 => ?_) (fun h53 => ?_)
      ·
        have hct : cn ≤ t := (nI_leI (a := cn) (b := t) (by have := hV.1; omega) (by omega)).mp h53
        refine g_iconst hC (1) d_V_isGood_84 (by decide) rfl ?_
        exact g_zret hC hr hlk d_V_isGood_85 (Or.inr rfl) ⟨⟨true, rfl, ⟨fun _ => zst3 hwn hct hV hD hP, fun _ => rfl⟩⟩, hO⟩
      ·
        refine g_iload_n hC d_V_isGood_56 rfl rfl ?_
        refine g_bipush hC (24) d_V_isGood_57 (by decide) rfl ?_
        refine g_icmp_ge hC 84 d_V_isGood_59 rfl rfl (fun h59 => absurd h59 (nI_ge (a := t) (b := 24) (by omega) (by omega))) (fun h59 => ?_)
        have htc : t < cn := Nat.lt_of_not_le (fun z => h53 (nI_le (a := cn) (b := t) z (by omega)))
        obtain ⟨k, hk, hk8, hk7⟩ := hV.2.2.2.1 t htc
        obtain ⟨o, ho, hoe⟩ := pk_andE (σ (zp i + 6) k) (m := 15) 4 (by decide)
        replace ho : o < 16 := ho
        refine g_aload_n hC d_V_isGood_62 rfl rfl ?_
        refine g_aload_n hC d_V_isGood_63 rfl rfl ?_
        refine g_aload_n hC d_V_isGood_64 rfl rfl ?_
        refine g_getR hC _ 4 1 _ (by decide) rfl rfl fl_V_15 d_V_isGood_65 rfl ?_
        refine g_iload_n hC d_V_isGood_68 rfl rfl ?_
        refine g_ialdV hC _ _ (t) (nI k) (hk8) (by decide) rfl rfl (by omega) (by decide) d_V_isGood_69 rfl ?_
        refine g_goi hC rfl (z_runV hC (c_V_goesOnWell l D K q hq _ hi k wn cn o hk hwn hV.1 ho _ (by rw [hO _ (by unfold zp; omega)]; exact hoe) (by rw [hO _ (by unfold zp; omega)]; exact h11) hV.2.1) yy_V_goesOnWell yv_V_40 (by decide) rfl ⟨Nat.le_of_ble_eq_true rfl, Nat.le_of_ble_eq_true rfl⟩ ⟨Nat.zero_le _, Nat.zero_le _⟩ rfl (Nat.le_of_ble_eq_true rfl) d_V_isGood_70) (fun r0 σ0 q0 => ?_)
        obtain ⟨rfl, w0⟩ := q0
        obtain rfl := w0.symm
        refine g_ifne_b hC 78 d_V_isGood_73 rfl rfl (fun h73 => ?_) (fun h73 => ?_)
        ·
          obtain ⟨c2, v2, o2, a2, d2, p2⟩ := zst2 hwn htc hV hO hA hD hP hk hk8 hk7 ho hoe h73
          refine g_iinc hC (nI (t + 1)) d_V_isGood_78 rfl rfl (nI_succ _).symm (by decide) ?_
          refine g_goto hC 48 d_V_isGood_81 rfl ?_
          exact zG.to (ih (t + 1) (by omega) _ c2 v2 o2 a2 d2 p2) rfl rfl ⟨rfl, rfl, rfl, trivial⟩
        ·
          refine g_iconst hC (0) d_V_isGood_76 (by decide) rfl ?_
          exact g_zret hC hr hlk d_V_isGood_77 (Or.inl rfl) ⟨⟨false, rfl, ⟨(fun z => by cases z), fun z => absurd z (zst2_f hwn hV hO hA hk hk7 ho hoe h73)⟩⟩, fun a ha => (zgw_off _ _ _ _ _ ha).trans (hO a ha)⟩
  have J15 : ∀ (f : Nat) (t : Nat) (hif : t + f = pn) (τ : zm) (cn : Nat) (hV : zVI τ wn cn) (hO : zOf σ τ) (hA : ∀ H, zCons (σ (zp i + 6)) wn (σ (zp i + 5)) pn H → zAg τ H) (hD : ∀ t', t' < t → ∃ j, j < wn ∧ σ (zp i + 5) t' = nI j ∧ τ 7 j = 0), zG p l e (zrm 3) s m ([.ref (q (6)), .ref (q (zp i))] : List Value).toArray below meth c D K q (zA q) 3 0 0 (MQ below (va_Qi (fun r σ' => (∃ b : Bool, r = zb b ∧ (b = true ↔ ∃ H, zCons (σ (zp i + 6)) wn (σ (zp i + 5)) pn H)) ∧ zOf σ σ') (zO D K q) (zA q)) ([.ref (q (6)), .ref (q (zp i))] : List Value).toArray s 0 0 (zA q)) τ 15 [(0, .ref (q (6))), (1, .ref (q (zp i))), (2, .int (nI t))] [] := by
    intro f
    induction f with
    | zero =>
      intro t hif τ cn hV hO hA hD
      refine g_iload_n hC d_V_isGood_15 rfl rfl ?_
      refine g_aload_n hC d_V_isGood_16 rfl rfl ?_
      refine g_getV hC _ 1 6 (nI pn) (by rw [hO _ (by unfold zp; omega)]; exact h6) (zp_lt hi) (zS_p hi) rfl fl_V_28 d_V_isGood_17 rfl ?_
      refine g_icmp_ge hC 46 d_V_isGood_20 rfl rfl (fun h20 => ?_) (fun h20 => absurd (nI_le (a := pn) (b := t) (by omega) (by omega)) h20)
      refine g_iconst hC (0) d_V_isGood_46 (by decide) rfl ?_
      refine g_istore_n hC d_V_isGood_47 rfl (by decide) ?_
      exact zG.to (J48 24 0 (by omega) τ cn hV hO hA (fun t' ht' => hD t' (by omega)) (fun t' ht' => absurd ht' (Nat.not_lt_zero _))) rfl rfl ⟨rfl, rfl, rfl, trivial⟩
    | succ f ih =>
      intro t hif τ cn hV hO hA hD
      refine g_iload_n hC d_V_isGood_15 rfl rfl ?_
      refine g_aload_n hC d_V_isGood_16 rfl rfl ?_
      refine g_getV hC _ 1 6 (nI pn) (by rw [hO _ (by unfold zp; omega)]; exact h6) (zp_lt hi) (zS_p hi) rfl fl_V_28 d_V_isGood_17 rfl ?_
      refine g_icmp_ge hC 46 d_V_isGood_20 rfl rfl (fun h20 => absurd h20 (nI_ge (a := t) (b := pn) (by omega) (by omega))) (fun h20 => ?_)
      refine g_aload_n hC d_V_isGood_23 rfl rfl ?_
      refine g_aload_n hC d_V_isGood_24 rfl rfl ?_
      refine g_aload_n hC d_V_isGood_25 rfl rfl ?_
      refine g_getR hC _ 1 10 _ (zp_lt hi) (zS_p hi) rfl fl_V_33 d_V_isGood_26 rfl ?_
      refine g_iload_n hC d_V_isGood_29 rfl rfl ?_
      refine g_ialdV hC _ _ (t) (σ (zp i + 5) t) (by rw [hO _ (by unfold zp; omega)]) (zp_lt' hi 5 (by decide)) (zS_pr hi 5 (by decide)) rfl (by omega) (by decide) d_V_isGood_30 rfl ?_
      refine g_iconst hC (0) d_V_isGood_31 (by decide) rfl ?_
      refine g_goi hC rfl (z_runV hC (c_V_reach l D K q hq _ hi _ _ wn cn hwn hV.1 _ (by rw [hO _ (by unfold zp; omega)]; exact h11) hV.2.1) yy_V_reach yv_V_36 (by decide) rfl ⟨Nat.le_of_ble_eq_true rfl, Nat.le_of_ble_eq_true rfl⟩ ⟨Nat.zero_le _, Nat.zero_le _⟩ rfl (Nat.le_of_ble_eq_true rfl) d_V_isGood_32) (fun r1 σ1 q1 => ?_)
      obtain ⟨rfl, w1⟩ := q1
      obtain rfl := w1.symm
      refine g_ifne_b hC 40 d_V_isGood_35 rfl rfl (fun h35 => ?_) (fun h35 => ?_)
      ·
        obtain ⟨c2, v2, o2, a2, d2⟩ := zst1 hwn (by omega) hV hO hA hD h35
        refine g_iinc hC (nI (t + 1)) d_V_isGood_40 rfl rfl (nI_succ _).symm (by decide) ?_
        refine g_goto hC 15 d_V_isGood_43 rfl ?_
        exact zG.to (ih (t + 1) (by omega) _ c2 v2 o2 a2 d2) rfl rfl ⟨rfl, rfl, rfl, trivial⟩
      ·
        refine g_iconst hC (0) d_V_isGood_38 (by decide) rfl ?_
        exact g_zret hC hr hlk d_V_isGood_39 (Or.inl rfl) ⟨⟨false, rfl, ⟨(fun z => by cases z), fun z => absurd z (zst1_f hwn (by omega) hV hA h35)⟩⟩, fun a ha => (zrc_off _ _ _ _ ha).trans (hO a ha)⟩
  refine g_aload_n hC d_V_isGood_0 rfl rfl ?_
  refine g_getR hC _ 4 0 _ (by decide) rfl rfl fl_V_9 d_V_isGood_1 rfl ?_
  refine g_iconst hC (-1) d_V_isGood_4 (by decide) rfl ?_
  refine g_gov hC rfl (z_runS hC (c_J_fill l D K q hq _ _ (by decide) rfl (by decide) _ _) yy_J_fill ys_V_18 ⟨Nat.le_of_ble_eq_true rfl, Nat.le_of_ble_eq_true rfl⟩ ⟨Nat.zero_le _, Nat.zero_le _⟩ rfl (Nat.le_of_ble_eq_true rfl) d_V_isGood_5) (fun σ2 q2 => ?_)
  obtain rfl := q2.symm
  refine g_aload_n hC d_V_isGood_8 rfl rfl ?_
  refine g_iconst hC (0) d_V_isGood_9 (by decide) rfl ?_
  refine g_putI hC _ 4 2 (by decide) rfl rfl fp_V_24 d_V_isGood_10 rfl ?_
  refine g_iconst hC (0) d_V_isGood_13 (by decide) rfl ?_
  refine g_istore_n hC d_V_isGood_14 rfl (by decide) ?_
  exact zG.to (J15 pn 0 (by omega) (zv0 σ) 0 (zv0_VI σ wn) (fun a ha => zv0_off σ ha) (fun H hH k hk hne => absurd (zv0_7 σ hk) hne) (fun t' ht' => absurd ht' (Nat.not_lt_zero _))) rfl rfl ⟨rfl, rfl, rfl, trivial⟩
