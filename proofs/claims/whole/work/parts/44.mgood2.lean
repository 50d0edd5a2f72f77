set_option maxHeartbeats 4000000 in
set_option maxRecDepth 100000 in
theorem c_M_good (l : Launch) (D : va_G) (K : Nat → ClassId) (q : Nat → Nat) (hq : zI q) (σ : zm) (pn wn : Nat) (hpn : pn ≤ 4) (hwn : wn ≤ 24) (hpc : σ 111 8 = nI pn) (hwc : σ 116 8 = nI wn) : zMi l y_M_good b_M_good 4 (some .boolean) 3 D K q [.ref (q (104))] σ (fun r σ' => (∃ b : Bool, r = zb b ∧ (b = true ↔ wHas σ wn pn)) ∧ wOf σ σ') := by
  refine zMi.of (own := "AppDeskModel") (lv := [(0, .ref (q (104)))]) (by decide) rfl hq (Nat.le_of_ble_eq_true rfl) rfl ?_
  intro p e s m below meth c hC hr hlk
  have J84 : ∀ (f : Nat) (r : Nat) (ρ : zm) (K128 : ∀ (τ : zm) (b : Bool), (∃ k, (k = wn ∨ b = false) ∧ wI4 σ ρ τ wn pn b k) → zG p l e (zrm 3) s m ([.ref (q (104))] : List Value).toArray below meth c D K q (zA q) 4 0 0 (MQ below (va_Qi (fun r σ' => (∃ b : Bool, r = zb b ∧ (b = true ↔ wHas σ wn pn)) ∧ wOf σ σ') (zO D K q) (zA q)) ([.ref (q (104))] : List Value).toArray s 0 0 (zA q)) τ 128 [(0, .ref (q (104))), (1, .int (zb b)), (2, .int (nI r))] []) (k : Nat) (hif : k + f = wn) (τ : zm) (b : Bool) (hJ : wI4 σ ρ τ wn pn b k), zG p l e (zrm 3) s m ([.ref (q (104))] : List Value).toArray below meth c D K q (zA q) 4 0 0 (MQ below (va_Qi (fun r σ' => (∃ b : Bool, r = zb b ∧ (b = true ↔ wHas σ wn pn)) ∧ wOf σ σ') (zO D K q) (zA q)) ([.ref (q (104))] : List Value).toArray s 0 0 (zA q)) τ 84 [(0, .ref (q (104))), (1, .int (zb b)), (2, .int (nI r)), (3, .int (nI k))] [] := by
    intro f
    induction f with
    | zero =>
      intro r ρ K128 k hif τ b hJ
      have hke : k = wn := by omega
      refine g_iload_n hC d_M_good_84 rfl rfl ?_
      refine g_aload_n hC d_M_good_85 rfl rfl ?_
      refine g_getR hC _ 5 12 _ (by decide) rfl rfl fl_M_44 d_M_good_86 rfl ?_
      refine g_bipush hC (8) d_M_good_89 (by decide) rfl ?_
      refine g_ialdV hC _ _ 8 (nI wn) (by rw [hJ.1.2.1 _ (by decide)]; exact hwc) (by decide) rfl (by decide) (by decide) (by decide) d_M_good_91 rfl ?_
      refine g_icmp_ge hC 128 d_M_good_92 rfl rfl (fun h92 => ?_) (fun h92 => absurd (nI_le (a := wn) (b := k) (by omega) (by omega)) h92)
      first | exact zG.to (K128 _ _ ⟨_, Or.inr h96, hJ⟩) rfl rfl ⟨rfl, rfl, rfl, trivial⟩ | exact zG.to (K128 _ _ ⟨_, Or.inl hke, hJ⟩) rfl rfl ⟨rfl, rfl, rfl, trivial⟩
    | succ f ih =>
      intro r ρ K128 k hif τ b hJ
      have hkw : k < wn := by omega
      refine g_iload_n hC d_M_good_84 rfl rfl ?_
      refine g_aload_n hC d_M_good_85 rfl rfl ?_
      refine g_getR hC _ 5 12 _ (by decide) rfl rfl fl_M_44 d_M_good_86 rfl ?_
      refine g_bipush hC (8) d_M_good_89 (by decide) rfl ?_
      refine g_ialdV hC _ _ 8 (nI wn) (by rw [hJ.1.2.1 _ (by decide)]; exact hwc) (by decide) rfl (by decide) (by decide) (by decide) d_M_good_91 rfl ?_
      refine g_icmp_ge hC 128 d_M_good_92 rfl rfl (fun h92 => absurd h92 (nI_ge (a := k) (b := wn) (by omega) (by omega))) (fun h92 => ?_)
      refine g_iload_n hC d_M_good_95 rfl rfl ?_
      refine g_ifeq_b hC 128 d_M_good_96 rfl rfl (fun h96 => ?_) (fun h96 => ?_)
      ·
        first | exact zG.to (K128 _ _ ⟨_, Or.inr h96, hJ⟩) rfl rfl ⟨rfl, rfl, rfl, trivial⟩ | exact zG.to (K128 _ _ ⟨_, Or.inl hke, hJ⟩) rfl rfl ⟨rfl, rfl, rfl, trivial⟩
      ·
        refine g_aload_n hC d_M_good_99 rfl rfl ?_
        refine g_getR hC _ 5 28 _ (by decide) rfl rfl fl_M_87 d_M_good_100 rfl ?_
        refine g_iload_n hC d_M_good_103 rfl rfl ?_
        refine g_iald hC _ _ k (by decide) rfl rfl (by show k < 24; omega) (by decide) d_M_good_104 rfl ?_
        refine g_if_lt hC 116 d_M_good_105 rfl rfl (fun h105 => ?_) (fun h105 => ?_)
        ·
          refine g_iconst hC (1) d_M_good_116 (by decide) rfl ?_
          refine g_goto hC 121 d_M_good_117 rfl ?_
          refine g_istore_n hC d_M_good_121 rfl (by decide) ?_
          refine g_iinc hC (nI (k + 1)) d_M_good_122 rfl rfl (nI_succ _).symm (by decide) ?_
          refine g_goto hC 84 d_M_good_125 rfl ?_
          first | exact zG.to (ih r ρ K128 (k + 1) (by omega) _ true (wst4_s hwn hkw hJ h96 h105)) rfl rfl ⟨rfl, rfl, rfl, rfl, trivial⟩ | exact zG.to (ih r ρ K128 (k + 1) (by omega) _ true (wst4_t hwn hkw hJ h96 h105 ho hoe h113)) rfl rfl ⟨rfl, rfl, rfl, rfl, trivial⟩ | exact zG.to (ih r ρ K128 (k + 1) (by omega) _ false (wst4_f hwn hkw hJ h96 h105 ho hoe h113)) rfl rfl ⟨rfl, rfl, rfl, rfl, trivial⟩
        ·
          obtain ⟨o, ho, hoe⟩ := pk_andE (σ 117 (192 + k)) (m := 15) 4 (by decide)
          replace ho : o < 16 := ho
          refine g_aload_n hC d_M_good_108 rfl rfl ?_
          refine g_iload_n hC d_M_good_109 rfl rfl ?_
          refine g_goi hC rfl (z_runV hC (c_M_goesOn l D K q hq _ _ _ hkw hwn ho _ (by rw [hJ.1.2.1 _ (by decide)]; exact hoe) (by rw [hJ.1.2.1 _ (by decide)]; exact hwc)) yy_M_goesOn yv_M_119 (by decide) rfl ⟨Nat.le_of_ble_eq_true rfl, Nat.le_of_ble_eq_true rfl⟩ ⟨Nat.zero_le _, Nat.zero_le _⟩ rfl (Nat.le_of_ble_eq_true rfl) d_M_good_110) (fun r0 σ0 q0 => ?_)
          obtain ⟨rfl, w0⟩ := q0
          obtain rfl := w0.symm
          refine g_ifeq_b hC 120 d_M_good_113 rfl rfl (fun h113 => ?_) (fun h113 => ?_)
          ·
            refine g_iconst hC (0) d_M_good_120 (by decide) rfl ?_
            refine g_istore_n hC d_M_good_121 rfl (by decide) ?_
            refine g_iinc hC (nI (k + 1)) d_M_good_122 rfl rfl (nI_succ _).symm (by decide) ?_
            refine g_goto hC 84 d_M_good_125 rfl ?_
            first | exact zG.to (ih r ρ K128 (k + 1) (by omega) _ true (wst4_s hwn hkw hJ h96 h105)) rfl rfl ⟨rfl, rfl, rfl, rfl, trivial⟩ | exact zG.to (ih r ρ K128 (k + 1) (by omega) _ true (wst4_t hwn hkw hJ h96 h105 ho hoe h113)) rfl rfl ⟨rfl, rfl, rfl, rfl, trivial⟩ | exact zG.to (ih r ρ K128 (k + 1) (by omega) _ false (wst4_f hwn hkw hJ h96 h105 ho hoe h113)) rfl rfl ⟨rfl, rfl, rfl, rfl, trivial⟩
          ·
            refine g_iconst hC (1) d_M_good_116 (by decide) rfl ?_
            refine g_goto hC 121 d_M_good_117 rfl ?_
            refine g_istore_n hC d_M_good_121 rfl (by decide) ?_
            refine g_iinc hC (nI (k + 1)) d_M_good_122 rfl rfl (nI_succ _).symm (by decide) ?_
            refine g_goto hC 84 d_M_good_125 rfl ?_
            first | exact zG.to (ih r ρ K128 (k + 1) (by omega) _ true (wst4_s hwn hkw hJ h96 h105)) rfl rfl ⟨rfl, rfl, rfl, rfl, trivial⟩ | exact zG.to (ih r ρ K128 (k + 1) (by omega) _ true (wst4_t hwn hkw hJ h96 h105 ho hoe h113)) rfl rfl ⟨rfl, rfl, rfl, rfl, trivial⟩ | exact zG.to (ih r ρ K128 (k + 1) (by omega) _ false (wst4_f hwn hkw hJ h96 h105 ho hoe h113)) rfl rfl ⟨rfl, rfl, rfl, rfl, trivial⟩
  have J72 : ∀ (f : Nat) (r : Nat) (hif : r + f = 25) (τ : zm) (b : Bool) (hI : wI3 σ τ wn pn b r), zG p l e (zrm 3) s m ([.ref (q (104))] : List Value).toArray below meth c D K q (zA q) 4 0 0 (MQ below (va_Qi (fun r σ' => (∃ b : Bool, r = zb b ∧ (b = true ↔ wHas σ wn pn)) ∧ wOf σ σ') (zO D K q) (zA q)) ([.ref (q (104))] : List Value).toArray s 0 0 (zA q)) τ 72 [(0, .ref (q (104))), (1, .int (zb b)), (2, .int (nI r))] [] := by
    intro f
    induction f with
    | zero =>
      intro r hif τ b hI
      have hr25 : r = 25 := by omega
      refine g_iload_n hC d_M_good_72 rfl rfl ?_
      refine g_bipush hC (25) d_M_good_73 (by decide) rfl ?_
      refine g_icmp_ge hC 134 d_M_good_75 rfl rfl (fun h75 => ?_) (fun h75 => absurd (nI_le (a := 25) (b := r) (by omega) (by omega)) h75)
      first | have hx := wI3_a hI hr25 | have hx := wI3_b hI h79
      refine g_iload_n hC d_M_good_134 rfl rfl ?_
      exact g_zret hC hr hlk d_M_good_135 (zb01 _) ⟨⟨b, rfl, hx⟩, hI.1.2.1⟩
    | succ f ih =>
      intro r hif τ b hI
      refine g_iload_n hC d_M_good_72 rfl rfl ?_
      refine g_bipush hC (25) d_M_good_73 (by decide) rfl ?_
      refine g_icmp_ge hC 134 d_M_good_75 rfl rfl (fun h75 => absurd h75 (nI_ge (a := r) (b := 25) (by omega) (by omega))) (fun h75 => ?_)
      refine g_iload_n hC d_M_good_78 rfl rfl ?_
      refine g_ifeq_b hC 134 d_M_good_79 rfl rfl (fun h79 => ?_) (fun h79 => ?_)
      ·
        first | have hx := wI3_a hI hr25 | have hx := wI3_b hI h79
        refine g_iload_n hC d_M_good_134 rfl rfl ?_
        exact g_zret hC hr hlk d_M_good_135 (zb01 _) ⟨⟨b, rfl, hx⟩, hI.1.2.1⟩
      ·
        refine g_iconst hC (0) d_M_good_82 (by decide) rfl ?_
        refine g_istore_n hC d_M_good_83 rfl (by decide) ?_
        refine zG.to (J84 wn r τ (fun τ2 b2 hx => ?_) 0 (by omega) τ b (wI4_0 hI.1)) rfl rfl ⟨rfl, rfl, rfl, rfl, trivial⟩
        obtain ⟨k2, hk2, hJ2⟩ := hx
        refine g_iinc hC (nI (r + 1)) d_M_good_128 rfl rfl (nI_succ _).symm (by decide) ?_
        refine g_goto hC 72 d_M_good_131 rfl ?_
        exact zG.to (ih (r + 1) (by omega) τ2 b2 (wI3_s hwn hI h79 hk2 hJ2)) rfl rfl ⟨rfl, rfl, rfl, trivial⟩
  have J26 : ∀ (f : Nat) (t : Nat) (hif : t + f = pn) (τ : zm) (b : Bool) (hI : wI1 σ τ wn pn b t), zG p l e (zrm 3) s m ([.ref (q (104))] : List Value).toArray below meth c D K q (zA q) 4 0 0 (MQ below (va_Qi (fun r σ' => (∃ b : Bool, r = zb b ∧ (b = true ↔ wHas σ wn pn)) ∧ wOf σ σ') (zO D K q) (zA q)) ([.ref (q (104))] : List Value).toArray s 0 0 (zA q)) τ 26 [(0, .ref (q (104))), (1, .int (zb b)), (2, .int (nI (32 + t)))] [] := by
    intro f
    induction f with
    | zero =>
      intro t hif τ b hI
      have htp : t = pn := by omega
      refine g_iload_n hC d_M_good_26 rfl rfl ?_
      refine g_bipush hC (32) d_M_good_27 (by decide) rfl ?_
      refine g_aload_n hC d_M_good_29 rfl rfl ?_
      refine g_getR hC _ 5 7 _ (by decide) rfl rfl fl_M_29 d_M_good_30 rfl ?_
      refine g_bipush hC (8) d_M_good_33 (by decide) rfl ?_
      refine g_ialdV hC _ _ 8 (nI pn) (by rw [hI.2.1 _ (by decide)]; exact hpc) (by decide) rfl (by decide) (by decide) (by decide) d_M_good_35 rfl ?_
      refine g_iadd hC d_M_good_36 rfl ?_
      refine g_top hC (nI (32 + pn)) (nI_add 32 pn) ?_
      refine g_icmp_ge hC 70 d_M_good_37 rfl rfl (fun h37 => ?_) (fun h37 => absurd (nI_le (a := 32 + pn) (b := 32 + t) (by omega) (by omega)) h37)
      refine g_iconst hC (0) d_M_good_70 (by decide) rfl ?_
      refine g_istore_n hC d_M_good_71 rfl (by decide) ?_
      exact zG.to (J72 25 0 (by omega) τ b (wI3_0 htp hI)) rfl rfl ⟨rfl, rfl, rfl, trivial⟩
    | succ f ih =>
      intro t hif τ b hI
      have htn : t < pn := by omega
      refine g_iload_n hC d_M_good_26 rfl rfl ?_
      refine g_bipush hC (32) d_M_good_27 (by decide) rfl ?_
      refine g_aload_n hC d_M_good_29 rfl rfl ?_
      refine g_getR hC _ 5 7 _ (by decide) rfl rfl fl_M_29 d_M_good_30 rfl ?_
      refine g_bipush hC (8) d_M_good_33 (by decide) rfl ?_
      refine g_ialdV hC _ _ 8 (nI pn) (by rw [hI.2.1 _ (by decide)]; exact hpc) (by decide) rfl (by decide) (by decide) (by decide) d_M_good_35 rfl ?_
      refine g_iadd hC d_M_good_36 rfl ?_
      refine g_top hC (nI (32 + pn)) (nI_add 32 pn) ?_
      refine g_icmp_ge hC 70 d_M_good_37 rfl rfl (fun h37 => absurd h37 (nI_ge (a := 32 + t) (b := 32 + pn) (by omega) (by omega))) (fun h37 => ?_)
      refine g_iload_n hC d_M_good_40 rfl rfl ?_
      refine g_ifeq_b hC 62 d_M_good_41 rfl rfl (fun h41 => ?_) (fun h41 => ?_)
      ·
        refine g_iconst hC (0) d_M_good_62 (by decide) rfl ?_
        refine g_istore_n hC d_M_good_63 rfl (by decide) ?_
        refine g_iinc hC (nI (32 + (t + 1))) d_M_good_64 rfl rfl (nI_succ _).symm (by decide) ?_
        refine g_goto hC 26 d_M_good_67 rfl ?_
        first | exact zG.to (ih (t + 1) (by omega) _ true (wst2_t hwn htn hI h41 h55)) rfl rfl ⟨rfl, rfl, rfl, trivial⟩ | exact zG.to (ih (t + 1) (by omega) _ false (wst2_f hwn htn hI h41 h55)) rfl rfl ⟨rfl, rfl, rfl, trivial⟩ | exact zG.to (ih (t + 1) (by omega) _ false (wst2_0 hI h41)) rfl rfl ⟨rfl, rfl, rfl, trivial⟩
      ·
        refine g_aload_n hC d_M_good_44 rfl rfl ?_
        refine g_aload_n hC d_M_good_45 rfl rfl ?_
        refine g_getR hC _ 5 11 _ (by decide) rfl rfl fl_M_41 d_M_good_46 rfl ?_
        refine g_iload_n hC d_M_good_49 rfl rfl ?_
        refine g_ialdV hC _ _ (32 + t) (σ 115 (32 + t)) (by rw [hI.2.1 _ (by decide)]) (by decide) rfl rfl (by show 32 + t < 36; omega) (by decide) d_M_good_50 rfl ?_
        refine g_iconst hC (0) d_M_good_51 (by decide) rfl ?_
        refine g_goi hC rfl (z_runV hC (c_M_comes l D K q hq _ _ _ hwn _ (by rw [hI.2.1 _ (by decide)]; exact hwc)) yy_M_comes yv_M_116 (by decide) rfl ⟨Nat.le_of_ble_eq_true rfl, Nat.le_of_ble_eq_true rfl⟩ ⟨Nat.zero_le _, Nat.zero_le _⟩ rfl (Nat.le_of_ble_eq_true rfl) d_M_good_52) (fun r1 σ1 q1 => ?_)
        obtain ⟨rfl, w1⟩ := q1
        obtain rfl := w1.symm
        refine g_ifeq_b hC 62 d_M_good_55 rfl rfl (fun h55 => ?_) (fun h55 => ?_)
        ·
          refine g_iconst hC (0) d_M_good_62 (by decide) rfl ?_
          refine g_istore_n hC d_M_good_63 rfl (by decide) ?_
          refine g_iinc hC (nI (32 + (t + 1))) d_M_good_64 rfl rfl (nI_succ _).symm (by decide) ?_
          refine g_goto hC 26 d_M_good_67 rfl ?_
          first | exact zG.to (ih (t + 1) (by omega) _ true (wst2_t hwn htn hI h41 h55)) rfl rfl ⟨rfl, rfl, rfl, trivial⟩ | exact zG.to (ih (t + 1) (by omega) _ false (wst2_f hwn htn hI h41 h55)) rfl rfl ⟨rfl, rfl, rfl, trivial⟩ | exact zG.to (ih (t + 1) (by omega) _ false (wst2_0 hI h41)) rfl rfl ⟨rfl, rfl, rfl, trivial⟩
        ·
          refine g_iconst hC (1) d_M_good_58 (by decide) rfl ?_
          refine g_goto hC 63 d_M_good_59 rfl ?_
          refine g_istore_n hC d_M_good_63 rfl (by decide) ?_
          refine g_iinc hC (nI (32 + (t + 1))) d_M_good_64 rfl rfl (nI_succ _).symm (by decide) ?_
          refine g_goto hC 26 d_M_good_67 rfl ?_
          first | exact zG.to (ih (t + 1) (by omega) _ true (wst2_t hwn htn hI h41 h55)) rfl rfl ⟨rfl, rfl, rfl, trivial⟩ | exact zG.to (ih (t + 1) (by omega) _ false (wst2_f hwn htn hI h41 h55)) rfl rfl ⟨rfl, rfl, rfl, trivial⟩ | exact zG.to (ih (t + 1) (by omega) _ false (wst2_0 hI h41)) rfl rfl ⟨rfl, rfl, rfl, trivial⟩
  have J2 : ∀ (f : Nat) (k : Nat) (hif : k + f = 24), zG p l e (zrm 3) s m ([.ref (q (104))] : List Value).toArray below meth c D K q (zA q) 4 0 0 (MQ below (va_Qi (fun r σ' => (∃ b : Bool, r = zb b ∧ (b = true ↔ wHas σ wn pn)) ∧ wOf σ σ') (zO D K q) (zA q)) ([.ref (q (104))] : List Value).toArray s 0 0 (zA q)) (zfill σ 129 k (-1)) 2 [(0, .ref (q (104))), (1, .int (nI k))] [] := by
    intro f
    induction f with
    | zero =>
      intro k hif
      refine g_iload_n hC d_M_good_2 rfl rfl ?_
      refine g_bipush hC (24) d_M_good_3 (by decide) rfl ?_
      refine g_icmp_ge hC 21 d_M_good_5 rfl rfl (fun h5 => ?_) (fun h5 => absurd (nI_le (a := 24) (b := k) (by omega) (by omega)) h5)
      refine g_iconst hC (1) d_M_good_21 (by decide) rfl ?_
      refine g_istore_n hC d_M_good_22 rfl (by decide) ?_
      refine g_bipush hC (32) d_M_good_23 (by decide) rfl ?_
      refine g_istore_n hC d_M_good_25 rfl (by decide) ?_
      exact zG.to (J26 pn 0 (by omega) _ true (wI1_0 σ wn pn)) (by rw [show k = 24 by omega]) rfl ⟨rfl, rfl, rfl, trivial⟩
    | succ f ih =>
      intro k hif
      refine g_iload_n hC d_M_good_2 rfl rfl ?_
      refine g_bipush hC (24) d_M_good_3 (by decide) rfl ?_
      refine g_icmp_ge hC 21 d_M_good_5 rfl rfl (fun h5 => absurd h5 (nI_ge (a := k) (b := 24) (by omega) (by omega))) (fun h5 => ?_)
      refine g_aload_n hC d_M_good_8 rfl rfl ?_
      refine g_getR hC _ 5 28 _ (by decide) rfl rfl fl_M_87 d_M_good_9 rfl ?_
      refine g_iload_n hC d_M_good_12 rfl rfl ?_
      refine g_iconst hC (-1) d_M_good_13 (by decide) rfl ?_
      refine g_iast hC _ _ k (by decide) rfl rfl (by show k < 24; omega) (by decide) d_M_good_14 rfl ?_
      refine g_iinc hC (nI (k + 1)) d_M_good_15 rfl rfl (nI_succ _).symm (by decide) ?_
      refine g_goto hC 2 d_M_good_18 rfl ?_
      exact zG.to (ih (k + 1) (by omega)) (zfill_s σ 129 k (-1)) rfl ⟨rfl, rfl, trivial⟩
  refine g_iconst hC (0) d_M_good_0 (by decide) rfl ?_
  refine g_istore_n hC d_M_good_1 rfl (by decide) ?_
  exact zG.to (J2 24 0 (by omega)) (zfill_0 σ 129 (-1)).symm rfl ⟨rfl, rfl, trivial⟩
set_option maxHeartbeats 4000000 in
set_option maxRecDepth 100000 in
theorem c_M_bad (l : Launch) (D : va_G) (K : Nat → ClassId) (q : Nat → Nat) (hq : zI q) (σ : zm) (pn wn : Nat) (hpn : pn ≤ 4) (hwn : wn ≤ 24) (hpc : σ 111 8 = nI pn) (hwc : σ 116 8 = nI wn) : zMi l y_M_bad b_M_bad 3 (some .boolean) 4 D K q [.ref (q (104))] σ (fun r σ' => (∃ b : Bool, r = zb b ∧ (b = false ↔ wSnd σ pn wn)) ∧ wOf σ σ') := by
  refine zMi.of (own := "AppDeskModel") (lv := [(0, .ref (q (104)))]) (by decide) rfl hq (Nat.le_of_ble_eq_true rfl) rfl ?_
  intro p e s m below meth c hC hr hlk
  have J29 : ∀ (f : Nat) (t : Nat) (hif : t + f = pn) (b : Bool) (hB : wBd σ wn pn b), zG p l e (zrm 4) s m ([.ref (q (104))] : List Value).toArray below meth c D K q (zA q) 3 0 0 (MQ below (va_Qi (fun r σ' => (∃ b : Bool, r = zb b ∧ (b = false ↔ wSnd σ pn wn)) ∧ wOf σ σ') (zO D K q) (zA q)) ([.ref (q (104))] : List Value).toArray s 0 0 (zA q)) σ 29 [(0, .ref (q (104))), (1, .int (zb b)), (2, .int (nI (32 + t)))] [] := by
    intro f
    induction f with
    | zero =>
      intro t hif b hB
      refine g_iload_n hC d_M_bad_29 rfl rfl ?_
      refine g_bipush hC (32) d_M_bad_30 (by decide) rfl ?_
      refine g_aload_n hC d_M_bad_32 rfl rfl ?_
      refine g_getR hC _ 5 7 _ (by decide) rfl rfl fl_M_29 d_M_bad_33 rfl ?_
      refine g_bipush hC (8) d_M_bad_36 (by decide) rfl ?_
      refine g_ialdV hC _ _ 8 (nI pn) (hpc) (by decide) rfl (by decide) (by decide) (by decide) d_M_bad_38 rfl ?_
      refine g_iadd hC d_M_bad_39 rfl ?_
      refine g_top hC (nI (32 + pn)) (nI_add 32 pn) ?_
      refine g_icmp_ge hC 78 d_M_bad_40 rfl rfl (fun h40 => ?_) (fun h40 => absurd (nI_le (a := 32 + pn) (b := 32 + t) (by omega) (by omega)) h40)
      refine g_iload_n hC d_M_bad_78 rfl rfl ?_
      refine g_ifne_b hC 103 d_M_bad_79 rfl rfl (fun h79 => ?_) (fun h79 => ?_)
      ·
        have hn : ¬ wSnd σ pn wn := by first | exact (fun z => hB.1 h79 ⟨z.1, z.2.1, z.2.2.2⟩) | exact (fun z => h93 z.2.2.1) | exact (fun z => absurd (hb1.mpr z.2.2.2) (zif_f h100))
        refine g_iconst hC (1) d_M_bad_103 (by decide) rfl ?_
        refine g_goto hC 108 d_M_bad_104 rfl ?_
        exact g_zret hC hr hlk d_M_bad_108 (Or.inr rfl) (by first | exact ⟨⟨false, rfl, ⟨fun _ => hn, fun _ => rfl⟩⟩, ho1⟩ | exact ⟨⟨true, rfl, ⟨(fun z => by cases z), fun z => absurd z hn⟩⟩, ho1⟩ | exact ⟨⟨true, rfl, ⟨(fun z => by cases z), fun z => absurd z hn⟩⟩, fun a ha => rfl⟩)
      ·
        refine g_aload_n hC d_M_bad_82 rfl rfl ?_
        refine g_getR hC _ 5 4 _ (by decide) rfl rfl fl_M_20 d_M_bad_83 rfl ?_
        refine g_bipush hC (8) d_M_bad_86 (by decide) rfl ?_
        refine g_iald hC _ _ 8 (by decide) rfl (by decide) (by decide) (by decide) d_M_bad_88 rfl ?_
        refine g_aload_n hC d_M_bad_89 rfl rfl ?_
        refine g_goi hC rfl (z_runV hC (c_M_sealed l D K q hq _ pn wn hpn hwn hpc hwc) yy_M_sealed yv_M_105 (by decide) rfl ⟨Nat.le_of_ble_eq_true rfl, Nat.le_of_ble_eq_true rfl⟩ ⟨Nat.zero_le _, Nat.zero_le _⟩ rfl (Nat.le_of_ble_eq_true rfl) d_M_bad_90) (fun r0 σ0 q0 => ?_)
        obtain ⟨rfl, w0⟩ := q0
        obtain rfl := w0.symm
        refine g_icmp_ne hC 103 d_M_bad_93 rfl rfl (fun h93 => ?_) (fun h93 => ?_)
        ·
          have hn : ¬ wSnd σ pn wn := by first | exact (fun z => hB.1 h79 ⟨z.1, z.2.1, z.2.2.2⟩) | exact (fun z => h93 z.2.2.1) | exact (fun z => absurd (hb1.mpr z.2.2.2) (zif_f h100))
          refine g_iconst hC (1) d_M_bad_103 (by decide) rfl ?_
          refine g_goto hC 108 d_M_bad_104 rfl ?_
          exact g_zret hC hr hlk d_M_bad_108 (Or.inr rfl) (by first | exact ⟨⟨false, rfl, ⟨fun _ => hn, fun _ => rfl⟩⟩, ho1⟩ | exact ⟨⟨true, rfl, ⟨(fun z => by cases z), fun z => absurd z hn⟩⟩, ho1⟩ | exact ⟨⟨true, rfl, ⟨(fun z => by cases z), fun z => absurd z hn⟩⟩, fun a ha => rfl⟩)
        ·
          refine g_aload_n hC d_M_bad_96 rfl rfl ?_
          refine g_goi hC rfl (z_runV hC (c_M_good l D K q hq _ pn wn hpn hwn hpc hwc) yy_M_good yv_M_123 (by decide) rfl ⟨Nat.le_of_ble_eq_true rfl, Nat.le_of_ble_eq_true rfl⟩ ⟨Nat.zero_le _, Nat.zero_le _⟩ rfl (Nat.le_of_ble_eq_true rfl) d_M_bad_97) (fun r1 σ1 q1 => ?_)
          obtain ⟨⟨b1, rfl, hb1⟩, ho1⟩ := q1
          refine g_ifne_b hC 107 d_M_bad_100 rfl rfl (fun h100 => ?_) (fun h100 => ?_)
          ·
            have hn : wSnd σ pn wn := ⟨(hB.2 h79).1, (hB.2 h79).2, h93, hb1.mp h100⟩
            refine g_iconst hC (0) d_M_bad_107 (by decide) rfl ?_
            exact g_zret hC hr hlk d_M_bad_108 (Or.inl rfl) (by first | exact ⟨⟨false, rfl, ⟨fun _ => hn, fun _ => rfl⟩⟩, ho1⟩ | exact ⟨⟨true, rfl, ⟨(fun z => by cases z), fun z => absurd z hn⟩⟩, ho1⟩ | exact ⟨⟨true, rfl, ⟨(fun z => by cases z), fun z => absurd z hn⟩⟩, fun a ha => rfl⟩)
          ·
            have hn : ¬ wSnd σ pn wn := by first | exact (fun z => hB.1 h79 ⟨z.1, z.2.1, z.2.2.2⟩) | exact (fun z => h93 z.2.2.1) | exact (fun z => absurd (hb1.mpr z.2.2.2) (zif_f h100))
            refine g_iconst hC (1) d_M_bad_103 (by decide) rfl ?_
            refine g_goto hC 108 d_M_bad_104 rfl ?_
            exact g_zret hC hr hlk d_M_bad_108 (Or.inr rfl) (by first | exact ⟨⟨false, rfl, ⟨fun _ => hn, fun _ => rfl⟩⟩, ho1⟩ | exact ⟨⟨true, rfl, ⟨(fun z => by cases z), fun z => absurd z hn⟩⟩, ho1⟩ | exact ⟨⟨true, rfl, ⟨(fun z => by cases z), fun z => absurd z hn⟩⟩, fun a ha => rfl⟩)
    | succ f ih =>
      intro t hif b hB
      have htn : t < pn := by omega
      refine g_iload_n hC d_M_bad_29 rfl rfl ?_
      refine g_bipush hC (32) d_M_bad_30 (by decide) rfl ?_
      refine g_aload_n hC d_M_bad_32 rfl rfl ?_
      refine g_getR hC _ 5 7 _ (by decide) rfl rfl fl_M_29 d_M_bad_33 rfl ?_
      refine g_bipush hC (8) d_M_bad_36 (by decide) rfl ?_
      refine g_ialdV hC _ _ 8 (nI pn) (hpc) (by decide) rfl (by decide) (by decide) (by decide) d_M_bad_38 rfl ?_
      refine g_iadd hC d_M_bad_39 rfl ?_
      refine g_top hC (nI (32 + pn)) (nI_add 32 pn) ?_
      refine g_icmp_ge hC 78 d_M_bad_40 rfl rfl (fun h40 => absurd h40 (nI_ge (a := 32 + t) (b := 32 + pn) (by omega) (by omega))) (fun h40 => ?_)
      refine g_iload_n hC d_M_bad_43 rfl rfl ?_
      refine g_ifne_b hC 66 d_M_bad_44 rfl rfl (fun h44 => ?_) (fun h44 => ?_)
      ·
        refine g_iconst hC (1) d_M_bad_66 (by decide) rfl ?_
        refine g_goto hC 71 d_M_bad_67 rfl ?_
        refine g_istore_n hC d_M_bad_71 rfl (by decide) ?_
        refine g_iinc hC (nI (32 + (t + 1))) d_M_bad_72 rfl rfl (nI_succ _).symm (by decide) ?_
        refine g_goto hC 29 d_M_bad_75 rfl ?_
        first | exact zG.to (ih (t + 1) (by omega) true (wBd_1 hB h44)) rfl rfl ⟨rfl, rfl, rfl, trivial⟩ | exact zG.to (ih (t + 1) (by omega) true (wBd_s htn hB h44 h63 hwn)) rfl rfl ⟨rfl, rfl, rfl, trivial⟩ | exact zG.to (ih (t + 1) (by omega) false (wBd_0 hB h44)) rfl rfl ⟨rfl, rfl, rfl, trivial⟩
      ·
        refine g_aload_n hC d_M_bad_47 rfl rfl ?_
        refine g_getR hC _ 5 11 _ (by decide) rfl rfl fl_M_41 d_M_bad_48 rfl ?_
        refine g_iload_n hC d_M_bad_51 rfl rfl ?_
        refine g_iald hC _ _ (32 + t) (by decide) rfl rfl (by show 32 + t < 36; omega) (by decide) d_M_bad_52 rfl ?_
        refine g_aload_n hC d_M_bad_53 rfl rfl ?_
        refine g_getR hC _ 5 12 _ (by decide) rfl rfl fl_M_44 d_M_bad_54 rfl ?_
        refine g_bipush hC (8) d_M_bad_57 (by decide) rfl ?_
        refine g_ialdV hC _ _ 8 (nI wn) (hwc) (by decide) rfl (by decide) (by decide) (by decide) d_M_bad_59 rfl ?_
        refine g_goi hC rfl (z_runS hC (c_M_in l D K q hq _ _ _) yy_M_in ys_M_93 ⟨Nat.le_of_ble_eq_true rfl, Nat.le_of_ble_eq_true rfl⟩ ⟨Nat.zero_le _, Nat.zero_le _⟩ rfl (Nat.le_of_ble_eq_true rfl) d_M_bad_60) (fun r2 σ2 q2 => ?_)
        obtain ⟨rfl, w2⟩ := q2
        obtain rfl := w2.symm
        refine g_ifne_b hC 70 d_M_bad_63 rfl rfl (fun h63 => ?_) (fun h63 => ?_)
        ·
          refine g_iconst hC (0) d_M_bad_70 (by decide) rfl ?_
          refine g_istore_n hC d_M_bad_71 rfl (by decide) ?_
          refine g_iinc hC (nI (32 + (t + 1))) d_M_bad_72 rfl rfl (nI_succ _).symm (by decide) ?_
          refine g_goto hC 29 d_M_bad_75 rfl ?_
          first | exact zG.to (ih (t + 1) (by omega) true (wBd_1 hB h44)) rfl rfl ⟨rfl, rfl, rfl, trivial⟩ | exact zG.to (ih (t + 1) (by omega) true (wBd_s htn hB h44 h63 hwn)) rfl rfl ⟨rfl, rfl, rfl, trivial⟩ | exact zG.to (ih (t + 1) (by omega) false (wBd_0 hB h44)) rfl rfl ⟨rfl, rfl, rfl, trivial⟩
        ·
          refine g_iconst hC (1) d_M_bad_66 (by decide) rfl ?_
          refine g_goto hC 71 d_M_bad_67 rfl ?_
          refine g_istore_n hC d_M_bad_71 rfl (by decide) ?_
          refine g_iinc hC (nI (32 + (t + 1))) d_M_bad_72 rfl rfl (nI_succ _).symm (by decide) ?_
          refine g_goto hC 29 d_M_bad_75 rfl ?_
          first | exact zG.to (ih (t + 1) (by omega) true (wBd_1 hB h44)) rfl rfl ⟨rfl, rfl, rfl, trivial⟩ | exact zG.to (ih (t + 1) (by omega) true (wBd_s htn hB h44 h63 hwn)) rfl rfl ⟨rfl, rfl, rfl, trivial⟩ | exact zG.to (ih (t + 1) (by omega) false (wBd_0 hB h44)) rfl rfl ⟨rfl, rfl, rfl, trivial⟩
  refine g_aload_n hC d_M_bad_0 rfl rfl ?_
  refine g_getR hC _ 5 7 _ (by decide) rfl rfl fl_M_29 d_M_bad_1 rfl ?_
  refine g_bipush hC (8) d_M_bad_4 (by decide) rfl ?_
  refine g_ialdV hC _ _ 8 (nI pn) (hpc) (by decide) rfl (by decide) (by decide) (by decide) d_M_bad_6 rfl ?_
  refine g_if_eq hC 20 d_M_bad_7 rfl rfl (fun h7 => ?_) (fun h7 => ?_)
  ·
    refine g_iconst hC (1) d_M_bad_20 (by decide) rfl ?_
    refine g_goto hC 25 d_M_bad_21 rfl ?_
    refine g_istore_n hC d_M_bad_25 rfl (by decide) ?_
    refine g_bipush hC (32) d_M_bad_26 (by decide) rfl ?_
    refine g_istore_n hC d_M_bad_28 rfl (by decide) ?_
    exact zG.to (J29 pn 0 (by omega) true (by first | exact ⟨fun _ z => absurd z.1 (by rw [(nI_eq (a := pn) (b := 0) (by omega) (by decide)).mp h7]; omega), (fun z => by cases z)⟩ | exact ⟨fun _ z => absurd z.2.1 (by rw [(nI_eq (a := wn) (b := 0) (by omega) (by decide)).mp h17]; omega), (fun z => by cases z)⟩ | exact ⟨(fun z => by cases z), fun _ => ⟨Nat.pos_of_ne_zero (fun z => h7 (by rw [z]; rfl)), Nat.pos_of_ne_zero (fun z => h17 (by rw [z]; rfl))⟩⟩)) rfl rfl ⟨rfl, rfl, rfl, trivial⟩
  ·
    refine g_aload_n hC d_M_bad_10 rfl rfl ?_
    refine g_getR hC _ 5 12 _ (by decide) rfl rfl fl_M_44 d_M_bad_11 rfl ?_
    refine g_bipush hC (8) d_M_bad_14 (by decide) rfl ?_
    refine g_ialdV hC _ _ 8 (nI wn) (hwc) (by decide) rfl (by decide) (by decide) (by decide) d_M_bad_16 rfl ?_
    refine g_if_ne hC 24 d_M_bad_17 rfl rfl (fun h17 => ?_) (fun h17 => ?_)
    ·
      refine g_iconst hC (0) d_M_bad_24 (by decide) rfl ?_
      refine g_istore_n hC d_M_bad_25 rfl (by decide) ?_
      refine g_bipush hC (32) d_M_bad_26 (by decide) rfl ?_
      refine g_istore_n hC d_M_bad_28 rfl (by decide) ?_
      exact zG.to (J29 pn 0 (by omega) false (by first | exact ⟨fun _ z => absurd z.1 (by rw [(nI_eq (a := pn) (b := 0) (by omega) (by decide)).mp h7]; omega), (fun z => by cases z)⟩ | exact ⟨fun _ z => absurd z.2.1 (by rw [(nI_eq (a := wn) (b := 0) (by omega) (by decide)).mp h17]; omega), (fun z => by cases z)⟩ | exact ⟨(fun z => by cases z), fun _ => ⟨Nat.pos_of_ne_zero (fun z => h7 (by rw [z]; rfl)), Nat.pos_of_ne_zero (fun z => h17 (by rw [z]; rfl))⟩⟩)) rfl rfl ⟨rfl, rfl, rfl, trivial⟩
    ·
      refine g_iconst hC (1) d_M_bad_20 (by decide) rfl ?_
      refine g_goto hC 25 d_M_bad_21 rfl ?_
      refine g_istore_n hC d_M_bad_25 rfl (by decide) ?_
      refine g_bipush hC (32) d_M_bad_26 (by decide) rfl ?_
      refine g_istore_n hC d_M_bad_28 rfl (by decide) ?_
      exact zG.to (J29 pn 0 (by omega) true (by first | exact ⟨fun _ z => absurd z.1 (by rw [(nI_eq (a := pn) (b := 0) (by omega) (by decide)).mp h7]; omega), (fun z => by cases z)⟩ | exact ⟨fun _ z => absurd z.2.1 (by rw [(nI_eq (a := wn) (b := 0) (by omega) (by decide)).mp h17]; omega), (fun z => by cases z)⟩ | exact ⟨(fun z => by cases z), fun _ => ⟨Nat.pos_of_ne_zero (fun z => h7 (by rw [z]; rfl)), Nat.pos_of_ne_zero (fun z => h17 (by rw [z]; rfl))⟩⟩)) rfl rfl ⟨rfl, rfl, rfl, trivial⟩
