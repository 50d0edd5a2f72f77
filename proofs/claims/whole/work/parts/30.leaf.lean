/-! the leaves: numbers, bits, a pack's small methods -/
def zdec (σ : zm) (i : Nat) (x : Int32) : Bool := zin x 8 && !decide (σ (zp i + 1) x.toNatClampNeg = -1)
set_option maxHeartbeats 4000000 in
set_option maxRecDepth 100000 in
theorem c_D_isBelow (l : Launch) (D : va_G) (K : Nat → ClassId) (q : Nat → Nat) (hq : zI q) (x n : Int32) (σ : zm) : zMi l y_D_isBelow b_D_isBelow 2 (some .boolean) 0 D K q [.int (x), .int (n)] σ (fun r σ' => r = zb (zin x n) ∧ σ' = σ) := by
  refine zMi.of (own := "AppDesk") (lv := [(0, .int (x)), (1, .int (n))]) (by decide) rfl hq (Nat.le_of_ble_eq_true rfl) rfl ?_
  intro p e s m below meth c hC hr hlk
  refine g_iload_n hC d_D_isBelow_0 rfl rfl ?_
  refine g_if_lt hC 13 d_D_isBelow_1 rfl rfl (fun h1 => ?_) (fun h1 => ?_)
  ·
    refine g_iconst hC (0) d_D_isBelow_13 (by decide) rfl ?_
    exact g_zret hC hr hlk d_D_isBelow_14 (Or.inl rfl) ⟨by first | (rw [zin_t h1 h6]; rfl) | (rw [zin_f1 h1]; rfl) | (rw [zin_f2 h6]; rfl), rfl⟩
  ·
    refine g_iload_n hC d_D_isBelow_4 rfl rfl ?_
    refine g_iload_n hC d_D_isBelow_5 rfl rfl ?_
    refine g_icmp_ge hC 13 d_D_isBelow_6 rfl rfl (fun h6 => ?_) (fun h6 => ?_)
    ·
      refine g_iconst hC (0) d_D_isBelow_13 (by decide) rfl ?_
      exact g_zret hC hr hlk d_D_isBelow_14 (Or.inl rfl) ⟨by first | (rw [zin_t h1 h6]; rfl) | (rw [zin_f1 h1]; rfl) | (rw [zin_f2 h6]; rfl), rfl⟩
    ·
      refine g_iconst hC (1) d_D_isBelow_9 (by decide) rfl ?_
      refine g_goto hC 14 d_D_isBelow_10 rfl ?_
      exact g_zret hC hr hlk d_D_isBelow_14 (Or.inr rfl) ⟨by first | (rw [zin_t h1 h6]; rfl) | (rw [zin_f1 h1]; rfl) | (rw [zin_f2 h6]; rfl), rfl⟩
set_option maxHeartbeats 4000000 in
set_option maxRecDepth 100000 in
theorem c_M_in (l : Launch) (D : va_G) (K : Nat → ClassId) (q : Nat → Nat) (hq : zI q) (x n : Int32) (σ : zm) : zMi l y_M_in b_M_in 2 (some .boolean) 0 D K q [.int (x), .int (n)] σ (fun r σ' => r = zb (zin x n) ∧ σ' = σ) := by
  refine zMi.of (own := "AppDeskModel") (lv := [(0, .int (x)), (1, .int (n))]) (by decide) rfl hq (Nat.le_of_ble_eq_true rfl) rfl ?_
  intro p e s m below meth c hC hr hlk
  refine g_iload_n hC d_M_in_0 rfl rfl ?_
  refine g_if_lt hC 13 d_M_in_1 rfl rfl (fun h1 => ?_) (fun h1 => ?_)
  ·
    refine g_iconst hC (0) d_M_in_13 (by decide) rfl ?_
    exact g_zret hC hr hlk d_M_in_14 (Or.inl rfl) ⟨by first | (rw [zin_t h1 h6]; rfl) | (rw [zin_f1 h1]; rfl) | (rw [zin_f2 h6]; rfl), rfl⟩
  ·
    refine g_iload_n hC d_M_in_4 rfl rfl ?_
    refine g_iload_n hC d_M_in_5 rfl rfl ?_
    refine g_icmp_ge hC 13 d_M_in_6 rfl rfl (fun h6 => ?_) (fun h6 => ?_)
    ·
      refine g_iconst hC (0) d_M_in_13 (by decide) rfl ?_
      exact g_zret hC hr hlk d_M_in_14 (Or.inl rfl) ⟨by first | (rw [zin_t h1 h6]; rfl) | (rw [zin_f1 h1]; rfl) | (rw [zin_f2 h6]; rfl), rfl⟩
    ·
      refine g_iconst hC (1) d_M_in_9 (by decide) rfl ?_
      refine g_goto hC 14 d_M_in_10 rfl ?_
      exact g_zret hC hr hlk d_M_in_14 (Or.inr rfl) ⟨by first | (rw [zin_t h1 h6]; rfl) | (rw [zin_f1 h1]; rfl) | (rw [zin_f2 h6]; rfl), rfl⟩
set_option maxHeartbeats 4000000 in
set_option maxRecDepth 100000 in
theorem c_D_hasBit (l : Launch) (D : va_G) (K : Nat → ClassId) (q : Nat → Nat) (hq : zI q) (b x n : Int32) (σ : zm) : zMi l y_D_hasBit b_D_hasBit 3 (some .boolean) 1 D K q [.int (b), .int (x), .int (n)] σ (fun r σ' => r = zb (zhas b x n) ∧ σ' = σ) := by
  refine zMi.of (own := "AppDesk") (lv := [(0, .int (b)), (1, .int (x)), (2, .int (n))]) (by decide) rfl hq (Nat.le_of_ble_eq_true rfl) rfl ?_
  intro p e s m below meth c hC hr hlk
  refine g_iload_n hC d_D_hasBit_0 rfl rfl ?_
  refine g_iload_n hC d_D_hasBit_1 rfl rfl ?_
  refine g_goi hC rfl (z_runS hC (c_D_isBelow l D K q hq _ _ _) yy_D_isBelow ys_D_41 ⟨Nat.le_of_ble_eq_true rfl, Nat.le_of_ble_eq_true rfl⟩ ⟨Nat.zero_le _, Nat.zero_le _⟩ rfl (Nat.le_of_ble_eq_true rfl) d_D_hasBit_2) (fun r0 σ0 q0 => ?_)
  obtain ⟨rfl, w0⟩ := q0
  obtain rfl := w0.symm
  refine g_ifeq_b hC 21 d_D_hasBit_5 rfl rfl (fun h5 => ?_) (fun h5 => ?_)
  ·
    refine g_iconst hC (0) d_D_hasBit_21 (by decide) rfl ?_
    exact g_zret hC hr hlk d_D_hasBit_22 (Or.inl rfl) ⟨by first | (simp [zhas, zbit, h5, h14, zb]; done) | (simp [zhas, zbit, h5, zb]; done), rfl⟩
  ·
    refine g_iload_n hC d_D_hasBit_8 rfl rfl ?_
    refine g_iload_n hC d_D_hasBit_9 rfl rfl ?_
    refine g_ishr hC d_D_hasBit_10 rfl ?_
    refine g_iconst hC (1) d_D_hasBit_11 (by decide) rfl ?_
    refine g_iand hC d_D_hasBit_12 rfl ?_
    refine g_iconst hC (1) d_D_hasBit_13 (by decide) rfl ?_
    refine g_icmp_ne hC 21 d_D_hasBit_14 rfl rfl (fun h14 => ?_) (fun h14 => ?_)
    ·
      refine g_iconst hC (0) d_D_hasBit_21 (by decide) rfl ?_
      exact g_zret hC hr hlk d_D_hasBit_22 (Or.inl rfl) ⟨by first | (simp [zhas, zbit, h5, h14, zb]; done) | (simp [zhas, zbit, h5, zb]; done), rfl⟩
    ·
      refine g_iconst hC (1) d_D_hasBit_17 (by decide) rfl ?_
      refine g_goto hC 22 d_D_hasBit_18 rfl ?_
      exact g_zret hC hr hlk d_D_hasBit_22 (Or.inr rfl) ⟨by first | (simp [zhas, zbit, h5, h14, zb]; done) | (simp [zhas, zbit, h5, zb]; done), rfl⟩
set_option maxHeartbeats 4000000 in
set_option maxRecDepth 100000 in
theorem c_D_operationOf (l : Launch) (D : va_G) (K : Nat → ClassId) (q : Nat → Nat) (hq : zI q) (w : Int32) (σ : zm) : zMi l y_D_operationOf b_D_operationOf 1 (some .int) 0 D K q [.int (w)] σ (fun r σ' => r = w &&& 15 ∧ σ' = σ) := by
  refine zMi.of (own := "AppDesk") (lv := [(0, .int (w))]) (by decide) rfl hq (Nat.le_of_ble_eq_true rfl) rfl ?_
  intro p e s m below meth c hC hr hlk
  refine g_iload_n hC d_D_operationOf_0 rfl rfl ?_
  refine g_bipush hC (15) d_D_operationOf_1 (by decide) rfl ?_
  refine g_iand hC d_D_operationOf_3 rfl ?_
  exact g_iret hC hr hlk d_D_operationOf_4 ⟨rfl, rfl⟩
set_option maxHeartbeats 4000000 in
set_option maxRecDepth 100000 in
theorem c_D_argumentOf (l : Launch) (D : va_G) (K : Nat → ClassId) (q : Nat → Nat) (hq : zI q) (w : Int32) (σ : zm) : zMi l y_D_argumentOf b_D_argumentOf 1 (some .int) 0 D K q [.int (w)] σ (fun r σ' => r = w >>> ((4 : Int32) &&& 31) ∧ σ' = σ) := by
  refine zMi.of (own := "AppDesk") (lv := [(0, .int (w))]) (by decide) rfl hq (Nat.le_of_ble_eq_true rfl) rfl ?_
  intro p e s m below meth c hC hr hlk
  refine g_iload_n hC d_D_argumentOf_0 rfl rfl ?_
  refine g_iconst hC (4) d_D_argumentOf_1 (by decide) rfl ?_
  refine g_ishr hC d_D_argumentOf_2 rfl ?_
  exact g_iret hC hr hlk d_D_argumentOf_3 ⟨rfl, rfl⟩
set_option maxHeartbeats 4000000 in
set_option maxRecDepth 100000 in
theorem c_P_mix (l : Launch) (D : va_G) (K : Nat → ClassId) (q : Nat → Nat) (hq : zI q) (h x : Int32) (σ : zm) : zMi l y_P_mix b_P_mix 3 (some .int) 0 D K q [.int (h), .int (x)] σ (fun r σ' => r = zmix h x ∧ σ' = σ) := by
  refine zMi.of (own := "AppDesk$Pack") (lv := [(0, .int (h)), (1, .int (x))]) (by decide) rfl hq (Nat.le_of_ble_eq_true rfl) rfl ?_
  intro p e s m below meth c hC hr hlk
  refine g_iload_n hC d_P_mix_0 rfl rfl ?_
  refine g_bipush hC (31) d_P_mix_1 (by decide) rfl ?_
  refine g_imul hC d_P_mix_3 rfl ?_
  refine g_iload_n hC d_P_mix_4 rfl rfl ?_
  refine g_iadd hC d_P_mix_5 rfl ?_
  refine g_istore_n hC d_P_mix_6 rfl (by decide) ?_
  refine g_iload_n hC d_P_mix_7 rfl rfl ?_
  refine g_iload_n hC d_P_mix_8 rfl rfl ?_
  refine g_bipush hC (13) d_P_mix_9 (by decide) rfl ?_
  refine g_iushr hC d_P_mix_11 rfl ?_
  refine g_ixor hC d_P_mix_12 rfl ?_
  exact g_iret hC hr hlk d_P_mix_13 ⟨rfl, rfl⟩
set_option maxHeartbeats 4000000 in
set_option maxRecDepth 100000 in
theorem c_M_mixed (l : Launch) (D : va_G) (K : Nat → ClassId) (q : Nat → Nat) (hq : zI q) (h x : Int32) (σ : zm) : zMi l y_M_mixed b_M_mixed 3 (some .int) 0 D K q [.int (h), .int (x)] σ (fun r σ' => r = zmix h x ∧ σ' = σ) := by
  refine zMi.of (own := "AppDeskModel") (lv := [(0, .int (h)), (1, .int (x))]) (by decide) rfl hq (Nat.le_of_ble_eq_true rfl) rfl ?_
  intro p e s m below meth c hC hr hlk
  refine g_iload_n hC d_M_mixed_0 rfl rfl ?_
  refine g_bipush hC (31) d_M_mixed_1 (by decide) rfl ?_
  refine g_imul hC d_M_mixed_3 rfl ?_
  refine g_iload_n hC d_M_mixed_4 rfl rfl ?_
  refine g_iadd hC d_M_mixed_5 rfl ?_
  refine g_istore_n hC d_M_mixed_6 rfl (by decide) ?_
  refine g_iload_n hC d_M_mixed_7 rfl rfl ?_
  refine g_iload_n hC d_M_mixed_8 rfl rfl ?_
  refine g_bipush hC (13) d_M_mixed_9 (by decide) rfl ?_
  refine g_iushr hC d_M_mixed_11 rfl ?_
  refine g_ixor hC d_M_mixed_12 rfl ?_
  exact g_iret hC hr hlk d_M_mixed_13 ⟨rfl, rfl⟩
set_option maxHeartbeats 4000000 in
set_option maxRecDepth 100000 in
theorem c_P_asksFor (l : Launch) (D : va_G) (K : Nat → ClassId) (q : Nat → Nat) (hq : zI q) (i : Nat) (hi : i < 9) (x : Int32) (σ : zm) : zMi l y_P_asksFor b_P_asksFor 2 (some .boolean) 2 D K q [.ref (q (zp i)), .int (x)] σ (fun r σ' => r = zb (zhas (σ (zp i) 4) x 8) ∧ σ' = σ) := by
  refine zMi.of (own := "AppDesk$Pack") (lv := [(0, .ref (q (zp i))), (1, .int (x))]) (by decide) rfl hq (Nat.le_of_ble_eq_true rfl) rfl ?_
  intro p e s m below meth c hC hr hlk
  refine g_aload_n hC d_P_asksFor_0 rfl rfl ?_
  refine g_getI hC _ 1 4 (zp_lt hi) (zS_p hi) rfl fl_P_49 d_P_asksFor_1 rfl ?_
  refine g_iload_n hC d_P_asksFor_4 rfl rfl ?_
  refine g_bipush hC (8) d_P_asksFor_5 (by decide) rfl ?_
  refine g_goi hC rfl (z_runN hC (c_D_hasBit l D K q hq _ _ _ _) yy_D_hasBit yn_P_68 ⟨Nat.le_of_ble_eq_true rfl, Nat.le_of_ble_eq_true rfl⟩ ⟨Nat.zero_le _, Nat.zero_le _⟩ rfl (Nat.le_of_ble_eq_true rfl) d_P_asksFor_7) (fun r0 σ0 q0 => ?_)
  obtain ⟨rfl, w0⟩ := q0
  obtain rfl := w0.symm
  exact g_zret hC hr hlk d_P_asksFor_10 (zb01 _) ⟨rfl, rfl⟩
set_option maxHeartbeats 4000000 in
set_option maxRecDepth 100000 in
theorem c_P_declares (l : Launch) (D : va_G) (K : Nat → ClassId) (q : Nat → Nat) (hq : zI q) (i : Nat) (hi : i < 9) (x : Int32) (σ : zm) : zMi l y_P_declares b_P_declares 2 (some .boolean) 1 D K q [.ref (q (zp i)), .int (x)] σ (fun r σ' => r = zb (zdec σ i x) ∧ σ' = σ) := by
  refine zMi.of (own := "AppDesk$Pack") (lv := [(0, .ref (q (zp i))), (1, .int (x))]) (by decide) rfl hq (Nat.le_of_ble_eq_true rfl) rfl ?_
  intro p e s m below meth c hC hr hlk
  refine g_iload_n hC d_P_declares_0 rfl rfl ?_
  refine g_bipush hC (8) d_P_declares_1 (by decide) rfl ?_
  refine g_goi hC rfl (z_runN hC (c_D_isBelow l D K q hq _ _ _) yy_D_isBelow yn_P_72 ⟨Nat.le_of_ble_eq_true rfl, Nat.le_of_ble_eq_true rfl⟩ ⟨Nat.zero_le _, Nat.zero_le _⟩ rfl (Nat.le_of_ble_eq_true rfl) d_P_declares_3) (fun r0 σ0 q0 => ?_)
  obtain ⟨rfl, w0⟩ := q0
  obtain rfl := w0.symm
  refine g_ifeq_b hC 23 d_P_declares_6 rfl rfl (fun h6 => ?_) (fun h6 => ?_)
  ·
    refine g_iconst hC (0) d_P_declares_23 (by decide) rfl ?_
    exact g_zret hC hr hlk d_P_declares_24 (Or.inl rfl) ⟨by first | (simp [zdec, h6, hc, h16, zb]; done) | (simp [zdec, h6, zb]; done), rfl⟩
  ·
    obtain ⟨k, hk, hx⟩ := zin_of (n := 8) (by decide) h6
    have hc : x.toNatClampNeg = k := by rw [hx]; exact nI_clamp (by omega)
    refine g_aload_n hC d_P_declares_9 rfl rfl ?_
    refine g_getR hC _ 1 5 _ (zp_lt hi) (zS_p hi) rfl fl_P_15 d_P_declares_10 rfl ?_
    refine g_iload_n hC d_P_declares_13 rfl rfl ?_
    refine g_iald hC _ _ k (zp_lt' hi 1 (by decide)) (zS_pr hi 1 (by decide)) hx hk (by decide) d_P_declares_14 rfl ?_
    refine g_iconst hC (-1) d_P_declares_15 (by decide) rfl ?_
    refine g_icmp_eq hC 23 d_P_declares_16 rfl rfl (fun h16 => ?_) (fun h16 => ?_)
    ·
      refine g_iconst hC (0) d_P_declares_23 (by decide) rfl ?_
      exact g_zret hC hr hlk d_P_declares_24 (Or.inl rfl) ⟨by first | (simp [zdec, h6, hc, h16, zb]; done) | (simp [zdec, h6, zb]; done), rfl⟩
    ·
      refine g_iconst hC (1) d_P_declares_19 (by decide) rfl ?_
      refine g_goto hC 24 d_P_declares_20 rfl ?_
      exact g_zret hC hr hlk d_P_declares_24 (Or.inr rfl) ⟨by first | (simp [zdec, h6, hc, h16, zb]; done) | (simp [zdec, h6, zb]; done), rfl⟩
set_option maxHeartbeats 4000000 in
set_option maxRecDepth 100000 in
theorem c_P_addWord (l : Launch) (D : va_G) (K : Nat → ClassId) (q : Nat → Nat) (hq : zI q) (i : Nat) (hi : i < 9) (w : Int32) (σ : zm) (n : Nat) (hn : n ≤ 24) (h : σ (zp i) 11 = nI n) : zMi l y_P_addWord b_P_addWord 2 (some .boolean) 0 D K q [.ref (q (zp i)), .int (w)] σ (fun r σ' => r = zb (decide (n < 24)) ∧ σ' = if n < 24 then zu (zu σ (zp i + 6) n w) (zp i) 11 (nI (n + 1)) else σ) := by
  refine zMi.of (own := "AppDesk$Pack") (lv := [(0, .ref (q (zp i))), (1, .int (w))]) (by decide) rfl hq (Nat.le_of_ble_eq_true rfl) rfl ?_
  intro p e s m below meth c hC hr hlk
  refine g_aload_n hC d_P_addWord_0 rfl rfl ?_
  refine g_getV hC _ 1 11 (nI n) (h) (zp_lt hi) (zS_p hi) rfl fl_P_55 d_P_addWord_1 rfl ?_
  refine g_bipush hC (24) d_P_addWord_4 (by decide) rfl ?_
  refine g_icmp_lt hC 11 d_P_addWord_6 rfl rfl (fun h6 => ?_) (fun h6 => ?_)
  ·
    have hlt : n < 24 := (nI_ltI (a := n) (b := 24) (by omega) (by decide)).mp h6
    refine g_aload_n hC d_P_addWord_11 rfl rfl ?_
    refine g_getR hC _ 1 12 _ (zp_lt hi) (zS_p hi) rfl fl_P_37 d_P_addWord_12 rfl ?_
    refine g_aload_n hC d_P_addWord_15 rfl rfl ?_
    refine g_getV hC _ 1 11 (nI n) (h) (zp_lt hi) (zS_p hi) rfl fl_P_55 d_P_addWord_16 rfl ?_
    refine g_iload_n hC d_P_addWord_19 rfl rfl ?_
    refine g_iast hC _ _ (n) (zp_lt' hi 6 (by decide)) (zS_pr hi 6 (by decide)) rfl (by omega) (by decide) d_P_addWord_20 rfl ?_
    refine g_aload_n hC d_P_addWord_21 rfl rfl ?_
    refine g_dup hC d_P_addWord_22 rfl rfl ?_
    refine g_getV hC _ 1 11 (nI n) (by rw [zu_ne _ _ (Or.inl (by omega))]; exact h) (zp_lt hi) (zS_p hi) rfl fl_P_55 d_P_addWord_23 rfl ?_
    refine g_iconst hC (1) d_P_addWord_26 (by decide) rfl ?_
    refine g_iadd hC d_P_addWord_27 rfl ?_
    refine g_top hC (nI (n + 1)) (nI_1 n) ?_
    refine g_putI hC _ 1 11 (zp_lt hi) (zS_p hi) rfl fp_P_55 d_P_addWord_28 rfl ?_
    refine g_iconst hC (1) d_P_addWord_31 (by decide) rfl ?_
    exact g_zret hC hr hlk d_P_addWord_32 (Or.inr rfl) ⟨by rw [decide_eq_true hlt]; rfl, (if_pos hlt).symm⟩
  ·
    have hlt : ¬ n < 24 := fun z => h6 (nI_lt (a := n) (b := 24) z (by decide))
    refine g_iconst hC (0) d_P_addWord_9 (by decide) rfl ?_
    exact g_zret hC hr hlk d_P_addWord_10 (Or.inl rfl) ⟨by rw [decide_eq_false hlt]; rfl, (if_neg hlt).symm⟩
