/-! an app's methods -/
theorem zif_f {b : Bool} (h : b = false) : ¬ b = true := by rw [h]; decide
theorem zhas_in {b x n : Int32} (h : zhas b x n = true) : zin x n = true := by
  unfold zhas at h
  exact (Bool.and_eq_true _ _ ▸ h).1
def zsr (x k : Int32) : Int32 := (x.toUInt32 >>> (k.toUInt32 &&& Int32.toUInt32 31)).toInt32
def zbc1 (x : Int32) : Int32 := x - (zsr x 1 &&& 1431655765)
def zbc2 (x : Int32) : Int32 := (x &&& 858993459) + (zsr x 2 &&& 858993459)
def zbc3 (x : Int32) : Int32 := (x + zsr x 4) &&& 252645135
def zbc4 (x : Int32) : Int32 := x + zsr x 8
def zbc5 (x : Int32) : Int32 := x + zsr x 16
def zbc (x : Int32) : Int32 := zbc5 (zbc4 (zbc3 (zbc2 (zbc1 x)))) &&& 63
def zclr (σ : zm) (a : Nat) : zm := zu (zu (zu (zu σ (za a) 0 0) (za a) 2 0) (za a) 3 0) (za a) 5 0
def zrun (σ : zm) (a : Nat) (p v g : Int32) : zm := zu (zu (zfill (zu (zu (zu σ (za a) 5 1) (za a) 6 p) (za a) 7 0) (za a + 3) 4 0) (za a + 3) 0 v) (za a + 3) 1 g
def zvu (σ : zm) (a : Nat) (x : Int32) : Int32 := if zhas (σ (za a) 3) x 8 then σ (za a + 1) x.toNatClampNeg else 0
def zwip (σ : zm) (a wn : Nat) : Int32 := if zin (σ (za a) 6) (nI wn) then σ (zp a + 6) (σ (za a) 6).toNatClampNeg else 0
def zup (σ : zm) (a : Nat) : Int32 := if zin (σ (za a) 7 - 1) 6 then σ (za a + 2) (σ (za a) 7 - 1).toNatClampNeg else 0
def zup2 (σ : zm) (a : Nat) : Int32 := if zin (σ (za a) 7 - 2) 6 then σ (za a + 2) (σ (za a) 7 - 2).toNatClampNeg else 0
def zpsh (σ : zm) (a : Nat) (v : Int32) : zm := if zin (σ (za a) 7) 6 then zu (zu σ (za a + 2) (σ (za a) 7).toNatClampNeg v) (za a) 7 (σ (za a) 7 + 1) else σ
def zpop (σ : zm) (a : Nat) : zm := zu σ (za a) 7 (zmax (σ (za a) 7 - 1) 0)
theorem zpop_6 (σ : zm) (a : Nat) : zpop σ a (za a) 6 = σ (za a) 6 := zu_ne _ _ (Or.inr (by decide))
def zturn (σ : zm) (a : Nat) (op n : Int32) : zm := if op = 0 then zu σ (za a) 5 0 else if op = 8 then zu σ (za a) 6 (σ (za a) 6 + n) else if zup σ a = 0 then zu (zpop σ a) (za a) 6 (σ (za a) 6 + n) else zu (zpop σ a) (za a) 6 (σ (za a) 6 + 1)
def zsto (σ : zm) (a : Nat) (n v : Int32) : zm := if zin n 4 then zu σ (za a + 3) n.toNatClampNeg v else σ
def zpl (σ : zm) (a : Nat) (op n : Int32) : zm :=
  if op = 1 then zpsh σ a n
  else if op = 2 then zpsh (zpop (zpop σ a) a) a (zup σ a + zup (zpop σ a) a)
  else if op = 3 then zpsh (zpop (zpop σ a) a) a (zup (zpop σ a) a - zup σ a)
  else if op = 4 then zpsh σ a (zup σ a)
  else if op = 5 then zpop σ a
  else if op = 6 then zpsh σ a (if zin n 4 then σ (za a + 3) n.toNatClampNeg else 0)
  else if op = 7 then zsto (zpop σ a) a n (zup σ a)
  else σ
theorem zpl_6 (σ : zm) (a : Nat) (n : Int32) : zpl σ a 6 n = zpsh σ a (if zin n 4 then σ (za a + 3) n.toNatClampNeg else 0) := rfl
def zgot (σ : zm) (a : Nat) : zm := zu (zpsh (zpop σ a) a (zvu (zpop σ a) a (zup σ a))) (za a) 6 (zpsh (zpop σ a) a (zvu (zpop σ a) a (zup σ a)) (za a) 6 + 1)
def zkok (σ : zm) (a : Nat) : Bool := zin (zup2 σ a) 8 && (zhas (σ (za a) 3) (zup2 σ a) 8 || decide (zbc (σ (za a) 3) < 3))
def zkp1 (σ : zm) (a : Nat) : zm := zu σ (za a) 3 (σ (za a) 3 ||| (1 <<< (zup2 σ a &&& 31)))
def zkp2 (σ : zm) (a : Nat) : zm := zpop (zu (zpop (zkp1 σ a) a) (za a + 1) (zup2 σ a).toNatClampNeg (zup (zkp1 σ a) a)) a
def zkep (σ : zm) (a : Nat) : zm := zu (zkp2 σ a) (za a) 6 (zkp2 σ a (za a) 6 + 1)
set_option maxHeartbeats 4000000 in
set_option maxRecDepth 100000 in
theorem c_J_bitCount (l : Launch) (D : va_G) (K : Nat → ClassId) (q : Nat → Nat) (hq : zI q) (x : Int32) (σ : zm) : zMi l y_J_bitCount b_J_bitCount 1 (some .int) 0 D K q [.int (x)] σ (fun r σ' => r = zbc x ∧ σ' = σ) := by
  refine zMi.of (own := "java/lang/Integer") (lv := [(0, .int (x))]) (by decide) rfl hq (Nat.le_of_ble_eq_true rfl) rfl ?_
  intro p e s m below meth c hC hr hlk
  refine g_iload_n hC d_J_bitCount_0 rfl rfl ?_
  refine g_iload_n hC d_J_bitCount_1 rfl rfl ?_
  refine g_iconst hC (1) d_J_bitCount_2 (by decide) rfl ?_
  refine g_iushr hC d_J_bitCount_3 rfl ?_
  refine g_ldcw hC _ d_J_bitCount_4 (by exact kk_J_265) rfl ?_
  refine g_iand hC d_J_bitCount_7 rfl ?_
  refine g_isub hC d_J_bitCount_8 rfl ?_
  refine g_istore_n hC d_J_bitCount_9 rfl (by decide) ?_
  refine g_iload_n hC d_J_bitCount_10 rfl rfl ?_
  refine g_ldcw hC _ d_J_bitCount_11 (by exact kk_J_266) rfl ?_
  refine g_iand hC d_J_bitCount_14 rfl ?_
  refine g_iload_n hC d_J_bitCount_15 rfl rfl ?_
  refine g_iconst hC (2) d_J_bitCount_16 (by decide) rfl ?_
  refine g_iushr hC d_J_bitCount_17 rfl ?_
  refine g_ldcw hC _ d_J_bitCount_18 (by exact kk_J_266) rfl ?_
  refine g_iand hC d_J_bitCount_21 rfl ?_
  refine g_iadd hC d_J_bitCount_22 rfl ?_
  refine g_istore_n hC d_J_bitCount_23 rfl (by decide) ?_
  refine g_iload_n hC d_J_bitCount_24 rfl rfl ?_
  refine g_iload_n hC d_J_bitCount_25 rfl rfl ?_
  refine g_iconst hC (4) d_J_bitCount_26 (by decide) rfl ?_
  refine g_iushr hC d_J_bitCount_27 rfl ?_
  refine g_iadd hC d_J_bitCount_28 rfl ?_
  refine g_ldcw hC _ d_J_bitCount_29 (by exact kk_J_267) rfl ?_
  refine g_iand hC d_J_bitCount_32 rfl ?_
  refine g_istore_n hC d_J_bitCount_33 rfl (by decide) ?_
  refine g_iload_n hC d_J_bitCount_34 rfl rfl ?_
  refine g_iload_n hC d_J_bitCount_35 rfl rfl ?_
  refine g_bipush hC (8) d_J_bitCount_36 (by decide) rfl ?_
  refine g_iushr hC d_J_bitCount_38 rfl ?_
  refine g_iadd hC d_J_bitCount_39 rfl ?_
  refine g_istore_n hC d_J_bitCount_40 rfl (by decide) ?_
  refine g_iload_n hC d_J_bitCount_41 rfl rfl ?_
  refine g_iload_n hC d_J_bitCount_42 rfl rfl ?_
  refine g_bipush hC (16) d_J_bitCount_43 (by decide) rfl ?_
  refine g_iushr hC d_J_bitCount_45 rfl ?_
  refine g_iadd hC d_J_bitCount_46 rfl ?_
  refine g_istore_n hC d_J_bitCount_47 rfl (by decide) ?_
  refine g_iload_n hC d_J_bitCount_48 rfl rfl ?_
  refine g_bipush hC (63) d_J_bitCount_49 (by decide) rfl ?_
  refine g_iand hC d_J_bitCount_51 rfl ?_
  exact g_iret hC hr hlk d_J_bitCount_52 ⟨rfl, rfl⟩
set_option maxHeartbeats 4000000 in
set_option maxRecDepth 100000 in
theorem c_A_wasGranted (l : Launch) (D : va_G) (K : Nat → ClassId) (q : Nat → Nat) (hq : zI q) (a : Nat) (ha : a < 8) (x : Int32) (σ : zm) : zMi l y_A_wasGranted b_A_wasGranted 2 (some .boolean) 2 D K q [.ref (q (za a)), .int (x)] σ (fun r σ' => r = zb (zhas (σ (za a) 2) x 8) ∧ σ' = σ) := by
  refine zMi.of (own := "AppDesk$App") (lv := [(0, .ref (q (za a))), (1, .int (x))]) (by decide) rfl hq (Nat.le_of_ble_eq_true rfl) rfl ?_
  intro p e s m below meth c hC hr hlk
  refine g_aload_n hC d_A_wasGranted_0 rfl rfl ?_
  refine g_getI hC _ 2 2 (za_lt ha) (zS_a ha) rfl fl_A_32 d_A_wasGranted_1 rfl ?_
  refine g_iload_n hC d_A_wasGranted_4 rfl rfl ?_
  refine g_bipush hC (8) d_A_wasGranted_5 (by decide) rfl ?_
  refine g_goi hC rfl (z_runN hC (c_D_hasBit l D K q hq _ _ _ _) yy_D_hasBit yn_A_61 ⟨Nat.le_of_ble_eq_true rfl, Nat.le_of_ble_eq_true rfl⟩ ⟨Nat.zero_le _, Nat.zero_le _⟩ rfl (Nat.le_of_ble_eq_true rfl) d_A_wasGranted_7) (fun r0 σ0 q0 => ?_)
  obtain ⟨rfl, w0⟩ := q0
  obtain rfl := w0.symm
  exact g_zret hC hr hlk d_A_wasGranted_10 (zb01 _) ⟨rfl, rfl⟩
set_option maxHeartbeats 4000000 in
set_option maxRecDepth 100000 in
theorem c_A_keepsUnder (l : Launch) (D : va_G) (K : Nat → ClassId) (q : Nat → Nat) (hq : zI q) (a : Nat) (ha : a < 8) (x : Int32) (σ : zm) : zMi l y_A_keepsUnder b_A_keepsUnder 2 (some .boolean) 2 D K q [.ref (q (za a)), .int (x)] σ (fun r σ' => r = zb (zhas (σ (za a) 3) x 8) ∧ σ' = σ) := by
  refine zMi.of (own := "AppDesk$App") (lv := [(0, .ref (q (za a))), (1, .int (x))]) (by decide) rfl hq (Nat.le_of_ble_eq_true rfl) rfl ?_
  intro p e s m below meth c hC hr hlk
  refine g_aload_n hC d_A_keepsUnder_0 rfl rfl ?_
  refine g_getI hC _ 2 3 (za_lt ha) (zS_a ha) rfl fl_A_46 d_A_keepsUnder_1 rfl ?_
  refine g_iload_n hC d_A_keepsUnder_4 rfl rfl ?_
  refine g_bipush hC (8) d_A_keepsUnder_5 (by decide) rfl ?_
  refine g_goi hC rfl (z_runN hC (c_D_hasBit l D K q hq _ _ _ _) yy_D_hasBit yn_A_61 ⟨Nat.le_of_ble_eq_true rfl, Nat.le_of_ble_eq_true rfl⟩ ⟨Nat.zero_le _, Nat.zero_le _⟩ rfl (Nat.le_of_ble_eq_true rfl) d_A_keepsUnder_7) (fun r0 σ0 q0 => ?_)
  obtain ⟨rfl, w0⟩ := q0
  obtain rfl := w0.symm
  exact g_zret hC hr hlk d_A_keepsUnder_10 (zb01 _) ⟨rfl, rfl⟩
set_option maxHeartbeats 4000000 in
set_option maxRecDepth 100000 in
theorem c_A_takeIn (l : Launch) (D : va_G) (K : Nat → ClassId) (q : Nat → Nat) (hq : zI q) (a : Nat) (ha : a < 8) (k : Nat) (hk : k < 9) (hne : a ≠ k) (σ : zm) : zMv l y_A_takeIn b_A_takeIn 2 none 3 D K q [.ref (q (za a)), .ref (q (zp k))] σ (fun σ' => ∃ τ, zPk σ τ a k ∧ σ' = zu (zu (zu τ (za a) 2 (σ (za a) 2 &&& σ (zp k) 4)) (za a) 5 0) (za a) 0 1) := by
  refine zMv.of (own := "AppDesk$App") (lv := [(0, .ref (q (za a))), (1, .ref (q (zp k)))]) (by decide) rfl hq (Nat.le_of_ble_eq_true rfl) rfl ?_
  intro p e s m below meth c hC hr hlk
  refine g_aload_n hC d_A_takeIn_0 rfl rfl ?_
  refine g_getR hC _ 2 1 _ (za_lt ha) (zS_a ha) rfl fl_A_12 d_A_takeIn_1 rfl ?_
  refine g_aload_n hC d_A_takeIn_4 rfl rfl ?_
  refine g_gov hC rfl (z_runV hC (c_P_copyFrom l D K q hq _ (Nat.lt_succ_of_lt ha) _ hk hne _) yy_P_copyFrom yv_A_28 (zp_lt (Nat.lt_succ_of_lt ha)) (zS_p (Nat.lt_succ_of_lt ha)) ⟨Nat.le_of_ble_eq_true rfl, Nat.le_of_ble_eq_true rfl⟩ ⟨Nat.zero_le _, Nat.zero_le _⟩ rfl (Nat.le_of_ble_eq_true rfl) d_A_takeIn_5) (fun σ0 q0 => ?_)
  have w0 := q0.1
  refine g_aload_n hC d_A_takeIn_8 rfl rfl ?_
  refine g_dup hC d_A_takeIn_9 rfl rfl ?_
  refine g_getV hC _ 2 2 (σ (za a) 2) (w0 _ _ (by unfold zp za; omega)) (za_lt ha) (zS_a ha) rfl fl_A_32 d_A_takeIn_10 rfl ?_
  refine g_aload_n hC d_A_takeIn_13 rfl rfl ?_
  refine g_getV hC _ 1 4 (σ (zp k) 4) (w0 _ _ (by unfold zp; omega)) (zp_lt hk) (zS_p hk) rfl fl_A_36 d_A_takeIn_14 rfl ?_
  refine g_iand hC d_A_takeIn_17 rfl ?_
  refine g_putI hC _ 2 2 (za_lt ha) (zS_a ha) rfl fp_A_32 d_A_takeIn_18 rfl ?_
  refine g_aload_n hC d_A_takeIn_21 rfl rfl ?_
  refine g_iconst hC (0) d_A_takeIn_22 (by decide) rfl ?_
  refine g_putZ hC _ 2 5 (za_lt ha) (zS_a ha) rfl fp_A_39 (Or.inl rfl) d_A_takeIn_23 rfl ?_
  refine g_aload_n hC d_A_takeIn_26 rfl rfl ?_
  refine g_iconst hC (1) d_A_takeIn_27 (by decide) rfl ?_
  refine g_putZ hC _ 2 0 (za_lt ha) (zS_a ha) rfl fp_A_43 (Or.inr rfl) d_A_takeIn_28 rfl ?_
  exact g_vret hC hr hlk d_A_takeIn_31 ⟨_, q0, rfl⟩
set_option maxHeartbeats 4000000 in
set_option maxRecDepth 100000 in
theorem c_A_clearAway (l : Launch) (D : va_G) (K : Nat → ClassId) (q : Nat → Nat) (hq : zI q) (a : Nat) (ha : a < 8) (σ : zm) : zMv l y_A_clearAway b_A_clearAway 1 none 0 D K q [.ref (q (za a))] σ (fun σ' => σ' = zclr σ a) := by
  refine zMv.of (own := "AppDesk$App") (lv := [(0, .ref (q (za a)))]) (by decide) rfl hq (Nat.le_of_ble_eq_true rfl) rfl ?_
  intro p e s m below meth c hC hr hlk
  refine g_aload_n hC d_A_clearAway_0 rfl rfl ?_
  refine g_iconst hC (0) d_A_clearAway_1 (by decide) rfl ?_
  refine g_putZ hC _ 2 0 (za_lt ha) (zS_a ha) rfl fp_A_43 (Or.inl rfl) d_A_clearAway_2 rfl ?_
  refine g_aload_n hC d_A_clearAway_5 rfl rfl ?_
  refine g_iconst hC (0) d_A_clearAway_6 (by decide) rfl ?_
  refine g_putI hC _ 2 2 (za_lt ha) (zS_a ha) rfl fp_A_32 d_A_clearAway_7 rfl ?_
  refine g_aload_n hC d_A_clearAway_10 rfl rfl ?_
  refine g_iconst hC (0) d_A_clearAway_11 (by decide) rfl ?_
  refine g_putI hC _ 2 3 (za_lt ha) (zS_a ha) rfl fp_A_46 d_A_clearAway_12 rfl ?_
  refine g_aload_n hC d_A_clearAway_15 rfl rfl ?_
  refine g_iconst hC (0) d_A_clearAway_16 (by decide) rfl ?_
  refine g_putZ hC _ 2 5 (za_lt ha) (zS_a ha) rfl fp_A_39 (Or.inl rfl) d_A_clearAway_17 rfl ?_
  exact g_vret hC hr hlk d_A_clearAway_20 rfl
set_option maxHeartbeats 4000000 in
set_option maxRecDepth 100000 in
theorem c_A_begin (l : Launch) (D : va_G) (K : Nat → ClassId) (q : Nat → Nat) (hq : zI q) (a : Nat) (ha : a < 8) (p0 v g : Int32) (σ : zm) : zMv l y_A_begin b_A_begin 4 none 1 D K q [.ref (q (za a)), .int (p0), .int (v), .int (g)] σ (fun σ' => σ' = zrun σ a p0 v g) := by
  refine zMv.of (own := "AppDesk$App") (lv := [(0, .ref (q (za a))), (1, .int (p0)), (2, .int (v)), (3, .int (g))]) (by decide) rfl hq (Nat.le_of_ble_eq_true rfl) rfl ?_
  intro p e s m below meth c hC hr hlk
  refine g_aload_n hC d_A_begin_0 rfl rfl ?_
  refine g_iconst hC (1) d_A_begin_1 (by decide) rfl ?_
  refine g_putZ hC _ 2 5 (za_lt ha) (zS_a ha) rfl fp_A_39 (Or.inr rfl) d_A_begin_2 rfl ?_
  refine g_aload_n hC d_A_begin_5 rfl rfl ?_
  refine g_iload_n hC d_A_begin_6 rfl rfl ?_
  refine g_putI hC _ 2 6 (za_lt ha) (zS_a ha) rfl fp_A_49 d_A_begin_7 rfl ?_
  refine g_aload_n hC d_A_begin_10 rfl rfl ?_
  refine g_iconst hC (0) d_A_begin_11 (by decide) rfl ?_
  refine g_putI hC _ 2 7 (za_lt ha) (zS_a ha) rfl fp_A_52 d_A_begin_12 rfl ?_
  refine g_aload_n hC d_A_begin_15 rfl rfl ?_
  refine g_getR hC _ 2 9 _ (za_lt ha) (zS_a ha) rfl fl_A_25 d_A_begin_16 rfl ?_
  refine g_iconst hC (0) d_A_begin_19 (by decide) rfl ?_
  refine g_gov hC rfl (z_runS hC (c_J_fill l D K q hq _ _ (za_lt' ha 3 (by decide)) (zS_ar ha 3 (by decide)) (by decide) _ _) yy_J_fill ys_A_55 ⟨Nat.le_of_ble_eq_true rfl, Nat.le_of_ble_eq_true rfl⟩ ⟨Nat.zero_le _, Nat.zero_le _⟩ rfl (Nat.le_of_ble_eq_true rfl) d_A_begin_20) (fun σ0 q0 => ?_)
  obtain rfl := q0.symm
  refine g_aload_n hC d_A_begin_23 rfl rfl ?_
  refine g_getR hC _ 2 9 _ (za_lt ha) (zS_a ha) rfl fl_A_25 d_A_begin_24 rfl ?_
  refine g_iconst hC (0) d_A_begin_27 (by decide) rfl ?_
  refine g_iload_n hC d_A_begin_28 rfl rfl ?_
  refine g_iast hC _ _ 0 (za_lt' ha 3 (by decide)) (zS_ar ha 3 (by decide)) (by decide) (by decide) (by decide) d_A_begin_29 rfl ?_
  refine g_aload_n hC d_A_begin_30 rfl rfl ?_
  refine g_getR hC _ 2 9 _ (za_lt ha) (zS_a ha) rfl fl_A_25 d_A_begin_31 rfl ?_
  refine g_iconst hC (1) d_A_begin_34 (by decide) rfl ?_
  refine g_iload_n hC d_A_begin_35 rfl rfl ?_
  refine g_iast hC _ _ 1 (za_lt' ha 3 (by decide)) (zS_ar ha 3 (by decide)) (by decide) (by decide) (by decide) d_A_begin_36 rfl ?_
  exact g_vret hC hr hlk d_A_begin_37 rfl
set_option maxHeartbeats 4000000 in
set_option maxRecDepth 100000 in
theorem c_A_valueUnder (l : Launch) (D : va_G) (K : Nat → ClassId) (q : Nat → Nat) (hq : zI q) (a : Nat) (ha : a < 8) (x : Int32) (σ : zm) : zMi l y_A_valueUnder b_A_valueUnder 2 (some .int) 3 D K q [.ref (q (za a)), .int (x)] σ (fun r σ' => r = zvu σ a x ∧ σ' = σ) := by
  refine zMi.of (own := "AppDesk$App") (lv := [(0, .ref (q (za a))), (1, .int (x))]) (by decide) rfl hq (Nat.le_of_ble_eq_true rfl) rfl ?_
  intro p e s m below meth c hC hr hlk
  refine g_aload_n hC d_A_valueUnder_0 rfl rfl ?_
  refine g_iload_n hC d_A_valueUnder_1 rfl rfl ?_
  refine g_goi hC rfl (z_runV hC (c_A_keepsUnder l D K q hq _ ha _ _ ) yy_A_keepsUnder yv_A_65 (za_lt ha) (zS_a ha) ⟨Nat.le_of_ble_eq_true rfl, Nat.le_of_ble_eq_true rfl⟩ ⟨Nat.zero_le _, Nat.zero_le _⟩ rfl (Nat.le_of_ble_eq_true rfl) d_A_valueUnder_2) (fun r0 σ0 q0 => ?_)
  obtain ⟨rfl, w0⟩ := q0
  obtain rfl := w0.symm
  refine g_ifeq_b hC 17 d_A_valueUnder_5 rfl rfl (fun h5 => ?_) (fun h5 => ?_)
  ·
    refine g_iconst hC (0) d_A_valueUnder_17 (by decide) rfl ?_
    exact g_iret hC hr hlk d_A_valueUnder_18 ⟨by first | (unfold zvu; rw [if_pos h5, hc]) | (unfold zvu; rw [if_neg (zif_f h5)]), rfl⟩
  ·
    obtain ⟨k, hk, hx⟩ := zin_of (n := 8) (by decide) (zhas_in h5)
    have hc : x.toNatClampNeg = k := by rw [hx]; exact nI_clamp (by omega)
    refine g_aload_n hC d_A_valueUnder_8 rfl rfl ?_
    refine g_getR hC _ 2 4 _ (za_lt ha) (zS_a ha) rfl fl_A_18 d_A_valueUnder_9 rfl ?_
    refine g_iload_n hC d_A_valueUnder_12 rfl rfl ?_
    refine g_iald hC _ _ k (za_lt' ha 1 (by decide)) (zS_ar ha 1 (by decide)) hx hk (by decide) d_A_valueUnder_13 rfl ?_
    refine g_goto hC 18 d_A_valueUnder_14 rfl ?_
    exact g_iret hC hr hlk d_A_valueUnder_18 ⟨by first | (unfold zvu; rw [if_pos h5, hc]) | (unfold zvu; rw [if_neg (zif_f h5)]), rfl⟩
set_option maxHeartbeats 4000000 in
set_option maxRecDepth 100000 in
theorem c_A_wordInPlace (l : Launch) (D : va_G) (K : Nat → ClassId) (q : Nat → Nat) (hq : zI q) (a : Nat) (ha : a < 8) (σ : zm) (wn : Nat) (hwn : wn ≤ 24) (h11 : σ (zp a) 11 = nI wn) : zMi l y_A_wordInPlace b_A_wordInPlace 1 (some .int) 1 D K q [.ref (q (za a))] σ (fun r σ' => r = zwip σ a wn ∧ σ' = σ) := by
  refine zMi.of (own := "AppDesk$App") (lv := [(0, .ref (q (za a)))]) (by decide) rfl hq (Nat.le_of_ble_eq_true rfl) rfl ?_
  intro p e s m below meth c hC hr hlk
  refine g_aload_n hC d_A_wordInPlace_0 rfl rfl ?_
  refine g_getI hC _ 2 6 (za_lt ha) (zS_a ha) rfl fl_A_49 d_A_wordInPlace_1 rfl ?_
  refine g_aload_n hC d_A_wordInPlace_4 rfl rfl ?_
  refine g_getR hC _ 2 1 _ (za_lt ha) (zS_a ha) rfl fl_A_12 d_A_wordInPlace_5 rfl ?_
  refine g_getV hC _ 1 11 (nI wn) (h11) (zp_lt (Nat.lt_succ_of_lt ha)) (zS_p (Nat.lt_succ_of_lt ha)) rfl fl_A_69 d_A_wordInPlace_8 rfl ?_
  refine g_goi hC rfl (z_runN hC (c_D_isBelow l D K q hq _ _ _) yy_D_isBelow yn_A_72 ⟨Nat.le_of_ble_eq_true rfl, Nat.le_of_ble_eq_true rfl⟩ ⟨Nat.zero_le _, Nat.zero_le _⟩ rfl (Nat.le_of_ble_eq_true rfl) d_A_wordInPlace_11) (fun r0 σ0 q0 => ?_)
  obtain ⟨rfl, w0⟩ := q0
  obtain rfl := w0.symm
  refine g_ifeq_b hC 32 d_A_wordInPlace_14 rfl rfl (fun h14 => ?_) (fun h14 => ?_)
  ·
    refine g_iconst hC (0) d_A_wordInPlace_32 (by decide) rfl ?_
    exact g_iret hC hr hlk d_A_wordInPlace_33 ⟨by first | (unfold zwip; rw [if_pos h14, hc]) | (unfold zwip; rw [if_neg (zif_f h14)]), rfl⟩
  ·
    obtain ⟨k, hk, hx⟩ := zin_of (n := wn) (by omega) h14
    have hc : (σ (za a) 6).toNatClampNeg = k := by rw [hx]; exact nI_clamp (by omega)
    refine g_aload_n hC d_A_wordInPlace_17 rfl rfl ?_
    refine g_getR hC _ 2 1 _ (za_lt ha) (zS_a ha) rfl fl_A_12 d_A_wordInPlace_18 rfl ?_
    refine g_getR hC _ 1 12 _ (zp_lt (Nat.lt_succ_of_lt ha)) (zS_p (Nat.lt_succ_of_lt ha)) rfl fl_A_76 d_A_wordInPlace_21 rfl ?_
    refine g_aload_n hC d_A_wordInPlace_24 rfl rfl ?_
    refine g_getI hC _ 2 6 (za_lt ha) (zS_a ha) rfl fl_A_49 d_A_wordInPlace_25 rfl ?_
    refine g_iald hC _ _ k (zp_lt' (Nat.lt_succ_of_lt ha) 6 (by decide)) (zS_pr (Nat.lt_succ_of_lt ha) 6 (by decide)) hx (by show k < 24; omega) (by decide) d_A_wordInPlace_28 rfl ?_
    refine g_goto hC 33 d_A_wordInPlace_29 rfl ?_
    exact g_iret hC hr hlk d_A_wordInPlace_33 ⟨by first | (unfold zwip; rw [if_pos h14, hc]) | (unfold zwip; rw [if_neg (zif_f h14)]), rfl⟩
set_option maxHeartbeats 4000000 in
set_option maxRecDepth 100000 in
theorem c_A_uppermost (l : Launch) (D : va_G) (K : Nat → ClassId) (q : Nat → Nat) (hq : zI q) (a : Nat) (ha : a < 8) (σ : zm) : zMi l y_A_uppermost b_A_uppermost 1 (some .int) 1 D K q [.ref (q (za a))] σ (fun r σ' => r = zup σ a ∧ σ' = σ) := by
  refine zMi.of (own := "AppDesk$App") (lv := [(0, .ref (q (za a)))]) (by decide) rfl hq (Nat.le_of_ble_eq_true rfl) rfl ?_
  intro p e s m below meth c hC hr hlk
  refine g_aload_n hC d_A_uppermost_0 rfl rfl ?_
  refine g_getI hC _ 2 7 (za_lt ha) (zS_a ha) rfl fl_A_52 d_A_uppermost_1 rfl ?_
  refine g_iconst hC (1) d_A_uppermost_4 (by decide) rfl ?_
  refine g_isub hC d_A_uppermost_5 rfl ?_
  refine g_bipush hC (6) d_A_uppermost_6 (by decide) rfl ?_
  refine g_goi hC rfl (z_runN hC (c_D_isBelow l D K q hq _ _ _) yy_D_isBelow yn_A_72 ⟨Nat.le_of_ble_eq_true rfl, Nat.le_of_ble_eq_true rfl⟩ ⟨Nat.zero_le _, Nat.zero_le _⟩ rfl (Nat.le_of_ble_eq_true rfl) d_A_uppermost_8) (fun r0 σ0 q0 => ?_)
  obtain ⟨rfl, w0⟩ := q0
  obtain rfl := w0.symm
  refine g_ifeq_b hC 28 d_A_uppermost_11 rfl rfl (fun h11 => ?_) (fun h11 => ?_)
  ·
    refine g_iconst hC (0) d_A_uppermost_28 (by decide) rfl ?_
    exact g_iret hC hr hlk d_A_uppermost_29 ⟨by first | (unfold zup; rw [if_pos h11, hc]) | (unfold zup; rw [if_neg (zif_f h11)]), rfl⟩
  ·
    obtain ⟨k, hk, hx⟩ := zin_of (n := 6) (by decide) h11
    have hc : (σ (za a) 7 - 1).toNatClampNeg = k := by rw [hx]; exact nI_clamp (by omega)
    refine g_aload_n hC d_A_uppermost_14 rfl rfl ?_
    refine g_getR hC _ 2 8 _ (za_lt ha) (zS_a ha) rfl fl_A_22 d_A_uppermost_15 rfl ?_
    refine g_aload_n hC d_A_uppermost_18 rfl rfl ?_
    refine g_getI hC _ 2 7 (za_lt ha) (zS_a ha) rfl fl_A_52 d_A_uppermost_19 rfl ?_
    refine g_iconst hC (1) d_A_uppermost_22 (by decide) rfl ?_
    refine g_isub hC d_A_uppermost_23 rfl ?_
    refine g_iald hC _ _ k (za_lt' ha 2 (by decide)) (zS_ar ha 2 (by decide)) hx hk (by decide) d_A_uppermost_24 rfl ?_
    refine g_goto hC 29 d_A_uppermost_25 rfl ?_
    exact g_iret hC hr hlk d_A_uppermost_29 ⟨by first | (unfold zup; rw [if_pos h11, hc]) | (unfold zup; rw [if_neg (zif_f h11)]), rfl⟩
set_option maxHeartbeats 4000000 in
set_option maxRecDepth 100000 in
theorem c_A_secondUppermost (l : Launch) (D : va_G) (K : Nat → ClassId) (q : Nat → Nat) (hq : zI q) (a : Nat) (ha : a < 8) (σ : zm) : zMi l y_A_secondUppermost b_A_secondUppermost 1 (some .int) 1 D K q [.ref (q (za a))] σ (fun r σ' => r = zup2 σ a ∧ σ' = σ) := by
  refine zMi.of (own := "AppDesk$App") (lv := [(0, .ref (q (za a)))]) (by decide) rfl hq (Nat.le_of_ble_eq_true rfl) rfl ?_
  intro p e s m below meth c hC hr hlk
  refine g_aload_n hC d_A_secondUppermost_0 rfl rfl ?_
  refine g_getI hC _ 2 7 (za_lt ha) (zS_a ha) rfl fl_A_52 d_A_secondUppermost_1 rfl ?_
  refine g_iconst hC (2) d_A_secondUppermost_4 (by decide) rfl ?_
  refine g_isub hC d_A_secondUppermost_5 rfl ?_
  refine g_bipush hC (6) d_A_secondUppermost_6 (by decide) rfl ?_
  refine g_goi hC rfl (z_runN hC (c_D_isBelow l D K q hq _ _ _) yy_D_isBelow yn_A_72 ⟨Nat.le_of_ble_eq_true rfl, Nat.le_of_ble_eq_true rfl⟩ ⟨Nat.zero_le _, Nat.zero_le _⟩ rfl (Nat.le_of_ble_eq_true rfl) d_A_secondUppermost_8) (fun r0 σ0 q0 => ?_)
  obtain ⟨rfl, w0⟩ := q0
  obtain rfl := w0.symm
  refine g_ifeq_b hC 28 d_A_secondUppermost_11 rfl rfl (fun h11 => ?_) (fun h11 => ?_)
  ·
    refine g_iconst hC (0) d_A_secondUppermost_28 (by decide) rfl ?_
    exact g_iret hC hr hlk d_A_secondUppermost_29 ⟨by first | (unfold zup2; rw [if_pos h11, hc]) | (unfold zup2; rw [if_neg (zif_f h11)]), rfl⟩
  ·
    obtain ⟨k, hk, hx⟩ := zin_of (n := 6) (by decide) h11
    have hc : (σ (za a) 7 - 2).toNatClampNeg = k := by rw [hx]; exact nI_clamp (by omega)
    refine g_aload_n hC d_A_secondUppermost_14 rfl rfl ?_
    refine g_getR hC _ 2 8 _ (za_lt ha) (zS_a ha) rfl fl_A_22 d_A_secondUppermost_15 rfl ?_
    refine g_aload_n hC d_A_secondUppermost_18 rfl rfl ?_
    refine g_getI hC _ 2 7 (za_lt ha) (zS_a ha) rfl fl_A_52 d_A_secondUppermost_19 rfl ?_
    refine g_iconst hC (2) d_A_secondUppermost_22 (by decide) rfl ?_
    refine g_isub hC d_A_secondUppermost_23 rfl ?_
    refine g_iald hC _ _ k (za_lt' ha 2 (by decide)) (zS_ar ha 2 (by decide)) hx hk (by decide) d_A_secondUppermost_24 rfl ?_
    refine g_goto hC 29 d_A_secondUppermost_25 rfl ?_
    exact g_iret hC hr hlk d_A_secondUppermost_29 ⟨by first | (unfold zup2; rw [if_pos h11, hc]) | (unfold zup2; rw [if_neg (zif_f h11)]), rfl⟩
set_option maxHeartbeats 4000000 in
set_option maxRecDepth 100000 in
theorem c_A_push (l : Launch) (D : va_G) (K : Nat → ClassId) (q : Nat → Nat) (hq : zI q) (a : Nat) (ha : a < 8) (v : Int32) (σ : zm) : zMv l y_A_push b_A_push 2 none 1 D K q [.ref (q (za a)), .int (v)] σ (fun σ' => σ' = zpsh σ a v) := by
  refine zMv.of (own := "AppDesk$App") (lv := [(0, .ref (q (za a))), (1, .int (v))]) (by decide) rfl hq (Nat.le_of_ble_eq_true rfl) rfl ?_
  intro p e s m below meth c hC hr hlk
  refine g_aload_n hC d_A_push_0 rfl rfl ?_
  refine g_getI hC _ 2 7 (za_lt ha) (zS_a ha) rfl fl_A_52 d_A_push_1 rfl ?_
  refine g_bipush hC (6) d_A_push_4 (by decide) rfl ?_
  refine g_goi hC rfl (z_runN hC (c_D_isBelow l D K q hq _ _ _) yy_D_isBelow yn_A_72 ⟨Nat.le_of_ble_eq_true rfl, Nat.le_of_ble_eq_true rfl⟩ ⟨Nat.zero_le _, Nat.zero_le _⟩ rfl (Nat.le_of_ble_eq_true rfl) d_A_push_6) (fun r0 σ0 q0 => ?_)
  obtain ⟨rfl, w0⟩ := q0
  obtain rfl := w0.symm
  refine g_ifeq_b hC 32 d_A_push_9 rfl rfl (fun h9 => ?_) (fun h9 => ?_)
  ·
    exact g_vret hC hr hlk d_A_push_32 (by first | (unfold zpsh; rw [if_pos h9, hc]) | (unfold zpsh; rw [if_neg (zif_f h9)]))
  ·
    obtain ⟨k, hk, hx⟩ := zin_of (n := 6) (by decide) h9
    have hc : (σ (za a) 7).toNatClampNeg = k := by rw [hx]; exact nI_clamp (by omega)
    refine g_aload_n hC d_A_push_12 rfl rfl ?_
    refine g_getR hC _ 2 8 _ (za_lt ha) (zS_a ha) rfl fl_A_22 d_A_push_13 rfl ?_
    refine g_aload_n hC d_A_push_16 rfl rfl ?_
    refine g_getI hC _ 2 7 (za_lt ha) (zS_a ha) rfl fl_A_52 d_A_push_17 rfl ?_
    refine g_iload_n hC d_A_push_20 rfl rfl ?_
    refine g_iast hC _ _ k (za_lt' ha 2 (by decide)) (zS_ar ha 2 (by decide)) hx hk (by decide) d_A_push_21 rfl ?_
    refine g_aload_n hC d_A_push_22 rfl rfl ?_
    refine g_dup hC d_A_push_23 rfl rfl ?_
    refine g_getV hC _ 2 7 (σ (za a) 7) (zu_ne _ _ (Or.inl (by omega))) (za_lt ha) (zS_a ha) rfl fl_A_52 d_A_push_24 rfl ?_
    refine g_iconst hC (1) d_A_push_27 (by decide) rfl ?_
    refine g_iadd hC d_A_push_28 rfl ?_
    refine g_putI hC _ 2 7 (za_lt ha) (zS_a ha) rfl fp_A_52 d_A_push_29 rfl ?_
    exact g_vret hC hr hlk d_A_push_32 (by first | (unfold zpsh; rw [if_pos h9, hc]) | (unfold zpsh; rw [if_neg (zif_f h9)]))
set_option maxHeartbeats 4000000 in
set_option maxRecDepth 100000 in
theorem c_A_pop (l : Launch) (D : va_G) (K : Nat → ClassId) (q : Nat → Nat) (hq : zI q) (a : Nat) (ha : a < 8) (σ : zm) : zMi l y_A_pop b_A_pop 2 (some .int) 2 D K q [.ref (q (za a))] σ (fun r σ' => r = zup σ a ∧ σ' = zpop σ a) := by
  refine zMi.of (own := "AppDesk$App") (lv := [(0, .ref (q (za a)))]) (by decide) rfl hq (Nat.le_of_ble_eq_true rfl) rfl ?_
  intro p e s m below meth c hC hr hlk
  refine g_aload_n hC d_A_pop_0 rfl rfl ?_
  refine g_goi hC rfl (z_runV hC (c_A_uppermost l D K q hq _ ha _ ) yy_A_uppermost yv_A_79 (za_lt ha) (zS_a ha) ⟨Nat.le_of_ble_eq_true rfl, Nat.le_of_ble_eq_true rfl⟩ ⟨Nat.zero_le _, Nat.zero_le _⟩ rfl (Nat.le_of_ble_eq_true rfl) d_A_pop_1) (fun r0 σ0 q0 => ?_)
  obtain ⟨rfl, w0⟩ := q0
  obtain rfl := w0.symm
  refine g_istore_n hC d_A_pop_4 rfl (by decide) ?_
  refine g_aload_n hC d_A_pop_5 rfl rfl ?_
  refine g_aload_n hC d_A_pop_6 rfl rfl ?_
  refine g_getI hC _ 2 7 (za_lt ha) (zS_a ha) rfl fl_A_52 d_A_pop_7 rfl ?_
  refine g_iconst hC (1) d_A_pop_10 (by decide) rfl ?_
  refine g_isub hC d_A_pop_11 rfl ?_
  refine g_iconst hC (0) d_A_pop_12 (by decide) rfl ?_
  refine g_max hC km_A_83 d_A_pop_13 rfl ⟨Nat.le_of_ble_eq_true rfl, Nat.le_of_ble_eq_true rfl, Nat.zero_le _, Nat.zero_le _⟩ (Nat.le_of_ble_eq_true rfl) ?_
  refine g_putI hC _ 2 7 (za_lt ha) (zS_a ha) rfl fp_A_52 d_A_pop_16 rfl ?_
  refine g_iload_n hC d_A_pop_19 rfl rfl ?_
  exact g_iret hC hr hlk d_A_pop_20 ⟨rfl, rfl⟩
set_option maxHeartbeats 4000000 in
set_option maxRecDepth 100000 in
theorem c_A_doTurn (l : Launch) (D : va_G) (K : Nat → ClassId) (q : Nat → Nat) (hq : zI q) (a : Nat) (ha : a < 8) (op n : Int32) (σ : zm) : zMv l y_A_doTurn b_A_doTurn 4 none 3 D K q [.ref (q (za a)), .int (op), .int (n)] σ (fun σ' => σ' = zturn σ a op n) := by
  refine zMv.of (own := "AppDesk$App") (lv := [(0, .ref (q (za a))), (1, .int (op)), (2, .int (n))]) (by decide) rfl hq (Nat.le_of_ble_eq_true rfl) rfl ?_
  intro p e s m below meth c hC hr hlk
  refine g_iload_n hC d_A_doTurn_0 rfl rfl ?_
  refine g_if_ne hC 10 d_A_doTurn_1 rfl rfl (fun h1 => ?_) (fun h1 => ?_)
  ·
    refine g_iload_n hC d_A_doTurn_10 rfl rfl ?_
    refine g_bipush hC (8) d_A_doTurn_11 (by decide) rfl ?_
    refine g_icmp_eq hC 23 d_A_doTurn_13 rfl rfl (fun h13 => ?_) (fun h13 => ?_)
    ·
      refine g_iconst hC (1) d_A_doTurn_23 (by decide) rfl ?_
      refine g_goto hC 28 d_A_doTurn_24 rfl ?_
      refine g_istore_n hC d_A_doTurn_28 rfl (by decide) ?_
      refine g_aload_n hC d_A_doTurn_29 rfl rfl ?_
      refine g_dup hC d_A_doTurn_30 rfl rfl ?_
      refine g_getI hC _ 2 6 (za_lt ha) (zS_a ha) rfl fl_A_49 d_A_doTurn_31 rfl ?_
      refine g_iload_n hC d_A_doTurn_34 rfl rfl ?_
      refine g_if_eq hC 42 d_A_doTurn_35 rfl rfl (fun h35 => absurd h35 (by decide)) (fun h35 => ?_)
      refine g_iload_n hC d_A_doTurn_38 rfl rfl ?_
      refine g_goto hC 43 d_A_doTurn_39 rfl ?_
      refine g_iadd hC d_A_doTurn_43 rfl ?_
      refine g_putI hC _ 2 6 (za_lt ha) (zS_a ha) rfl fp_A_49 d_A_doTurn_44 rfl ?_
      exact g_vret hC hr hlk d_A_doTurn_47 (by first | (unfold zturn; rw [if_pos h1]; done) | (unfold zturn; rw [if_neg h1, if_pos h13]; done) | (unfold zturn; rw [if_neg h1, if_neg h13, if_pos h20, zpop_6]; done) | (unfold zturn; rw [if_neg h1, if_neg h13, if_neg h20, zpop_6]; done))
    ·
      refine g_aload_n hC d_A_doTurn_16 rfl rfl ?_
      refine g_goi hC rfl (z_runV hC (c_A_pop l D K q hq _ ha _ ) yy_A_pop yv_A_89 (za_lt ha) (zS_a ha) ⟨Nat.le_of_ble_eq_true rfl, Nat.le_of_ble_eq_true rfl⟩ ⟨Nat.zero_le _, Nat.zero_le _⟩ rfl (Nat.le_of_ble_eq_true rfl) d_A_doTurn_17) (fun r0 σ0 q0 => ?_)
      obtain ⟨rfl, w0⟩ := q0
      obtain rfl := w0.symm
      refine g_if_ne hC 27 d_A_doTurn_20 rfl rfl (fun h20 => ?_) (fun h20 => ?_)
      ·
        refine g_iconst hC (0) d_A_doTurn_27 (by decide) rfl ?_
        refine g_istore_n hC d_A_doTurn_28 rfl (by decide) ?_
        refine g_aload_n hC d_A_doTurn_29 rfl rfl ?_
        refine g_dup hC d_A_doTurn_30 rfl rfl ?_
        refine g_getI hC _ 2 6 (za_lt ha) (zS_a ha) rfl fl_A_49 d_A_doTurn_31 rfl ?_
        refine g_iload_n hC d_A_doTurn_34 rfl rfl ?_
        refine g_if_eq hC 42 d_A_doTurn_35 rfl rfl (fun h35 => ?_) (fun h35 => absurd (by decide) h35)
        refine g_iconst hC (1) d_A_doTurn_42 (by decide) rfl ?_
        refine g_iadd hC d_A_doTurn_43 rfl ?_
        refine g_putI hC _ 2 6 (za_lt ha) (zS_a ha) rfl fp_A_49 d_A_doTurn_44 rfl ?_
        exact g_vret hC hr hlk d_A_doTurn_47 (by first | (unfold zturn; rw [if_pos h1]; done) | (unfold zturn; rw [if_neg h1, if_pos h13]; done) | (unfold zturn; rw [if_neg h1, if_neg h13, if_pos h20, zpop_6]; done) | (unfold zturn; rw [if_neg h1, if_neg h13, if_neg h20, zpop_6]; done))
      ·
        refine g_iconst hC (1) d_A_doTurn_23 (by decide) rfl ?_
        refine g_goto hC 28 d_A_doTurn_24 rfl ?_
        refine g_istore_n hC d_A_doTurn_28 rfl (by decide) ?_
        refine g_aload_n hC d_A_doTurn_29 rfl rfl ?_
        refine g_dup hC d_A_doTurn_30 rfl rfl ?_
        refine g_getI hC _ 2 6 (za_lt ha) (zS_a ha) rfl fl_A_49 d_A_doTurn_31 rfl ?_
        refine g_iload_n hC d_A_doTurn_34 rfl rfl ?_
        refine g_if_eq hC 42 d_A_doTurn_35 rfl rfl (fun h35 => absurd h35 (by decide)) (fun h35 => ?_)
        refine g_iload_n hC d_A_doTurn_38 rfl rfl ?_
        refine g_goto hC 43 d_A_doTurn_39 rfl ?_
        refine g_iadd hC d_A_doTurn_43 rfl ?_
        refine g_putI hC _ 2 6 (za_lt ha) (zS_a ha) rfl fp_A_49 d_A_doTurn_44 rfl ?_
        exact g_vret hC hr hlk d_A_doTurn_47 (by first | (unfold zturn; rw [if_pos h1]; done) | (unfold zturn; rw [if_neg h1, if_pos h13]; done) | (unfold zturn; rw [if_neg h1, if_neg h13, if_pos h20, zpop_6]; done) | (unfold zturn; rw [if_neg h1, if_neg h13, if_neg h20, zpop_6]; done))
  ·
    refine g_aload_n hC d_A_doTurn_4 rfl rfl ?_
    refine g_iconst hC (0) d_A_doTurn_5 (by decide) rfl ?_
    refine g_putZ hC _ 2 5 (za_lt ha) (zS_a ha) rfl fp_A_39 (Or.inl rfl) d_A_doTurn_6 rfl ?_
    exact g_vret hC hr hlk d_A_doTurn_9 (by first | (unfold zturn; rw [if_pos h1]; done) | (unfold zturn; rw [if_neg h1, if_pos h13]; done) | (unfold zturn; rw [if_neg h1, if_neg h13, if_pos h20, zpop_6]; done) | (unfold zturn; rw [if_neg h1, if_neg h13, if_neg h20, zpop_6]; done))
set_option maxHeartbeats 4000000 in
set_option maxRecDepth 100000 in
theorem c_A_storeInto (l : Launch) (D : va_G) (K : Nat → ClassId) (q : Nat → Nat) (hq : zI q) (a : Nat) (ha : a < 8) (n v : Int32) (σ : zm) : zMv l y_A_storeInto b_A_storeInto 3 none 1 D K q [.ref (q (za a)), .int (n), .int (v)] σ (fun σ' => σ' = zsto σ a n v) := by
  refine zMv.of (own := "AppDesk$App") (lv := [(0, .ref (q (za a))), (1, .int (n)), (2, .int (v))]) (by decide) rfl hq (Nat.le_of_ble_eq_true rfl) rfl ?_
  intro p e s m below meth c hC hr hlk
  refine g_iload_n hC d_A_storeInto_0 rfl rfl ?_
  refine g_iconst hC (4) d_A_storeInto_1 (by decide) rfl ?_
  refine g_goi hC rfl (z_runN hC (c_D_isBelow l D K q hq _ _ _) yy_D_isBelow yn_A_72 ⟨Nat.le_of_ble_eq_true rfl, Nat.le_of_ble_eq_true rfl⟩ ⟨Nat.zero_le _, Nat.zero_le _⟩ rfl (Nat.le_of_ble_eq_true rfl) d_A_storeInto_2) (fun r0 σ0 q0 => ?_)
  obtain ⟨rfl, w0⟩ := q0
  obtain rfl := w0.symm
  refine g_ifeq_b hC 15 d_A_storeInto_5 rfl rfl (fun h5 => ?_) (fun h5 => ?_)
  ·
    exact g_vret hC hr hlk d_A_storeInto_15 (by first | (unfold zsto; rw [if_pos h5, hc]) | (unfold zsto; rw [if_neg (zif_f h5)]))
  ·
    obtain ⟨k, hk, hx⟩ := zin_of (n := 4) (by decide) h5
    have hc : n.toNatClampNeg = k := by rw [hx]; exact nI_clamp (by omega)
    refine g_aload_n hC d_A_storeInto_8 rfl rfl ?_
    refine g_getR hC _ 2 9 _ (za_lt ha) (zS_a ha) rfl fl_A_25 d_A_storeInto_9 rfl ?_
    refine g_iload_n hC d_A_storeInto_12 rfl rfl ?_
    refine g_iload_n hC d_A_storeInto_13 rfl rfl ?_
    refine g_iast hC _ _ k (za_lt' ha 3 (by decide)) (zS_ar ha 3 (by decide)) hx hk (by decide) d_A_storeInto_14 rfl ?_
    exact g_vret hC hr hlk d_A_storeInto_15 (by first | (unfold zsto; rw [if_pos h5, hc]) | (unfold zsto; rw [if_neg (zif_f h5)]))
set_option maxHeartbeats 4000000 in
set_option maxRecDepth 100000 in
theorem c_A_doPlainWord (l : Launch) (D : va_G) (K : Nat → ClassId) (q : Nat → Nat) (hq : zI q) (a : Nat) (ha : a < 8) (op n : Int32) (σ : zm) : zMv l y_A_doPlainWord b_A_doPlainWord 4 none 3 D K q [.ref (q (za a)), .int (op), .int (n)] σ (fun σ' => σ' = zu (zpl σ a op n) (za a) 6 (zpl σ a op n (za a) 6 + 1)) := by
  refine zMv.of (own := "AppDesk$App") (lv := [(0, .ref (q (za a))), (1, .int (op)), (2, .int (n))]) (by decide) rfl hq (Nat.le_of_ble_eq_true rfl) rfl ?_
  intro p e s m below meth c hC hr hlk
  have J142 : ∀ (τ : zm) (hτ : zpl σ a op n = τ), zG p l e (zrm 3) s m ([.ref (q (za a)), .int (op), .int (n)] : List Value).toArray below meth c D K q (zA q) 4 0 0 (MQ below (va_Qv (fun σ' => σ' = zu (zpl σ a op n) (za a) 6 (zpl σ a op n (za a) 6 + 1)) (zO D K q) (zA q)) ([.ref (q (za a)), .int (op), .int (n)] : List Value).toArray s 0 0 (zA q)) τ 142 [(0, .ref (q (za a)))] [] := by
    intro τ hτ
    refine g_aload_n hC d_A_doPlainWord_142 rfl rfl ?_
    refine g_dup hC d_A_doPlainWord_143 rfl rfl ?_
    refine g_getI hC _ 2 6 (za_lt ha) (zS_a ha) rfl fl_A_49 d_A_doPlainWord_144 rfl ?_
    refine g_iconst hC (1) d_A_doPlainWord_147 (by decide) rfl ?_
    refine g_iadd hC d_A_doPlainWord_148 rfl ?_
    refine g_putI hC _ 2 6 (za_lt ha) (zS_a ha) rfl fp_A_49 d_A_doPlainWord_149 rfl ?_
    exact g_vret hC hr hlk d_A_doPlainWord_152 (by rw [hτ])
  refine g_iload_n hC d_A_doPlainWord_0 rfl rfl ?_
  by_cases t1_1 : op = 1
  ·
    refine g_tableIn hC 44 d_A_doPlainWord_1 (by rw [t1_1]; decide) (by rw [t1_1]; decide) (by rw [t1_1]; rfl) rfl ?_
    refine g_aload_n hC d_A_doPlainWord_44 rfl rfl ?_
    refine g_iload_n hC d_A_doPlainWord_45 rfl rfl ?_
    refine g_gov hC rfl (z_runV hC (c_A_push l D K q hq _ ha _ _ ) yy_A_push yv_A_92 (za_lt ha) (zS_a ha) ⟨Nat.le_of_ble_eq_true rfl, Nat.le_of_ble_eq_true rfl⟩ ⟨Nat.zero_le _, Nat.zero_le _⟩ rfl (Nat.le_of_ble_eq_true rfl) d_A_doPlainWord_46) (fun σ0 q0 => ?_)
    obtain rfl := q0.symm
    refine g_goto hC 142 d_A_doPlainWord_49 rfl ?_
    exact zG.to (J142 _ (by first | (rw [t1_1]; rfl) | (rw [t1_2]; rfl) | (rw [t1_3]; rfl) | (rw [t1_4]; rfl) | (rw [t1_5]; rfl) | (rw [t1_6, zpl_6, if_pos h111, hc]) | (rw [t1_6, zpl_6, if_neg (zif_f h111)]) | (rw [t1_7]; rfl) | (unfold zpl; rw [if_neg t1_1, if_neg t1_2, if_neg t1_3, if_neg t1_4, if_neg t1_5, if_neg t1_6, if_neg t1_7]))) rfl rfl ⟨rfl, trivial⟩
  by_cases t1_2 : op = 2
  ·
    refine g_tableIn hC 52 d_A_doPlainWord_1 (by rw [t1_2]; decide) (by rw [t1_2]; decide) (by rw [t1_2]; rfl) rfl ?_
    refine g_aload_n hC d_A_doPlainWord_52 rfl rfl ?_
    refine g_aload_n hC d_A_doPlainWord_53 rfl rfl ?_
    refine g_goi hC rfl (z_runV hC (c_A_pop l D K q hq _ ha _ ) yy_A_pop yv_A_89 (za_lt ha) (zS_a ha) ⟨Nat.le_of_ble_eq_true rfl, Nat.le_of_ble_eq_true rfl⟩ ⟨Nat.zero_le _, Nat.zero_le _⟩ rfl (Nat.le_of_ble_eq_true rfl) d_A_doPlainWord_54) (fun r1 σ1 q1 => ?_)
    obtain ⟨rfl, w1⟩ := q1
    obtain rfl := w1.symm
    refine g_aload_n hC d_A_doPlainWord_57 rfl rfl ?_
    refine g_goi hC rfl (z_runV hC (c_A_pop l D K q hq _ ha _ ) yy_A_pop yv_A_89 (za_lt ha) (zS_a ha) ⟨Nat.le_of_ble_eq_true rfl, Nat.le_of_ble_eq_true rfl⟩ ⟨Nat.zero_le _, Nat.zero_le _⟩ rfl (Nat.le_of_ble_eq_true rfl) d_A_doPlainWord_58) (fun r2 σ2 q2 => ?_)
    obtain ⟨rfl, w2⟩ := q2
    obtain rfl := w2.symm
    refine g_iadd hC d_A_doPlainWord_61 rfl ?_
    refine g_gov hC rfl (z_runV hC (c_A_push l D K q hq _ ha _ _ ) yy_A_push yv_A_92 (za_lt ha) (zS_a ha) ⟨Nat.le_of_ble_eq_true rfl, Nat.le_of_ble_eq_true rfl⟩ ⟨Nat.zero_le _, Nat.zero_le _⟩ rfl (Nat.le_of_ble_eq_true rfl) d_A_doPlainWord_62) (fun σ3 q3 => ?_)
    obtain rfl := q3.symm
    refine g_goto hC 142 d_A_doPlainWord_65 rfl ?_
    exact zG.to (J142 _ (by first | (rw [t1_1]; rfl) | (rw [t1_2]; rfl) | (rw [t1_3]; rfl) | (rw [t1_4]; rfl) | (rw [t1_5]; rfl) | (rw [t1_6, zpl_6, if_pos h111, hc]) | (rw [t1_6, zpl_6, if_neg (zif_f h111)]) | (rw [t1_7]; rfl) | (unfold zpl; rw [if_neg t1_1, if_neg t1_2, if_neg t1_3, if_neg t1_4, if_neg t1_5, if_neg t1_6, if_neg t1_7]))) rfl rfl ⟨rfl, trivial⟩
  by_cases t1_3 : op = 3
  ·
    refine g_tableIn hC 68 d_A_doPlainWord_1 (by rw [t1_3]; decide) (by rw [t1_3]; decide) (by rw [t1_3]; rfl) rfl ?_
    refine g_aload_n hC d_A_doPlainWord_68 rfl rfl ?_
    refine g_goi hC rfl (z_runV hC (c_A_pop l D K q hq _ ha _ ) yy_A_pop yv_A_89 (za_lt ha) (zS_a ha) ⟨Nat.le_of_ble_eq_true rfl, Nat.le_of_ble_eq_true rfl⟩ ⟨Nat.zero_le _, Nat.zero_le _⟩ rfl (Nat.le_of_ble_eq_true rfl) d_A_doPlainWord_69) (fun r4 σ4 q4 => ?_)
    obtain ⟨rfl, w4⟩ := q4
    obtain rfl := w4.symm
    refine g_istore_n hC d_A_doPlainWord_72 rfl (by decide) ?_
    refine g_aload_n hC d_A_doPlainWord_73 rfl rfl ?_
    refine g_aload_n hC d_A_doPlainWord_74 rfl rfl ?_
    refine g_goi hC rfl (z_runV hC (c_A_pop l D K q hq _ ha _ ) yy_A_pop yv_A_89 (za_lt ha) (zS_a ha) ⟨Nat.le_of_ble_eq_true rfl, Nat.le_of_ble_eq_true rfl⟩ ⟨Nat.zero_le _, Nat.zero_le _⟩ rfl (Nat.le_of_ble_eq_true rfl) d_A_doPlainWord_75) (fun r5 σ5 q5 => ?_)
    obtain ⟨rfl, w5⟩ := q5
    obtain rfl := w5.symm
    refine g_iload_n hC d_A_doPlainWord_78 rfl rfl ?_
    refine g_isub hC d_A_doPlainWord_79 rfl ?_
    refine g_gov hC rfl (z_runV hC (c_A_push l D K q hq _ ha _ _ ) yy_A_push yv_A_92 (za_lt ha) (zS_a ha) ⟨Nat.le_of_ble_eq_true rfl, Nat.le_of_ble_eq_true rfl⟩ ⟨Nat.zero_le _, Nat.zero_le _⟩ rfl (Nat.le_of_ble_eq_true rfl) d_A_doPlainWord_80) (fun σ6 q6 => ?_)
    obtain rfl := q6.symm
    refine g_goto hC 142 d_A_doPlainWord_83 rfl ?_
    exact zG.to (J142 _ (by first | (rw [t1_1]; rfl) | (rw [t1_2]; rfl) | (rw [t1_3]; rfl) | (rw [t1_4]; rfl) | (rw [t1_5]; rfl) | (rw [t1_6, zpl_6, if_pos h111, hc]) | (rw [t1_6, zpl_6, if_neg (zif_f h111)]) | (rw [t1_7]; rfl) | (unfold zpl; rw [if_neg t1_1, if_neg t1_2, if_neg t1_3, if_neg t1_4, if_neg t1_5, if_neg t1_6, if_neg t1_7]))) rfl rfl ⟨rfl, trivial⟩
  by_cases t1_4 : op = 4
  ·
    refine g_tableIn hC 86 d_A_doPlainWord_1 (by rw [t1_4]; decide) (by rw [t1_4]; decide) (by rw [t1_4]; rfl) rfl ?_
    refine g_aload_n hC d_A_doPlainWord_86 rfl rfl ?_
    refine g_aload_n hC d_A_doPlainWord_87 rfl rfl ?_
    refine g_goi hC rfl (z_runV hC (c_A_uppermost l D K q hq _ ha _ ) yy_A_uppermost yv_A_79 (za_lt ha) (zS_a ha) ⟨Nat.le_of_ble_eq_true rfl, Nat.le_of_ble_eq_true rfl⟩ ⟨Nat.zero_le _, Nat.zero_le _⟩ rfl (Nat.le_of_ble_eq_true rfl) d_A_doPlainWord_88) (fun r7 σ7 q7 => ?_)
    obtain ⟨rfl, w7⟩ := q7
    obtain rfl := w7.symm
    refine g_gov hC rfl (z_runV hC (c_A_push l D K q hq _ ha _ _ ) yy_A_push yv_A_92 (za_lt ha) (zS_a ha) ⟨Nat.le_of_ble_eq_true rfl, Nat.le_of_ble_eq_true rfl⟩ ⟨Nat.zero_le _, Nat.zero_le _⟩ rfl (Nat.le_of_ble_eq_true rfl) d_A_doPlainWord_91) (fun σ8 q8 => ?_)
    obtain rfl := q8.symm
    refine g_goto hC 142 d_A_doPlainWord_94 rfl ?_
    exact zG.to (J142 _ (by first | (rw [t1_1]; rfl) | (rw [t1_2]; rfl) | (rw [t1_3]; rfl) | (rw [t1_4]; rfl) | (rw [t1_5]; rfl) | (rw [t1_6, zpl_6, if_pos h111, hc]) | (rw [t1_6, zpl_6, if_neg (zif_f h111)]) | (rw [t1_7]; rfl) | (unfold zpl; rw [if_neg t1_1, if_neg t1_2, if_neg t1_3, if_neg t1_4, if_neg t1_5, if_neg t1_6, if_neg t1_7]))) rfl rfl ⟨rfl, trivial⟩
  by_cases t1_5 : op = 5
  ·
    refine g_tableIn hC 97 d_A_doPlainWord_1 (by rw [t1_5]; decide) (by rw [t1_5]; decide) (by rw [t1_5]; rfl) rfl ?_
    refine g_aload_n hC d_A_doPlainWord_97 rfl rfl ?_
    refine g_goi hC rfl (z_runV hC (c_A_pop l D K q hq _ ha _ ) yy_A_pop yv_A_89 (za_lt ha) (zS_a ha) ⟨Nat.le_of_ble_eq_true rfl, Nat.le_of_ble_eq_true rfl⟩ ⟨Nat.zero_le _, Nat.zero_le _⟩ rfl (Nat.le_of_ble_eq_true rfl) d_A_doPlainWord_98) (fun r9 σ9 q9 => ?_)
    obtain ⟨rfl, w9⟩ := q9
    obtain rfl := w9.symm
    refine g_pop hC d_A_doPlainWord_101 rfl rfl ?_
    refine g_goto hC 142 d_A_doPlainWord_102 rfl ?_
    exact zG.to (J142 _ (by first | (rw [t1_1]; rfl) | (rw [t1_2]; rfl) | (rw [t1_3]; rfl) | (rw [t1_4]; rfl) | (rw [t1_5]; rfl) | (rw [t1_6, zpl_6, if_pos h111, hc]) | (rw [t1_6, zpl_6, if_neg (zif_f h111)]) | (rw [t1_7]; rfl) | (unfold zpl; rw [if_neg t1_1, if_neg t1_2, if_neg t1_3, if_neg t1_4, if_neg t1_5, if_neg t1_6, if_neg t1_7]))) rfl rfl ⟨rfl, trivial⟩
  by_cases t1_6 : op = 6
  ·
    refine g_tableIn hC 105 d_A_doPlainWord_1 (by rw [t1_6]; decide) (by rw [t1_6]; decide) (by rw [t1_6]; rfl) rfl ?_
    refine g_aload_n hC d_A_doPlainWord_105 rfl rfl ?_
    refine g_iload_n hC d_A_doPlainWord_106 rfl rfl ?_
    refine g_iconst hC (4) d_A_doPlainWord_107 (by decide) rfl ?_
    refine g_goi hC rfl (z_runN hC (c_D_isBelow l D K q hq _ _ _) yy_D_isBelow yn_A_72 ⟨Nat.le_of_ble_eq_true rfl, Nat.le_of_ble_eq_true rfl⟩ ⟨Nat.zero_le _, Nat.zero_le _⟩ rfl (Nat.le_of_ble_eq_true rfl) d_A_doPlainWord_108) (fun r10 σ10 q10 => ?_)
    obtain ⟨rfl, w10⟩ := q10
    obtain rfl := w10.symm
    refine g_ifeq_b hC 123 d_A_doPlainWord_111 rfl rfl (fun h111 => ?_) (fun h111 => ?_)
    ·
      refine g_iconst hC (0) d_A_doPlainWord_123 (by decide) rfl ?_
      refine g_gov hC rfl (z_runV hC (c_A_push l D K q hq _ ha _ _ ) yy_A_push yv_A_92 (za_lt ha) (zS_a ha) ⟨Nat.le_of_ble_eq_true rfl, Nat.le_of_ble_eq_true rfl⟩ ⟨Nat.zero_le _, Nat.zero_le _⟩ rfl (Nat.le_of_ble_eq_true rfl) d_A_doPlainWord_124) (fun σ11 q11 => ?_)
      obtain rfl := q11.symm
      refine g_goto hC 142 d_A_doPlainWord_127 rfl ?_
      exact zG.to (J142 _ (by first | (rw [t1_1]; rfl) | (rw [t1_2]; rfl) | (rw [t1_3]; rfl) | (rw [t1_4]; rfl) | (rw [t1_5]; rfl) | (rw [t1_6, zpl_6, if_pos h111, hc]) | (rw [t1_6, zpl_6, if_neg (zif_f h111)]) | (rw [t1_7]; rfl) | (unfold zpl; rw [if_neg t1_1, if_neg t1_2, if_neg t1_3, if_neg t1_4, if_neg t1_5, if_neg t1_6, if_neg t1_7]))) rfl rfl ⟨rfl, trivial⟩
    ·
      obtain ⟨k, hk, hx⟩ := zin_of (n := 4) (by decide) h111
      have hc : n.toNatClampNeg = k := by rw [hx]; exact nI_clamp (by omega)
      refine g_aload_n hC d_A_doPlainWord_114 rfl rfl ?_
      refine g_getR hC _ 2 9 _ (za_lt ha) (zS_a ha) rfl fl_A_25 d_A_doPlainWord_115 rfl ?_
      refine g_iload_n hC d_A_doPlainWord_118 rfl rfl ?_
      refine g_iald hC _ _ k (za_lt' ha 3 (by decide)) (zS_ar ha 3 (by decide)) hx hk (by decide) d_A_doPlainWord_119 rfl ?_
      refine g_goto hC 124 d_A_doPlainWord_120 rfl ?_
      refine g_gov hC rfl (z_runV hC (c_A_push l D K q hq _ ha _ _ ) yy_A_push yv_A_92 (za_lt ha) (zS_a ha) ⟨Nat.le_of_ble_eq_true rfl, Nat.le_of_ble_eq_true rfl⟩ ⟨Nat.zero_le _, Nat.zero_le _⟩ rfl (Nat.le_of_ble_eq_true rfl) d_A_doPlainWord_124) (fun σ12 q12 => ?_)
      obtain rfl := q12.symm
      refine g_goto hC 142 d_A_doPlainWord_127 rfl ?_
      exact zG.to (J142 _ (by first | (rw [t1_1]; rfl) | (rw [t1_2]; rfl) | (rw [t1_3]; rfl) | (rw [t1_4]; rfl) | (rw [t1_5]; rfl) | (rw [t1_6, zpl_6, if_pos h111, hc]) | (rw [t1_6, zpl_6, if_neg (zif_f h111)]) | (rw [t1_7]; rfl) | (unfold zpl; rw [if_neg t1_1, if_neg t1_2, if_neg t1_3, if_neg t1_4, if_neg t1_5, if_neg t1_6, if_neg t1_7]))) rfl rfl ⟨rfl, trivial⟩
  by_cases t1_7 : op = 7
  ·
    refine g_tableIn hC 130 d_A_doPlainWord_1 (by rw [t1_7]; decide) (by rw [t1_7]; decide) (by rw [t1_7]; rfl) rfl ?_
    refine g_aload_n hC d_A_doPlainWord_130 rfl rfl ?_
    refine g_iload_n hC d_A_doPlainWord_131 rfl rfl ?_
    refine g_aload_n hC d_A_doPlainWord_132 rfl rfl ?_
    refine g_goi hC rfl (z_runV hC (c_A_pop l D K q hq _ ha _ ) yy_A_pop yv_A_89 (za_lt ha) (zS_a ha) ⟨Nat.le_of_ble_eq_true rfl, Nat.le_of_ble_eq_true rfl⟩ ⟨Nat.zero_le _, Nat.zero_le _⟩ rfl (Nat.le_of_ble_eq_true rfl) d_A_doPlainWord_133) (fun r13 σ13 q13 => ?_)
    obtain ⟨rfl, w13⟩ := q13
    obtain rfl := w13.symm
    refine g_gov hC rfl (z_runV hC (c_A_storeInto l D K q hq _ ha _ _ _ ) yy_A_storeInto yv_A_96 (za_lt ha) (zS_a ha) ⟨Nat.le_of_ble_eq_true rfl, Nat.le_of_ble_eq_true rfl⟩ ⟨Nat.zero_le _, Nat.zero_le _⟩ rfl (Nat.le_of_ble_eq_true rfl) d_A_doPlainWord_136) (fun σ14 q14 => ?_)
    obtain rfl := q14.symm
    refine g_goto hC 142 d_A_doPlainWord_139 rfl ?_
    exact zG.to (J142 _ (by first | (rw [t1_1]; rfl) | (rw [t1_2]; rfl) | (rw [t1_3]; rfl) | (rw [t1_4]; rfl) | (rw [t1_5]; rfl) | (rw [t1_6, zpl_6, if_pos h111, hc]) | (rw [t1_6, zpl_6, if_neg (zif_f h111)]) | (rw [t1_7]; rfl) | (unfold zpl; rw [if_neg t1_1, if_neg t1_2, if_neg t1_3, if_neg t1_4, if_neg t1_5, if_neg t1_6, if_neg t1_7]))) rfl rfl ⟨rfl, trivial⟩
  refine g_tableOut hC 142 d_A_doPlainWord_1 (by have u1 := lv_neT t1_1 (a := 1) (by decide); have u2 := lv_neT t1_2 (a := 2) (by decide); have u3 := lv_neT t1_3 (a := 3) (by decide); have u4 := lv_neT t1_4 (a := 4) (by decide); have u5 := lv_neT t1_5 (a := 5) (by decide); have u6 := lv_neT t1_6 (a := 6) (by decide); have u7 := lv_neT t1_7 (a := 7) (by decide); omega) rfl ?_
  exact zG.to (J142 _ (by first | (rw [t1_1]; rfl) | (rw [t1_2]; rfl) | (rw [t1_3]; rfl) | (rw [t1_4]; rfl) | (rw [t1_5]; rfl) | (rw [t1_6, zpl_6, if_pos h111, hc]) | (rw [t1_6, zpl_6, if_neg (zif_f h111)]) | (rw [t1_7]; rfl) | (unfold zpl; rw [if_neg t1_1, if_neg t1_2, if_neg t1_3, if_neg t1_4, if_neg t1_5, if_neg t1_6, if_neg t1_7]))) rfl rfl ⟨rfl, trivial⟩
set_option maxHeartbeats 4000000 in
set_option maxRecDepth 100000 in
theorem c_A_getKept (l : Launch) (D : va_G) (K : Nat → ClassId) (q : Nat → Nat) (hq : zI q) (a : Nat) (ha : a < 8) (σ : zm) : zMi l y_A_getKept b_A_getKept 2 (some .boolean) 4 D K q [.ref (q (za a))] σ (fun r σ' => r = zb (zin (zup σ a) 8) ∧ σ' = if zin (zup σ a) 8 then zgot σ a else σ) := by
  refine zMi.of (own := "AppDesk$App") (lv := [(0, .ref (q (za a)))]) (by decide) rfl hq (Nat.le_of_ble_eq_true rfl) rfl ?_
  intro p e s m below meth c hC hr hlk
  refine g_aload_n hC d_A_getKept_0 rfl rfl ?_
  refine g_goi hC rfl (z_runV hC (c_A_uppermost l D K q hq _ ha _ ) yy_A_uppermost yv_A_79 (za_lt ha) (zS_a ha) ⟨Nat.le_of_ble_eq_true rfl, Nat.le_of_ble_eq_true rfl⟩ ⟨Nat.zero_le _, Nat.zero_le _⟩ rfl (Nat.le_of_ble_eq_true rfl) d_A_getKept_1) (fun r0 σ0 q0 => ?_)
  obtain ⟨rfl, w0⟩ := q0
  obtain rfl := w0.symm
  refine g_istore_n hC d_A_getKept_4 rfl (by decide) ?_
  refine g_iload_n hC d_A_getKept_5 rfl rfl ?_
  refine g_bipush hC (8) d_A_getKept_6 (by decide) rfl ?_
  refine g_goi hC rfl (z_runN hC (c_D_isBelow l D K q hq _ _ _) yy_D_isBelow yn_A_72 ⟨Nat.le_of_ble_eq_true rfl, Nat.le_of_ble_eq_true rfl⟩ ⟨Nat.zero_le _, Nat.zero_le _⟩ rfl (Nat.le_of_ble_eq_true rfl) d_A_getKept_8) (fun r1 σ1 q1 => ?_)
  obtain ⟨rfl, w1⟩ := q1
  obtain rfl := w1.symm
  refine g_ifne_b hC 16 d_A_getKept_11 rfl rfl (fun h11 => ?_) (fun h11 => ?_)
  ·
    refine g_aload_n hC d_A_getKept_16 rfl rfl ?_
    refine g_goi hC rfl (z_runV hC (c_A_pop l D K q hq _ ha _ ) yy_A_pop yv_A_89 (za_lt ha) (zS_a ha) ⟨Nat.le_of_ble_eq_true rfl, Nat.le_of_ble_eq_true rfl⟩ ⟨Nat.zero_le _, Nat.zero_le _⟩ rfl (Nat.le_of_ble_eq_true rfl) d_A_getKept_17) (fun r2 σ2 q2 => ?_)
    obtain ⟨rfl, w2⟩ := q2
    obtain rfl := w2.symm
    refine g_pop hC d_A_getKept_20 rfl rfl ?_
    refine g_aload_n hC d_A_getKept_21 rfl rfl ?_
    refine g_aload_n hC d_A_getKept_22 rfl rfl ?_
    refine g_iload_n hC d_A_getKept_23 rfl rfl ?_
    refine g_goi hC rfl (z_runV hC (c_A_valueUnder l D K q hq _ ha _ _ ) yy_A_valueUnder yv_A_100 (za_lt ha) (zS_a ha) ⟨Nat.le_of_ble_eq_true rfl, Nat.le_of_ble_eq_true rfl⟩ ⟨Nat.zero_le _, Nat.zero_le _⟩ rfl (Nat.le_of_ble_eq_true rfl) d_A_getKept_24) (fun r3 σ3 q3 => ?_)
    obtain ⟨rfl, w3⟩ := q3
    obtain rfl := w3.symm
    refine g_gov hC rfl (z_runV hC (c_A_push l D K q hq _ ha _ _ ) yy_A_push yv_A_92 (za_lt ha) (zS_a ha) ⟨Nat.le_of_ble_eq_true rfl, Nat.le_of_ble_eq_true rfl⟩ ⟨Nat.zero_le _, Nat.zero_le _⟩ rfl (Nat.le_of_ble_eq_true rfl) d_A_getKept_27) (fun σ4 q4 => ?_)
    obtain rfl := q4.symm
    refine g_aload_n hC d_A_getKept_30 rfl rfl ?_
    refine g_dup hC d_A_getKept_31 rfl rfl ?_
    refine g_getI hC _ 2 6 (za_lt ha) (zS_a ha) rfl fl_A_49 d_A_getKept_32 rfl ?_
    refine g_iconst hC (1) d_A_getKept_35 (by decide) rfl ?_
    refine g_iadd hC d_A_getKept_36 rfl ?_
    refine g_putI hC _ 2 6 (za_lt ha) (zS_a ha) rfl fp_A_49 d_A_getKept_37 rfl ?_
    refine g_iconst hC (1) d_A_getKept_40 (by decide) rfl ?_
    exact g_zret hC hr hlk d_A_getKept_41 (Or.inr rfl) ⟨by rw [h11]; rfl, (if_pos h11).symm⟩
  ·
    refine g_iconst hC (0) d_A_getKept_14 (by decide) rfl ?_
    exact g_zret hC hr hlk d_A_getKept_15 (Or.inl rfl) ⟨by rw [h11]; rfl, (if_neg (zif_f h11)).symm⟩
set_option maxHeartbeats 4000000 in
set_option maxRecDepth 100000 in
theorem c_A_keepUppermost (l : Launch) (D : va_G) (K : Nat → ClassId) (q : Nat → Nat) (hq : zI q) (a : Nat) (ha : a < 8) (σ : zm) : zMi l y_A_keepUppermost b_A_keepUppermost 2 (some .boolean) 4 D K q [.ref (q (za a))] σ (fun r σ' => r = zb (zkok σ a) ∧ σ' = if zkok σ a then zkep σ a else σ) := by
  refine zMi.of (own := "AppDesk$App") (lv := [(0, .ref (q (za a)))]) (by decide) rfl hq (Nat.le_of_ble_eq_true rfl) rfl ?_
  intro p e s m below meth c hC hr hlk
  refine g_aload_n hC d_A_keepUppermost_0 rfl rfl ?_
  refine g_goi hC rfl (z_runV hC (c_A_secondUppermost l D K q hq _ ha _ ) yy_A_secondUppermost yv_A_104 (za_lt ha) (zS_a ha) ⟨Nat.le_of_ble_eq_true rfl, Nat.le_of_ble_eq_true rfl⟩ ⟨Nat.zero_le _, Nat.zero_le _⟩ rfl (Nat.le_of_ble_eq_true rfl) d_A_keepUppermost_1) (fun r0 σ0 q0 => ?_)
  obtain ⟨rfl, w0⟩ := q0
  obtain rfl := w0.symm
  refine g_istore_n hC d_A_keepUppermost_4 rfl (by decide) ?_
  refine g_iload_n hC d_A_keepUppermost_5 rfl rfl ?_
  refine g_bipush hC (8) d_A_keepUppermost_6 (by decide) rfl ?_
  refine g_goi hC rfl (z_runN hC (c_D_isBelow l D K q hq _ _ _) yy_D_isBelow yn_A_72 ⟨Nat.le_of_ble_eq_true rfl, Nat.le_of_ble_eq_true rfl⟩ ⟨Nat.zero_le _, Nat.zero_le _⟩ rfl (Nat.le_of_ble_eq_true rfl) d_A_keepUppermost_8) (fun r1 σ1 q1 => ?_)
  obtain ⟨rfl, w1⟩ := q1
  obtain rfl := w1.symm
  refine g_ifeq_b hC 33 d_A_keepUppermost_11 rfl rfl (fun h11 => ?_) (fun h11 => ?_)
  ·
    have hok : zkok σ a = false := by first | (simp [zkok, h11]; done) | (simp [zkok, h11, h19, h30]; done)
    refine g_iconst hC (0) d_A_keepUppermost_33 (by decide) rfl ?_
    exact g_zret hC hr hlk d_A_keepUppermost_34 (Or.inl rfl) ⟨by rw [hok]; rfl, (if_neg (zif_f hok)).symm⟩
  ·
    refine g_aload_n hC d_A_keepUppermost_14 rfl rfl ?_
    refine g_iload_n hC d_A_keepUppermost_15 rfl rfl ?_
    refine g_goi hC rfl (z_runV hC (c_A_keepsUnder l D K q hq _ ha _ _ ) yy_A_keepsUnder yv_A_65 (za_lt ha) (zS_a ha) ⟨Nat.le_of_ble_eq_true rfl, Nat.le_of_ble_eq_true rfl⟩ ⟨Nat.zero_le _, Nat.zero_le _⟩ rfl (Nat.le_of_ble_eq_true rfl) d_A_keepUppermost_16) (fun r2 σ2 q2 => ?_)
    obtain ⟨rfl, w2⟩ := q2
    obtain rfl := w2.symm
    refine g_ifne_b hC 35 d_A_keepUppermost_19 rfl rfl (fun h19 => ?_) (fun h19 => ?_)
    ·
      have hin : zin (zup2 σ a) 8 = true := h11
      obtain ⟨k, hk, hx⟩ := zin_of (n := 8) (by decide) hin
      have hc : (zup2 σ a).toNatClampNeg = k := by rw [hx]; exact nI_clamp (by omega)
      have hok : zkok σ a = true := by first | (simp [zkok, h11, h19]; done) | (simp [zkok, h11, h19, h30]; done)
      refine g_aload_n hC d_A_keepUppermost_35 rfl rfl ?_
      refine g_dup hC d_A_keepUppermost_36 rfl rfl ?_
      refine g_getI hC _ 2 3 (za_lt ha) (zS_a ha) rfl fl_A_46 d_A_keepUppermost_37 rfl ?_
      refine g_iconst hC (1) d_A_keepUppermost_40 (by decide) rfl ?_
      refine g_iload_n hC d_A_keepUppermost_41 rfl rfl ?_
      refine g_ishl hC d_A_keepUppermost_42 rfl ?_
      refine g_ior hC d_A_keepUppermost_43 rfl ?_
      refine g_putI hC _ 2 3 (za_lt ha) (zS_a ha) rfl fp_A_46 d_A_keepUppermost_44 rfl ?_
      refine g_aload_n hC d_A_keepUppermost_47 rfl rfl ?_
      refine g_getR hC _ 2 4 _ (za_lt ha) (zS_a ha) rfl fl_A_18 d_A_keepUppermost_48 rfl ?_
      refine g_iload_n hC d_A_keepUppermost_51 rfl rfl ?_
      refine g_aload_n hC d_A_keepUppermost_52 rfl rfl ?_
      refine g_goi hC rfl (z_runV hC (c_A_pop l D K q hq _ ha _ ) yy_A_pop yv_A_89 (za_lt ha) (zS_a ha) ⟨Nat.le_of_ble_eq_true rfl, Nat.le_of_ble_eq_true rfl⟩ ⟨Nat.zero_le _, Nat.zero_le _⟩ rfl (Nat.le_of_ble_eq_true rfl) d_A_keepUppermost_53) (fun r3 σ3 q3 => ?_)
      obtain ⟨rfl, w3⟩ := q3
      obtain rfl := w3.symm
      refine g_iast hC _ _ k (za_lt' ha 1 (by decide)) (zS_ar ha 1 (by decide)) hx hk (by decide) d_A_keepUppermost_56 rfl ?_
      refine g_aload_n hC d_A_keepUppermost_57 rfl rfl ?_
      refine g_goi hC rfl (z_runV hC (c_A_pop l D K q hq _ ha _ ) yy_A_pop yv_A_89 (za_lt ha) (zS_a ha) ⟨Nat.le_of_ble_eq_true rfl, Nat.le_of_ble_eq_true rfl⟩ ⟨Nat.zero_le _, Nat.zero_le _⟩ rfl (Nat.le_of_ble_eq_true rfl) d_A_keepUppermost_58) (fun r4 σ4 q4 => ?_)
      obtain ⟨rfl, w4⟩ := q4
      obtain rfl := w4.symm
      refine g_pop hC d_A_keepUppermost_61 rfl rfl ?_
      refine g_aload_n hC d_A_keepUppermost_62 rfl rfl ?_
      refine g_dup hC d_A_keepUppermost_63 rfl rfl ?_
      refine g_getI hC _ 2 6 (za_lt ha) (zS_a ha) rfl fl_A_49 d_A_keepUppermost_64 rfl ?_
      refine g_iconst hC (1) d_A_keepUppermost_67 (by decide) rfl ?_
      refine g_iadd hC d_A_keepUppermost_68 rfl ?_
      refine g_putI hC _ 2 6 (za_lt ha) (zS_a ha) rfl fp_A_49 d_A_keepUppermost_69 rfl ?_
      refine g_iconst hC (1) d_A_keepUppermost_72 (by decide) rfl ?_
      exact g_zret hC hr hlk d_A_keepUppermost_73 (Or.inr rfl) ⟨by rw [hok]; rfl, by rw [if_pos hok]; unfold zkep zkp2 zkp1; rw [hc]⟩
    ·
      refine g_aload_n hC d_A_keepUppermost_22 rfl rfl ?_
      refine g_getI hC _ 2 3 (za_lt ha) (zS_a ha) rfl fl_A_46 d_A_keepUppermost_23 rfl ?_
      refine g_goi hC rfl (z_runS hC (c_J_bitCount l D K q hq _ _) yy_J_bitCount ys_A_107 ⟨Nat.le_of_ble_eq_true rfl, Nat.le_of_ble_eq_true rfl⟩ ⟨Nat.zero_le _, Nat.zero_le _⟩ rfl (Nat.le_of_ble_eq_true rfl) d_A_keepUppermost_26) (fun r5 σ5 q5 => ?_)
      obtain ⟨rfl, w5⟩ := q5
      obtain rfl := w5.symm
      refine g_iconst hC (3) d_A_keepUppermost_29 (by decide) rfl ?_
      refine g_icmp_lt hC 35 d_A_keepUppermost_30 rfl rfl (fun h30 => ?_) (fun h30 => ?_)
      ·
        have hin : zin (zup2 σ a) 8 = true := h11
        obtain ⟨k, hk, hx⟩ := zin_of (n := 8) (by decide) hin
        have hc : (zup2 σ a).toNatClampNeg = k := by rw [hx]; exact nI_clamp (by omega)
        have hok : zkok σ a = true := by first | (simp [zkok, h11, h19]; done) | (simp [zkok, h11, h19, h30]; done)
        refine g_aload_n hC d_A_keepUppermost_35 rfl rfl ?_
        refine g_dup hC d_A_keepUppermost_36 rfl rfl ?_
        refine g_getI hC _ 2 3 (za_lt ha) (zS_a ha) rfl fl_A_46 d_A_keepUppermost_37 rfl ?_
        refine g_iconst hC (1) d_A_keepUppermost_40 (by decide) rfl ?_
        refine g_iload_n hC d_A_keepUppermost_41 rfl rfl ?_
        refine g_ishl hC d_A_keepUppermost_42 rfl ?_
        refine g_ior hC d_A_keepUppermost_43 rfl ?_
        refine g_putI hC _ 2 3 (za_lt ha) (zS_a ha) rfl fp_A_46 d_A_keepUppermost_44 rfl ?_
        refine g_aload_n hC d_A_keepUppermost_47 rfl rfl ?_
        refine g_getR hC _ 2 4 _ (za_lt ha) (zS_a ha) rfl fl_A_18 d_A_keepUppermost_48 rfl ?_
        refine g_iload_n hC d_A_keepUppermost_51 rfl rfl ?_
        refine g_aload_n hC d_A_keepUppermost_52 rfl rfl ?_
        refine g_goi hC rfl (z_runV hC (c_A_pop l D K q hq _ ha _ ) yy_A_pop yv_A_89 (za_lt ha) (zS_a ha) ⟨Nat.le_of_ble_eq_true rfl, Nat.le_of_ble_eq_true rfl⟩ ⟨Nat.zero_le _, Nat.zero_le _⟩ rfl (Nat.le_of_ble_eq_true rfl) d_A_keepUppermost_53) (fun r6 σ6 q6 => ?_)
        obtain ⟨rfl, w6⟩ := q6
        obtain rfl := w6.symm
        refine g_iast hC _ _ k (za_lt' ha 1 (by decide)) (zS_ar ha 1 (by decide)) hx hk (by decide) d_A_keepUppermost_56 rfl ?_
        refine g_aload_n hC d_A_keepUppermost_57 rfl rfl ?_
        refine g_goi hC rfl (z_runV hC (c_A_pop l D K q hq _ ha _ ) yy_A_pop yv_A_89 (za_lt ha) (zS_a ha) ⟨Nat.le_of_ble_eq_true rfl, Nat.le_of_ble_eq_true rfl⟩ ⟨Nat.zero_le _, Nat.zero_le _⟩ rfl (Nat.le_of_ble_eq_true rfl) d_A_keepUppermost_58) (fun r7 σ7 q7 => ?_)
        obtain ⟨rfl, w7⟩ := q7
        obtain rfl := w7.symm
        refine g_pop hC d_A_keepUppermost_61 rfl rfl ?_
        refine g_aload_n hC d_A_keepUppermost_62 rfl rfl ?_
        refine g_dup hC d_A_keepUppermost_63 rfl rfl ?_
        refine g_getI hC _ 2 6 (za_lt ha) (zS_a ha) rfl fl_A_49 d_A_keepUppermost_64 rfl ?_
        refine g_iconst hC (1) d_A_keepUppermost_67 (by decide) rfl ?_
        refine g_iadd hC d_A_keepUppermost_68 rfl ?_
        refine g_putI hC _ 2 6 (za_lt ha) (zS_a ha) rfl fp_A_49 d_A_keepUppermost_69 rfl ?_
        refine g_iconst hC (1) d_A_keepUppermost_72 (by decide) rfl ?_
        exact g_zret hC hr hlk d_A_keepUppermost_73 (Or.inr rfl) ⟨by rw [hok]; rfl, by rw [if_pos hok]; unfold zkep zkp2 zkp1; rw [hc]⟩
      ·
        have hok : zkok σ a = false := by first | (simp [zkok, h11]; done) | (simp [zkok, h11, h19, h30]; done)
        refine g_iconst hC (0) d_A_keepUppermost_33 (by decide) rfl ?_
        exact g_zret hC hr hlk d_A_keepUppermost_34 (Or.inl rfl) ⟨by rw [hok]; rfl, (if_neg (zif_f hok)).symm⟩
