/-! constructors of the small classes and of the reference -/
theorem ff_P_15 : zFF "AppDesk$Pack" 15 1 5 (.array .int) := ⟨_, TP, 13, tP, rfl, by decide, inP, kf_P_15, rfl, tP_ok, nmP, rfl, rfl, tP_ok 5 (by decide)⟩
theorem ff_P_25 : zFF "AppDesk$Pack" 25 1 7 (.array .int) := ⟨_, TP, 13, tP, rfl, by decide, inP, kf_P_25, rfl, tP_ok, nmP, rfl, rfl, tP_ok 7 (by decide)⟩
theorem ff_P_28 : zFF "AppDesk$Pack" 28 1 8 (.array .int) := ⟨_, TP, 13, tP, rfl, by decide, inP, kf_P_28, rfl, tP_ok, nmP, rfl, rfl, tP_ok 8 (by decide)⟩
theorem ff_P_31 : zFF "AppDesk$Pack" 31 1 9 (.array .int) := ⟨_, TP, 13, tP, rfl, by decide, inP, kf_P_31, rfl, tP_ok, nmP, rfl, rfl, tP_ok 9 (by decide)⟩
theorem ff_P_34 : zFF "AppDesk$Pack" 34 1 10 (.array .int) := ⟨_, TP, 13, tP, rfl, by decide, inP, kf_P_34, rfl, tP_ok, nmP, rfl, rfl, tP_ok 10 (by decide)⟩
theorem ff_P_37 : zFF "AppDesk$Pack" 37 1 12 (.array .int) := ⟨_, TP, 13, tP, rfl, by decide, inP, kf_P_37, rfl, tP_ok, nmP, rfl, rfl, tP_ok 12 (by decide)⟩
theorem ff_A_12 : zFF "AppDesk$App" 12 2 1 (.object "AppDesk$Pack") := ⟨_, TA, 10, tA, rfl, by decide, inA, kf_A_12, rfl, tA_ok, nmA, rfl, rfl, tA_ok 1 (by decide)⟩
theorem ff_A_18 : zFF "AppDesk$App" 18 2 4 (.array .int) := ⟨_, TA, 10, tA, rfl, by decide, inA, kf_A_18, rfl, tA_ok, nmA, rfl, rfl, tA_ok 4 (by decide)⟩
theorem ff_A_22 : zFF "AppDesk$App" 22 2 8 (.array .int) := ⟨_, TA, 10, tA, rfl, by decide, inA, kf_A_22, rfl, tA_ok, nmA, rfl, rfl, tA_ok 8 (by decide)⟩
theorem ff_A_25 : zFF "AppDesk$App" 25 2 9 (.array .int) := ⟨_, TA, 10, tA, rfl, by decide, inA, kf_A_25, rfl, tA_ok, nmA, rfl, rfl, tA_ok 9 (by decide)⟩
theorem ff_Q_9 : zFF "AppDesk$IntentQueue" 9 3 1 (.array .int) := ⟨_, TQ, 4, tQ, rfl, by decide, inQ, kf_Q_9, rfl, tQ_ok, nmQ, rfl, rfl, tQ_ok 1 (by decide)⟩
theorem ff_Q_15 : zFF "AppDesk$IntentQueue" 15 3 2 (.array .int) := ⟨_, TQ, 4, tQ, rfl, by decide, inQ, kf_Q_15, rfl, tQ_ok, nmQ, rfl, rfl, tQ_ok 2 (by decide)⟩
theorem ff_Q_18 : zFF "AppDesk$IntentQueue" 18 3 3 (.array .int) := ⟨_, TQ, 4, tQ, rfl, by decide, inQ, kf_Q_18, rfl, tQ_ok, nmQ, rfl, rfl, tQ_ok 3 (by decide)⟩
theorem ff_V_9 : zFF "AppDesk$Verifier" 9 4 0 (.array .int) := ⟨_, TV, 3, tV, rfl, by decide, inV, kf_V_9, rfl, tV_ok, nmV, rfl, rfl, tV_ok 0 (by decide)⟩
theorem ff_V_15 : zFF "AppDesk$Verifier" 15 4 1 (.array .int) := ⟨_, TV, 3, tV, rfl, by decide, inV, kf_V_15, rfl, tV_ok, nmV, rfl, rfl, tV_ok 1 (by decide)⟩
theorem ff_M_7 : zFF "AppDeskModel" 7 5 1 (.array .boolean) := ⟨_, TM, 29, tM, rfl, by decide, inM, kf_M_7, rfl, tM_ok, nmM, rfl, rfl, tM_ok 1 (by decide)⟩
theorem ff_M_13 : zFF "AppDeskModel" 13 5 2 (.array .int) := ⟨_, TM, 29, tM, rfl, by decide, inM, kf_M_13, rfl, tM_ok, nmM, rfl, rfl, tM_ok 2 (by decide)⟩
theorem ff_M_17 : zFF "AppDeskModel" 17 5 3 (.array .int) := ⟨_, TM, 29, tM, rfl, by decide, inM, kf_M_17, rfl, tM_ok, nmM, rfl, rfl, tM_ok 3 (by decide)⟩
theorem ff_M_20 : zFF "AppDeskModel" 20 5 4 (.array .int) := ⟨_, TM, 29, tM, rfl, by decide, inM, kf_M_20, rfl, tM_ok, nmM, rfl, rfl, tM_ok 4 (by decide)⟩
theorem ff_M_23 : zFF "AppDeskModel" 23 5 5 (.array .int) := ⟨_, TM, 29, tM, rfl, by decide, inM, kf_M_23, rfl, tM_ok, nmM, rfl, rfl, tM_ok 5 (by decide)⟩
theorem ff_M_26 : zFF "AppDeskModel" 26 5 6 (.array .int) := ⟨_, TM, 29, tM, rfl, by decide, inM, kf_M_26, rfl, tM_ok, nmM, rfl, rfl, tM_ok 6 (by decide)⟩
theorem ff_M_29 : zFF "AppDeskModel" 29 5 7 (.array .int) := ⟨_, TM, 29, tM, rfl, by decide, inM, kf_M_29, rfl, tM_ok, nmM, rfl, rfl, tM_ok 7 (by decide)⟩
theorem ff_M_32 : zFF "AppDeskModel" 32 5 8 (.array .int) := ⟨_, TM, 29, tM, rfl, by decide, inM, kf_M_32, rfl, tM_ok, nmM, rfl, rfl, tM_ok 8 (by decide)⟩
theorem ff_M_35 : zFF "AppDeskModel" 35 5 9 (.array .boolean) := ⟨_, TM, 29, tM, rfl, by decide, inM, kf_M_35, rfl, tM_ok, nmM, rfl, rfl, tM_ok 9 (by decide)⟩
theorem ff_M_38 : zFF "AppDeskModel" 38 5 10 (.array .int) := ⟨_, TM, 29, tM, rfl, by decide, inM, kf_M_38, rfl, tM_ok, nmM, rfl, rfl, tM_ok 10 (by decide)⟩
theorem ff_M_41 : zFF "AppDeskModel" 41 5 11 (.array .int) := ⟨_, TM, 29, tM, rfl, by decide, inM, kf_M_41, rfl, tM_ok, nmM, rfl, rfl, tM_ok 11 (by decide)⟩
theorem ff_M_44 : zFF "AppDeskModel" 44 5 12 (.array .int) := ⟨_, TM, 29, tM, rfl, by decide, inM, kf_M_44, rfl, tM_ok, nmM, rfl, rfl, tM_ok 12 (by decide)⟩
theorem ff_M_47 : zFF "AppDeskModel" 47 5 13 (.array .int) := ⟨_, TM, 29, tM, rfl, by decide, inM, kf_M_47, rfl, tM_ok, nmM, rfl, rfl, tM_ok 13 (by decide)⟩
theorem ff_M_50 : zFF "AppDeskModel" 50 5 15 (.array .boolean) := ⟨_, TM, 29, tM, rfl, by decide, inM, kf_M_50, rfl, tM_ok, nmM, rfl, rfl, tM_ok 15 (by decide)⟩
theorem ff_M_53 : zFF "AppDeskModel" 53 5 16 (.array .int) := ⟨_, TM, 29, tM, rfl, by decide, inM, kf_M_53, rfl, tM_ok, nmM, rfl, rfl, tM_ok 16 (by decide)⟩
theorem ff_M_56 : zFF "AppDeskModel" 56 5 17 (.array .int) := ⟨_, TM, 29, tM, rfl, by decide, inM, kf_M_56, rfl, tM_ok, nmM, rfl, rfl, tM_ok 17 (by decide)⟩
theorem ff_M_59 : zFF "AppDeskModel" 59 5 18 (.array .boolean) := ⟨_, TM, 29, tM, rfl, by decide, inM, kf_M_59, rfl, tM_ok, nmM, rfl, rfl, tM_ok 18 (by decide)⟩
theorem ff_M_62 : zFF "AppDeskModel" 62 5 19 (.array .int) := ⟨_, TM, 29, tM, rfl, by decide, inM, kf_M_62, rfl, tM_ok, nmM, rfl, rfl, tM_ok 19 (by decide)⟩
theorem ff_M_65 : zFF "AppDeskModel" 65 5 20 (.array .int) := ⟨_, TM, 29, tM, rfl, by decide, inM, kf_M_65, rfl, tM_ok, nmM, rfl, rfl, tM_ok 20 (by decide)⟩
theorem ff_M_68 : zFF "AppDeskModel" 68 5 21 (.array .int) := ⟨_, TM, 29, tM, rfl, by decide, inM, kf_M_68, rfl, tM_ok, nmM, rfl, rfl, tM_ok 21 (by decide)⟩
theorem ff_M_71 : zFF "AppDeskModel" 71 5 22 (.array .int) := ⟨_, TM, 29, tM, rfl, by decide, inM, kf_M_71, rfl, tM_ok, nmM, rfl, rfl, tM_ok 22 (by decide)⟩
theorem ff_M_78 : zFF "AppDeskModel" 78 5 25 (.array .int) := ⟨_, TM, 29, tM, rfl, by decide, inM, kf_M_78, rfl, tM_ok, nmM, rfl, rfl, tM_ok 25 (by decide)⟩
theorem ff_M_81 : zFF "AppDeskModel" 81 5 26 (.array .int) := ⟨_, TM, 29, tM, rfl, by decide, inM, kf_M_81, rfl, tM_ok, nmM, rfl, rfl, tM_ok 26 (by decide)⟩
theorem ff_M_84 : zFF "AppDeskModel" 84 5 27 (.array .int) := ⟨_, TM, 29, tM, rfl, by decide, inM, kf_M_84, rfl, tM_ok, nmM, rfl, rfl, tM_ok 27 (by decide)⟩
theorem ff_M_87 : zFF "AppDeskModel" 87 5 28 (.array .int) := ⟨_, TM, 29, tM, rfl, by decide, inM, kf_M_87, rfl, tM_ok, nmM, rfl, rfl, tM_ok 28 (by decide)⟩
theorem ff_D_10 : zFF "AppDesk" 10 0 0 (.object "AppDesk$Pack") := ⟨_, TD, 5, tD, rfl, by decide, inD, kf_D_10, rfl, tD_ok, nmD, rfl, rfl, tD_ok 0 (by decide)⟩
theorem ff_D_18 : zFF "AppDesk" 18 0 1 (.array (.object "AppDesk$App")) := ⟨_, TD, 5, tD, rfl, by decide, inD, kf_D_18, rfl, tD_ok, nmD, rfl, rfl, tD_ok 1 (by decide)⟩
theorem ff_D_26 : zFF "AppDesk" 26 0 2 (.object "AppDesk$IntentQueue") := ⟨_, TD, 5, tD, rfl, by decide, inD, kf_D_26, rfl, tD_ok, nmD, rfl, rfl, tD_ok 2 (by decide)⟩
theorem ff_D_33 : zFF "AppDesk" 33 0 3 (.object "AppDesk$Verifier") := ⟨_, TD, 5, tD, rfl, by decide, inD, kf_D_33, rfl, tD_ok, nmD, rfl, rfl, tD_ok 3 (by decide)⟩
abbrev frP : List Value := [.int 0, .int 0, .int 0, .int 0, .int 0, .null, .int 0, .null, .null, .null, .null, .int 0, .null]
abbrev frA : List Value := [.int 0, .null, .int 0, .int 0, .null, .int 0, .int 0, .int 0, .null, .null]
abbrev frQ : List Value := [.int 0, .null, .null, .null]
abbrev frV : List Value := [.null, .null, .int 0]
abbrev frM : List Value := [.int 0, .null, .null, .null, .null, .null, .null, .null, .null, .null, .null, .null, .null, .null, .int 0, .null, .null, .null, .null, .null, .null, .null, .null, .int 0, .int 0, .null, .null, .null, .null]
abbrev frD : List Value := [.null, .null, .null, .null, .int 0]
theorem frP_ok : ∀ j, j < 13 → defaultValue (tP j) = vp_V frP j := by decide +kernel
theorem frA_ok : ∀ j, j < 10 → defaultValue (tA j) = vp_V frA j := by decide +kernel
theorem frQ_ok : ∀ j, j < 4 → defaultValue (tQ j) = vp_V frQ j := by decide +kernel
theorem frV_ok : ∀ j, j < 3 → defaultValue (tV j) = vp_V frV j := by decide +kernel
theorem frM_ok : ∀ j, j < 29 → defaultValue (tM j) = vp_V frM j := by decide +kernel
theorem frD_ok : ∀ j, j < 5 → defaultValue (tD j) = vp_V frD j := by decide +kernel
def cP (K : Nat → ClassId) (b : Nat → Nat) : va_W := [(b 0, .inr (1, [.int 0, .int 1, .int 0, .int 0, .int 0, .ref (b 1), .int 0, .ref (b 2), .ref (b 3), .ref (b 4), .ref (b 5), .int 0, .ref (b 6)])), (b 1, .inl (K 0, 8, .inl (zfl 8 (-1) (fun _ => 0)))), (b 2, .inl (K 0, 4, .inl (fun _ => 0))), (b 3, .inl (K 0, 4, .inl (fun _ => 0))), (b 4, .inl (K 0, 4, .inl (fun _ => 0))), (b 5, .inl (K 0, 4, .inl (fun _ => 0))), (b 6, .inl (K 0, 24, .inl (fun _ => 0)))]
def cA (K : Nat → ClassId) (b : Nat → Nat) : va_W := ((b 0, .inr (2, [.int 0, .ref (b 1), .int 0, .int 0, .ref (b 8), .int 0, .int 0, .int 0, .ref (b 9), .ref (b 10)])) : Nat × va_E) :: (cP K (fun i => b (i + 1)) ++ [(b 8, .inl (K 0, 8, .inl (fun _ => 0))), (b 9, .inl (K 0, 6, .inl (fun _ => 0))), (b 10, .inl (K 0, 4, .inl (fun _ => 0)))])
def cQ (K : Nat → ClassId) (b : Nat → Nat) : va_W := [(b 0, .inr (3, [.int 0, .ref (b 1), .ref (b 2), .ref (b 3)])), (b 1, .inl (K 0, 8, .inl (fun _ => 0))), (b 2, .inl (K 0, 8, .inl (fun _ => 0))), (b 3, .inl (K 0, 8, .inl (fun _ => 0)))]
def cV (K : Nat → ClassId) (b : Nat → Nat) : va_W := [(b 0, .inr (4, [.ref (b 1), .ref (b 2), .int 0])), (b 1, .inl (K 0, 24, .inl (fun _ => 0))), (b 2, .inl (K 0, 24, .inl (fun _ => 0)))]
def cM (K : Nat → ClassId) (b : Nat → Nat) : va_W := [(b 0, .inr (5, [.int 0, .ref (b 1), .ref (b 2), .ref (b 3), .ref (b 4), .ref (b 5), .ref (b 6), .ref (b 7), .ref (b 8), .ref (b 9), .ref (b 10), .ref (b 11), .ref (b 12), .ref (b 13), .int 0, .ref (b 14), .ref (b 15), .ref (b 16), .ref (b 17), .ref (b 18), .ref (b 19), .ref (b 20), .ref (b 21), .int (-1), .int 0, .ref (b 22), .ref (b 23), .ref (b 24), .ref (b 25)])), (b 1, .inl (K 1, 9, .inl (fun _ => 0))), (b 2, .inl (K 0, 9, .inl (upd (fun _ => 0) 8 1))), (b 3, .inl (K 0, 9, .inl (fun _ => 0))), (b 4, .inl (K 0, 9, .inl (fun _ => 0))), (b 5, .inl (K 0, 9, .inl (fun _ => 0))), (b 6, .inl (K 0, 72, .inl (fun _ => 0))), (b 7, .inl (K 0, 9, .inl (fun _ => 0))), (b 8, .inl (K 0, 36, .inl (fun _ => 0))), (b 9, .inl (K 1, 36, .inl (fun _ => 0))), (b 10, .inl (K 0, 36, .inl (fun _ => 0))), (b 11, .inl (K 0, 36, .inl (fun _ => 0))), (b 12, .inl (K 0, 9, .inl (fun _ => 0))), (b 13, .inl (K 0, 216, .inl (fun _ => 0))), (b 14, .inl (K 1, 64, .inl (fun _ => 0))), (b 15, .inl (K 0, 64, .inl (fun _ => 0))), (b 16, .inl (K 0, 8, .inl (fun _ => 0))), (b 17, .inl (K 1, 8, .inl (fun _ => 0))), (b 18, .inl (K 0, 8, .inl (fun _ => 0))), (b 19, .inl (K 0, 8, .inl (fun _ => 0))), (b 20, .inl (K 0, 48, .inl (fun _ => 0))), (b 21, .inl (K 0, 32, .inl (fun _ => 0))), (b 22, .inl (K 0, 9, .inl (fun _ => 0))), (b 23, .inl (K 0, 9, .inl (fun _ => 0))), (b 24, .inl (K 0, 9, .inl (fun _ => 0))), (b 25, .inl (K 0, 24, .inl (fun _ => 0)))]
theorem nw_A_5 : zNw2 "AppDesk$App" 9 11 "AppDesk$Pack" TP 13 1 tP frP y_P_init b_P_init 1 := ⟨⟨inP, tP_ok, kl_A_9, kx_P, ki_P, rfl, frP_ok⟩, kc_P_init, ki_P, km_A_11, kn_P_init, rfl, ⟨by decide, by decide, by decide +kernel⟩, by decide⟩
theorem nw_D_5 : zNw2 "AppDesk" 7 9 "AppDesk$Pack" TP 13 1 tP frP y_P_init b_P_init 1 := ⟨⟨inP, tP_ok, kl_D_7, kx_P, ki_P, rfl, frP_ok⟩, kc_P_init, ki_P, km_D_9, kn_P_init, rfl, ⟨by decide, by decide, by decide +kernel⟩, by decide⟩
theorem nw_D_37 : zNw2 "AppDesk" 16 22 "AppDesk$App" TA 10 2 tA frA y_A_init b_A_init 1 := ⟨⟨inA, tA_ok, kl_D_16, kx_A, ki_A, rfl, frA_ok⟩, kc_A_init, ki_A, km_D_22, kn_A_init, rfl, ⟨by decide, by decide, by decide +kernel⟩, by decide⟩
theorem nw_D_52 : zNw2 "AppDesk" 23 25 "AppDesk$IntentQueue" TQ 4 3 tQ frQ y_Q_init b_Q_init 1 := ⟨⟨inQ, tQ_ok, kl_D_23, kx_Q, ki_Q, rfl, frQ_ok⟩, kc_Q_init, ki_Q, km_D_25, kn_Q_init, rfl, ⟨by decide, by decide, by decide +kernel⟩, by decide⟩
theorem nw_D_63 : zNw2 "AppDesk" 30 32 "AppDesk$Verifier" TV 3 4 tV frV y_V_init b_V_init 1 := ⟨⟨inV, tV_ok, kl_D_30, kx_V, ki_V, rfl, frV_ok⟩, kc_V_init, ki_V, km_D_32, kn_V_init, rfl, ⟨by decide, by decide, by decide +kernel⟩, by decide⟩
set_option maxHeartbeats 4000000 in
set_option maxRecDepth 100000 in
theorem k_P_init (l : Launch) : zCt l y_P_init b_P_init 1 1 6 48 1 frP cP (fun _ => True) := by
  refine zCt.of (own := "AppDesk$Pack") (by decide) rfl rfl (by decide) ?_
  intro D K a p e s m below meth c hC hB hr hlk hin
  refine b_aload_n hC d_P_init_0 rfl rfl ?_
  refine b_obj hC ko_P ko_i ko_c d_P_init_1 rfl (Nat.le_of_ble_eq_true rfl) (Nat.le_of_ble_eq_true rfl) ?_
  refine b_aload_n hC d_P_init_4 rfl rfl ?_
  refine b_iconst hC (1) d_P_init_5 (by decide) rfl ?_
  refine b_put hC 0 rfl fp_P_9 rfl rfl (Nat.le_of_ble_eq_true rfl) d_P_init_6 rfl ?_
  refine b_aload_n hC d_P_init_9 rfl rfl ?_
  refine b_bipush hC (8) d_P_init_10 (by decide) rfl ?_
  refine b_newi hC 8 rfl (by decide) ko_ai ⟨Nat.le_of_ble_eq_true rfl, Nat.le_of_ble_eq_true rfl⟩ d_P_init_12 rfl (fun q12 => ?_)
  refine b_putF hC hin 0 rfl ff_P_15 rfl rfl (Nat.le_of_ble_eq_true rfl) d_P_init_14 rfl ?_
  refine b_aload_n hC d_P_init_17 rfl rfl ?_
  refine b_get hC 0 rfl fl_P_15 rfl d_P_init_18 rfl ?_
  refine b_iconst hC (-1) d_P_init_21 (by decide) rfl ?_
  refine b_fill hC 1 8 rfl (by decide) ys_P_19 ⟨Nat.le_of_ble_eq_true rfl, Nat.le_of_ble_eq_true rfl⟩ ⟨Nat.le_of_ble_eq_true rfl, Nat.le_of_ble_eq_true rfl⟩ (Nat.le_of_ble_eq_true rfl) d_P_init_22 rfl ?_
  refine b_aload_n hC d_P_init_25 rfl rfl ?_
  refine b_iconst hC (4) d_P_init_26 (by decide) rfl ?_
  refine b_newi hC 4 rfl (by decide) ko_ai ⟨Nat.le_of_ble_eq_true rfl, Nat.le_of_ble_eq_true rfl⟩ d_P_init_27 rfl (fun q27 => ?_)
  refine b_putF hC hin 0 rfl ff_P_25 rfl rfl (Nat.le_of_ble_eq_true rfl) d_P_init_29 rfl ?_
  refine b_aload_n hC d_P_init_32 rfl rfl ?_
  refine b_iconst hC (4) d_P_init_33 (by decide) rfl ?_
  refine b_newi hC 4 rfl (by decide) ko_ai ⟨Nat.le_of_ble_eq_true rfl, Nat.le_of_ble_eq_true rfl⟩ d_P_init_34 rfl (fun q34 => ?_)
  refine b_putF hC hin 0 rfl ff_P_28 rfl rfl (Nat.le_of_ble_eq_true rfl) d_P_init_36 rfl ?_
  refine b_aload_n hC d_P_init_39 rfl rfl ?_
  refine b_iconst hC (4) d_P_init_40 (by decide) rfl ?_
  refine b_newi hC 4 rfl (by decide) ko_ai ⟨Nat.le_of_ble_eq_true rfl, Nat.le_of_ble_eq_true rfl⟩ d_P_init_41 rfl (fun q41 => ?_)
  refine b_putF hC hin 0 rfl ff_P_31 rfl rfl (Nat.le_of_ble_eq_true rfl) d_P_init_43 rfl ?_
  refine b_aload_n hC d_P_init_46 rfl rfl ?_
  refine b_iconst hC (4) d_P_init_47 (by decide) rfl ?_
  refine b_newi hC 4 rfl (by decide) ko_ai ⟨Nat.le_of_ble_eq_true rfl, Nat.le_of_ble_eq_true rfl⟩ d_P_init_48 rfl (fun q48 => ?_)
  refine b_putF hC hin 0 rfl ff_P_34 rfl rfl (Nat.le_of_ble_eq_true rfl) d_P_init_50 rfl ?_
  refine b_aload_n hC d_P_init_53 rfl rfl ?_
  refine b_bipush hC (24) d_P_init_54 (by decide) rfl ?_
  refine b_newi hC 24 rfl (by decide) ko_ai ⟨Nat.le_of_ble_eq_true rfl, Nat.le_of_ble_eq_true rfl⟩ d_P_init_56 rfl (fun q56 => ?_)
  refine b_putF hC hin 0 rfl ff_P_37 rfl rfl (Nat.le_of_ble_eq_true rfl) d_P_init_58 rfl ?_
  exact b_cret hC hr hlk d_P_init_61 (fun i => [a, q12, q27, q34, q41, q48, q56].getD i 0) rfl rfl (Nat.le_of_ble_eq_true rfl) (Nat.le_of_ble_eq_true rfl)
set_option maxHeartbeats 4000000 in
set_option maxRecDepth 100000 in
theorem k_A_init (l : Launch) : zCt l y_A_init b_A_init 1 2 10 79 2 frA cA (fun _ => True) := by
  refine zCt.of (own := "AppDesk$App") (by decide) rfl rfl (by decide) ?_
  intro D K a p e s m below meth c hC hB hr hlk hin
  refine b_aload_n hC d_A_init_0 rfl rfl ?_
  refine b_obj hC ko_A ko_i ko_c d_A_init_1 rfl (Nat.le_of_ble_eq_true rfl) (Nat.le_of_ble_eq_true rfl) ?_
  refine b_aload_n hC d_A_init_4 rfl rfl ?_
  refine b_newC hC (k_P_init l) trivial (fun _ _ _ h => h) nw_A_5 ⟨Nat.le_of_ble_eq_true rfl, Nat.le_of_ble_eq_true rfl⟩ ⟨Nat.le_of_ble_eq_true rfl, Nat.le_of_ble_eq_true rfl⟩ (Nat.le_of_ble_eq_true rfl) d_A_init_5 d_A_init_8 d_A_init_9 rfl (fun b1 => ?_)
  refine b_putF hC hin 0 rfl ff_A_12 rfl rfl (Nat.le_of_ble_eq_true rfl) d_A_init_12 rfl ?_
  refine b_aload_n hC d_A_init_15 rfl rfl ?_
  refine b_bipush hC (8) d_A_init_16 (by decide) rfl ?_
  refine b_newi hC 8 rfl (by decide) ko_ai ⟨Nat.le_of_ble_eq_true rfl, Nat.le_of_ble_eq_true rfl⟩ d_A_init_18 rfl (fun q18 => ?_)
  refine b_putF hC hin 0 rfl ff_A_18 rfl rfl (Nat.le_of_ble_eq_true rfl) d_A_init_20 rfl ?_
  refine b_aload_n hC d_A_init_23 rfl rfl ?_
  refine b_bipush hC (6) d_A_init_24 (by decide) rfl ?_
  refine b_newi hC 6 rfl (by decide) ko_ai ⟨Nat.le_of_ble_eq_true rfl, Nat.le_of_ble_eq_true rfl⟩ d_A_init_26 rfl (fun q26 => ?_)
  refine b_putF hC hin 0 rfl ff_A_22 rfl rfl (Nat.le_of_ble_eq_true rfl) d_A_init_28 rfl ?_
  refine b_aload_n hC d_A_init_31 rfl rfl ?_
  refine b_iconst hC (4) d_A_init_32 (by decide) rfl ?_
  refine b_newi hC 4 rfl (by decide) ko_ai ⟨Nat.le_of_ble_eq_true rfl, Nat.le_of_ble_eq_true rfl⟩ d_A_init_33 rfl (fun q33 => ?_)
  refine b_putF hC hin 0 rfl ff_A_25 rfl rfl (Nat.le_of_ble_eq_true rfl) d_A_init_35 rfl ?_
  exact b_cret hC hr hlk d_A_init_38 (fun i => if i = 0 then a else if i < 8 then b1 (i - 1) else [q18, q26, q33].getD (i - 8) 0) rfl rfl (Nat.le_of_ble_eq_true rfl) (Nat.le_of_ble_eq_true rfl)
set_option maxHeartbeats 4000000 in
set_option maxRecDepth 100000 in
theorem k_Q_init (l : Launch) : zCt l y_Q_init b_Q_init 1 1 3 24 3 frQ cQ (fun _ => True) := by
  refine zCt.of (own := "AppDesk$IntentQueue") (by decide) rfl rfl (by decide) ?_
  intro D K a p e s m below meth c hC hB hr hlk hin
  refine b_aload_n hC d_Q_init_0 rfl rfl ?_
  refine b_obj hC ko_Q ko_i ko_c d_Q_init_1 rfl (Nat.le_of_ble_eq_true rfl) (Nat.le_of_ble_eq_true rfl) ?_
  refine b_aload_n hC d_Q_init_4 rfl rfl ?_
  refine b_bipush hC (8) d_Q_init_5 (by decide) rfl ?_
  refine b_newi hC 8 rfl (by decide) ko_ai ⟨Nat.le_of_ble_eq_true rfl, Nat.le_of_ble_eq_true rfl⟩ d_Q_init_7 rfl (fun q7 => ?_)
  refine b_putF hC hin 0 rfl ff_Q_9 rfl rfl (Nat.le_of_ble_eq_true rfl) d_Q_init_9 rfl ?_
  refine b_aload_n hC d_Q_init_12 rfl rfl ?_
  refine b_bipush hC (8) d_Q_init_13 (by decide) rfl ?_
  refine b_newi hC 8 rfl (by decide) ko_ai ⟨Nat.le_of_ble_eq_true rfl, Nat.le_of_ble_eq_true rfl⟩ d_Q_init_15 rfl (fun q15 => ?_)
  refine b_putF hC hin 0 rfl ff_Q_15 rfl rfl (Nat.le_of_ble_eq_true rfl) d_Q_init_17 rfl ?_
  refine b_aload_n hC d_Q_init_20 rfl rfl ?_
  refine b_bipush hC (8) d_Q_init_21 (by decide) rfl ?_
  refine b_newi hC 8 rfl (by decide) ko_ai ⟨Nat.le_of_ble_eq_true rfl, Nat.le_of_ble_eq_true rfl⟩ d_Q_init_23 rfl (fun q23 => ?_)
  refine b_putF hC hin 0 rfl ff_Q_18 rfl rfl (Nat.le_of_ble_eq_true rfl) d_Q_init_25 rfl ?_
  exact b_cret hC hr hlk d_Q_init_28 (fun i => [a, q7, q15, q23].getD i 0) rfl rfl (Nat.le_of_ble_eq_true rfl) (Nat.le_of_ble_eq_true rfl)
set_option maxHeartbeats 4000000 in
set_option maxRecDepth 100000 in
theorem k_V_init (l : Launch) : zCt l y_V_init b_V_init 1 1 2 48 4 frV cV (fun _ => True) := by
  refine zCt.of (own := "AppDesk$Verifier") (by decide) rfl rfl (by decide) ?_
  intro D K a p e s m below meth c hC hB hr hlk hin
  refine b_aload_n hC d_V_init_0 rfl rfl ?_
  refine b_obj hC ko_V ko_i ko_c d_V_init_1 rfl (Nat.le_of_ble_eq_true rfl) (Nat.le_of_ble_eq_true rfl) ?_
  refine b_aload_n hC d_V_init_4 rfl rfl ?_
  refine b_bipush hC (24) d_V_init_5 (by decide) rfl ?_
  refine b_newi hC 24 rfl (by decide) ko_ai ⟨Nat.le_of_ble_eq_true rfl, Nat.le_of_ble_eq_true rfl⟩ d_V_init_7 rfl (fun q7 => ?_)
  refine b_putF hC hin 0 rfl ff_V_9 rfl rfl (Nat.le_of_ble_eq_true rfl) d_V_init_9 rfl ?_
  refine b_aload_n hC d_V_init_12 rfl rfl ?_
  refine b_bipush hC (24) d_V_init_13 (by decide) rfl ?_
  refine b_newi hC 24 rfl (by decide) ko_ai ⟨Nat.le_of_ble_eq_true rfl, Nat.le_of_ble_eq_true rfl⟩ d_V_init_15 rfl (fun q15 => ?_)
  refine b_putF hC hin 0 rfl ff_V_15 rfl rfl (Nat.le_of_ble_eq_true rfl) d_V_init_17 rfl ?_
  exact b_cret hC hr hlk d_V_init_20 (fun i => [a, q7, q15].getD i 0) rfl rfl (Nat.le_of_ble_eq_true rfl) (Nat.le_of_ble_eq_true rfl)
