/-! the reference's fails, acts, does, step -/
def mNd (o : Nat) : Nat := ([0, 0, 2, 2, 1, 1, 0, 1, 0, 1, 1, 2, 2, 0] : List Nat).getD o 0
def mLv (o : Nat) : Nat := ([0, 1, 1, 1, 2, 0, 1, 0, 0, 0, 1, 0, 0, 1] : List Nat).getD o 0
def wfai (σ : zm) (a o h : Nat) : Bool := if o = 10 then !zin (σ 124 (6 * a + (h - 1 - 0))) 8 else if o = 11 then !zin (σ 124 (6 * a + (h - 1 - 1))) 8 || (decide (σ 118 (8 * a + (σ 124 (6 * a + (h - 1 - 1))).toNatClampNeg) = 0) && decide (nI (wcnt σ a 8) = 3)) else if o = 12 then !zin (σ 124 (6 * a + (h - 1 - 1))) 10 else false
section WF
variable {σ : zm} {a h j o z : Nat} {n x : Int32}
theorem wf_10 : wfai σ a 10 h = !zin (σ 124 (6 * a + (h - 1 - 0))) 8 := rfl
theorem wf_12 : wfai σ a 12 h = !zin (σ 124 (6 * a + (h - 1 - 1))) 10 := rfl
theorem wf_11a (h1 : zin (σ 124 (6 * a + (h - 1 - 1))) 8 = false) : wfai σ a 11 h = true := by
  show (!zin (σ 124 (6 * a + (h - 1 - 1))) 8 || _) = true
  rw [h1]; rfl
theorem wf_11b (hj : (σ 124 (6 * a + (h - 1 - 1))).toNatClampNeg = j) (h1 : ¬ σ 118 (8 * a + j) = 0) : wfai σ a 11 h = !zin (σ 124 (6 * a + (h - 1 - 1))) 8 := by
  show (!zin (σ 124 (6 * a + (h - 1 - 1))) 8 || (decide (σ 118 (8 * a + (σ 124 (6 * a + (h - 1 - 1))).toNatClampNeg) = 0) && _)) = _
  rw [hj, decide_eq_false h1, Bool.false_and, Bool.or_false]
theorem wf_11c (hj : (σ 124 (6 * a + (h - 1 - 1))).toNatClampNeg = j) (h0 : zin (σ 124 (6 * a + (h - 1 - 1))) 8 = true) (h1 : σ 118 (8 * a + j) = 0) : wfai σ a 11 h = decide (nI (wcnt σ a 8) = 3) := by
  show (!zin (σ 124 (6 * a + (h - 1 - 1))) 8 || (decide (σ 118 (8 * a + (σ 124 (6 * a + (h - 1 - 1))).toNatClampNeg) = 0) && _)) = _
  rw [hj, decide_eq_true h1, h0]
  rfl
theorem wf_no (h1 : ¬ nI o = 10) (h2 : ¬ nI o = 11) (h3 : ¬ nI o = 12) : wfai σ a o h = false := by
  unfold wfai
  rw [if_neg (fun z => h1 (by rw [z]; rfl)), if_neg (fun z => h2 (by rw [z]; rfl)), if_neg (fun z => h3 (by rw [z]; rfl))]
end WF
def wval (σ : zm) (a : Nat) (x : Int32) : Int32 := if σ 118 (8 * a + x.toNatClampNeg) = 0 then 0 else σ 119 (8 * a + x.toNatClampNeg)
theorem wval_e {σ : zm} {a j : Nat} {x : Int32} (h : x.toNatClampNeg = j) : wval σ a x = if σ 118 (8 * a + j) = 0 then 0 else σ 119 (8 * a + j) := by unfold wval; rw [h]
def wact (σ : zm) (a o : Nat) (n : Int32) (h z : Nat) : zm := if o = 13 then wpsh σ a h (zb (wmay σ (nI a) n)) else if o = 10 then wpsh (zu σ 123 a (nI (h - 1))) a (h - 1) (wval σ a (σ 124 (6 * a + (h - 1 - 0)))) else if o = 11 then zu (zu (zu σ 123 a (nI (h - 2))) 118 (8 * a + (σ 124 (6 * a + (h - 1 - 1))).toNatClampNeg) 1) 119 (8 * a + (σ 124 (6 * a + (h - 1 - 1))).toNatClampNeg) (σ 124 (6 * a + (h - 1 - 0))) else wqad (zu σ 123 a (nI (h - 2))) z (nI a) (σ 124 (6 * a + (h - 1 - 1))) (σ 124 (6 * a + (h - 1 - 0)))
theorem wact_13 {σ : zm} {a h z : Nat} {n : Int32} : wact σ a 13 n h z = wpsh σ a h (zb (wmay σ (nI a) n)) := rfl
theorem wact_10 {σ : zm} {a h z : Nat} {n : Int32} : wact σ a 10 n h z = wpsh (zu σ 123 a (nI (h - 1))) a (h - 1) (wval σ a (σ 124 (6 * a + (h - 1 - 0)))) := rfl
theorem wact_11 {σ : zm} {a h z : Nat} {n : Int32} : wact σ a 11 n h z = zu (zu (zu σ 123 a (nI (h - 2))) 118 (8 * a + (σ 124 (6 * a + (h - 1 - 1))).toNatClampNeg) 1) 119 (8 * a + (σ 124 (6 * a + (h - 1 - 1))).toNatClampNeg) (σ 124 (6 * a + (h - 1 - 0))) := rfl
theorem wact_12e {σ : zm} {a h z : Nat} {n : Int32} : wact σ a 12 n h z = wqad (zu σ 123 a (nI (h - 2))) z (nI a) (σ 124 (6 * a + (h - 1 - 1))) (σ 124 (6 * a + (h - 1 - 0))) := rfl
theorem wact_n1 {o h : Nat} (ho : o = 10 ∨ o = 11 ∨ o = 12 ∨ o = 13) (h13 : ¬ o = 13) (hN : mNd o ≤ h) : 1 ≤ h := by
  rcases ho with rfl | rfl | rfl | rfl
  · exact hN
  · exact Nat.le_trans (by decide) hN
  · exact Nat.le_trans (by decide) hN
  · exact absurd rfl h13
theorem wact_n2 {o h : Nat} (ho : o = 10 ∨ o = 11 ∨ o = 12 ∨ o = 13) (h13 : ¬ o = 13) (h10 : ¬ o = 10) (hN : mNd o ≤ h) : 2 ≤ h := by
  rcases ho with rfl | rfl | rfl | rfl
  · exact absurd rfl h10
  · exact hN
  · exact hN
  · exact absurd rfl h13
theorem wact_o {o : Nat} (ho : o = 10 ∨ o = 11 ∨ o = 12 ∨ o = 13) : o < 16 := by omega
theorem wact_12 {o : Nat} (ho : o = 10 ∨ o = 11 ∨ o = 12 ∨ o = 13) (h13 : ¬ o = 13) (h10 : ¬ o = 10) (h11 : ¬ o = 11) : o = 12 := by omega
set_option maxHeartbeats 4000000 in
set_option maxRecDepth 100000 in
theorem c_M_fails (l : Launch) (D : va_G) (K : Nat → ClassId) (q : Nat → Nat) (hq : zI q) (a h o : Nat) (ha : a < 8) (ho : o < 14) (hN : mNd o ≤ h) (hh : h ≤ 6) (σ : zm) (e0 : σ 123 a = nI h) : zMi l y_M_fails b_M_fails 4 (some .boolean) 1 D K q [.ref (q (104)), .int (nI a), .int (nI o)] σ (fun r σ' => r = zb (wfai σ a o h) ∧ σ' = σ) := by
  refine zMi.of (own := "AppDeskModel") (lv := [(0, .ref (q (104))), (1, .int (nI a)), (2, .int (nI o))]) (by decide) rfl hq (Nat.le_of_ble_eq_true rfl) rfl ?_
  intro p e s m below meth c hC hr hlk
  refine g_iload_n hC d_M_fails_0 rfl rfl ?_
  refine g_bipush hC (10) d_M_fails_1 (by decide) rfl ?_
  refine g_icmp_ne hC 26 d_M_fails_3 rfl rfl (fun h3 => ?_) (fun h3 => ?_)
  ·
    refine g_iload_n hC d_M_fails_26 rfl rfl ?_
    refine g_bipush hC (11) d_M_fails_27 (by decide) rfl ?_
    refine g_icmp_ne hC 77 d_M_fails_29 rfl rfl (fun h29 => ?_) (fun h29 => ?_)
    ·
      refine g_iload_n hC d_M_fails_77 rfl rfl ?_
      refine g_bipush hC (12) d_M_fails_78 (by decide) rfl ?_
      refine g_icmp_ne hC 101 d_M_fails_80 rfl rfl (fun h80 => ?_) (fun h80 => ?_)
      ·
        refine g_iconst hC (0) d_M_fails_101 (by decide) rfl ?_
        exact g_zret hC hr hlk d_M_fails_102 (Or.inl rfl) ⟨by first | (rw [ho_, wf_12, h94]; rfl) | (rw [wf_no h3 h29 h80]; rfl), rfl⟩
      ·
        have ho_ : o = 12 := go_n (by omega) (by omega) h80
        have hN_ : 2 ≤ h := by rw [ho_] at hN; exact hN
        refine g_aload_n hC d_M_fails_83 rfl rfl ?_
        refine g_iload_n hC d_M_fails_84 rfl rfl ?_
        refine g_iconst hC (1) d_M_fails_85 (by decide) rfl ?_
        refine g_goi hC rfl (z_runV hC (c_M_top l D K q hq a 1 h ha (by omega) hh _ e0) yy_M_top yv_M_154 (by decide) rfl ⟨Nat.le_of_ble_eq_true rfl, Nat.le_of_ble_eq_true rfl⟩ ⟨Nat.zero_le _, Nat.zero_le _⟩ rfl (Nat.le_of_ble_eq_true rfl) d_M_fails_86) (fun r0 σ0 q0 => ?_)
        obtain ⟨rfl, w0⟩ := q0
        obtain rfl := w0.symm
        refine g_bipush hC (10) d_M_fails_89 (by decide) rfl ?_
        refine g_goi hC rfl (z_runS hC (c_M_in l D K q hq _ _ _) yy_M_in ys_M_93 ⟨Nat.le_of_ble_eq_true rfl, Nat.le_of_ble_eq_true rfl⟩ ⟨Nat.zero_le _, Nat.zero_le _⟩ rfl (Nat.le_of_ble_eq_true rfl) d_M_fails_91) (fun r1 σ1 q1 => ?_)
        obtain ⟨rfl, w1⟩ := q1
        obtain rfl := w1.symm
        refine g_ifne_b hC 101 d_M_fails_94 rfl rfl (fun h94 => ?_) (fun h94 => ?_)
        ·
          refine g_iconst hC (0) d_M_fails_101 (by decide) rfl ?_
          exact g_zret hC hr hlk d_M_fails_102 (Or.inl rfl) ⟨by first | (rw [ho_, wf_12, h94]; rfl) | (rw [wf_no h3 h29 h80]; rfl), rfl⟩
        ·
          refine g_iconst hC (1) d_M_fails_97 (by decide) rfl ?_
          refine g_goto hC 102 d_M_fails_98 rfl ?_
          exact g_zret hC hr hlk d_M_fails_102 (Or.inr rfl) ⟨by first | (rw [ho_, wf_12, h94]; rfl) | (rw [wf_no h3 h29 h80]; rfl), rfl⟩
    ·
      have ho_ : o = 11 := go_n (by omega) (by omega) h29
      have hN_ : 2 ≤ h := by rw [ho_] at hN; exact hN
      refine g_aload_n hC d_M_fails_32 rfl rfl ?_
      refine g_iload_n hC d_M_fails_33 rfl rfl ?_
      refine g_iconst hC (1) d_M_fails_34 (by decide) rfl ?_
      refine g_goi hC rfl (z_runV hC (c_M_top l D K q hq a 1 h ha (by omega) hh _ e0) yy_M_top yv_M_154 (by decide) rfl ⟨Nat.le_of_ble_eq_true rfl, Nat.le_of_ble_eq_true rfl⟩ ⟨Nat.zero_le _, Nat.zero_le _⟩ rfl (Nat.le_of_ble_eq_true rfl) d_M_fails_35) (fun r2 σ2 q2 => ?_)
      obtain ⟨rfl, w2⟩ := q2
      obtain rfl := w2.symm
      refine g_istore_n hC d_M_fails_38 rfl (by decide) ?_
      refine g_iload_n hC d_M_fails_39 rfl rfl ?_
      refine g_bipush hC (8) d_M_fails_40 (by decide) rfl ?_
      refine g_goi hC rfl (z_runS hC (c_M_in l D K q hq _ _ _) yy_M_in ys_M_93 ⟨Nat.le_of_ble_eq_true rfl, Nat.le_of_ble_eq_true rfl⟩ ⟨Nat.zero_le _, Nat.zero_le _⟩ rfl (Nat.le_of_ble_eq_true rfl) d_M_fails_42) (fun r3 σ3 q3 => ?_)
      obtain ⟨rfl, w3⟩ := q3
      obtain rfl := w3.symm
      refine g_ifeq_b hC 71 d_M_fails_45 rfl rfl (fun h45 => ?_) (fun h45 => ?_)
      ·
        refine g_iconst hC (1) d_M_fails_71 (by decide) rfl ?_
        refine g_goto hC 76 d_M_fails_72 rfl ?_
        exact g_zret hC hr hlk d_M_fails_76 (Or.inr rfl) ⟨by rw [ho_]; first | (rw [wf_11a h45]; rfl) | (rw [wf_11b hjc h59]; first | rfl | (rw [h45]; rfl)) | (rw [wf_11c hjc h45 h59, decide_eq_true h68]; rfl) | (rw [wf_11c hjc h45 h59, decide_eq_false h68]; rfl), rfl⟩
      ·
        obtain ⟨j, hj, hje⟩ := zin_of (n := 8) (by decide) h45
        have hjc : ((σ 124 (6 * a + (h - 1 - 1)))).toNatClampNeg = j := by rw [hje]; exact nI_clamp (by omega)
        refine g_aload_n hC d_M_fails_48 rfl rfl ?_
        refine g_getR hC _ 5 15 _ (by decide) rfl rfl fl_M_50 d_M_fails_49 rfl ?_
        refine g_bipush hC (8) d_M_fails_52 (by decide) rfl ?_
        refine g_iload_n hC d_M_fails_54 rfl rfl ?_
        refine g_imul hC d_M_fails_55 rfl ?_
        refine g_top hC (nI (8 * a)) (pk_mul 8 a) ?_
        refine g_iload_n hC d_M_fails_56 rfl rfl ?_
        refine g_iadd hC d_M_fails_57 rfl ?_
        refine g_top hC (nI (8 * a + j)) (by rw [hje]; exact nI_add (8 * a) j) ?_
        refine g_zald hC _ _ (8 * a + j) (by decide) rfl rfl (by show 8 * a + j < 64; omega) (by decide) d_M_fails_58 rfl ?_
        refine g_if_ne hC 75 d_M_fails_59 rfl rfl (fun h59 => ?_) (fun h59 => ?_)
        ·
          refine g_iconst hC (0) d_M_fails_75 (by decide) rfl ?_
          exact g_zret hC hr hlk d_M_fails_76 (Or.inl rfl) ⟨by rw [ho_]; first | (rw [wf_11a h45]; rfl) | (rw [wf_11b hjc h59]; first | rfl | (rw [h45]; rfl)) | (rw [wf_11c hjc h45 h59, decide_eq_true h68]; rfl) | (rw [wf_11c hjc h45 h59, decide_eq_false h68]; rfl), rfl⟩
        ·
          refine g_aload_n hC d_M_fails_62 rfl rfl ?_
          refine g_iload_n hC d_M_fails_63 rfl rfl ?_
          refine g_goi hC rfl (z_runV hC (c_M_keys l D K q hq a ha _) yy_M_keys yv_M_157 (by decide) rfl ⟨Nat.le_of_ble_eq_true rfl, Nat.le_of_ble_eq_true rfl⟩ ⟨Nat.zero_le _, Nat.zero_le _⟩ rfl (Nat.le_of_ble_eq_true rfl) d_M_fails_64) (fun r4 σ4 q4 => ?_)
          obtain ⟨rfl, w4⟩ := q4
          obtain rfl := w4.symm
          refine g_iconst hC (3) d_M_fails_67 (by decide) rfl ?_
          refine g_icmp_ne hC 75 d_M_fails_68 rfl rfl (fun h68 => ?_) (fun h68 => ?_)
          ·
            refine g_iconst hC (0) d_M_fails_75 (by decide) rfl ?_
            exact g_zret hC hr hlk d_M_fails_76 (Or.inl rfl) ⟨by rw [ho_]; first | (rw [wf_11a h45]; rfl) | (rw [wf_11b hjc h59]; first | rfl | (rw [h45]; rfl)) | (rw [wf_11c hjc h45 h59, decide_eq_true h68]; rfl) | (rw [wf_11c hjc h45 h59, decide_eq_false h68]; rfl), rfl⟩
          ·
            refine g_iconst hC (1) d_M_fails_71 (by decide) rfl ?_
            refine g_goto hC 76 d_M_fails_72 rfl ?_
            exact g_zret hC hr hlk d_M_fails_76 (Or.inr rfl) ⟨by rw [ho_]; first | (rw [wf_11a h45]; rfl) | (rw [wf_11b hjc h59]; first | rfl | (rw [h45]; rfl)) | (rw [wf_11c hjc h45 h59, decide_eq_true h68]; rfl) | (rw [wf_11c hjc h45 h59, decide_eq_false h68]; rfl), rfl⟩
  ·
    have ho_ : o = 10 := go_n (by omega) (by omega) h3
    have hN_ : 1 ≤ h := by rw [ho_] at hN; exact hN
    refine g_aload_n hC d_M_fails_6 rfl rfl ?_
    refine g_iload_n hC d_M_fails_7 rfl rfl ?_
    refine g_iconst hC (0) d_M_fails_8 (by decide) rfl ?_
    refine g_goi hC rfl (z_runV hC (c_M_top l D K q hq a 0 h ha (by omega) hh _ e0) yy_M_top yv_M_154 (by decide) rfl ⟨Nat.le_of_ble_eq_true rfl, Nat.le_of_ble_eq_true rfl⟩ ⟨Nat.zero_le _, Nat.zero_le _⟩ rfl (Nat.le_of_ble_eq_true rfl) d_M_fails_9) (fun r5 σ5 q5 => ?_)
    obtain ⟨rfl, w5⟩ := q5
    obtain rfl := w5.symm
    refine g_bipush hC (8) d_M_fails_12 (by decide) rfl ?_
    refine g_goi hC rfl (z_runS hC (c_M_in l D K q hq _ _ _) yy_M_in ys_M_93 ⟨Nat.le_of_ble_eq_true rfl, Nat.le_of_ble_eq_true rfl⟩ ⟨Nat.zero_le _, Nat.zero_le _⟩ rfl (Nat.le_of_ble_eq_true rfl) d_M_fails_14) (fun r6 σ6 q6 => ?_)
    obtain ⟨rfl, w6⟩ := q6
    obtain rfl := w6.symm
    refine g_ifne_b hC 24 d_M_fails_17 rfl rfl (fun h17 => ?_) (fun h17 => ?_)
    ·
      refine g_iconst hC (0) d_M_fails_24 (by decide) rfl ?_
      exact g_zret hC hr hlk d_M_fails_25 (Or.inl rfl) ⟨by rw [ho_, wf_10, h17]; rfl, rfl⟩
    ·
      refine g_iconst hC (1) d_M_fails_20 (by decide) rfl ?_
      refine g_goto hC 25 d_M_fails_21 rfl ?_
      exact g_zret hC hr hlk d_M_fails_25 (Or.inr rfl) ⟨by rw [ho_, wf_10, h17]; rfl, rfl⟩
set_option maxHeartbeats 4000000 in
set_option maxRecDepth 100000 in
theorem c_M_acts (l : Launch) (D : va_G) (K : Nat → ClassId) (q : Nat → Nat) (hq : zI q) (a h o : Nat) (ha : a < 8) (ho : o = 10 ∨ o = 11 ∨ o = 12 ∨ o = 13) (hN : mNd o ≤ h) (hL : h - mNd o + mLv o ≤ 6) (hh : h ≤ 6) (n : Int32) (σ : zm) (e0 : σ 123 a = nI h) (hk10 : o = 10 → ∃ j, j < 8 ∧ (σ 124 (6 * a + (h - 1 - 0))) = nI j) (hk11 : o = 11 → ∃ j, j < 8 ∧ (σ 124 (6 * a + (h - 1 - 1))) = nI j) (z : Nat) (hz : z ≤ 8) (hqz : σ 104 24 = nI z) : zMv l y_M_acts b_M_acts 7 none 3 D K q [.ref (q (104)), .int (nI a), .int (nI o), .int (n), .int (nI h)] σ (fun σ' => σ' = wact σ a o n h z) := by
  refine zMv.of (own := "AppDeskModel") (lv := [(0, .ref (q (104))), (1, .int (nI a)), (2, .int (nI o)), (3, .int (n)), (4, .int (nI h))]) (by decide) rfl hq (Nat.le_of_ble_eq_true rfl) rfl ?_
  intro p e s m below meth c hC hr hlk
  refine g_iload_n hC d_M_acts_0 rfl rfl ?_
  refine g_bipush hC (13) d_M_acts_1 (by decide) rfl ?_
  refine g_icmp_ne hC 26 d_M_acts_3 rfl rfl (fun h3 => ?_) (fun h3 => ?_)
  ·
    have ho13 : ¬ o = 13 := fun z => h3 (by rw [z]; rfl)
    have hN1 : 1 ≤ h := wact_n1 ho ho13 hN
    refine g_aload_n hC d_M_acts_26 rfl rfl ?_
    refine g_iload_n hC d_M_acts_27 rfl rfl ?_
    refine g_iconst hC (0) d_M_acts_28 (by decide) rfl ?_
    refine g_goi hC rfl (z_runV hC (c_M_top l D K q hq a 0 h ha (by omega) hh _ e0) yy_M_top yv_M_154 (by decide) rfl ⟨Nat.le_of_ble_eq_true rfl, Nat.le_of_ble_eq_true rfl⟩ ⟨Nat.zero_le _, Nat.zero_le _⟩ rfl (Nat.le_of_ble_eq_true rfl) d_M_acts_29) (fun r0 σ0 q0 => ?_)
    obtain ⟨rfl, w0⟩ := q0
    obtain rfl := w0.symm
    refine g_istore hC d_M_acts_32 rfl (by decide) ?_
    refine g_iload_n hC d_M_acts_34 rfl rfl ?_
    refine g_bipush hC (10) d_M_acts_35 (by decide) rfl ?_
    refine g_icmp_ne hC 91 d_M_acts_37 rfl rfl (fun h37 => ?_) (fun h37 => ?_)
    ·
      have ho10 : ¬ o = 10 := fun z => h37 (by rw [z]; rfl)
      have hN2 : 2 ≤ h := wact_n2 ho ho13 ho10 hN
      refine g_aload_n hC d_M_acts_91 rfl rfl ?_
      refine g_iload_n hC d_M_acts_92 rfl rfl ?_
      refine g_iconst hC (1) d_M_acts_93 (by decide) rfl ?_
      refine g_goi hC rfl (z_runV hC (c_M_top l D K q hq a 1 h ha (by omega) hh _ e0) yy_M_top yv_M_154 (by decide) rfl ⟨Nat.le_of_ble_eq_true rfl, Nat.le_of_ble_eq_true rfl⟩ ⟨Nat.zero_le _, Nat.zero_le _⟩ rfl (Nat.le_of_ble_eq_true rfl) d_M_acts_94) (fun r1 σ1 q1 => ?_)
      obtain ⟨rfl, w1⟩ := q1
      obtain rfl := w1.symm
      refine g_istore hC d_M_acts_97 rfl (by decide) ?_
      refine g_aload_n hC d_M_acts_99 rfl rfl ?_
      refine g_getR hC _ 5 20 _ (by decide) rfl rfl fl_M_65 d_M_acts_100 rfl ?_
      refine g_iload_n hC d_M_acts_103 rfl rfl ?_
      refine g_iload hC d_M_acts_104 rfl rfl ?_
      refine g_iconst hC (2) d_M_acts_106 (by decide) rfl ?_
      refine g_isub hC d_M_acts_107 rfl ?_
      refine g_top hC (nI (h - 2)) (pk_sub (a := h) (b := 2) (by omega)) ?_
      refine g_iast hC _ _ a (by decide) rfl rfl ha (by decide) d_M_acts_108 rfl ?_
      refine g_iload_n hC d_M_acts_109 rfl rfl ?_
      refine g_bipush hC (11) d_M_acts_110 (by decide) rfl ?_
      refine g_icmp_ne hC 145 d_M_acts_112 rfl rfl (fun h112 => ?_) (fun h112 => ?_)
      ·
        have ho_ : o = 12 := wact_12 ho ho13 ho10 (fun z => h112 (by rw [z]; rfl))
        refine g_aload_n hC d_M_acts_145 rfl rfl ?_
        refine g_iload_n hC d_M_acts_146 rfl rfl ?_
        refine g_iload hC d_M_acts_147 rfl rfl ?_
        refine g_iload hC d_M_acts_149 rfl rfl ?_
        refine g_gov hC rfl (z_runV hC (c_M_post l D K q hq _ _ _ _ z hz (by rw [zu_row _ _ (by decide)]; exact hqz)) yy_M_post yv_M_146 (by decide) rfl ⟨Nat.le_of_ble_eq_true rfl, Nat.le_of_ble_eq_true rfl⟩ ⟨Nat.zero_le _, Nat.zero_le _⟩ rfl (Nat.le_of_ble_eq_true rfl) d_M_acts_151) (fun σ2 q2 => ?_)
        obtain rfl := q2.symm
        exact g_vret hC hr hlk d_M_acts_154 (by first | (rw [ho_, wact_13]; done) | (rw [ho_, wact_10]; done) | (rw [ho_, wact_11, hjc]; done) | (rw [ho_, wact_12e]; done))
      ·
        have ho_ : o = 11 := go_n (wact_o ho) (by decide) h112
        obtain ⟨j, hj, hje⟩ := hk11 ho_
        have hjc : ((σ 124 (6 * a + (h - 1 - 1)))).toNatClampNeg = j := by rw [hje]; exact nI_clamp (by omega)
        refine g_aload_n hC d_M_acts_115 rfl rfl ?_
        refine g_getR hC _ 5 15 _ (by decide) rfl rfl fl_M_50 d_M_acts_116 rfl ?_
        refine g_bipush hC (8) d_M_acts_119 (by decide) rfl ?_
        refine g_iload_n hC d_M_acts_121 rfl rfl ?_
        refine g_imul hC d_M_acts_122 rfl ?_
        refine g_top hC (nI (8 * a)) (pk_mul 8 a) ?_
        refine g_iload hC d_M_acts_123 rfl rfl ?_
        refine g_iadd hC d_M_acts_125 rfl ?_
        refine g_top hC (nI (8 * a + j)) (by rw [hje]; exact nI_add (8 * a) j) ?_
        refine g_iconst hC (1) d_M_acts_126 (by decide) rfl ?_
        refine g_zast hC _ _ (8 * a + j) (by decide) rfl rfl (by show 8 * a + j < 64; omega) (by decide) (Or.inr rfl) d_M_acts_127 rfl ?_
        refine g_aload_n hC d_M_acts_128 rfl rfl ?_
        refine g_getR hC _ 5 16 _ (by decide) rfl rfl fl_M_53 d_M_acts_129 rfl ?_
        refine g_bipush hC (8) d_M_acts_132 (by decide) rfl ?_
        refine g_iload_n hC d_M_acts_134 rfl rfl ?_
        refine g_imul hC d_M_acts_135 rfl ?_
        refine g_top hC (nI (8 * a)) (pk_mul 8 a) ?_
        refine g_iload hC d_M_acts_136 rfl rfl ?_
        refine g_iadd hC d_M_acts_138 rfl ?_
        refine g_top hC (nI (8 * a + j)) (by rw [hje]; exact nI_add (8 * a) j) ?_
        refine g_iload hC d_M_acts_139 rfl rfl ?_
        refine g_iast hC _ _ (8 * a + j) (by decide) rfl rfl (by show 8 * a + j < 64; omega) (by decide) d_M_acts_141 rfl ?_
        refine g_goto hC 154 d_M_acts_142 rfl ?_
        exact g_vret hC hr hlk d_M_acts_154 (by first | (rw [ho_, wact_13]; done) | (rw [ho_, wact_10]; done) | (rw [ho_, wact_11, hjc]; done) | (rw [ho_, wact_12e]; done))
    ·
      have ho_ : o = 10 := go_n (wact_o ho) (by decide) h37
      obtain ⟨j, hj, hje⟩ := hk10 ho_
      have hjc : ((σ 124 (6 * a + (h - 1 - 0)))).toNatClampNeg = j := by rw [hje]; exact nI_clamp (by omega)
      refine g_aload_n hC d_M_acts_40 rfl rfl ?_
      refine g_getR hC _ 5 15 _ (by decide) rfl rfl fl_M_50 d_M_acts_41 rfl ?_
      refine g_bipush hC (8) d_M_acts_44 (by decide) rfl ?_
      refine g_iload_n hC d_M_acts_46 rfl rfl ?_
      refine g_imul hC d_M_acts_47 rfl ?_
      refine g_top hC (nI (8 * a)) (pk_mul 8 a) ?_
      refine g_iload hC d_M_acts_48 rfl rfl ?_
      refine g_iadd hC d_M_acts_50 rfl ?_
      refine g_top hC (nI (8 * a + j)) (by rw [hje]; exact nI_add (8 * a) j) ?_
      refine g_zald hC _ _ (8 * a + j) (by decide) rfl rfl (by show 8 * a + j < 64; omega) (by decide) d_M_acts_51 rfl ?_
      refine g_if_eq hC 70 d_M_acts_52 rfl rfl (fun h52 => ?_) (fun h52 => ?_)
      ·
        refine g_iconst hC (0) d_M_acts_70 (by decide) rfl ?_
        refine g_top hC (wval σ a (σ 124 (6 * a + (h - 1 - 0)))) (by rw [wval_e hjc, if_pos h52]) ?_
        refine g_istore hC d_M_acts_71 rfl (by decide) ?_
        refine g_aload_n hC d_M_acts_73 rfl rfl ?_
        refine g_getR hC _ 5 20 _ (by decide) rfl rfl fl_M_65 d_M_acts_74 rfl ?_
        refine g_iload_n hC d_M_acts_77 rfl rfl ?_
        refine g_iload hC d_M_acts_78 rfl rfl ?_
        refine g_iconst hC (1) d_M_acts_80 (by decide) rfl ?_
        refine g_isub hC d_M_acts_81 rfl ?_
        refine g_top hC (nI (h - 1)) (pk_sub (a := h) (b := 1) (by omega)) ?_
        refine g_iast hC _ _ a (by decide) rfl rfl ha (by decide) d_M_acts_82 rfl ?_
        refine g_aload_n hC d_M_acts_83 rfl rfl ?_
        refine g_iload_n hC d_M_acts_84 rfl rfl ?_
        refine g_iload hC d_M_acts_85 rfl rfl ?_
        refine g_gov hC rfl (z_runV hC (c_M_push l D K q hq a (h - 1) ha (by omega) _ _ (zu_eq _ _ _ _)) yy_M_push yv_M_166 (by decide) rfl ⟨Nat.le_of_ble_eq_true rfl, Nat.le_of_ble_eq_true rfl⟩ ⟨Nat.zero_le _, Nat.zero_le _⟩ rfl (Nat.le_of_ble_eq_true rfl) d_M_acts_87) (fun σ3 q3 => ?_)
        obtain rfl := q3.symm
        exact g_vret hC hr hlk d_M_acts_90 (by first | (rw [ho_, wact_13]; done) | (rw [ho_, wact_10]; done) | (rw [ho_, wact_11, hjc]; done) | (rw [ho_, wact_12e]; done))
      ·
        refine g_aload_n hC d_M_acts_55 rfl rfl ?_
        refine g_getR hC _ 5 16 _ (by decide) rfl rfl fl_M_53 d_M_acts_56 rfl ?_
        refine g_bipush hC (8) d_M_acts_59 (by decide) rfl ?_
        refine g_iload_n hC d_M_acts_61 rfl rfl ?_
        refine g_imul hC d_M_acts_62 rfl ?_
        refine g_top hC (nI (8 * a)) (pk_mul 8 a) ?_
        refine g_iload hC d_M_acts_63 rfl rfl ?_
        refine g_iadd hC d_M_acts_65 rfl ?_
        refine g_top hC (nI (8 * a + j)) (by rw [hje]; exact nI_add (8 * a) j) ?_
        refine g_iald hC _ _ (8 * a + j) (by decide) rfl rfl (by show 8 * a + j < 64; omega) (by decide) d_M_acts_66 rfl ?_
        refine g_top hC (wval σ a (σ 124 (6 * a + (h - 1 - 0)))) (by rw [wval_e hjc, if_neg h52]) ?_
        refine g_goto hC 71 d_M_acts_67 rfl ?_
        refine g_istore hC d_M_acts_71 rfl (by decide) ?_
        refine g_aload_n hC d_M_acts_73 rfl rfl ?_
        refine g_getR hC _ 5 20 _ (by decide) rfl rfl fl_M_65 d_M_acts_74 rfl ?_
        refine g_iload_n hC d_M_acts_77 rfl rfl ?_
        refine g_iload hC d_M_acts_78 rfl rfl ?_
        refine g_iconst hC (1) d_M_acts_80 (by decide) rfl ?_
        refine g_isub hC d_M_acts_81 rfl ?_
        refine g_top hC (nI (h - 1)) (pk_sub (a := h) (b := 1) (by omega)) ?_
        refine g_iast hC _ _ a (by decide) rfl rfl ha (by decide) d_M_acts_82 rfl ?_
        refine g_aload_n hC d_M_acts_83 rfl rfl ?_
        refine g_iload_n hC d_M_acts_84 rfl rfl ?_
        refine g_iload hC d_M_acts_85 rfl rfl ?_
        refine g_gov hC rfl (z_runV hC (c_M_push l D K q hq a (h - 1) ha (by omega) _ _ (zu_eq _ _ _ _)) yy_M_push yv_M_166 (by decide) rfl ⟨Nat.le_of_ble_eq_true rfl, Nat.le_of_ble_eq_true rfl⟩ ⟨Nat.zero_le _, Nat.zero_le _⟩ rfl (Nat.le_of_ble_eq_true rfl) d_M_acts_87) (fun σ4 q4 => ?_)
        obtain rfl := q4.symm
        exact g_vret hC hr hlk d_M_acts_90 (by first | (rw [ho_, wact_13]; done) | (rw [ho_, wact_10]; done) | (rw [ho_, wact_11, hjc]; done) | (rw [ho_, wact_12e]; done))
  ·
    have ho_ : o = 13 := go_n (wact_o ho) (by decide) h3
    have hh_ : h < 6 := by rw [ho_] at hL; exact hL
    refine g_aload_n hC d_M_acts_6 rfl rfl ?_
    refine g_iload_n hC d_M_acts_7 rfl rfl ?_
    refine g_aload_n hC d_M_acts_8 rfl rfl ?_
    refine g_iload_n hC d_M_acts_9 rfl rfl ?_
    refine g_iload_n hC d_M_acts_10 rfl rfl ?_
    refine g_goi hC rfl (z_runV hC (c_M_may l D K q hq _ _ _ ) yy_M_may yv_M_143 (by decide) rfl ⟨Nat.le_of_ble_eq_true rfl, Nat.le_of_ble_eq_true rfl⟩ ⟨Nat.zero_le _, Nat.zero_le _⟩ rfl (Nat.le_of_ble_eq_true rfl) d_M_acts_11) (fun r5 σ5 q5 => ?_)
    obtain ⟨rfl, w5⟩ := q5
    obtain rfl := w5.symm
    refine g_ifeq_b hC 21 d_M_acts_14 rfl rfl (fun h14 => ?_) (fun h14 => ?_)
    ·
      refine g_iconst hC (0) d_M_acts_21 (by decide) rfl ?_
      refine g_top hC (zb (wmay σ (nI a) n)) (by rw [h14]; rfl) ?_
      refine g_gov hC rfl (z_runV hC (c_M_push l D K q hq a h ha hh_ _ _ e0) yy_M_push yv_M_166 (by decide) rfl ⟨Nat.le_of_ble_eq_true rfl, Nat.le_of_ble_eq_true rfl⟩ ⟨Nat.zero_le _, Nat.zero_le _⟩ rfl (Nat.le_of_ble_eq_true rfl) d_M_acts_22) (fun σ6 q6 => ?_)
      obtain rfl := q6.symm
      exact g_vret hC hr hlk d_M_acts_25 (by first | (rw [ho_, wact_13]; done) | (rw [ho_, wact_10]; done) | (rw [ho_, wact_11, hjc]; done) | (rw [ho_, wact_12e]; done))
    ·
      refine g_iconst hC (1) d_M_acts_17 (by decide) rfl ?_
      refine g_top hC (zb (wmay σ (nI a) n)) (by rw [h14]; rfl) ?_
      refine g_goto hC 22 d_M_acts_18 rfl ?_
      refine g_gov hC rfl (z_runV hC (c_M_push l D K q hq a h ha hh_ _ _ e0) yy_M_push yv_M_166 (by decide) rfl ⟨Nat.le_of_ble_eq_true rfl, Nat.le_of_ble_eq_true rfl⟩ ⟨Nat.zero_le _, Nat.zero_le _⟩ rfl (Nat.le_of_ble_eq_true rfl) d_M_acts_22) (fun σ7 q7 => ?_)
      obtain rfl := q7.symm
      exact g_vret hC hr hlk d_M_acts_25 (by first | (rw [ho_, wact_13]; done) | (rw [ho_, wact_10]; done) | (rw [ho_, wact_11, hjc]; done) | (rw [ho_, wact_12e]; done))
