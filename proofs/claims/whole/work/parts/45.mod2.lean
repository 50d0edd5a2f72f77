/-! the reference's methods: grants, intents, stacks -/
theorem wapp_in {σ : zm} {x : Int32} (h : wapp σ x = true) : zin x 8 = true := by
  unfold wapp at h
  exact (Bool.and_eq_true _ _ ▸ h).1
theorem z_and1 (y : Int32) : y &&& 1 = 0 ∨ y &&& 1 = 1 := by
  obtain ⟨j, hj, e⟩ := pk_andE y (m := 1) 1 (by decide)
  rw [e]
  have : j = 0 ∨ j = 1 := by omega
  rcases this with rfl | rfl
  · exact Or.inl rfl
  · exact Or.inr rfl
theorem zbit_0 {b x : Int32} (h : (b >>> (x &&& 31)) &&& 1 = 0) : zbit b x = false := decide_eq_false (fun z => by rw [h] at z; exact absurd z (by decide))
theorem zbit_n0 {b x : Int32} (h : ¬ (b >>> (x &&& 31)) &&& 1 = 0) : zbit b x = true := decide_eq_true ((z_and1 _).resolve_left h)
theorem zbit_1 {b x : Int32} (h : (b >>> (x &&& 31)) &&& 1 = 1) : zbit b x = true := decide_eq_true h
theorem zbit_n1 {b x : Int32} (h : ¬ (b >>> (x &&& 31)) &&& 1 = 1) : zbit b x = false := decide_eq_false h
def wgrok (σ : zm) (n x : Int32) : Bool := wapp σ n && zin x 8 && zbit (σ 109 n.toNatClampNeg) x && !zbit (σ 120 n.toNatClampNeg) x
theorem wgr_1 {σ : zm} {n x : Int32} (h : wapp σ n = false) : wgrok σ n x = false := by simp [wgrok, h]
theorem wgr_2 {σ : zm} {n x : Int32} (h : zin x 8 = false) : wgrok σ n x = false := by simp [wgrok, h]
theorem wgr_3 {σ : zm} {n x : Int32} {k : Nat} (hc : n.toNatClampNeg = k) (h : zbit (σ 109 k) x = false) : wgrok σ n x = false := by simp [wgrok, hc, h]
theorem wgr_4 {σ : zm} {n x : Int32} {k : Nat} (hc : n.toNatClampNeg = k) (h : zbit (σ 120 k) x = true) : wgrok σ n x = false := by simp [wgrok, hc, h]
theorem wgr_5 {σ : zm} {n x : Int32} {k : Nat} (h1 : wapp σ n = true) (h2 : zin x 8 = true) (hc : n.toNatClampNeg = k) (h3 : zbit (σ 109 k) x = true) (h4 : zbit (σ 120 k) x = false) : wgrok σ n x = true := by simp [wgrok, h1, h2, hc, h3, h4]
def wrvok (σ : zm) (n x : Int32) : Bool := wapp σ n && zin x 8 && zbit (σ 120 n.toNatClampNeg) x
theorem wrv_1 {σ : zm} {n x : Int32} (h : wapp σ n = false) : wrvok σ n x = false := by simp [wrvok, h]
theorem wrv_2 {σ : zm} {n x : Int32} (h : zin x 8 = false) : wrvok σ n x = false := by simp [wrvok, h]
theorem wrv_3 {σ : zm} {n x : Int32} {k : Nat} (hc : n.toNatClampNeg = k) (h : zbit (σ 120 k) x = false) : wrvok σ n x = false := by simp [wrvok, hc, h]
theorem wrv_4 {σ : zm} {n x : Int32} {k : Nat} (h1 : wapp σ n = true) (h2 : zin x 8 = true) (hc : n.toNatClampNeg = k) (h3 : zbit (σ 120 k) x = true) : wrvok σ n x = true := by simp [wrvok, h1, h2, hc, h3]
def wlev (σ : zm) (a j : Nat) : Int32 := if σ 105 a = 0 then -1 else σ 110 (8 * a + j) - 1
def whit (σ : zm) (k : Nat) (x : Int32) (j a : Nat) : Bool := decide (wlev σ a j = 0) || (decide (wlev σ a j = 1) && zbit (σ 120 k) x) || (decide (wlev σ a j = 2) && decide (σ 107 a = σ 107 k))
def wmyp (σ : zm) (k : Nat) (x : Int32) (j : Nat) : Nat → Bool
  | 0 => false
  | a + 1 => wmyp σ k x j a || whit σ k x j a
section WMY
variable {σ : zm} {k j a : Nat} {x : Int32}
theorem wmy_1 (h : wmyp σ k x j a = true) : (1 : Int32) = zb (wmyp σ k x j (a + 1)) := by simp [wmyp, h, zb]
theorem wmy_2 (h : wlev σ a j = 0) : (1 : Int32) = zb (wmyp σ k x j (a + 1)) := by simp [wmyp, whit, h, zb]
theorem wmy_3 (h : wlev σ a j = 1) (h2 : (σ 120 k >>> (x &&& 31)) &&& 1 = 1) : (1 : Int32) = zb (wmyp σ k x j (a + 1)) := by simp [wmyp, whit, h, zbit_1 h2, zb]
theorem wmy_4 (h : wlev σ a j = 2) (h2 : σ 107 a = σ 107 k) : (1 : Int32) = zb (wmyp σ k x j (a + 1)) := by simp [wmyp, whit, h, h2, zb]
theorem wmy_5 (h : wmyp σ k x j a = false) (h0 : ¬ wlev σ a j = 0) (h1 : ¬ wlev σ a j = 1) (h2 : ¬ wlev σ a j = 2) : (0 : Int32) = zb (wmyp σ k x j (a + 1)) := by simp [wmyp, whit, h, h0, h1, h2, zb]
theorem wmy_6 (h : wmyp σ k x j a = false) (h0 : ¬ wlev σ a j = 0) (h1 : ¬ wlev σ a j = 1) (h2 : ¬ σ 107 a = σ 107 k) : (0 : Int32) = zb (wmyp σ k x j (a + 1)) := by simp [wmyp, whit, h, h0, h1, h2, zb]
theorem wmy_7 (h : wmyp σ k x j a = false) (h0 : ¬ wlev σ a j = 0) (h1 : ¬ (σ 120 k >>> (x &&& 31)) &&& 1 = 1) (h2 : ¬ wlev σ a j = 2) : (0 : Int32) = zb (wmyp σ k x j (a + 1)) := by simp [wmyp, whit, h, h0, zbit_n1 h1, h2, zb]
theorem wmy_8 (h : wmyp σ k x j a = false) (h0 : ¬ wlev σ a j = 0) (h1 : ¬ (σ 120 k >>> (x &&& 31)) &&& 1 = 1) (h2 : ¬ σ 107 a = σ 107 k) : (0 : Int32) = zb (wmyp σ k x j (a + 1)) := by simp [wmyp, whit, h, h0, zbit_n1 h1, h2, zb]
end WMY
def wmay (σ : zm) (n x : Int32) : Bool := wapp σ n && zin x 8 && zbit (σ 109 n.toNatClampNeg) x && wmyp σ n.toNatClampNeg x x.toNatClampNeg 8
theorem wma_1 {σ : zm} {n x : Int32} (h : wapp σ n = false) : wmay σ n x = false := by simp [wmay, h]
theorem wma_2 {σ : zm} {n x : Int32} (h : zin x 8 = false) : wmay σ n x = false := by simp [wmay, h]
theorem wma_3 {σ : zm} {n x : Int32} {k : Nat} (hc : n.toNatClampNeg = k) (h : zbit (σ 109 k) x = false) : wmay σ n x = false := by simp [wmay, hc, h]
theorem wma_4 {σ : zm} {n x : Int32} {k j : Nat} (h1 : wapp σ n = true) (h2 : zin x 8 = true) (hc : n.toNatClampNeg = k) (hj : x.toNatClampNeg = j) (h3 : zbit (σ 109 k) x = true) : wmay σ n x = wmyp σ k x j 8 := by simp [wmay, h1, h2, hc, hj, h3]
def wrow (σ : zm) (k : Nat) (g1 g2 g3 : Int32) : zm := zu (zu (zu σ 126 k g1) 127 k g2) 128 k g3
def wqad (σ : zm) (z : Nat) (g1 g2 g3 : Int32) : zm := if z < 8 then zu (wrow σ z g1 g2 g3) 104 24 (nI (z + 1)) else σ
def wsnok (σ : zm) (n x : Int32) (z : Nat) : Bool := wapp σ n && zin x 10 && decide (z < 8)
theorem wsn_1 {σ : zm} {n x : Int32} {z : Nat} (h : wapp σ n = false) : wsnok σ n x z = false := by simp [wsnok, h]
theorem wsn_2 {σ : zm} {n x : Int32} {z : Nat} (h : zin x 10 = false) : wsnok σ n x z = false := by simp [wsnok, h]
theorem wsn_3 {σ : zm} {n x : Int32} {z : Nat} (h : nI z = 8) : wsnok σ n x z = false := by
  have : ¬ z < 8 := fun y => by
    have := (nI_eq (a := z) (b := 8) (by omega) (by decide)).mp h
    omega
  simp [wsnok, this]
theorem wsn_4 {σ : zm} {n x : Int32} {z : Nat} (h1 : wapp σ n = true) (h2 : zin x 10 = true) (hz : z ≤ 8) (h3 : ¬ nI z = 8) : wsnok σ n x z = true := by
  have : z < 8 := by
    have : ¬ z = 8 := fun y => h3 (by rw [y]; rfl)
    omega
  simp [wsnok, h1, h2, this]
def wtak (σ : zm) (a k : Nat) (g ac : Int32) (pn : Nat) : Bool := decide (k < pn) && decide (σ 112 (4 * a + k) = ac) && (!decide (σ 113 (4 * a + k) = 0) || decide (nI a = g)) && (decide (σ 114 (4 * a + k) < 0) || wmay σ g (σ 114 (4 * a + k)))
section WTA
variable {σ : zm} {a k pn : Nat} {g ac : Int32}
theorem wta_1 (h : ¬ k < pn) : wtak σ a k g ac pn = false := by simp [wtak, h]
theorem wta_2 (h : ¬ σ 112 (4 * a + k) = ac) : wtak σ a k g ac pn = false := by simp [wtak, h]
theorem wta_3 (h1 : σ 113 (4 * a + k) = 0) (h2 : ¬ nI a = g) : wtak σ a k g ac pn = false := by simp [wtak, h1, h2]
theorem wta_4 (h1 : ¬ σ 114 (4 * a + k) < 0) (h2 : wmay σ g (σ 114 (4 * a + k)) = false) : wtak σ a k g ac pn = false := by
  unfold wtak
  rw [decide_eq_false h1, h2, Bool.false_or, Bool.and_false]
theorem wta_5 (h1 : k < pn) (h2 : σ 112 (4 * a + k) = ac) (h3 : ¬ σ 113 (4 * a + k) = 0 ∨ nI a = g) (h4 : σ 114 (4 * a + k) < 0 ∨ wmay σ g (σ 114 (4 * a + k)) = true) : wtak σ a k g ac pn = true := by
  unfold wtak
  rw [decide_eq_true h1, decide_eq_true h2]
  have e3 : (!decide (σ 113 (4 * a + k) = 0) || decide (nI a = g)) = true := by
    rcases h3 with h | h
    · rw [decide_eq_false h]; rfl
    · rw [decide_eq_true h, Bool.or_true]
  have e4 : (decide (σ 114 (4 * a + k) < 0) || wmay σ g (σ 114 (4 * a + k))) = true := by
    rcases h4 with h | h
    · rw [decide_eq_true h, Bool.true_or]
    · rw [h, Bool.or_true]
  rw [e3, e4]
  rfl
end WTA
def wkpt (σ : zm) (n x : Int32) : Int32 := if wapp σ n && zin x 8 && !decide (σ 118 (8 * n.toNatClampNeg + x.toNatClampNeg) = 0) then σ 119 (8 * n.toNatClampNeg + x.toNatClampNeg) else 0
theorem wkp_1 {σ : zm} {n x : Int32} (h : wapp σ n = false) : wkpt σ n x = 0 := by simp [wkpt, h]
theorem wkp_2 {σ : zm} {n x : Int32} (h : zin x 8 = false) : wkpt σ n x = 0 := by simp [wkpt, h]
theorem wkp_3 {σ : zm} {n x : Int32} {k j : Nat} (hc : n.toNatClampNeg = k) (hj : x.toNatClampNeg = j) (h : σ 118 (8 * k + j) = 0) : wkpt σ n x = 0 := by simp [wkpt, hc, hj, h]
theorem wkp_4 {σ : zm} {n x : Int32} {k j : Nat} (h1 : wapp σ n = true) (h2 : zin x 8 = true) (hc : n.toNatClampNeg = k) (hj : x.toNatClampNeg = j) (h : ¬ σ 118 (8 * k + j) = 0) : wkpt σ n x = σ 119 (8 * k + j) := by simp [wkpt, h1, h2, hc, hj, h]
def wpsh (σ : zm) (a h : Nat) (v : Int32) : zm := zu (zu σ 124 (6 * a + h) v) 123 a (nI (h + 1))
def wcnt (σ : zm) (a : Nat) : Nat → Nat
  | 0 => 0
  | n + 1 => if σ 118 (8 * a + n) = 0 then wcnt σ a n else wcnt σ a n + 1
theorem wcnt_t {σ : zm} {a n : Nat} (h : ¬ σ 118 (8 * a + n) = 0) : wcnt σ a (n + 1) = wcnt σ a n + 1 := if_neg h
theorem wcnt_f {σ : zm} {a n : Nat} (h : σ 118 (8 * a + n) = 0) : wcnt σ a (n + 1) = wcnt σ a n := if_pos h
set_option maxHeartbeats 4000000 in
set_option maxRecDepth 100000 in
theorem c_M_grant (l : Launch) (D : va_G) (K : Nat → ClassId) (q : Nat → Nat) (hq : zI q) (n x : Int32) (σ : zm) : zMi l y_M_grant b_M_grant 3 (some .boolean) 2 D K q [.ref (q (104)), .int (n), .int (x)] σ (fun r σ' => r = zb (wgrok σ n x) ∧ σ' = if wgrok σ n x then zu (wz σ) 120 n.toNatClampNeg (σ 120 n.toNatClampNeg ||| (1 <<< (x &&& 31))) else wz σ) := by
  refine zMi.of (own := "AppDeskModel") (lv := [(0, .ref (q (104))), (1, .int (n)), (2, .int (x))]) (by decide) rfl hq (Nat.le_of_ble_eq_true rfl) rfl ?_
  intro p e s m below meth c hC hr hlk
  refine g_aload_n hC d_M_grant_0 rfl rfl ?_
  refine g_iconst hC (0) d_M_grant_1 (by decide) rfl ?_
  refine g_putI hC _ 5 0 (by decide) rfl rfl fp_M_90 d_M_grant_2 rfl ?_
  refine g_aload_n hC d_M_grant_5 rfl rfl ?_
  refine g_iload_n hC d_M_grant_6 rfl rfl ?_
  refine g_goi hC rfl (z_runV hC (c_M_isApp l D K q hq _ _ ) yy_M_isApp yv_M_133 (by decide) rfl ⟨Nat.le_of_ble_eq_true rfl, Nat.le_of_ble_eq_true rfl⟩ ⟨Nat.zero_le _, Nat.zero_le _⟩ rfl (Nat.le_of_ble_eq_true rfl) d_M_grant_7) (fun r0 σ0 q0 => ?_)
  obtain ⟨rfl, w0⟩ := q0
  obtain rfl := w0.symm
  refine g_ifeq_b hC 49 d_M_grant_10 rfl rfl (fun h10 => ?_) (fun h10 => ?_)
  ·
    have hok : wgrok σ n x = false := by first | exact wgr_1 h10 | exact wgr_2 h19 | exact wgr_3 hc (zbit_0 h32) | exact wgr_4 hc (zbit_1 h46)
    refine g_iconst hC (0) d_M_grant_49 (by decide) rfl ?_
    exact g_zret hC hr hlk d_M_grant_50 (Or.inl rfl) ⟨by rw [hok]; rfl, (if_neg (zif_f hok)).symm⟩
  ·
    have ha : wapp σ n = true := h10
    obtain ⟨k, hk, hx⟩ := zin_of (n := 8) (by decide) (wapp_in ha)
    have hc : (n).toNatClampNeg = k := by rw [hx]; exact nI_clamp (by omega)
    refine g_iload_n hC d_M_grant_13 rfl rfl ?_
    refine g_bipush hC (8) d_M_grant_14 (by decide) rfl ?_
    refine g_goi hC rfl (z_runS hC (c_M_in l D K q hq _ _ _) yy_M_in ys_M_93 ⟨Nat.le_of_ble_eq_true rfl, Nat.le_of_ble_eq_true rfl⟩ ⟨Nat.zero_le _, Nat.zero_le _⟩ rfl (Nat.le_of_ble_eq_true rfl) d_M_grant_16) (fun r1 σ1 q1 => ?_)
    obtain ⟨rfl, w1⟩ := q1
    obtain rfl := w1.symm
    refine g_ifeq_b hC 49 d_M_grant_19 rfl rfl (fun h19 => ?_) (fun h19 => ?_)
    ·
      have hok : wgrok σ n x = false := by first | exact wgr_1 h10 | exact wgr_2 h19 | exact wgr_3 hc (zbit_0 h32) | exact wgr_4 hc (zbit_1 h46)
      refine g_iconst hC (0) d_M_grant_49 (by decide) rfl ?_
      exact g_zret hC hr hlk d_M_grant_50 (Or.inl rfl) ⟨by rw [hok]; rfl, (if_neg (zif_f hok)).symm⟩
    ·
      refine g_aload_n hC d_M_grant_22 rfl rfl ?_
      refine g_getR hC _ 5 5 _ (by decide) rfl rfl fl_M_23 d_M_grant_23 rfl ?_
      refine g_iload_n hC d_M_grant_26 rfl rfl ?_
      refine g_ialdV hC _ _ k (σ 109 k) (by rw [zu_row _ _ (by decide)]) (by decide) rfl hx (by show k < 9; omega) (by decide) d_M_grant_27 rfl ?_
      refine g_iload_n hC d_M_grant_28 rfl rfl ?_
      refine g_ishr hC d_M_grant_29 rfl ?_
      refine g_iconst hC (1) d_M_grant_30 (by decide) rfl ?_
      refine g_iand hC d_M_grant_31 rfl ?_
      refine g_if_eq hC 49 d_M_grant_32 rfl rfl (fun h32 => ?_) (fun h32 => ?_)
      ·
        have hok : wgrok σ n x = false := by first | exact wgr_1 h10 | exact wgr_2 h19 | exact wgr_3 hc (zbit_0 h32) | exact wgr_4 hc (zbit_1 h46)
        refine g_iconst hC (0) d_M_grant_49 (by decide) rfl ?_
        exact g_zret hC hr hlk d_M_grant_50 (Or.inl rfl) ⟨by rw [hok]; rfl, (if_neg (zif_f hok)).symm⟩
      ·
        refine g_aload_n hC d_M_grant_35 rfl rfl ?_
        refine g_getR hC _ 5 17 _ (by decide) rfl rfl fl_M_56 d_M_grant_36 rfl ?_
        refine g_iload_n hC d_M_grant_39 rfl rfl ?_
        refine g_ialdV hC _ _ k (σ 120 k) (by rw [zu_row _ _ (by decide)]) (by decide) rfl hx (by show k < 8; omega) (by decide) d_M_grant_40 rfl ?_
        refine g_iload_n hC d_M_grant_41 rfl rfl ?_
        refine g_ishr hC d_M_grant_42 rfl ?_
        refine g_iconst hC (1) d_M_grant_43 (by decide) rfl ?_
        refine g_iand hC d_M_grant_44 rfl ?_
        refine g_iconst hC (1) d_M_grant_45 (by decide) rfl ?_
        refine g_icmp_ne hC 51 d_M_grant_46 rfl rfl (fun h46 => ?_) (fun h46 => ?_)
        ·
          have hok : wgrok σ n x = true := wgr_5 h10 h19 hc (zbit_n0 h32) (zbit_n1 h46)
          refine g_aload_n hC d_M_grant_51 rfl rfl ?_
          refine g_getR hC _ 5 17 _ (by decide) rfl rfl fl_M_56 d_M_grant_52 rfl ?_
          refine g_iload_n hC d_M_grant_55 rfl rfl ?_
          refine g_aload_n hC d_M_grant_56 rfl rfl ?_
          refine g_getR hC _ 5 17 _ (by decide) rfl rfl fl_M_56 d_M_grant_57 rfl ?_
          refine g_iload_n hC d_M_grant_60 rfl rfl ?_
          refine g_ialdV hC _ _ k (σ 120 k) (by rw [zu_row _ _ (by decide)]) (by decide) rfl hx (by show k < 8; omega) (by decide) d_M_grant_61 rfl ?_
          refine g_iconst hC (1) d_M_grant_62 (by decide) rfl ?_
          refine g_iload_n hC d_M_grant_63 rfl rfl ?_
          refine g_ishl hC d_M_grant_64 rfl ?_
          refine g_ior hC d_M_grant_65 rfl ?_
          refine g_iast hC _ _ k (by decide) rfl hx (by show k < 8; omega) (by decide) d_M_grant_66 rfl ?_
          refine g_iconst hC (1) d_M_grant_67 (by decide) rfl ?_
          exact g_zret hC hr hlk d_M_grant_68 (Or.inr rfl) ⟨by rw [hok]; rfl, by rw [if_pos hok, hc]; rfl⟩
        ·
          have hok : wgrok σ n x = false := by first | exact wgr_1 h10 | exact wgr_2 h19 | exact wgr_3 hc (zbit_0 h32) | exact wgr_4 hc (zbit_1 h46)
          refine g_iconst hC (0) d_M_grant_49 (by decide) rfl ?_
          exact g_zret hC hr hlk d_M_grant_50 (Or.inl rfl) ⟨by rw [hok]; rfl, (if_neg (zif_f hok)).symm⟩
set_option maxHeartbeats 4000000 in
set_option maxRecDepth 100000 in
theorem c_M_revoke (l : Launch) (D : va_G) (K : Nat → ClassId) (q : Nat → Nat) (hq : zI q) (n x : Int32) (σ : zm) : zMi l y_M_revoke b_M_revoke 3 (some .boolean) 2 D K q [.ref (q (104)), .int (n), .int (x)] σ (fun r σ' => r = zb (wrvok σ n x) ∧ σ' = if wrvok σ n x then zu (wz σ) 120 n.toNatClampNeg (σ 120 n.toNatClampNeg &&& ((1 <<< (x &&& 31)) ^^^ (-1))) else wz σ) := by
  refine zMi.of (own := "AppDeskModel") (lv := [(0, .ref (q (104))), (1, .int (n)), (2, .int (x))]) (by decide) rfl hq (Nat.le_of_ble_eq_true rfl) rfl ?_
  intro p e s m below meth c hC hr hlk
  refine g_aload_n hC d_M_revoke_0 rfl rfl ?_
  refine g_iconst hC (0) d_M_revoke_1 (by decide) rfl ?_
  refine g_putI hC _ 5 0 (by decide) rfl rfl fp_M_90 d_M_revoke_2 rfl ?_
  refine g_aload_n hC d_M_revoke_5 rfl rfl ?_
  refine g_iload_n hC d_M_revoke_6 rfl rfl ?_
  refine g_goi hC rfl (z_runV hC (c_M_isApp l D K q hq _ _ ) yy_M_isApp yv_M_133 (by decide) rfl ⟨Nat.le_of_ble_eq_true rfl, Nat.le_of_ble_eq_true rfl⟩ ⟨Nat.zero_le _, Nat.zero_le _⟩ rfl (Nat.le_of_ble_eq_true rfl) d_M_revoke_7) (fun r0 σ0 q0 => ?_)
  obtain ⟨rfl, w0⟩ := q0
  obtain rfl := w0.symm
  refine g_ifeq_b hC 35 d_M_revoke_10 rfl rfl (fun h10 => ?_) (fun h10 => ?_)
  ·
    have hok : wrvok σ n x = false := by first | exact wrv_1 h10 | exact wrv_2 h19 | exact wrv_3 hc (zbit_0 h32)
    refine g_iconst hC (0) d_M_revoke_35 (by decide) rfl ?_
    exact g_zret hC hr hlk d_M_revoke_36 (Or.inl rfl) ⟨by rw [hok]; rfl, (if_neg (zif_f hok)).symm⟩
  ·
    have ha : wapp σ n = true := h10
    obtain ⟨k, hk, hx⟩ := zin_of (n := 8) (by decide) (wapp_in ha)
    have hc : (n).toNatClampNeg = k := by rw [hx]; exact nI_clamp (by omega)
    refine g_iload_n hC d_M_revoke_13 rfl rfl ?_
    refine g_bipush hC (8) d_M_revoke_14 (by decide) rfl ?_
    refine g_goi hC rfl (z_runS hC (c_M_in l D K q hq _ _ _) yy_M_in ys_M_93 ⟨Nat.le_of_ble_eq_true rfl, Nat.le_of_ble_eq_true rfl⟩ ⟨Nat.zero_le _, Nat.zero_le _⟩ rfl (Nat.le_of_ble_eq_true rfl) d_M_revoke_16) (fun r1 σ1 q1 => ?_)
    obtain ⟨rfl, w1⟩ := q1
    obtain rfl := w1.symm
    refine g_ifeq_b hC 35 d_M_revoke_19 rfl rfl (fun h19 => ?_) (fun h19 => ?_)
    ·
      have hok : wrvok σ n x = false := by first | exact wrv_1 h10 | exact wrv_2 h19 | exact wrv_3 hc (zbit_0 h32)
      refine g_iconst hC (0) d_M_revoke_35 (by decide) rfl ?_
      exact g_zret hC hr hlk d_M_revoke_36 (Or.inl rfl) ⟨by rw [hok]; rfl, (if_neg (zif_f hok)).symm⟩
    ·
      refine g_aload_n hC d_M_revoke_22 rfl rfl ?_
      refine g_getR hC _ 5 17 _ (by decide) rfl rfl fl_M_56 d_M_revoke_23 rfl ?_
      refine g_iload_n hC d_M_revoke_26 rfl rfl ?_
      refine g_ialdV hC _ _ k (σ 120 k) (by rw [zu_row _ _ (by decide)]) (by decide) rfl hx (by show k < 8; omega) (by decide) d_M_revoke_27 rfl ?_
      refine g_iload_n hC d_M_revoke_28 rfl rfl ?_
      refine g_ishr hC d_M_revoke_29 rfl ?_
      refine g_iconst hC (1) d_M_revoke_30 (by decide) rfl ?_
      refine g_iand hC d_M_revoke_31 rfl ?_
      refine g_if_ne hC 37 d_M_revoke_32 rfl rfl (fun h32 => ?_) (fun h32 => ?_)
      ·
        have hok : wrvok σ n x = true := wrv_4 h10 h19 hc (zbit_n0 h32)
        refine g_aload_n hC d_M_revoke_37 rfl rfl ?_
        refine g_getR hC _ 5 17 _ (by decide) rfl rfl fl_M_56 d_M_revoke_38 rfl ?_
        refine g_iload_n hC d_M_revoke_41 rfl rfl ?_
        refine g_aload_n hC d_M_revoke_42 rfl rfl ?_
        refine g_getR hC _ 5 17 _ (by decide) rfl rfl fl_M_56 d_M_revoke_43 rfl ?_
        refine g_iload_n hC d_M_revoke_46 rfl rfl ?_
        refine g_ialdV hC _ _ k (σ 120 k) (by rw [zu_row _ _ (by decide)]) (by decide) rfl hx (by show k < 8; omega) (by decide) d_M_revoke_47 rfl ?_
        refine g_iconst hC (1) d_M_revoke_48 (by decide) rfl ?_
        refine g_iload_n hC d_M_revoke_49 rfl rfl ?_
        refine g_ishl hC d_M_revoke_50 rfl ?_
        refine g_iconst hC (-1) d_M_revoke_51 (by decide) rfl ?_
        refine g_ixor hC d_M_revoke_52 rfl ?_
        refine g_iand hC d_M_revoke_53 rfl ?_
        refine g_iast hC _ _ k (by decide) rfl hx (by show k < 8; omega) (by decide) d_M_revoke_54 rfl ?_
        refine g_iconst hC (1) d_M_revoke_55 (by decide) rfl ?_
        exact g_zret hC hr hlk d_M_revoke_56 (Or.inr rfl) ⟨by rw [hok]; rfl, by rw [if_pos hok, hc]; rfl⟩
      ·
        have hok : wrvok σ n x = false := by first | exact wrv_1 h10 | exact wrv_2 h19 | exact wrv_3 hc (zbit_0 h32)
        refine g_iconst hC (0) d_M_revoke_35 (by decide) rfl ?_
        exact g_zret hC hr hlk d_M_revoke_36 (Or.inl rfl) ⟨by rw [hok]; rfl, (if_neg (zif_f hok)).symm⟩
set_option maxHeartbeats 4000000 in
set_option maxRecDepth 100000 in
theorem c_M_may (l : Launch) (D : va_G) (K : Nat → ClassId) (q : Nat → Nat) (hq : zI q) (n x : Int32) (σ : zm) : zMi l y_M_may b_M_may 6 (some .boolean) 2 D K q [.ref (q (104)), .int (n), .int (x)] σ (fun r σ' => r = zb (wmay σ n x) ∧ σ' = σ) := by
  refine zMi.of (own := "AppDeskModel") (lv := [(0, .ref (q (104))), (1, .int (n)), (2, .int (x))]) (by decide) rfl hq (Nat.le_of_ble_eq_true rfl) rfl ?_
  intro p e s m below meth c hC hr hlk
  have J37 : ∀ (f : Nat) (k j : Nat) (hk : k < 8) (hj : j < 8) (hx : n = nI k) (hxj : x = nI j) (ho : wmay σ n x = wmyp σ k x j 8) (a : Nat) (hif : a + f = 8), zG p l e (zrm 2) s m ([.ref (q (104)), .int (n), .int (x)] : List Value).toArray below meth c D K q (zA q) 6 0 0 (MQ below (va_Qi (fun r σ' => r = zb (wmay σ n x) ∧ σ' = σ) (zO D K q) (zA q)) ([.ref (q (104)), .int (n), .int (x)] : List Value).toArray s 0 0 (zA q)) σ 37 [(0, .ref (q (104))), (1, .int (n)), (2, .int (x)), (3, .int (zb (wmyp σ k x j a))), (4, .int (nI a))] [] := by
    intro f
    induction f with
    | zero =>
      intro k j hk hj hx hxj ho a hif
      refine g_iload hC d_M_may_37 rfl rfl ?_
      refine g_bipush hC (8) d_M_may_39 (by decide) rfl ?_
      refine g_icmp_ge hC 137 d_M_may_41 rfl rfl (fun h41 => ?_) (fun h41 => absurd (nI_le (a := 8) (b := a) (by omega) (by omega)) h41)
      refine g_iload_n hC d_M_may_137 rfl rfl ?_
      exact g_zret hC hr hlk d_M_may_138 (zb01 _) ⟨by rw [ho, show a = 8 by omega], rfl⟩
    | succ f ih =>
      intro k j hk hj hx hxj ho a hif
      refine g_iload hC d_M_may_37 rfl rfl ?_
      refine g_bipush hC (8) d_M_may_39 (by decide) rfl ?_
      refine g_icmp_ge hC 137 d_M_may_41 rfl rfl (fun h41 => absurd h41 (nI_ge (a := a) (b := 8) (by omega) (by omega))) (fun h41 => ?_)
      refine g_aload_n hC d_M_may_44 rfl rfl ?_
      refine g_getR hC _ 5 1 _ (by decide) rfl rfl fl_M_7 d_M_may_45 rfl ?_
      refine g_iload hC d_M_may_48 rfl rfl ?_
      refine g_zald hC _ _ a (by decide) rfl rfl (by show a < 9; omega) (by decide) d_M_may_50 rfl ?_
      refine g_if_eq hC 71 d_M_may_51 rfl rfl (fun h51 => ?_) (fun h51 => ?_)
      ·
        refine g_iconst hC (-1) d_M_may_71 (by decide) rfl ?_
        refine g_top hC (wlev σ a j) ((if_pos h51).symm) ?_
        refine g_istore hC d_M_may_72 rfl (by decide) ?_
        refine g_iload_n hC d_M_may_74 rfl rfl ?_
        refine g_ifne_b hC 125 d_M_may_75 rfl rfl (fun h75 => ?_) (fun h75 => ?_)
        ·
          refine g_iconst hC (1) d_M_may_125 (by decide) rfl ?_
          refine g_top hC (zb (wmyp σ k x j (a + 1))) (by first | exact wmy_1 h75 | exact wmy_2 h80 | exact wmy_3 h86 h100 | exact wmy_4 h106 h122) ?_
          refine g_goto hC 130 d_M_may_126 rfl ?_
          refine g_istore_n hC d_M_may_130 rfl (by decide) ?_
          refine g_iinc hC (nI (a + 1)) d_M_may_131 rfl rfl (nI_succ _).symm (by decide) ?_
          refine g_goto hC 37 d_M_may_134 rfl ?_
          exact zG.to (ih k j hk hj hx hxj ho (a + 1) (by omega)) rfl rfl ⟨rfl, rfl, rfl, rfl, rfl, trivial⟩
        ·
          refine g_iload hC d_M_may_78 rfl rfl ?_
          refine g_if_eq hC 125 d_M_may_80 rfl rfl (fun h80 => ?_) (fun h80 => ?_)
          ·
            refine g_iconst hC (1) d_M_may_125 (by decide) rfl ?_
            refine g_top hC (zb (wmyp σ k x j (a + 1))) (by first | exact wmy_1 h75 | exact wmy_2 h80 | exact wmy_3 h86 h100 | exact wmy_4 h106 h122) ?_
            refine g_goto hC 130 d_M_may_126 rfl ?_
            refine g_istore_n hC d_M_may_130 rfl (by decide) ?_
            refine g_iinc hC (nI (a + 1)) d_M_may_131 rfl rfl (nI_succ _).symm (by decide) ?_
            refine g_goto hC 37 d_M_may_134 rfl ?_
            exact zG.to (ih k j hk hj hx hxj ho (a + 1) (by omega)) rfl rfl ⟨rfl, rfl, rfl, rfl, rfl, trivial⟩
          ·
            refine g_iload hC d_M_may_83 rfl rfl ?_
            refine g_iconst hC (1) d_M_may_85 (by decide) rfl ?_
            refine g_icmp_ne hC 103 d_M_may_86 rfl rfl (fun h86 => ?_) (fun h86 => ?_)
            ·
              refine g_iload hC d_M_may_103 rfl rfl ?_
              refine g_iconst hC (2) d_M_may_105 (by decide) rfl ?_
              refine g_icmp_ne hC 129 d_M_may_106 rfl rfl (fun h106 => ?_) (fun h106 => ?_)
              ·
                refine g_iconst hC (0) d_M_may_129 (by decide) rfl ?_
                refine g_top hC (zb (wmyp σ k x j (a + 1))) (by first | exact wmy_5 h75 h80 h86 h106 | exact wmy_6 h75 h80 h86 h122 | exact wmy_7 h75 h80 h100 h106 | exact wmy_8 h75 h80 h100 h122) ?_
                refine g_istore_n hC d_M_may_130 rfl (by decide) ?_
                refine g_iinc hC (nI (a + 1)) d_M_may_131 rfl rfl (nI_succ _).symm (by decide) ?_
                refine g_goto hC 37 d_M_may_134 rfl ?_
                exact zG.to (ih k j hk hj hx hxj ho (a + 1) (by omega)) rfl rfl ⟨rfl, rfl, rfl, rfl, rfl, trivial⟩
              ·
                refine g_aload_n hC d_M_may_109 rfl rfl ?_
                refine g_getR hC _ 5 3 _ (by decide) rfl rfl fl_M_17 d_M_may_110 rfl ?_
                refine g_iload hC d_M_may_113 rfl rfl ?_
                refine g_iald hC _ _ a (by decide) rfl rfl (by show a < 9; omega) (by decide) d_M_may_115 rfl ?_
                refine g_aload_n hC d_M_may_116 rfl rfl ?_
                refine g_getR hC _ 5 3 _ (by decide) rfl rfl fl_M_17 d_M_may_117 rfl ?_
                refine g_iload_n hC d_M_may_120 rfl rfl ?_
                refine g_iald hC _ _ k (by decide) rfl hx (by show k < 9; omega) (by decide) d_M_may_121 rfl ?_
                refine g_icmp_ne hC 129 d_M_may_122 rfl rfl (fun h122 => ?_) (fun h122 => ?_)
                ·
                  refine g_iconst hC (0) d_M_may_129 (by decide) rfl ?_
                  refine g_top hC (zb (wmyp σ k x j (a + 1))) (by first | exact wmy_5 h75 h80 h86 h106 | exact wmy_6 h75 h80 h86 h122 | exact wmy_7 h75 h80 h100 h106 | exact wmy_8 h75 h80 h100 h122) ?_
                  refine g_istore_n hC d_M_may_130 rfl (by decide) ?_
                  refine g_iinc hC (nI (a + 1)) d_M_may_131 rfl rfl (nI_succ _).symm (by decide) ?_
                  refine g_goto hC 37 d_M_may_134 rfl ?_
                  exact zG.to (ih k j hk hj hx hxj ho (a + 1) (by omega)) rfl rfl ⟨rfl, rfl, rfl, rfl, rfl, trivial⟩
                ·
                  refine g_iconst hC (1) d_M_may_125 (by decide) rfl ?_
                  refine g_top hC (zb (wmyp σ k x j (a + 1))) (by first | exact wmy_1 h75 | exact wmy_2 h80 | exact wmy_3 h86 h100 | exact wmy_4 h106 h122) ?_
                  refine g_goto hC 130 d_M_may_126 rfl ?_
                  refine g_istore_n hC d_M_may_130 rfl (by decide) ?_
                  refine g_iinc hC (nI (a + 1)) d_M_may_131 rfl rfl (nI_succ _).symm (by decide) ?_
                  refine g_goto hC 37 d_M_may_134 rfl ?_
                  exact zG.to (ih k j hk hj hx hxj ho (a + 1) (by omega)) rfl rfl ⟨rfl, rfl, rfl, rfl, rfl, trivial⟩
            ·
              refine g_aload_n hC d_M_may_89 rfl rfl ?_
              refine g_getR hC _ 5 17 _ (by decide) rfl rfl fl_M_56 d_M_may_90 rfl ?_
              refine g_iload_n hC d_M_may_93 rfl rfl ?_
              refine g_iald hC _ _ k (by decide) rfl hx (by show k < 8; omega) (by decide) d_M_may_94 rfl ?_
              refine g_iload_n hC d_M_may_95 rfl rfl ?_
              refine g_ishr hC d_M_may_96 rfl ?_
              refine g_iconst hC (1) d_M_may_97 (by decide) rfl ?_
              refine g_iand hC d_M_may_98 rfl ?_
              refine g_iconst hC (1) d_M_may_99 (by decide) rfl ?_
              refine g_icmp_eq hC 125 d_M_may_100 rfl rfl (fun h100 => ?_) (fun h100 => ?_)
              ·
                refine g_iconst hC (1) d_M_may_125 (by decide) rfl ?_
                refine g_top hC (zb (wmyp σ k x j (a + 1))) (by first | exact wmy_1 h75 | exact wmy_2 h80 | exact wmy_3 h86 h100 | exact wmy_4 h106 h122) ?_
                refine g_goto hC 130 d_M_may_126 rfl ?_
                refine g_istore_n hC d_M_may_130 rfl (by decide) ?_
                refine g_iinc hC (nI (a + 1)) d_M_may_131 rfl rfl (nI_succ _).symm (by decide) ?_
                refine g_goto hC 37 d_M_may_134 rfl ?_
                exact zG.to (ih k j hk hj hx hxj ho (a + 1) (by omega)) rfl rfl ⟨rfl, rfl, rfl, rfl, rfl, trivial⟩
              ·
                refine g_iload hC d_M_may_103 rfl rfl ?_
                refine g_iconst hC (2) d_M_may_105 (by decide) rfl ?_
                refine g_icmp_ne hC 129 d_M_may_106 rfl rfl (fun h106 => ?_) (fun h106 => ?_)
                ·
                  refine g_iconst hC (0) d_M_may_129 (by decide) rfl ?_
                  refine g_top hC (zb (wmyp σ k x j (a + 1))) (by first | exact wmy_5 h75 h80 h86 h106 | exact wmy_6 h75 h80 h86 h122 | exact wmy_7 h75 h80 h100 h106 | exact wmy_8 h75 h80 h100 h122) ?_
                  refine g_istore_n hC d_M_may_130 rfl (by decide) ?_
                  refine g_iinc hC (nI (a + 1)) d_M_may_131 rfl rfl (nI_succ _).symm (by decide) ?_
                  refine g_goto hC 37 d_M_may_134 rfl ?_
                  exact zG.to (ih k j hk hj hx hxj ho (a + 1) (by omega)) rfl rfl ⟨rfl, rfl, rfl, rfl, rfl, trivial⟩
                ·
                  refine g_aload_n hC d_M_may_109 rfl rfl ?_
                  refine g_getR hC _ 5 3 _ (by decide) rfl rfl fl_M_17 d_M_may_110 rfl ?_
                  refine g_iload hC d_M_may_113 rfl rfl ?_
                  refine g_iald hC _ _ a (by decide) rfl rfl (by show a < 9; omega) (by decide) d_M_may_115 rfl ?_
                  refine g_aload_n hC d_M_may_116 rfl rfl ?_
                  refine g_getR hC _ 5 3 _ (by decide) rfl rfl fl_M_17 d_M_may_117 rfl ?_
                  refine g_iload_n hC d_M_may_120 rfl rfl ?_
                  refine g_iald hC _ _ k (by decide) rfl hx (by show k < 9; omega) (by decide) d_M_may_121 rfl ?_
                  refine g_icmp_ne hC 129 d_M_may_122 rfl rfl (fun h122 => ?_) (fun h122 => ?_)
                  ·
                    refine g_iconst hC (0) d_M_may_129 (by decide) rfl ?_
                    refine g_top hC (zb (wmyp σ k x j (a + 1))) (by first | exact wmy_5 h75 h80 h86 h106 | exact wmy_6 h75 h80 h86 h122 | exact wmy_7 h75 h80 h100 h106 | exact wmy_8 h75 h80 h100 h122) ?_
                    refine g_istore_n hC d_M_may_130 rfl (by decide) ?_
                    refine g_iinc hC (nI (a + 1)) d_M_may_131 rfl rfl (nI_succ _).symm (by decide) ?_
                    refine g_goto hC 37 d_M_may_134 rfl ?_
                    exact zG.to (ih k j hk hj hx hxj ho (a + 1) (by omega)) rfl rfl ⟨rfl, rfl, rfl, rfl, rfl, trivial⟩
                  ·
                    refine g_iconst hC (1) d_M_may_125 (by decide) rfl ?_
                    refine g_top hC (zb (wmyp σ k x j (a + 1))) (by first | exact wmy_1 h75 | exact wmy_2 h80 | exact wmy_3 h86 h100 | exact wmy_4 h106 h122) ?_
                    refine g_goto hC 130 d_M_may_126 rfl ?_
                    refine g_istore_n hC d_M_may_130 rfl (by decide) ?_
                    refine g_iinc hC (nI (a + 1)) d_M_may_131 rfl rfl (nI_succ _).symm (by decide) ?_
                    refine g_goto hC 37 d_M_may_134 rfl ?_
                    exact zG.to (ih k j hk hj hx hxj ho (a + 1) (by omega)) rfl rfl ⟨rfl, rfl, rfl, rfl, rfl, trivial⟩
      ·
        refine g_aload_n hC d_M_may_54 rfl rfl ?_
        refine g_getR hC _ 5 6 _ (by decide) rfl rfl fl_M_26 d_M_may_55 rfl ?_
        refine g_bipush hC (8) d_M_may_58 (by decide) rfl ?_
        refine g_iload hC d_M_may_60 rfl rfl ?_
        refine g_imul hC d_M_may_62 rfl ?_
        refine g_top hC (nI (8 * a)) (pk_mul 8 a) ?_
        refine g_iload_n hC d_M_may_63 rfl rfl ?_
        refine g_iadd hC d_M_may_64 rfl ?_
        refine g_top hC (nI (8 * a + j)) (by rw [hxj]; exact nI_add (8 * a) j) ?_
        refine g_iald hC _ _ (8 * a + j) (by decide) rfl rfl (by show 8 * a + j < 72; omega) (by decide) d_M_may_65 rfl ?_
        refine g_iconst hC (1) d_M_may_66 (by decide) rfl ?_
        refine g_isub hC d_M_may_67 rfl ?_
        refine g_top hC (wlev σ a j) ((if_neg h51).symm) ?_
        refine g_goto hC 72 d_M_may_68 rfl ?_
        refine g_istore hC d_M_may_72 rfl (by decide) ?_
        refine g_iload_n hC d_M_may_74 rfl rfl ?_
        refine g_ifne_b hC 125 d_M_may_75 rfl rfl (fun h75 => ?_) (fun h75 => ?_)
        ·
          refine g_iconst hC (1) d_M_may_125 (by decide) rfl ?_
          refine g_top hC (zb (wmyp σ k x j (a + 1))) (by first | exact wmy_1 h75 | exact wmy_2 h80 | exact wmy_3 h86 h100 | exact wmy_4 h106 h122) ?_
          refine g_goto hC 130 d_M_may_126 rfl ?_
          refine g_istore_n hC d_M_may_130 rfl (by decide) ?_
          refine g_iinc hC (nI (a + 1)) d_M_may_131 rfl rfl (nI_succ _).symm (by decide) ?_
          refine g_goto hC 37 d_M_may_134 rfl ?_
          exact zG.to (ih k j hk hj hx hxj ho (a + 1) (by omega)) rfl rfl ⟨rfl, rfl, rfl, rfl, rfl, trivial⟩
        ·
          refine g_iload hC d_M_may_78 rfl rfl ?_
          refine g_if_eq hC 125 d_M_may_80 rfl rfl (fun h80 => ?_) (fun h80 => ?_)
          ·
            refine g_iconst hC (1) d_M_may_125 (by decide) rfl ?_
            refine g_top hC (zb (wmyp σ k x j (a + 1))) (by first | exact wmy_1 h75 | exact wmy_2 h80 | exact wmy_3 h86 h100 | exact wmy_4 h106 h122) ?_
            refine g_goto hC 130 d_M_may_126 rfl ?_
            refine g_istore_n hC d_M_may_130 rfl (by decide) ?_
            refine g_iinc hC (nI (a + 1)) d_M_may_131 rfl rfl (nI_succ _).symm (by decide) ?_
            refine g_goto hC 37 d_M_may_134 rfl ?_
            exact zG.to (ih k j hk hj hx hxj ho (a + 1) (by omega)) rfl rfl ⟨rfl, rfl, rfl, rfl, rfl, trivial⟩
          ·
            refine g_iload hC d_M_may_83 rfl rfl ?_
            refine g_iconst hC (1) d_M_may_85 (by decide) rfl ?_
            refine g_icmp_ne hC 103 d_M_may_86 rfl rfl (fun h86 => ?_) (fun h86 => ?_)
            ·
              refine g_iload hC d_M_may_103 rfl rfl ?_
              refine g_iconst hC (2) d_M_may_105 (by decide) rfl ?_
              refine g_icmp_ne hC 129 d_M_may_106 rfl rfl (fun h106 => ?_) (fun h106 => ?_)
              ·
                refine g_iconst hC (0) d_M_may_129 (by decide) rfl ?_
                refine g_top hC (zb (wmyp σ k x j (a + 1))) (by first | exact wmy_5 h75 h80 h86 h106 | exact wmy_6 h75 h80 h86 h122 | exact wmy_7 h75 h80 h100 h106 | exact wmy_8 h75 h80 h100 h122) ?_
                refine g_istore_n hC d_M_may_130 rfl (by decide) ?_
                refine g_iinc hC (nI (a + 1)) d_M_may_131 rfl rfl (nI_succ _).symm (by decide) ?_
                refine g_goto hC 37 d_M_may_134 rfl ?_
                exact zG.to (ih k j hk hj hx hxj ho (a + 1) (by omega)) rfl rfl ⟨rfl, rfl, rfl, rfl, rfl, trivial⟩
              ·
                refine g_aload_n hC d_M_may_109 rfl rfl ?_
                refine g_getR hC _ 5 3 _ (by decide) rfl rfl fl_M_17 d_M_may_110 rfl ?_
                refine g_iload hC d_M_may_113 rfl rfl ?_
                refine g_iald hC _ _ a (by decide) rfl rfl (by show a < 9; omega) (by decide) d_M_may_115 rfl ?_
                refine g_aload_n hC d_M_may_116 rfl rfl ?_
                refine g_getR hC _ 5 3 _ (by decide) rfl rfl fl_M_17 d_M_may_117 rfl ?_
                refine g_iload_n hC d_M_may_120 rfl rfl ?_
                refine g_iald hC _ _ k (by decide) rfl hx (by show k < 9; omega) (by decide) d_M_may_121 rfl ?_
                refine g_icmp_ne hC 129 d_M_may_122 rfl rfl (fun h122 => ?_) (fun h122 => ?_)
                ·
                  refine g_iconst hC (0) d_M_may_129 (by decide) rfl ?_
                  refine g_top hC (zb (wmyp σ k x j (a + 1))) (by first | exact wmy_5 h75 h80 h86 h106 | exact wmy_6 h75 h80 h86 h122 | exact wmy_7 h75 h80 h100 h106 | exact wmy_8 h75 h80 h100 h122) ?_
                  refine g_istore_n hC d_M_may_130 rfl (by decide) ?_
                  refine g_iinc hC (nI (a + 1)) d_M_may_131 rfl rfl (nI_succ _).symm (by decide) ?_
                  refine g_goto hC 37 d_M_may_134 rfl ?_
                  exact zG.to (ih k j hk hj hx hxj ho (a + 1) (by omega)) rfl rfl ⟨rfl, rfl, rfl, rfl, rfl, trivial⟩
                ·
                  refine g_iconst hC (1) d_M_may_125 (by decide) rfl ?_
                  refine g_top hC (zb (wmyp σ k x j (a + 1))) (by first | exact wmy_1 h75 | exact wmy_2 h80 | exact wmy_3 h86 h100 | exact wmy_4 h106 h122) ?_
                  refine g_goto hC 130 d_M_may_126 rfl ?_
                  refine g_istore_n hC d_M_may_130 rfl (by decide) ?_
                  refine g_iinc hC (nI (a + 1)) d_M_may_131 rfl rfl (nI_succ _).symm (by decide) ?_
                  refine g_goto hC 37 d_M_may_134 rfl ?_
                  exact zG.to (ih k j hk hj hx hxj ho (a + 1) (by omega)) rfl rfl ⟨rfl, rfl, rfl, rfl, rfl, trivial⟩
            ·
              refine g_aload_n hC d_M_may_89 rfl rfl ?_
              refine g_getR hC _ 5 17 _ (by decide) rfl rfl fl_M_56 d_M_may_90 rfl ?_
              refine g_iload_n hC d_M_may_93 rfl rfl ?_
              refine g_iald hC _ _ k (by decide) rfl hx (by show k < 8; omega) (by decide) d_M_may_94 rfl ?_
              refine g_iload_n hC d_M_may_95 rfl rfl ?_
              refine g_ishr hC d_M_may_96 rfl ?_
              refine g_iconst hC (1) d_M_may_97 (by decide) rfl ?_
              refine g_iand hC d_M_may_98 rfl ?_
              refine g_iconst hC (1) d_M_may_99 (by decide) rfl ?_
              refine g_icmp_eq hC 125 d_M_may_100 rfl rfl (fun h100 => ?_) (fun h100 => ?_)
              ·
                refine g_iconst hC (1) d_M_may_125 (by decide) rfl ?_
                refine g_top hC (zb (wmyp σ k x j (a + 1))) (by first | exact wmy_1 h75 | exact wmy_2 h80 | exact wmy_3 h86 h100 | exact wmy_4 h106 h122) ?_
                refine g_goto hC 130 d_M_may_126 rfl ?_
                refine g_istore_n hC d_M_may_130 rfl (by decide) ?_
                refine g_iinc hC (nI (a + 1)) d_M_may_131 rfl rfl (nI_succ _).symm (by decide) ?_
                refine g_goto hC 37 d_M_may_134 rfl ?_
                exact zG.to (ih k j hk hj hx hxj ho (a + 1) (by omega)) rfl rfl ⟨rfl, rfl, rfl, rfl, rfl, trivial⟩
              ·
                refine g_iload hC d_M_may_103 rfl rfl ?_
                refine g_iconst hC (2) d_M_may_105 (by decide) rfl ?_
                refine g_icmp_ne hC 129 d_M_may_106 rfl rfl (fun h106 => ?_) (fun h106 => ?_)
                ·
                  refine g_iconst hC (0) d_M_may_129 (by decide) rfl ?_
                  refine g_top hC (zb (wmyp σ k x j (a + 1))) (by first | exact wmy_5 h75 h80 h86 h106 | exact wmy_6 h75 h80 h86 h122 | exact wmy_7 h75 h80 h100 h106 | exact wmy_8 h75 h80 h100 h122) ?_
                  refine g_istore_n hC d_M_may_130 rfl (by decide) ?_
                  refine g_iinc hC (nI (a + 1)) d_M_may_131 rfl rfl (nI_succ _).symm (by decide) ?_
                  refine g_goto hC 37 d_M_may_134 rfl ?_
                  exact zG.to (ih k j hk hj hx hxj ho (a + 1) (by omega)) rfl rfl ⟨rfl, rfl, rfl, rfl, rfl, trivial⟩
                ·
                  refine g_aload_n hC d_M_may_109 rfl rfl ?_
                  refine g_getR hC _ 5 3 _ (by decide) rfl rfl fl_M_17 d_M_may_110 rfl ?_
                  refine g_iload hC d_M_may_113 rfl rfl ?_
                  refine g_iald hC _ _ a (by decide) rfl rfl (by show a < 9; omega) (by decide) d_M_may_115 rfl ?_
                  refine g_aload_n hC d_M_may_116 rfl rfl ?_
                  refine g_getR hC _ 5 3 _ (by decide) rfl rfl fl_M_17 d_M_may_117 rfl ?_
                  refine g_iload_n hC d_M_may_120 rfl rfl ?_
                  refine g_iald hC _ _ k (by decide) rfl hx (by show k < 9; omega) (by decide) d_M_may_121 rfl ?_
                  refine g_icmp_ne hC 129 d_M_may_122 rfl rfl (fun h122 => ?_) (fun h122 => ?_)
                  ·
                    refine g_iconst hC (0) d_M_may_129 (by decide) rfl ?_
                    refine g_top hC (zb (wmyp σ k x j (a + 1))) (by first | exact wmy_5 h75 h80 h86 h106 | exact wmy_6 h75 h80 h86 h122 | exact wmy_7 h75 h80 h100 h106 | exact wmy_8 h75 h80 h100 h122) ?_
                    refine g_istore_n hC d_M_may_130 rfl (by decide) ?_
                    refine g_iinc hC (nI (a + 1)) d_M_may_131 rfl rfl (nI_succ _).symm (by decide) ?_
                    refine g_goto hC 37 d_M_may_134 rfl ?_
                    exact zG.to (ih k j hk hj hx hxj ho (a + 1) (by omega)) rfl rfl ⟨rfl, rfl, rfl, rfl, rfl, trivial⟩
                  ·
                    refine g_iconst hC (1) d_M_may_125 (by decide) rfl ?_
                    refine g_top hC (zb (wmyp σ k x j (a + 1))) (by first | exact wmy_1 h75 | exact wmy_2 h80 | exact wmy_3 h86 h100 | exact wmy_4 h106 h122) ?_
                    refine g_goto hC 130 d_M_may_126 rfl ?_
                    refine g_istore_n hC d_M_may_130 rfl (by decide) ?_
                    refine g_iinc hC (nI (a + 1)) d_M_may_131 rfl rfl (nI_succ _).symm (by decide) ?_
                    refine g_goto hC 37 d_M_may_134 rfl ?_
                    exact zG.to (ih k j hk hj hx hxj ho (a + 1) (by omega)) rfl rfl ⟨rfl, rfl, rfl, rfl, rfl, trivial⟩
  refine g_aload_n hC d_M_may_0 rfl rfl ?_
  refine g_iload_n hC d_M_may_1 rfl rfl ?_
  refine g_goi hC rfl (z_runV hC (c_M_isApp l D K q hq _ _ ) yy_M_isApp yv_M_133 (by decide) rfl ⟨Nat.le_of_ble_eq_true rfl, Nat.le_of_ble_eq_true rfl⟩ ⟨Nat.zero_le _, Nat.zero_le _⟩ rfl (Nat.le_of_ble_eq_true rfl) d_M_may_2) (fun r0 σ0 q0 => ?_)
  obtain ⟨rfl, w0⟩ := q0
  obtain rfl := w0.symm
  refine g_ifeq_b hC 30 d_M_may_5 rfl rfl (fun h5 => ?_) (fun h5 => ?_)
  ·
    have ho : wmay σ n x = false := by first | exact wma_1 h5 | exact wma_2 h14 | exact wma_3 hc (zbit_0 h27)
    refine g_iconst hC (0) d_M_may_30 (by decide) rfl ?_
    exact g_zret hC hr hlk d_M_may_31 (Or.inl rfl) ⟨by rw [ho]; rfl, rfl⟩
  ·
    obtain ⟨k, hk, hx⟩ := zin_of (n := 8) (by decide) (wapp_in h5)
    have hc : (n).toNatClampNeg = k := by rw [hx]; exact nI_clamp (by omega)
    refine g_iload_n hC d_M_may_8 rfl rfl ?_
    refine g_bipush hC (8) d_M_may_9 (by decide) rfl ?_
    refine g_goi hC rfl (z_runS hC (c_M_in l D K q hq _ _ _) yy_M_in ys_M_93 ⟨Nat.le_of_ble_eq_true rfl, Nat.le_of_ble_eq_true rfl⟩ ⟨Nat.zero_le _, Nat.zero_le _⟩ rfl (Nat.le_of_ble_eq_true rfl) d_M_may_11) (fun r1 σ1 q1 => ?_)
    obtain ⟨rfl, w1⟩ := q1
    obtain rfl := w1.symm
    refine g_ifeq_b hC 30 d_M_may_14 rfl rfl (fun h14 => ?_) (fun h14 => ?_)
    ·
      have ho : wmay σ n x = false := by first | exact wma_1 h5 | exact wma_2 h14 | exact wma_3 hc (zbit_0 h27)
      refine g_iconst hC (0) d_M_may_30 (by decide) rfl ?_
      exact g_zret hC hr hlk d_M_may_31 (Or.inl rfl) ⟨by rw [ho]; rfl, rfl⟩
    ·
      obtain ⟨j, hj, hxj⟩ := zin_of (n := 8) (by decide) h14
      have hcj : (x).toNatClampNeg = j := by rw [hxj]; exact nI_clamp (by omega)
      refine g_aload_n hC d_M_may_17 rfl rfl ?_
      refine g_getR hC _ 5 5 _ (by decide) rfl rfl fl_M_23 d_M_may_18 rfl ?_
      refine g_iload_n hC d_M_may_21 rfl rfl ?_
      refine g_iald hC _ _ k (by decide) rfl hx (by show k < 9; omega) (by decide) d_M_may_22 rfl ?_
      refine g_iload_n hC d_M_may_23 rfl rfl ?_
      refine g_ishr hC d_M_may_24 rfl ?_
      refine g_iconst hC (1) d_M_may_25 (by decide) rfl ?_
      refine g_iand hC d_M_may_26 rfl ?_
      refine g_if_ne hC 32 d_M_may_27 rfl rfl (fun h27 => ?_) (fun h27 => ?_)
      ·
        have ho : wmay σ n x = wmyp σ k x j 8 := wma_4 h5 h14 hc hcj (zbit_n0 h27)
        refine g_iconst hC (0) d_M_may_32 (by decide) rfl ?_
        refine g_istore_n hC d_M_may_33 rfl (by decide) ?_
        refine g_iconst hC (0) d_M_may_34 (by decide) rfl ?_
        refine g_istore hC d_M_may_35 rfl (by decide) ?_
        exact zG.to (J37 8 k j hk hj hx hxj ho 0 (by omega)) rfl rfl ⟨rfl, rfl, rfl, rfl, rfl, trivial⟩
      ·
        have ho : wmay σ n x = false := by first | exact wma_1 h5 | exact wma_2 h14 | exact wma_3 hc (zbit_0 h27)
        refine g_iconst hC (0) d_M_may_30 (by decide) rfl ?_
        exact g_zret hC hr hlk d_M_may_31 (Or.inl rfl) ⟨by rw [ho]; rfl, rfl⟩
set_option maxHeartbeats 4000000 in
set_option maxRecDepth 100000 in
theorem c_M_holds (l : Launch) (D : va_G) (K : Nat → ClassId) (q : Nat → Nat) (hq : zI q) (n x : Int32) (σ : zm) : zMi l y_M_holds b_M_holds 3 (some .boolean) 3 D K q [.ref (q (104)), .int (n), .int (x)] σ (fun r σ' => r = zb (wmay (wz σ) n x) ∧ σ' = wz σ) := by
  refine zMi.of (own := "AppDeskModel") (lv := [(0, .ref (q (104))), (1, .int (n)), (2, .int (x))]) (by decide) rfl hq (Nat.le_of_ble_eq_true rfl) rfl ?_
  intro p e s m below meth c hC hr hlk
  refine g_aload_n hC d_M_holds_0 rfl rfl ?_
  refine g_iconst hC (0) d_M_holds_1 (by decide) rfl ?_
  refine g_putI hC _ 5 0 (by decide) rfl rfl fp_M_90 d_M_holds_2 rfl ?_
  refine g_aload_n hC d_M_holds_5 rfl rfl ?_
  refine g_iload_n hC d_M_holds_6 rfl rfl ?_
  refine g_iload_n hC d_M_holds_7 rfl rfl ?_
  refine g_goi hC rfl (z_runV hC (c_M_may l D K q hq _ _ _ ) yy_M_may yv_M_143 (by decide) rfl ⟨Nat.le_of_ble_eq_true rfl, Nat.le_of_ble_eq_true rfl⟩ ⟨Nat.zero_le _, Nat.zero_le _⟩ rfl (Nat.le_of_ble_eq_true rfl) d_M_holds_8) (fun r0 σ0 q0 => ?_)
  obtain ⟨rfl, w0⟩ := q0
  obtain rfl := w0.symm
  exact g_zret hC hr hlk d_M_holds_11 (zb01 _) ⟨rfl, rfl⟩
set_option maxHeartbeats 4000000 in
set_option maxRecDepth 100000 in
theorem c_M_move (l : Launch) (D : va_G) (K : Nat → ClassId) (q : Nat → Nat) (hq : zI q) (a b : Nat) (ha : a < 9) (hb : b < 9) (σ : zm) : zMv l y_M_move b_M_move 3 none 0 D K q [.ref (q (104)), .int (nI a), .int (nI b)] σ (fun σ' => σ' = wrow σ b (σ 126 a) (σ 127 a) (σ 128 a)) := by
  refine zMv.of (own := "AppDeskModel") (lv := [(0, .ref (q (104))), (1, .int (nI a)), (2, .int (nI b))]) (by decide) rfl hq (Nat.le_of_ble_eq_true rfl) rfl ?_
  intro p e s m below meth c hC hr hlk
  refine g_aload_n hC d_M_move_0 rfl rfl ?_
  refine g_getR hC _ 5 25 _ (by decide) rfl rfl fl_M_78 d_M_move_1 rfl ?_
  refine g_iload_n hC d_M_move_4 rfl rfl ?_
  refine g_aload_n hC d_M_move_5 rfl rfl ?_
  refine g_getR hC _ 5 25 _ (by decide) rfl rfl fl_M_78 d_M_move_6 rfl ?_
  refine g_iload_n hC d_M_move_9 rfl rfl ?_
  refine g_iald hC _ _ a (by decide) rfl rfl ha (by decide) d_M_move_10 rfl ?_
  refine g_iast hC _ _ b (by decide) rfl rfl hb (by decide) d_M_move_11 rfl ?_
  refine g_aload_n hC d_M_move_12 rfl rfl ?_
  refine g_getR hC _ 5 26 _ (by decide) rfl rfl fl_M_81 d_M_move_13 rfl ?_
  refine g_iload_n hC d_M_move_16 rfl rfl ?_
  refine g_aload_n hC d_M_move_17 rfl rfl ?_
  refine g_getR hC _ 5 26 _ (by decide) rfl rfl fl_M_81 d_M_move_18 rfl ?_
  refine g_iload_n hC d_M_move_21 rfl rfl ?_
  refine g_ialdV hC _ _ a (σ 127 a) (by rw [zu_row _ _ (by decide)]) (by decide) rfl rfl ha (by decide) d_M_move_22 rfl ?_
  refine g_iast hC _ _ b (by decide) rfl rfl hb (by decide) d_M_move_23 rfl ?_
  refine g_aload_n hC d_M_move_24 rfl rfl ?_
  refine g_getR hC _ 5 27 _ (by decide) rfl rfl fl_M_84 d_M_move_25 rfl ?_
  refine g_iload_n hC d_M_move_28 rfl rfl ?_
  refine g_aload_n hC d_M_move_29 rfl rfl ?_
  refine g_getR hC _ 5 27 _ (by decide) rfl rfl fl_M_84 d_M_move_30 rfl ?_
  refine g_iload_n hC d_M_move_33 rfl rfl ?_
  refine g_ialdV hC _ _ a (σ 128 a) (by rw [zu_row _ _ (by decide), zu_row _ _ (by decide)]) (by decide) rfl rfl ha (by decide) d_M_move_34 rfl ?_
  refine g_iast hC _ _ b (by decide) rfl rfl hb (by decide) d_M_move_35 rfl ?_
  exact g_vret hC hr hlk d_M_move_36 rfl
set_option maxHeartbeats 4000000 in
set_option maxRecDepth 100000 in
theorem c_M_post (l : Launch) (D : va_G) (K : Nat → ClassId) (q : Nat → Nat) (hq : zI q) (n x v : Int32) (σ : zm) (z : Nat) (hz : z ≤ 8) (h : σ 104 24 = nI z) : zMv l y_M_post b_M_post 4 none 0 D K q [.ref (q (104)), .int (n), .int (x), .int (v)] σ (fun σ' => σ' = wqad σ z n x v) := by
  refine zMv.of (own := "AppDeskModel") (lv := [(0, .ref (q (104))), (1, .int (n)), (2, .int (x)), (3, .int (v))]) (by decide) rfl hq (Nat.le_of_ble_eq_true rfl) rfl ?_
  intro p e s m below meth c hC hr hlk
  refine g_aload_n hC d_M_post_0 rfl rfl ?_
  refine g_getV hC _ 5 24 (nI z) (h) (by decide) rfl rfl fl_M_136 d_M_post_1 rfl ?_
  refine g_bipush hC (8) d_M_post_4 (by decide) rfl ?_
  refine g_icmp_ge hC 49 d_M_post_6 rfl rfl (fun h6 => ?_) (fun h6 => ?_)
  ·
    exact g_vret hC hr hlk d_M_post_49 (by first | exact (if_pos hlt).symm | exact (if_neg (fun y => absurd h6 (nI_ge (a := z) (b := 8) y (by decide)))).symm)
  ·
    have hlt : z < 8 := Nat.lt_of_not_le (fun y => h6 (nI_le (a := 8) (b := z) y (by omega)))
    refine g_aload_n hC d_M_post_9 rfl rfl ?_
    refine g_getR hC _ 5 25 _ (by decide) rfl rfl fl_M_78 d_M_post_10 rfl ?_
    refine g_aload_n hC d_M_post_13 rfl rfl ?_
    refine g_getV hC _ 5 24 (nI z) (h) (by decide) rfl rfl fl_M_136 d_M_post_14 rfl ?_
    refine g_iload_n hC d_M_post_17 rfl rfl ?_
    refine g_iast hC _ _ z (by decide) rfl rfl (by show z < 9; omega) (by decide) d_M_post_18 rfl ?_
    refine g_aload_n hC d_M_post_19 rfl rfl ?_
    refine g_getR hC _ 5 26 _ (by decide) rfl rfl fl_M_81 d_M_post_20 rfl ?_
    refine g_aload_n hC d_M_post_23 rfl rfl ?_
    refine g_getV hC _ 5 24 (nI z) (by rw [zu_row _ _ (by decide)]; exact h) (by decide) rfl rfl fl_M_136 d_M_post_24 rfl ?_
    refine g_iload_n hC d_M_post_27 rfl rfl ?_
    refine g_iast hC _ _ z (by decide) rfl rfl (by show z < 9; omega) (by decide) d_M_post_28 rfl ?_
    refine g_aload_n hC d_M_post_29 rfl rfl ?_
    refine g_getR hC _ 5 27 _ (by decide) rfl rfl fl_M_84 d_M_post_30 rfl ?_
    refine g_aload_n hC d_M_post_33 rfl rfl ?_
    refine g_getV hC _ 5 24 (nI z) (by rw [zu_row _ _ (by decide), zu_row _ _ (by decide)]; exact h) (by decide) rfl rfl fl_M_136 d_M_post_34 rfl ?_
    refine g_iload_n hC d_M_post_37 rfl rfl ?_
    refine g_iast hC _ _ z (by decide) rfl rfl (by show z < 9; omega) (by decide) d_M_post_38 rfl ?_
    refine g_aload_n hC d_M_post_39 rfl rfl ?_
    refine g_dup hC d_M_post_40 rfl rfl ?_
    refine g_getV hC _ 5 24 (nI z) (by rw [zu_row _ _ (by decide), zu_row _ _ (by decide), zu_row _ _ (by decide)]; exact h) (by decide) rfl rfl fl_M_136 d_M_post_41 rfl ?_
    refine g_iconst hC (1) d_M_post_44 (by decide) rfl ?_
    refine g_iadd hC d_M_post_45 rfl ?_
    refine g_top hC (nI (z + 1)) (nI_1 z) ?_
    refine g_putI hC _ 5 24 (by decide) rfl rfl fp_M_136 d_M_post_46 rfl ?_
    exact g_vret hC hr hlk d_M_post_49 (by first | exact (if_pos hlt).symm | exact (if_neg (fun y => absurd h6 (nI_ge (a := z) (b := 8) y (by decide)))).symm)
set_option maxHeartbeats 4000000 in
set_option maxRecDepth 100000 in
theorem c_M_send (l : Launch) (D : va_G) (K : Nat → ClassId) (q : Nat → Nat) (hq : zI q) (n x v : Int32) (σ : zm) (z : Nat) (hz : z ≤ 8) (h : σ 104 24 = nI z) : zMi l y_M_send b_M_send 4 (some .boolean) 2 D K q [.ref (q (104)), .int (n), .int (x), .int (v)] σ (fun r σ' => r = zb (wsnok σ n x z) ∧ σ' = if wsnok σ n x z then wqad (wz σ) z n x v else wz σ) := by
  refine zMi.of (own := "AppDeskModel") (lv := [(0, .ref (q (104))), (1, .int (n)), (2, .int (x)), (3, .int (v))]) (by decide) rfl hq (Nat.le_of_ble_eq_true rfl) rfl ?_
  intro p e s m below meth c hC hr hlk
  refine g_aload_n hC d_M_send_0 rfl rfl ?_
  refine g_iconst hC (0) d_M_send_1 (by decide) rfl ?_
  refine g_putI hC _ 5 0 (by decide) rfl rfl fp_M_90 d_M_send_2 rfl ?_
  refine g_aload_n hC d_M_send_5 rfl rfl ?_
  refine g_iload_n hC d_M_send_6 rfl rfl ?_
  refine g_goi hC rfl (z_runV hC (c_M_isApp l D K q hq _ _ ) yy_M_isApp yv_M_133 (by decide) rfl ⟨Nat.le_of_ble_eq_true rfl, Nat.le_of_ble_eq_true rfl⟩ ⟨Nat.zero_le _, Nat.zero_le _⟩ rfl (Nat.le_of_ble_eq_true rfl) d_M_send_7) (fun r0 σ0 q0 => ?_)
  obtain ⟨rfl, w0⟩ := q0
  obtain rfl := w0.symm
  refine g_ifeq_b hC 31 d_M_send_10 rfl rfl (fun h10 => ?_) (fun h10 => ?_)
  ·
    have hok : wsnok σ n x z = false := by first | exact wsn_1 h10 | exact wsn_2 h19 | exact wsn_3 h28
    refine g_iconst hC (0) d_M_send_31 (by decide) rfl ?_
    exact g_zret hC hr hlk d_M_send_32 (Or.inl rfl) ⟨by rw [hok]; rfl, (if_neg (zif_f hok)).symm⟩
  ·
    refine g_iload_n hC d_M_send_13 rfl rfl ?_
    refine g_bipush hC (10) d_M_send_14 (by decide) rfl ?_
    refine g_goi hC rfl (z_runS hC (c_M_in l D K q hq _ _ _) yy_M_in ys_M_93 ⟨Nat.le_of_ble_eq_true rfl, Nat.le_of_ble_eq_true rfl⟩ ⟨Nat.zero_le _, Nat.zero_le _⟩ rfl (Nat.le_of_ble_eq_true rfl) d_M_send_16) (fun r1 σ1 q1 => ?_)
    obtain ⟨rfl, w1⟩ := q1
    obtain rfl := w1.symm
    refine g_ifeq_b hC 31 d_M_send_19 rfl rfl (fun h19 => ?_) (fun h19 => ?_)
    ·
      have hok : wsnok σ n x z = false := by first | exact wsn_1 h10 | exact wsn_2 h19 | exact wsn_3 h28
      refine g_iconst hC (0) d_M_send_31 (by decide) rfl ?_
      exact g_zret hC hr hlk d_M_send_32 (Or.inl rfl) ⟨by rw [hok]; rfl, (if_neg (zif_f hok)).symm⟩
    ·
      refine g_aload_n hC d_M_send_22 rfl rfl ?_
      refine g_getV hC _ 5 24 (nI z) (by rw [zu_ne _ _ (Or.inr (by decide))]; exact h) (by decide) rfl rfl fl_M_136 d_M_send_23 rfl ?_
      refine g_bipush hC (8) d_M_send_26 (by decide) rfl ?_
      refine g_icmp_ne hC 33 d_M_send_28 rfl rfl (fun h28 => ?_) (fun h28 => ?_)
      ·
        have hok : wsnok σ n x z = true := wsn_4 h10 h19 hz h28
        refine g_aload_n hC d_M_send_33 rfl rfl ?_
        refine g_iload_n hC d_M_send_34 rfl rfl ?_
        refine g_iload_n hC d_M_send_35 rfl rfl ?_
        refine g_iload_n hC d_M_send_36 rfl rfl ?_
        refine g_gov hC rfl (z_runV hC (c_M_post l D K q hq _ _ _ _ _ hz (by rw [zu_ne _ _ (Or.inr (by decide))]; exact h)) yy_M_post yv_M_146 (by decide) rfl ⟨Nat.le_of_ble_eq_true rfl, Nat.le_of_ble_eq_true rfl⟩ ⟨Nat.zero_le _, Nat.zero_le _⟩ rfl (Nat.le_of_ble_eq_true rfl) d_M_send_37) (fun σ2 q2 => ?_)
        obtain rfl := q2.symm
        refine g_iconst hC (1) d_M_send_40 (by decide) rfl ?_
        exact g_zret hC hr hlk d_M_send_41 (Or.inr rfl) ⟨by rw [hok]; rfl, by rw [if_pos hok]; rfl⟩
      ·
        have hok : wsnok σ n x z = false := by first | exact wsn_1 h10 | exact wsn_2 h19 | exact wsn_3 h28
        refine g_iconst hC (0) d_M_send_31 (by decide) rfl ?_
        exact g_zret hC hr hlk d_M_send_32 (Or.inl rfl) ⟨by rw [hok]; rfl, (if_neg (zif_f hok)).symm⟩
set_option maxHeartbeats 4000000 in
set_option maxRecDepth 100000 in
theorem c_M_takes (l : Launch) (D : va_G) (K : Nat → ClassId) (q : Nat → Nat) (hq : zI q) (a k : Nat) (ha : a < 8) (hk : k < 4) (g ac : Int32) (pn : Nat) (hpn : pn ≤ 4) (σ : zm) (h : σ 111 a = nI pn) : zMi l y_M_takes b_M_takes 6 (some .boolean) 3 D K q [.ref (q (104)), .int (nI a), .int (nI k), .int (g), .int (ac)] σ (fun r σ' => r = zb (wtak σ a k g ac pn) ∧ σ' = σ) := by
  refine zMi.of (own := "AppDeskModel") (lv := [(0, .ref (q (104))), (1, .int (nI a)), (2, .int (nI k)), (3, .int (g)), (4, .int (ac))]) (by decide) rfl hq (Nat.le_of_ble_eq_true rfl) rfl ?_
  intro p e s m below meth c hC hr hlk
  refine g_iconst hC (4) d_M_takes_0 (by decide) rfl ?_
  refine g_iload_n hC d_M_takes_1 rfl rfl ?_
  refine g_imul hC d_M_takes_2 rfl ?_
  refine g_top hC (nI (4 * a)) (pk_mul 4 a) ?_
  refine g_iload_n hC d_M_takes_3 rfl rfl ?_
  refine g_iadd hC d_M_takes_4 rfl ?_
  refine g_top hC (nI (4 * a + k)) (nI_add (4 * a) k) ?_
  refine g_istore hC d_M_takes_5 rfl (by decide) ?_
  refine g_iload_n hC d_M_takes_7 rfl rfl ?_
  refine g_aload_n hC d_M_takes_8 rfl rfl ?_
  refine g_getR hC _ 5 7 _ (by decide) rfl rfl fl_M_29 d_M_takes_9 rfl ?_
  refine g_iload_n hC d_M_takes_12 rfl rfl ?_
  refine g_ialdV hC _ _ a (nI pn) (h) (by decide) rfl rfl (by show a < 9; omega) (by decide) d_M_takes_13 rfl ?_
  refine g_icmp_ge hC 73 d_M_takes_14 rfl rfl (fun h14 => ?_) (fun h14 => ?_)
  ·
    refine g_iconst hC (0) d_M_takes_73 (by decide) rfl ?_
    exact g_zret hC hr hlk d_M_takes_74 (Or.inl rfl) ⟨by first | (rw [wta_1 (fun y => absurd h14 (nI_ge (a := k) (b := pn) y (by omega)))]; rfl) | (rw [wta_2 h26]; rfl) | (rw [wta_3 h36 h41]; rfl) | (rw [wta_4 h51 h66]; rfl) | (rw [wta_5 hkp h26 (Or.inl h36) (Or.inl h51)]; rfl) | (rw [wta_5 hkp h26 (Or.inr h41) (Or.inl h51)]; rfl) | (rw [wta_5 hkp h26 (Or.inl h36) (Or.inr h66)]; rfl) | (rw [wta_5 hkp h26 (Or.inr h41) (Or.inr h66)]; rfl), rfl⟩
  ·
    have hkp : k < pn := Nat.lt_of_not_le (fun y => h14 (nI_le (a := pn) (b := k) y (by omega)))
    refine g_aload_n hC d_M_takes_17 rfl rfl ?_
    refine g_getR hC _ 5 8 _ (by decide) rfl rfl fl_M_32 d_M_takes_18 rfl ?_
    refine g_iload hC d_M_takes_21 rfl rfl ?_
    refine g_iald hC _ _ (4 * a + k) (by decide) rfl rfl (by show 4 * a + k < 36; omega) (by decide) d_M_takes_23 rfl ?_
    refine g_iload hC d_M_takes_24 rfl rfl ?_
    refine g_icmp_ne hC 73 d_M_takes_26 rfl rfl (fun h26 => ?_) (fun h26 => ?_)
    ·
      refine g_iconst hC (0) d_M_takes_73 (by decide) rfl ?_
      exact g_zret hC hr hlk d_M_takes_74 (Or.inl rfl) ⟨by first | (rw [wta_1 (fun y => absurd h14 (nI_ge (a := k) (b := pn) y (by omega)))]; rfl) | (rw [wta_2 h26]; rfl) | (rw [wta_3 h36 h41]; rfl) | (rw [wta_4 h51 h66]; rfl) | (rw [wta_5 hkp h26 (Or.inl h36) (Or.inl h51)]; rfl) | (rw [wta_5 hkp h26 (Or.inr h41) (Or.inl h51)]; rfl) | (rw [wta_5 hkp h26 (Or.inl h36) (Or.inr h66)]; rfl) | (rw [wta_5 hkp h26 (Or.inr h41) (Or.inr h66)]; rfl), rfl⟩
    ·
      refine g_aload_n hC d_M_takes_29 rfl rfl ?_
      refine g_getR hC _ 5 9 _ (by decide) rfl rfl fl_M_35 d_M_takes_30 rfl ?_
      refine g_iload hC d_M_takes_33 rfl rfl ?_
      refine g_zald hC _ _ (4 * a + k) (by decide) rfl rfl (by show 4 * a + k < 36; omega) (by decide) d_M_takes_35 rfl ?_
      refine g_if_ne hC 44 d_M_takes_36 rfl rfl (fun h36 => ?_) (fun h36 => ?_)
      ·
        refine g_aload_n hC d_M_takes_44 rfl rfl ?_
        refine g_getR hC _ 5 10 _ (by decide) rfl rfl fl_M_38 d_M_takes_45 rfl ?_
        refine g_iload hC d_M_takes_48 rfl rfl ?_
        refine g_iald hC _ _ (4 * a + k) (by decide) rfl rfl (by show 4 * a + k < 36; omega) (by decide) d_M_takes_50 rfl ?_
        refine g_if_lt hC 69 d_M_takes_51 rfl rfl (fun h51 => ?_) (fun h51 => ?_)
        ·
          refine g_iconst hC (1) d_M_takes_69 (by decide) rfl ?_
          refine g_goto hC 74 d_M_takes_70 rfl ?_
          exact g_zret hC hr hlk d_M_takes_74 (Or.inr rfl) ⟨by first | (rw [wta_1 (fun y => absurd h14 (nI_ge (a := k) (b := pn) y (by omega)))]; rfl) | (rw [wta_2 h26]; rfl) | (rw [wta_3 h36 h41]; rfl) | (rw [wta_4 h51 h66]; rfl) | (rw [wta_5 hkp h26 (Or.inl h36) (Or.inl h51)]; rfl) | (rw [wta_5 hkp h26 (Or.inr h41) (Or.inl h51)]; rfl) | (rw [wta_5 hkp h26 (Or.inl h36) (Or.inr h66)]; rfl) | (rw [wta_5 hkp h26 (Or.inr h41) (Or.inr h66)]; rfl), rfl⟩
        ·
          refine g_aload_n hC d_M_takes_54 rfl rfl ?_
          refine g_iload_n hC d_M_takes_55 rfl rfl ?_
          refine g_aload_n hC d_M_takes_56 rfl rfl ?_
          refine g_getR hC _ 5 10 _ (by decide) rfl rfl fl_M_38 d_M_takes_57 rfl ?_
          refine g_iload hC d_M_takes_60 rfl rfl ?_
          refine g_iald hC _ _ (4 * a + k) (by decide) rfl rfl (by show 4 * a + k < 36; omega) (by decide) d_M_takes_62 rfl ?_
          refine g_goi hC rfl (z_runV hC (c_M_may l D K q hq _ _ _ ) yy_M_may yv_M_143 (by decide) rfl ⟨Nat.le_of_ble_eq_true rfl, Nat.le_of_ble_eq_true rfl⟩ ⟨Nat.zero_le _, Nat.zero_le _⟩ rfl (Nat.le_of_ble_eq_true rfl) d_M_takes_63) (fun r0 σ0 q0 => ?_)
          obtain ⟨rfl, w0⟩ := q0
          obtain rfl := w0.symm
          refine g_ifeq_b hC 73 d_M_takes_66 rfl rfl (fun h66 => ?_) (fun h66 => ?_)
          ·
            refine g_iconst hC (0) d_M_takes_73 (by decide) rfl ?_
            exact g_zret hC hr hlk d_M_takes_74 (Or.inl rfl) ⟨by first | (rw [wta_1 (fun y => absurd h14 (nI_ge (a := k) (b := pn) y (by omega)))]; rfl) | (rw [wta_2 h26]; rfl) | (rw [wta_3 h36 h41]; rfl) | (rw [wta_4 h51 h66]; rfl) | (rw [wta_5 hkp h26 (Or.inl h36) (Or.inl h51)]; rfl) | (rw [wta_5 hkp h26 (Or.inr h41) (Or.inl h51)]; rfl) | (rw [wta_5 hkp h26 (Or.inl h36) (Or.inr h66)]; rfl) | (rw [wta_5 hkp h26 (Or.inr h41) (Or.inr h66)]; rfl), rfl⟩
          ·
            refine g_iconst hC (1) d_M_takes_69 (by decide) rfl ?_
            refine g_goto hC 74 d_M_takes_70 rfl ?_
            exact g_zret hC hr hlk d_M_takes_74 (Or.inr rfl) ⟨by first | (rw [wta_1 (fun y => absurd h14 (nI_ge (a := k) (b := pn) y (by omega)))]; rfl) | (rw [wta_2 h26]; rfl) | (rw [wta_3 h36 h41]; rfl) | (rw [wta_4 h51 h66]; rfl) | (rw [wta_5 hkp h26 (Or.inl h36) (Or.inl h51)]; rfl) | (rw [wta_5 hkp h26 (Or.inr h41) (Or.inl h51)]; rfl) | (rw [wta_5 hkp h26 (Or.inl h36) (Or.inr h66)]; rfl) | (rw [wta_5 hkp h26 (Or.inr h41) (Or.inr h66)]; rfl), rfl⟩
      ·
        refine g_iload_n hC d_M_takes_39 rfl rfl ?_
        refine g_iload_n hC d_M_takes_40 rfl rfl ?_
        refine g_icmp_ne hC 73 d_M_takes_41 rfl rfl (fun h41 => ?_) (fun h41 => ?_)
        ·
          refine g_iconst hC (0) d_M_takes_73 (by decide) rfl ?_
          exact g_zret hC hr hlk d_M_takes_74 (Or.inl rfl) ⟨by first | (rw [wta_1 (fun y => absurd h14 (nI_ge (a := k) (b := pn) y (by omega)))]; rfl) | (rw [wta_2 h26]; rfl) | (rw [wta_3 h36 h41]; rfl) | (rw [wta_4 h51 h66]; rfl) | (rw [wta_5 hkp h26 (Or.inl h36) (Or.inl h51)]; rfl) | (rw [wta_5 hkp h26 (Or.inr h41) (Or.inl h51)]; rfl) | (rw [wta_5 hkp h26 (Or.inl h36) (Or.inr h66)]; rfl) | (rw [wta_5 hkp h26 (Or.inr h41) (Or.inr h66)]; rfl), rfl⟩
        ·
          refine g_aload_n hC d_M_takes_44 rfl rfl ?_
          refine g_getR hC _ 5 10 _ (by decide) rfl rfl fl_M_38 d_M_takes_45 rfl ?_
          refine g_iload hC d_M_takes_48 rfl rfl ?_
          refine g_iald hC _ _ (4 * a + k) (by decide) rfl rfl (by show 4 * a + k < 36; omega) (by decide) d_M_takes_50 rfl ?_
          refine g_if_lt hC 69 d_M_takes_51 rfl rfl (fun h51 => ?_) (fun h51 => ?_)
          ·
            refine g_iconst hC (1) d_M_takes_69 (by decide) rfl ?_
            refine g_goto hC 74 d_M_takes_70 rfl ?_
            exact g_zret hC hr hlk d_M_takes_74 (Or.inr rfl) ⟨by first | (rw [wta_1 (fun y => absurd h14 (nI_ge (a := k) (b := pn) y (by omega)))]; rfl) | (rw [wta_2 h26]; rfl) | (rw [wta_3 h36 h41]; rfl) | (rw [wta_4 h51 h66]; rfl) | (rw [wta_5 hkp h26 (Or.inl h36) (Or.inl h51)]; rfl) | (rw [wta_5 hkp h26 (Or.inr h41) (Or.inl h51)]; rfl) | (rw [wta_5 hkp h26 (Or.inl h36) (Or.inr h66)]; rfl) | (rw [wta_5 hkp h26 (Or.inr h41) (Or.inr h66)]; rfl), rfl⟩
          ·
            refine g_aload_n hC d_M_takes_54 rfl rfl ?_
            refine g_iload_n hC d_M_takes_55 rfl rfl ?_
            refine g_aload_n hC d_M_takes_56 rfl rfl ?_
            refine g_getR hC _ 5 10 _ (by decide) rfl rfl fl_M_38 d_M_takes_57 rfl ?_
            refine g_iload hC d_M_takes_60 rfl rfl ?_
            refine g_iald hC _ _ (4 * a + k) (by decide) rfl rfl (by show 4 * a + k < 36; omega) (by decide) d_M_takes_62 rfl ?_
            refine g_goi hC rfl (z_runV hC (c_M_may l D K q hq _ _ _ ) yy_M_may yv_M_143 (by decide) rfl ⟨Nat.le_of_ble_eq_true rfl, Nat.le_of_ble_eq_true rfl⟩ ⟨Nat.zero_le _, Nat.zero_le _⟩ rfl (Nat.le_of_ble_eq_true rfl) d_M_takes_63) (fun r1 σ1 q1 => ?_)
            obtain ⟨rfl, w1⟩ := q1
            obtain rfl := w1.symm
            refine g_ifeq_b hC 73 d_M_takes_66 rfl rfl (fun h66 => ?_) (fun h66 => ?_)
            ·
              refine g_iconst hC (0) d_M_takes_73 (by decide) rfl ?_
              exact g_zret hC hr hlk d_M_takes_74 (Or.inl rfl) ⟨by first | (rw [wta_1 (fun y => absurd h14 (nI_ge (a := k) (b := pn) y (by omega)))]; rfl) | (rw [wta_2 h26]; rfl) | (rw [wta_3 h36 h41]; rfl) | (rw [wta_4 h51 h66]; rfl) | (rw [wta_5 hkp h26 (Or.inl h36) (Or.inl h51)]; rfl) | (rw [wta_5 hkp h26 (Or.inr h41) (Or.inl h51)]; rfl) | (rw [wta_5 hkp h26 (Or.inl h36) (Or.inr h66)]; rfl) | (rw [wta_5 hkp h26 (Or.inr h41) (Or.inr h66)]; rfl), rfl⟩
            ·
              refine g_iconst hC (1) d_M_takes_69 (by decide) rfl ?_
              refine g_goto hC 74 d_M_takes_70 rfl ?_
              exact g_zret hC hr hlk d_M_takes_74 (Or.inr rfl) ⟨by first | (rw [wta_1 (fun y => absurd h14 (nI_ge (a := k) (b := pn) y (by omega)))]; rfl) | (rw [wta_2 h26]; rfl) | (rw [wta_3 h36 h41]; rfl) | (rw [wta_4 h51 h66]; rfl) | (rw [wta_5 hkp h26 (Or.inl h36) (Or.inl h51)]; rfl) | (rw [wta_5 hkp h26 (Or.inr h41) (Or.inl h51)]; rfl) | (rw [wta_5 hkp h26 (Or.inl h36) (Or.inr h66)]; rfl) | (rw [wta_5 hkp h26 (Or.inr h41) (Or.inr h66)]; rfl), rfl⟩
set_option maxHeartbeats 4000000 in
set_option maxRecDepth 100000 in
theorem c_M_kept (l : Launch) (D : va_G) (K : Nat → ClassId) (q : Nat → Nat) (hq : zI q) (n x : Int32) (σ : zm) : zMi l y_M_kept b_M_kept 3 (some .int) 2 D K q [.ref (q (104)), .int (n), .int (x)] σ (fun r σ' => r = wkpt σ n x ∧ σ' = wz σ) := by
  refine zMi.of (own := "AppDeskModel") (lv := [(0, .ref (q (104))), (1, .int (n)), (2, .int (x))]) (by decide) rfl hq (Nat.le_of_ble_eq_true rfl) rfl ?_
  intro p e s m below meth c hC hr hlk
  refine g_aload_n hC d_M_kept_0 rfl rfl ?_
  refine g_iconst hC (0) d_M_kept_1 (by decide) rfl ?_
  refine g_putI hC _ 5 0 (by decide) rfl rfl fp_M_90 d_M_kept_2 rfl ?_
  refine g_aload_n hC d_M_kept_5 rfl rfl ?_
  refine g_iload_n hC d_M_kept_6 rfl rfl ?_
  refine g_goi hC rfl (z_runV hC (c_M_isApp l D K q hq _ _ ) yy_M_isApp yv_M_133 (by decide) rfl ⟨Nat.le_of_ble_eq_true rfl, Nat.le_of_ble_eq_true rfl⟩ ⟨Nat.zero_le _, Nat.zero_le _⟩ rfl (Nat.le_of_ble_eq_true rfl) d_M_kept_7) (fun r0 σ0 q0 => ?_)
  obtain ⟨rfl, w0⟩ := q0
  obtain rfl := w0.symm
  refine g_ifeq_b hC 50 d_M_kept_10 rfl rfl (fun h10 => ?_) (fun h10 => ?_)
  ·
    have ho : wkpt σ n x = 0 := by first | exact wkp_1 h10 | exact wkp_2 h19 | exact wkp_3 hc hcj h33
    refine g_iconst hC (0) d_M_kept_50 (by decide) rfl ?_
    exact g_iret hC hr hlk d_M_kept_51 ⟨ho.symm, rfl⟩
  ·
    have ha : wapp σ n = true := h10
    obtain ⟨k, hk, hx⟩ := zin_of (n := 8) (by decide) (wapp_in ha)
    have hc : (n).toNatClampNeg = k := by rw [hx]; exact nI_clamp (by omega)
    refine g_iload_n hC d_M_kept_13 rfl rfl ?_
    refine g_bipush hC (8) d_M_kept_14 (by decide) rfl ?_
    refine g_goi hC rfl (z_runS hC (c_M_in l D K q hq _ _ _) yy_M_in ys_M_93 ⟨Nat.le_of_ble_eq_true rfl, Nat.le_of_ble_eq_true rfl⟩ ⟨Nat.zero_le _, Nat.zero_le _⟩ rfl (Nat.le_of_ble_eq_true rfl) d_M_kept_16) (fun r1 σ1 q1 => ?_)
    obtain ⟨rfl, w1⟩ := q1
    obtain rfl := w1.symm
    refine g_ifeq_b hC 50 d_M_kept_19 rfl rfl (fun h19 => ?_) (fun h19 => ?_)
    ·
      have ho : wkpt σ n x = 0 := by first | exact wkp_1 h10 | exact wkp_2 h19 | exact wkp_3 hc hcj h33
      refine g_iconst hC (0) d_M_kept_50 (by decide) rfl ?_
      exact g_iret hC hr hlk d_M_kept_51 ⟨ho.symm, rfl⟩
    ·
      obtain ⟨j, hj, hxj⟩ := zin_of (n := 8) (by decide) h19
      have hcj : (x).toNatClampNeg = j := by rw [hxj]; exact nI_clamp (by omega)
      refine g_aload_n hC d_M_kept_22 rfl rfl ?_
      refine g_getR hC _ 5 15 _ (by decide) rfl rfl fl_M_50 d_M_kept_23 rfl ?_
      refine g_bipush hC (8) d_M_kept_26 (by decide) rfl ?_
      refine g_iload_n hC d_M_kept_28 rfl rfl ?_
      refine g_imul hC d_M_kept_29 rfl ?_
      refine g_top hC (nI (8 * k)) (by rw [hx]; exact pk_mul 8 k) ?_
      refine g_iload_n hC d_M_kept_30 rfl rfl ?_
      refine g_iadd hC d_M_kept_31 rfl ?_
      refine g_top hC (nI (8 * k + j)) (by rw [hxj]; exact nI_add (8 * k) j) ?_
      refine g_zaldV hC _ _ (8 * k + j) (σ 118 (8 * k + j)) (by rw [zu_row _ _ (by decide)]) (by decide) rfl rfl (by show 8 * k + j < 64; omega) (by decide) d_M_kept_32 rfl ?_
      refine g_if_eq hC 50 d_M_kept_33 rfl rfl (fun h33 => ?_) (fun h33 => ?_)
      ·
        have ho : wkpt σ n x = 0 := by first | exact wkp_1 h10 | exact wkp_2 h19 | exact wkp_3 hc hcj h33
        refine g_iconst hC (0) d_M_kept_50 (by decide) rfl ?_
        exact g_iret hC hr hlk d_M_kept_51 ⟨ho.symm, rfl⟩
      ·
        have ho : wkpt σ n x = σ 119 (8 * k + j) := wkp_4 h10 h19 hc hcj h33
        refine g_aload_n hC d_M_kept_36 rfl rfl ?_
        refine g_getR hC _ 5 16 _ (by decide) rfl rfl fl_M_53 d_M_kept_37 rfl ?_
        refine g_bipush hC (8) d_M_kept_40 (by decide) rfl ?_
        refine g_iload_n hC d_M_kept_42 rfl rfl ?_
        refine g_imul hC d_M_kept_43 rfl ?_
        refine g_top hC (nI (8 * k)) (by rw [hx]; exact pk_mul 8 k) ?_
        refine g_iload_n hC d_M_kept_44 rfl rfl ?_
        refine g_iadd hC d_M_kept_45 rfl ?_
        refine g_top hC (nI (8 * k + j)) (by rw [hxj]; exact nI_add (8 * k) j) ?_
        refine g_ialdV hC _ _ (8 * k + j) (σ 119 (8 * k + j)) (by rw [zu_row _ _ (by decide)]) (by decide) rfl rfl (by show 8 * k + j < 64; omega) (by decide) d_M_kept_46 rfl ?_
        refine g_goto hC 51 d_M_kept_47 rfl ?_
        exact g_iret hC hr hlk d_M_kept_51 ⟨ho.symm, rfl⟩
set_option maxHeartbeats 4000000 in
set_option maxRecDepth 100000 in
theorem c_M_queued (l : Launch) (D : va_G) (K : Nat → ClassId) (q : Nat → Nat) (hq : zI q) (σ : zm) : zMi l y_M_queued b_M_queued 1 (some .int) 0 D K q [.ref (q (104))] σ (fun r σ' => r = σ 104 24 ∧ σ' = wz σ) := by
  refine zMi.of (own := "AppDeskModel") (lv := [(0, .ref (q (104)))]) (by decide) rfl hq (Nat.le_of_ble_eq_true rfl) rfl ?_
  intro p e s m below meth c hC hr hlk
  refine g_aload_n hC d_M_queued_0 rfl rfl ?_
  refine g_iconst hC (0) d_M_queued_1 (by decide) rfl ?_
  refine g_putI hC _ 5 0 (by decide) rfl rfl fp_M_90 d_M_queued_2 rfl ?_
  refine g_aload_n hC d_M_queued_5 rfl rfl ?_
  refine g_getV hC _ 5 24 (σ 104 24) (zu_ne _ _ (Or.inr (by decide))) (by decide) rfl rfl fl_M_136 d_M_queued_6 rfl ?_
  exact g_iret hC hr hlk d_M_queued_9 ⟨rfl, rfl⟩
set_option maxHeartbeats 4000000 in
set_option maxRecDepth 100000 in
theorem c_M_top (l : Launch) (D : va_G) (K : Nat → ClassId) (q : Nat → Nat) (hq : zI q) (a b h : Nat) (ha : a < 8) (hb : b < h) (hh : h ≤ 6) (σ : zm) (e0 : σ 123 a = nI h) : zMi l y_M_top b_M_top 3 (some .int) 0 D K q [.ref (q (104)), .int (nI a), .int (nI b)] σ (fun r σ' => r = σ 124 (6 * a + (h - 1 - b)) ∧ σ' = σ) := by
  refine zMi.of (own := "AppDeskModel") (lv := [(0, .ref (q (104))), (1, .int (nI a)), (2, .int (nI b))]) (by decide) rfl hq (Nat.le_of_ble_eq_true rfl) rfl ?_
  intro p e s m below meth c hC hr hlk
  refine g_aload_n hC d_M_top_0 rfl rfl ?_
  refine g_getR hC _ 5 21 _ (by decide) rfl rfl fl_M_68 d_M_top_1 rfl ?_
  refine g_bipush hC (6) d_M_top_4 (by decide) rfl ?_
  refine g_iload_n hC d_M_top_6 rfl rfl ?_
  refine g_imul hC d_M_top_7 rfl ?_
  refine g_top hC (nI (6 * a)) (pk_mul 6 a) ?_
  refine g_aload_n hC d_M_top_8 rfl rfl ?_
  refine g_getR hC _ 5 20 _ (by decide) rfl rfl fl_M_65 d_M_top_9 rfl ?_
  refine g_iload_n hC d_M_top_12 rfl rfl ?_
  refine g_ialdV hC _ _ a (nI h) (e0) (by decide) rfl rfl ha (by decide) d_M_top_13 rfl ?_
  refine g_iadd hC d_M_top_14 rfl ?_
  refine g_top hC (nI (6 * a + h)) (nI_add (6 * a) h) ?_
  refine g_iconst hC (1) d_M_top_15 (by decide) rfl ?_
  refine g_isub hC d_M_top_16 rfl ?_
  refine g_top hC (nI (6 * a + h - 1)) (pk_sub (a := 6 * a + h) (b := 1) (by omega)) ?_
  refine g_iload_n hC d_M_top_17 rfl rfl ?_
  refine g_isub hC d_M_top_18 rfl ?_
  refine g_top hC (nI (6 * a + (h - 1 - b))) (by rw [show 6 * a + (h - 1 - b) = 6 * a + h - 1 - b by omega]; exact pk_sub (by omega)) ?_
  refine g_iald hC _ _ (6 * a + (h - 1 - b)) (by decide) rfl rfl (by show 6 * a + (h - 1 - b) < 48; omega) (by decide) d_M_top_19 rfl ?_
  exact g_iret hC hr hlk d_M_top_20 ⟨rfl, rfl⟩
set_option maxHeartbeats 4000000 in
set_option maxRecDepth 100000 in
theorem c_M_push (l : Launch) (D : va_G) (K : Nat → ClassId) (q : Nat → Nat) (hq : zI q) (a h : Nat) (ha : a < 8) (hh : h < 6) (v : Int32) (σ : zm) (e0 : σ 123 a = nI h) : zMv l y_M_push b_M_push 3 none 0 D K q [.ref (q (104)), .int (nI a), .int (v)] σ (fun σ' => σ' = wpsh σ a h v) := by
  refine zMv.of (own := "AppDeskModel") (lv := [(0, .ref (q (104))), (1, .int (nI a)), (2, .int (v))]) (by decide) rfl hq (Nat.le_of_ble_eq_true rfl) rfl ?_
  intro p e s m below meth c hC hr hlk
  refine g_aload_n hC d_M_push_0 rfl rfl ?_
  refine g_getR hC _ 5 21 _ (by decide) rfl rfl fl_M_68 d_M_push_1 rfl ?_
  refine g_bipush hC (6) d_M_push_4 (by decide) rfl ?_
  refine g_iload_n hC d_M_push_6 rfl rfl ?_
  refine g_imul hC d_M_push_7 rfl ?_
  refine g_top hC (nI (6 * a)) (pk_mul 6 a) ?_
  refine g_aload_n hC d_M_push_8 rfl rfl ?_
  refine g_getR hC _ 5 20 _ (by decide) rfl rfl fl_M_65 d_M_push_9 rfl ?_
  refine g_iload_n hC d_M_push_12 rfl rfl ?_
  refine g_ialdV hC _ _ a (nI h) (e0) (by decide) rfl rfl ha (by decide) d_M_push_13 rfl ?_
  refine g_iadd hC d_M_push_14 rfl ?_
  refine g_top hC (nI (6 * a + h)) (nI_add (6 * a) h) ?_
  refine g_iload_n hC d_M_push_15 rfl rfl ?_
  refine g_iast hC _ _ (6 * a + h) (by decide) rfl rfl (by show 6 * a + h < 48; omega) (by decide) d_M_push_16 rfl ?_
  refine g_aload_n hC d_M_push_17 rfl rfl ?_
  refine g_getR hC _ 5 20 _ (by decide) rfl rfl fl_M_65 d_M_push_18 rfl ?_
  refine g_iload_n hC d_M_push_21 rfl rfl ?_
  refine g_dup2 hC d_M_push_22 rfl rfl rfl ?_
  refine g_ialdV hC _ _ a (nI h) (by rw [zu_row _ _ (by decide)]; exact e0) (by decide) rfl rfl ha (by decide) d_M_push_23 rfl ?_
  refine g_iconst hC (1) d_M_push_24 (by decide) rfl ?_
  refine g_iadd hC d_M_push_25 rfl ?_
  refine g_top hC (nI (h + 1)) (nI_1 h) ?_
  refine g_iast hC _ _ a (by decide) rfl rfl ha (by decide) d_M_push_26 rfl ?_
  exact g_vret hC hr hlk d_M_push_27 rfl
set_option maxHeartbeats 4000000 in
set_option maxRecDepth 100000 in
theorem c_M_keys (l : Launch) (D : va_G) (K : Nat → ClassId) (q : Nat → Nat) (hq : zI q) (a : Nat) (ha : a < 8) (σ : zm) : zMi l y_M_keys b_M_keys 4 (some .int) 0 D K q [.ref (q (104)), .int (nI a)] σ (fun r σ' => r = nI (wcnt σ a 8) ∧ σ' = σ) := by
  refine zMi.of (own := "AppDeskModel") (lv := [(0, .ref (q (104))), (1, .int (nI a))]) (by decide) rfl hq (Nat.le_of_ble_eq_true rfl) rfl ?_
  intro p e s m below meth c hC hr hlk
  have J4 : ∀ (f : Nat) (k : Nat) (hif : k + f = 8), zG p l e (zrm 0) s m ([.ref (q (104)), .int (nI a)] : List Value).toArray below meth c D K q (zA q) 4 0 0 (MQ below (va_Qi (fun r σ' => r = nI (wcnt σ a 8) ∧ σ' = σ) (zO D K q) (zA q)) ([.ref (q (104)), .int (nI a)] : List Value).toArray s 0 0 (zA q)) σ 4 [(0, .ref (q (104))), (1, .int (nI a)), (2, .int (nI (wcnt σ a k))), (3, .int (nI k))] [] := by
    intro f
    induction f with
    | zero =>
      intro k hif
      refine g_iload_n hC d_M_keys_4 rfl rfl ?_
      refine g_bipush hC (8) d_M_keys_5 (by decide) rfl ?_
      refine g_icmp_ge hC 38 d_M_keys_7 rfl rfl (fun h7 => ?_) (fun h7 => absurd (nI_le (a := 8) (b := k) (by omega) (by omega)) h7)
      refine g_iload_n hC d_M_keys_38 rfl rfl ?_
      exact g_iret hC hr hlk d_M_keys_39 ⟨by rw [show k = 8 by omega], rfl⟩
    | succ f ih =>
      intro k hif
      refine g_iload_n hC d_M_keys_4 rfl rfl ?_
      refine g_bipush hC (8) d_M_keys_5 (by decide) rfl ?_
      refine g_icmp_ge hC 38 d_M_keys_7 rfl rfl (fun h7 => absurd h7 (nI_ge (a := k) (b := 8) (by omega) (by omega))) (fun h7 => ?_)
      refine g_aload_n hC d_M_keys_10 rfl rfl ?_
      refine g_getR hC _ 5 15 _ (by decide) rfl rfl fl_M_50 d_M_keys_11 rfl ?_
      refine g_bipush hC (8) d_M_keys_14 (by decide) rfl ?_
      refine g_iload_n hC d_M_keys_16 rfl rfl ?_
      refine g_imul hC d_M_keys_17 rfl ?_
      refine g_top hC (nI (8 * a)) (pk_mul 8 a) ?_
      refine g_iload_n hC d_M_keys_18 rfl rfl ?_
      refine g_iadd hC d_M_keys_19 rfl ?_
      refine g_top hC (nI (8 * a + k)) (nI_add (8 * a) k) ?_
      refine g_zald hC _ _ (8 * a + k) (by decide) rfl rfl (by show 8 * a + k < 64; omega) (by decide) d_M_keys_20 rfl ?_
      refine g_if_eq hC 30 d_M_keys_21 rfl rfl (fun h21 => ?_) (fun h21 => ?_)
      ·
        refine g_iload_n hC d_M_keys_30 rfl rfl ?_
        refine g_istore_n hC d_M_keys_31 rfl (by decide) ?_
        refine g_iinc hC (nI (k + 1)) d_M_keys_32 rfl rfl (nI_succ _).symm (by decide) ?_
        refine g_goto hC 4 d_M_keys_35 rfl ?_
        first | exact zG.to (ih (k + 1) (by omega)) rfl rfl ⟨rfl, rfl, congrArg (fun z => some (Value.int (nI z))) (wcnt_f h21).symm, rfl, trivial⟩ | exact zG.to (ih (k + 1) (by omega)) rfl rfl ⟨rfl, rfl, rfl, rfl, trivial⟩
      ·
        refine g_iload_n hC d_M_keys_24 rfl rfl ?_
        refine g_iconst hC (1) d_M_keys_25 (by decide) rfl ?_
        refine g_iadd hC d_M_keys_26 rfl ?_
        refine g_top hC (nI (wcnt σ a (k + 1))) (by rw [wcnt_t h21, nI_1]) ?_
        refine g_goto hC 31 d_M_keys_27 rfl ?_
        refine g_istore_n hC d_M_keys_31 rfl (by decide) ?_
        refine g_iinc hC (nI (k + 1)) d_M_keys_32 rfl rfl (nI_succ _).symm (by decide) ?_
        refine g_goto hC 4 d_M_keys_35 rfl ?_
        first | exact zG.to (ih (k + 1) (by omega)) rfl rfl ⟨rfl, rfl, congrArg (fun z => some (Value.int (nI z))) (wcnt_f h21).symm, rfl, trivial⟩ | exact zG.to (ih (k + 1) (by omega)) rfl rfl ⟨rfl, rfl, rfl, rfl, trivial⟩
  refine g_iconst hC (0) d_M_keys_0 (by decide) rfl ?_
  refine g_istore_n hC d_M_keys_1 rfl (by decide) ?_
  refine g_iconst hC (0) d_M_keys_2 (by decide) rfl ?_
  refine g_istore_n hC d_M_keys_3 rfl (by decide) ?_
  exact zG.to (J4 8 0 (by omega)) rfl rfl ⟨rfl, rfl, rfl, rfl, trivial⟩
