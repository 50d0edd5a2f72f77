/-! the desk's methods -/
def zdok (n v g : Int32) : Bool := zin n 8 && zin g 4 && decide (1 ≤ v)
def zpok (a g : Int32) (n : Nat) : Bool := zin a 10 && (decide (g = -1) || zin g 8) && decide (n < 4)
def zaok (σ : zm) (x : Int32) : Bool := zin x 8 && !zhas (σ (zp 8) 4) x 8
def zeok (σ : zm) (x v : Int32) : Bool := zin x 8 && zin v 3 && !zdec σ 8 x
def zinst (σ : zm) (x : Int32) : Bool := zin x 8 && !decide (σ (za x.toNatClampNeg) 0 = 0)
theorem zinst_in {σ : zm} {x : Int32} (h : zinst σ x = true) : zin x 8 = true := by
  unfold zinst at h
  exact (Bool.and_eq_true _ _ ▸ h).1
/-- the first of f numbers from i on that P has; -1 if there is none -/
def zfst (P : Nat → Bool) : Nat → Nat → Int32
  | 0, _ => -1
  | f + 1, i => if P i then nI i else zfst P f (i + 1)
theorem zfst_t {P : Nat → Bool} {f i : Nat} (h : P i = true) : zfst P (f + 1) i = nI i := if_pos h
theorem zfst_f {P : Nat → Bool} {f i : Nat} (h : P i = false) : zfst P (f + 1) i = zfst P f (i + 1) := if_neg (zif_f h)
theorem zfst_of {P : Nat → Bool} : ∀ {f i : Nat}, ¬ zfst P f i = -1 → ∃ k, i ≤ k ∧ k < i + f ∧ zfst P f i = nI k ∧ P k = true
  | 0, _, h => absurd rfl h
  | f + 1, i, h => by
    cases hp : P i with
    | true => exact ⟨i, by omega, by omega, zfst_t hp, hp⟩
    | false =>
      rw [zfst_f hp] at h ⊢
      obtain ⟨k, h1, h2, h3⟩ := zfst_of h
      exact ⟨k, by omega, by omega, h3⟩
def zhit (σ : zm) (x : Int32) (n : Nat) : Bool := !decide (σ (za n) 0 = 0) && zdec σ n x
def zdcl (σ : zm) (x : Int32) : Int32 := zfst (zhit σ x) 8 0
theorem zdcl_of {σ : zm} {x : Int32} (h : ¬ zdcl σ x = -1) : ∃ d, d < 8 ∧ zdcl σ x = nI d := by
  obtain ⟨k, -, h2, h3, -⟩ := zfst_of h
  exact ⟨k, by omega, h3⟩
def zoth (σ : zm) (x n : Int32) : Bool := !decide (zdcl σ x = -1) && !decide (zdcl σ x = n)
def zhold (σ : zm) (n x : Int32) : Bool := zinst σ n && zhas (σ (zp n.toNatClampNeg) 4) x 8 && !decide (zdcl σ x = -1) && (if σ (zp (zdcl σ x).toNatClampNeg + 1) x.toNatClampNeg = 0 then true else if σ (zp (zdcl σ x).toNatClampNeg + 1) x.toNatClampNeg = 1 then zhas (σ (za n.toNatClampNeg) 2) x 8 else decide (σ (zp n.toNatClampNeg) 2 = σ (zp (zdcl σ x).toNatClampNeg) 2))
theorem zhold_1 {σ : zm} {n x : Int32} (h : zinst σ n = false) : zhold σ n x = false := by simp [zhold, h]
theorem zhold_2 {σ : zm} {n x : Int32} {k : Nat} (hc : n.toNatClampNeg = k) (h : zhas (σ (zp k) 4) x 8 = false) : zhold σ n x = false := by simp [zhold, hc, h]
theorem zhold_3 {σ : zm} {n x : Int32} (h : zdcl σ x = -1) : zhold σ n x = false := by simp [zhold, h]
theorem zhold_4 {σ : zm} {n x : Int32} {k d j : Nat} (h1 : zinst σ n = true) (hc : n.toNatClampNeg = k) (h2 : zhas (σ (zp k) 4) x 8 = true) (h3 : ¬ zdcl σ x = -1) (hd : (zdcl σ x).toNatClampNeg = d) (hj : x.toNatClampNeg = j) (h4 : σ (zp d + 1) j = 0) : zhold σ n x = true := by simp [zhold, h1, hc, h2, h3, hd, hj, h4]
theorem zhold_5 {σ : zm} {n x : Int32} {k d j : Nat} (h1 : zinst σ n = true) (hc : n.toNatClampNeg = k) (h2 : zhas (σ (zp k) 4) x 8 = true) (h3 : ¬ zdcl σ x = -1) (hd : (zdcl σ x).toNatClampNeg = d) (hj : x.toNatClampNeg = j) (h4 : ¬ σ (zp d + 1) j = 0) (h5 : σ (zp d + 1) j = 1) : zhold σ n x = zhas (σ (za k) 2) x 8 := by
  unfold zhold
  rw [hc, hd, hj, h1, h2, decide_eq_false h3, if_neg h4, if_pos h5]
  rfl
theorem zhold_6 {σ : zm} {n x : Int32} {k d j : Nat} (h1 : zinst σ n = true) (hc : n.toNatClampNeg = k) (h2 : zhas (σ (zp k) 4) x 8 = true) (h3 : ¬ zdcl σ x = -1) (hd : (zdcl σ x).toNatClampNeg = d) (hj : x.toNatClampNeg = j) (h4 : ¬ σ (zp d + 1) j = 0) (h5 : ¬ σ (zp d + 1) j = 1) : zhold σ n x = decide (σ (zp k) 2 = σ (zp d) 2) := by
  unfold zhold
  rw [hc, hd, hj, h1, h2, decide_eq_false h3, if_neg h4, if_neg h5]
  rfl
def zgua (σ : zm) (n x : Int32) : Bool := decide (x = -1) || zhold σ n x
set_option maxHeartbeats 4000000 in
set_option maxRecDepth 100000 in
theorem c_D_draft (l : Launch) (D : va_G) (K : Nat → ClassId) (q : Nat → Nat) (hq : zI q) (n v g : Int32) (σ : zm) : zMi l y_D_draft b_D_draft 4 (some .boolean) 2 D K q [.ref (q (0)), .int (n), .int (v), .int (g)] σ (fun r σ' => r = zb (zdok n v g) ∧ σ' = if zdok n v g then zbeg σ 8 n v g else σ) := by
  refine zMi.of (own := "AppDesk") (lv := [(0, .ref (q (0))), (1, .int (n)), (2, .int (v)), (3, .int (g))]) (by decide) rfl hq (Nat.le_of_ble_eq_true rfl) rfl ?_
  intro p e s m below meth c hC hr hlk
  refine g_iload_n hC d_D_draft_0 rfl rfl ?_
  refine g_bipush hC (8) d_D_draft_1 (by decide) rfl ?_
  refine g_goi hC rfl (z_runS hC (c_D_isBelow l D K q hq _ _ _) yy_D_isBelow ys_D_41 ⟨Nat.le_of_ble_eq_true rfl, Nat.le_of_ble_eq_true rfl⟩ ⟨Nat.zero_le _, Nat.zero_le _⟩ rfl (Nat.le_of_ble_eq_true rfl) d_D_draft_3) (fun r0 σ0 q0 => ?_)
  obtain ⟨rfl, w0⟩ := q0
  obtain rfl := w0.symm
  refine g_ifeq_b hC 22 d_D_draft_6 rfl rfl (fun h6 => ?_) (fun h6 => ?_)
  ·
    have hok : zdok n v g = false := by first | (simp [zdok, h6]; done) | (simp [zdok, h6, h14]; done) | (simp [zdok, h6, h14, h19]; done)
    refine g_iconst hC (0) d_D_draft_22 (by decide) rfl ?_
    exact g_zret hC hr hlk d_D_draft_23 (Or.inl rfl) ⟨by rw [hok]; rfl, (if_neg (zif_f hok)).symm⟩
  ·
    refine g_iload_n hC d_D_draft_9 rfl rfl ?_
    refine g_iconst hC (4) d_D_draft_10 (by decide) rfl ?_
    refine g_goi hC rfl (z_runS hC (c_D_isBelow l D K q hq _ _ _) yy_D_isBelow ys_D_41 ⟨Nat.le_of_ble_eq_true rfl, Nat.le_of_ble_eq_true rfl⟩ ⟨Nat.zero_le _, Nat.zero_le _⟩ rfl (Nat.le_of_ble_eq_true rfl) d_D_draft_11) (fun r1 σ1 q1 => ?_)
    obtain ⟨rfl, w1⟩ := q1
    obtain rfl := w1.symm
    refine g_ifeq_b hC 22 d_D_draft_14 rfl rfl (fun h14 => ?_) (fun h14 => ?_)
    ·
      have hok : zdok n v g = false := by first | (simp [zdok, h6]; done) | (simp [zdok, h6, h14]; done) | (simp [zdok, h6, h14, h19]; done)
      refine g_iconst hC (0) d_D_draft_22 (by decide) rfl ?_
      exact g_zret hC hr hlk d_D_draft_23 (Or.inl rfl) ⟨by rw [hok]; rfl, (if_neg (zif_f hok)).symm⟩
    ·
      refine g_iload_n hC d_D_draft_17 rfl rfl ?_
      refine g_iconst hC (1) d_D_draft_18 (by decide) rfl ?_
      refine g_icmp_ge hC 24 d_D_draft_19 rfl rfl (fun h19 => ?_) (fun h19 => ?_)
      ·
        have hok : zdok n v g = true := by simp [zdok, h6, h14, h19]
        refine g_aload_n hC d_D_draft_24 rfl rfl ?_
        refine g_getR hC _ 0 0 _ (by decide) rfl rfl fl_D_10 d_D_draft_25 rfl ?_
        refine g_iload_n hC d_D_draft_28 rfl rfl ?_
        refine g_iload_n hC d_D_draft_29 rfl rfl ?_
        refine g_iload_n hC d_D_draft_30 rfl rfl ?_
        refine g_gov hC rfl (z_runV hC (c_P_beginAnew l D K q hq _ (by decide : 8 < 9) _ _ _ _) yy_P_beginAnew yv_D_45 (zp_lt (by decide : 8 < 9)) (zS_p (by decide : 8 < 9)) ⟨Nat.le_of_ble_eq_true rfl, Nat.le_of_ble_eq_true rfl⟩ ⟨Nat.zero_le _, Nat.zero_le _⟩ rfl (Nat.le_of_ble_eq_true rfl) d_D_draft_31) (fun σ2 q2 => ?_)
        obtain rfl := q2.symm
        refine g_iconst hC (1) d_D_draft_34 (by decide) rfl ?_
        exact g_zret hC hr hlk d_D_draft_35 (Or.inr rfl) ⟨by rw [hok]; rfl, (if_pos hok).symm⟩
      ·
        have hok : zdok n v g = false := by first | (simp [zdok, h6]; done) | (simp [zdok, h6, h14]; done) | (simp [zdok, h6, h14, h19]; done)
        refine g_iconst hC (0) d_D_draft_22 (by decide) rfl ?_
        exact g_zret hC hr hlk d_D_draft_23 (Or.inl rfl) ⟨by rw [hok]; rfl, (if_neg (zif_f hok)).symm⟩
set_option maxHeartbeats 4000000 in
set_option maxRecDepth 100000 in
theorem c_D_word (l : Launch) (D : va_G) (K : Nat → ClassId) (q : Nat → Nat) (hq : zI q) (w : Int32) (σ : zm) (n : Nat) (hn : n ≤ 24) (h : σ (zp 8) 11 = nI n) : zMi l y_D_word b_D_word 2 (some .boolean) 1 D K q [.ref (q (0)), .int (w)] σ (fun r σ' => r = zb (decide (n < 24)) ∧ σ' = if n < 24 then zu (zu σ (zp 8 + 6) n w) (zp 8) 11 (nI (n + 1)) else σ) := by
  refine zMi.of (own := "AppDesk") (lv := [(0, .ref (q (0))), (1, .int (w))]) (by decide) rfl hq (Nat.le_of_ble_eq_true rfl) rfl ?_
  intro p e s m below meth c hC hr hlk
  refine g_aload_n hC d_D_word_0 rfl rfl ?_
  refine g_getR hC _ 0 0 _ (by decide) rfl rfl fl_D_10 d_D_word_1 rfl ?_
  refine g_iload_n hC d_D_word_4 rfl rfl ?_
  refine g_goi hC rfl (z_runV hC (c_P_addWord l D K q hq _ (by decide : 8 < 9) _ _ n hn h) yy_P_addWord yv_D_49 (zp_lt (by decide : 8 < 9)) (zS_p (by decide : 8 < 9)) ⟨Nat.le_of_ble_eq_true rfl, Nat.le_of_ble_eq_true rfl⟩ ⟨Nat.zero_le _, Nat.zero_le _⟩ rfl (Nat.le_of_ble_eq_true rfl) d_D_word_5) (fun r0 σ0 q0 => ?_)
  obtain ⟨rfl, w0⟩ := q0
  obtain rfl := w0.symm
  exact g_zret hC hr hlk d_D_word_8 (zb01 _) ⟨rfl, rfl⟩
set_option maxHeartbeats 4000000 in
set_option maxRecDepth 100000 in
theorem c_D_part (l : Launch) (D : va_G) (K : Nat → ClassId) (q : Nat → Nat) (hq : zI q) (a : Int32) (b : Bool) (g p0 : Int32) (σ : zm) (n : Nat) (hn : n ≤ 4) (h : σ (zp 8) 6 = nI n) : zMi l y_D_part b_D_part 5 (some .boolean) 1 D K q [.ref (q (0)), .int (a), .int (zb b), .int (g), .int (p0)] σ (fun r σ' => r = zb (zpok a g n) ∧ σ' = if zpok a g n then zpar σ 8 n a (zb b) g p0 else σ) := by
  refine zMi.of (own := "AppDesk") (lv := [(0, .ref (q (0))), (1, .int (a)), (2, .int (zb b)), (3, .int (g)), (4, .int (p0))]) (by decide) rfl hq (Nat.le_of_ble_eq_true rfl) rfl ?_
  intro p e s m below meth c hC hr hlk
  refine g_iload_n hC d_D_part_0 rfl rfl ?_
  refine g_bipush hC (10) d_D_part_1 (by decide) rfl ?_
  refine g_goi hC rfl (z_runS hC (c_D_isBelow l D K q hq _ _ _) yy_D_isBelow ys_D_41 ⟨Nat.le_of_ble_eq_true rfl, Nat.le_of_ble_eq_true rfl⟩ ⟨Nat.zero_le _, Nat.zero_le _⟩ rfl (Nat.le_of_ble_eq_true rfl) d_D_part_3) (fun r0 σ0 q0 => ?_)
  obtain ⟨rfl, w0⟩ := q0
  obtain rfl := w0.symm
  refine g_ifeq_b hC 23 d_D_part_6 rfl rfl (fun h6 => ?_) (fun h6 => ?_)
  ·
    have hok : zpok a g n = false := by first | (simp [zpok, h6]; done) | (simp [zpok, h6, h11, h20]; done)
    refine g_iconst hC (0) d_D_part_23 (by decide) rfl ?_
    exact g_zret hC hr hlk d_D_part_24 (Or.inl rfl) ⟨by rw [hok]; rfl, (if_neg (zif_f hok)).symm⟩
  ·
    refine g_iload_n hC d_D_part_9 rfl rfl ?_
    refine g_iconst hC (-1) d_D_part_10 (by decide) rfl ?_
    refine g_icmp_eq hC 25 d_D_part_11 rfl rfl (fun h11 => ?_) (fun h11 => ?_)
    ·
      have hok : zpok a g n = decide (n < 4) := by first | (simp [zpok, h6, h11]; done) | (simp [zpok, h6, h11, h20]; done)
      refine g_aload_n hC d_D_part_25 rfl rfl ?_
      refine g_getR hC _ 0 0 _ (by decide) rfl rfl fl_D_10 d_D_part_26 rfl ?_
      refine g_iload_n hC d_D_part_29 rfl rfl ?_
      refine g_iload_n hC d_D_part_30 rfl rfl ?_
      refine g_iload_n hC d_D_part_31 rfl rfl ?_
      refine g_iload hC d_D_part_32 rfl rfl ?_
      refine g_goi hC rfl (z_runV hC (c_P_addPart l D K q hq _ (by decide : 8 < 9) _ _ _ _ _ n hn h) yy_P_addPart yv_D_53 (zp_lt (by decide : 8 < 9)) (zS_p (by decide : 8 < 9)) ⟨Nat.le_of_ble_eq_true rfl, Nat.le_of_ble_eq_true rfl⟩ ⟨Nat.zero_le _, Nat.zero_le _⟩ rfl (Nat.le_of_ble_eq_true rfl) d_D_part_34) (fun r1 σ1 q1 => ?_)
      obtain ⟨rfl, w1⟩ := q1
      obtain rfl := w1.symm
      exact g_zret hC hr hlk d_D_part_37 (zb01 _) ⟨by rw [hok], by rw [hok]; by_cases z : n < 4 <;> simp [z]⟩
    ·
      refine g_iload_n hC d_D_part_14 rfl rfl ?_
      refine g_bipush hC (8) d_D_part_15 (by decide) rfl ?_
      refine g_goi hC rfl (z_runS hC (c_D_isBelow l D K q hq _ _ _) yy_D_isBelow ys_D_41 ⟨Nat.le_of_ble_eq_true rfl, Nat.le_of_ble_eq_true rfl⟩ ⟨Nat.zero_le _, Nat.zero_le _⟩ rfl (Nat.le_of_ble_eq_true rfl) d_D_part_17) (fun r2 σ2 q2 => ?_)
      obtain ⟨rfl, w2⟩ := q2
      obtain rfl := w2.symm
      refine g_ifne_b hC 25 d_D_part_20 rfl rfl (fun h20 => ?_) (fun h20 => ?_)
      ·
        have hok : zpok a g n = decide (n < 4) := by first | (simp [zpok, h6, h11]; done) | (simp [zpok, h6, h11, h20]; done)
        refine g_aload_n hC d_D_part_25 rfl rfl ?_
        refine g_getR hC _ 0 0 _ (by decide) rfl rfl fl_D_10 d_D_part_26 rfl ?_
        refine g_iload_n hC d_D_part_29 rfl rfl ?_
        refine g_iload_n hC d_D_part_30 rfl rfl ?_
        refine g_iload_n hC d_D_part_31 rfl rfl ?_
        refine g_iload hC d_D_part_32 rfl rfl ?_
        refine g_goi hC rfl (z_runV hC (c_P_addPart l D K q hq _ (by decide : 8 < 9) _ _ _ _ _ n hn h) yy_P_addPart yv_D_53 (zp_lt (by decide : 8 < 9)) (zS_p (by decide : 8 < 9)) ⟨Nat.le_of_ble_eq_true rfl, Nat.le_of_ble_eq_true rfl⟩ ⟨Nat.zero_le _, Nat.zero_le _⟩ rfl (Nat.le_of_ble_eq_true rfl) d_D_part_34) (fun r3 σ3 q3 => ?_)
        obtain ⟨rfl, w3⟩ := q3
        obtain rfl := w3.symm
        exact g_zret hC hr hlk d_D_part_37 (zb01 _) ⟨by rw [hok], by rw [hok]; by_cases z : n < 4 <;> simp [z]⟩
      ·
        have hok : zpok a g n = false := by first | (simp [zpok, h6]; done) | (simp [zpok, h6, h11, h20]; done)
        refine g_iconst hC (0) d_D_part_23 (by decide) rfl ?_
        exact g_zret hC hr hlk d_D_part_24 (Or.inl rfl) ⟨by rw [hok]; rfl, (if_neg (zif_f hok)).symm⟩
set_option maxHeartbeats 4000000 in
set_option maxRecDepth 100000 in
theorem c_D_ask (l : Launch) (D : va_G) (K : Nat → ClassId) (q : Nat → Nat) (hq : zI q) (x : Int32) (σ : zm) : zMi l y_D_ask b_D_ask 2 (some .boolean) 3 D K q [.ref (q (0)), .int (x)] σ (fun r σ' => r = zb (zaok σ x) ∧ σ' = if zaok σ x then zu σ (zp 8) 4 (σ (zp 8) 4 ||| (1 <<< (x &&& 31))) else σ) := by
  refine zMi.of (own := "AppDesk") (lv := [(0, .ref (q (0))), (1, .int (x))]) (by decide) rfl hq (Nat.le_of_ble_eq_true rfl) rfl ?_
  intro p e s m below meth c hC hr hlk
  refine g_iload_n hC d_D_ask_0 rfl rfl ?_
  refine g_bipush hC (8) d_D_ask_1 (by decide) rfl ?_
  refine g_goi hC rfl (z_runS hC (c_D_isBelow l D K q hq _ _ _) yy_D_isBelow ys_D_41 ⟨Nat.le_of_ble_eq_true rfl, Nat.le_of_ble_eq_true rfl⟩ ⟨Nat.zero_le _, Nat.zero_le _⟩ rfl (Nat.le_of_ble_eq_true rfl) d_D_ask_3) (fun r0 σ0 q0 => ?_)
  obtain ⟨rfl, w0⟩ := q0
  obtain rfl := w0.symm
  refine g_ifeq_b hC 20 d_D_ask_6 rfl rfl (fun h6 => ?_) (fun h6 => ?_)
  ·
    have hok : zaok σ x = false := by first | (simp [zaok, h6]; done) | (simp [zaok, h6, h17]; done)
    refine g_iconst hC (0) d_D_ask_20 (by decide) rfl ?_
    exact g_zret hC hr hlk d_D_ask_21 (Or.inl rfl) ⟨by rw [hok]; rfl, (if_neg (zif_f hok)).symm⟩
  ·
    refine g_aload_n hC d_D_ask_9 rfl rfl ?_
    refine g_getR hC _ 0 0 _ (by decide) rfl rfl fl_D_10 d_D_ask_10 rfl ?_
    refine g_iload_n hC d_D_ask_13 rfl rfl ?_
    refine g_goi hC rfl (z_runV hC (c_P_asksFor l D K q hq _ (by decide : 8 < 9) _ _) yy_P_asksFor yv_D_57 (zp_lt (by decide : 8 < 9)) (zS_p (by decide : 8 < 9)) ⟨Nat.le_of_ble_eq_true rfl, Nat.le_of_ble_eq_true rfl⟩ ⟨Nat.zero_le _, Nat.zero_le _⟩ rfl (Nat.le_of_ble_eq_true rfl) d_D_ask_14) (fun r1 σ1 q1 => ?_)
    obtain ⟨rfl, w1⟩ := q1
    obtain rfl := w1.symm
    refine g_ifeq_b hC 22 d_D_ask_17 rfl rfl (fun h17 => ?_) (fun h17 => ?_)
    ·
      have hok : zaok σ x = true := by simp [zaok, h6, h17]
      refine g_aload_n hC d_D_ask_22 rfl rfl ?_
      refine g_getR hC _ 0 0 _ (by decide) rfl rfl fl_D_10 d_D_ask_23 rfl ?_
      refine g_dup hC d_D_ask_26 rfl rfl ?_
      refine g_getI hC _ 1 4 (zp_lt (by decide : 8 < 9)) (zS_p (by decide : 8 < 9)) rfl fl_D_60 d_D_ask_27 rfl ?_
      refine g_iconst hC (1) d_D_ask_30 (by decide) rfl ?_
      refine g_iload_n hC d_D_ask_31 rfl rfl ?_
      refine g_ishl hC d_D_ask_32 rfl ?_
      refine g_ior hC d_D_ask_33 rfl ?_
      refine g_putI hC _ 1 4 (zp_lt (by decide : 8 < 9)) (zS_p (by decide : 8 < 9)) rfl fp_D_60 d_D_ask_34 rfl ?_
      refine g_iconst hC (1) d_D_ask_37 (by decide) rfl ?_
      exact g_zret hC hr hlk d_D_ask_38 (Or.inr rfl) ⟨by rw [hok]; rfl, (if_pos hok).symm⟩
    ·
      have hok : zaok σ x = false := by first | (simp [zaok, h6]; done) | (simp [zaok, h6, h17]; done)
      refine g_iconst hC (0) d_D_ask_20 (by decide) rfl ?_
      exact g_zret hC hr hlk d_D_ask_21 (Or.inl rfl) ⟨by rw [hok]; rfl, (if_neg (zif_f hok)).symm⟩
set_option maxHeartbeats 4000000 in
set_option maxRecDepth 100000 in
theorem c_D_declare (l : Launch) (D : va_G) (K : Nat → ClassId) (q : Nat → Nat) (hq : zI q) (x v : Int32) (σ : zm) : zMi l y_D_declare b_D_declare 3 (some .boolean) 2 D K q [.ref (q (0)), .int (x), .int (v)] σ (fun r σ' => r = zb (zeok σ x v) ∧ σ' = if zeok σ x v then zu σ (zp 8 + 1) x.toNatClampNeg v else σ) := by
  refine zMi.of (own := "AppDesk") (lv := [(0, .ref (q (0))), (1, .int (x)), (2, .int (v))]) (by decide) rfl hq (Nat.le_of_ble_eq_true rfl) rfl ?_
  intro p e s m below meth c hC hr hlk
  refine g_iload_n hC d_D_declare_0 rfl rfl ?_
  refine g_bipush hC (8) d_D_declare_1 (by decide) rfl ?_
  refine g_goi hC rfl (z_runS hC (c_D_isBelow l D K q hq _ _ _) yy_D_isBelow ys_D_41 ⟨Nat.le_of_ble_eq_true rfl, Nat.le_of_ble_eq_true rfl⟩ ⟨Nat.zero_le _, Nat.zero_le _⟩ rfl (Nat.le_of_ble_eq_true rfl) d_D_declare_3) (fun r0 σ0 q0 => ?_)
  obtain ⟨rfl, w0⟩ := q0
  obtain rfl := w0.symm
  refine g_ifeq_b hC 28 d_D_declare_6 rfl rfl (fun h6 => ?_) (fun h6 => ?_)
  ·
    have hok : zeok σ x v = false := by first | (simp [zeok, h6]; done) | (simp [zeok, h6, h14]; done) | (simp [zeok, h6, h14, h25]; done)
    refine g_iconst hC (0) d_D_declare_28 (by decide) rfl ?_
    exact g_zret hC hr hlk d_D_declare_29 (Or.inl rfl) ⟨by rw [hok]; rfl, (if_neg (zif_f hok)).symm⟩
  ·
    refine g_iload_n hC d_D_declare_9 rfl rfl ?_
    refine g_iconst hC (3) d_D_declare_10 (by decide) rfl ?_
    refine g_goi hC rfl (z_runS hC (c_D_isBelow l D K q hq _ _ _) yy_D_isBelow ys_D_41 ⟨Nat.le_of_ble_eq_true rfl, Nat.le_of_ble_eq_true rfl⟩ ⟨Nat.zero_le _, Nat.zero_le _⟩ rfl (Nat.le_of_ble_eq_true rfl) d_D_declare_11) (fun r1 σ1 q1 => ?_)
    obtain ⟨rfl, w1⟩ := q1
    obtain rfl := w1.symm
    refine g_ifeq_b hC 28 d_D_declare_14 rfl rfl (fun h14 => ?_) (fun h14 => ?_)
    ·
      have hok : zeok σ x v = false := by first | (simp [zeok, h6]; done) | (simp [zeok, h6, h14]; done) | (simp [zeok, h6, h14, h25]; done)
      refine g_iconst hC (0) d_D_declare_28 (by decide) rfl ?_
      exact g_zret hC hr hlk d_D_declare_29 (Or.inl rfl) ⟨by rw [hok]; rfl, (if_neg (zif_f hok)).symm⟩
    ·
      refine g_aload_n hC d_D_declare_17 rfl rfl ?_
      refine g_getR hC _ 0 0 _ (by decide) rfl rfl fl_D_10 d_D_declare_18 rfl ?_
      refine g_iload_n hC d_D_declare_21 rfl rfl ?_
      refine g_goi hC rfl (z_runV hC (c_P_declares l D K q hq _ (by decide : 8 < 9) _ _) yy_P_declares yv_D_63 (zp_lt (by decide : 8 < 9)) (zS_p (by decide : 8 < 9)) ⟨Nat.le_of_ble_eq_true rfl, Nat.le_of_ble_eq_true rfl⟩ ⟨Nat.zero_le _, Nat.zero_le _⟩ rfl (Nat.le_of_ble_eq_true rfl) d_D_declare_22) (fun r2 σ2 q2 => ?_)
      obtain ⟨rfl, w2⟩ := q2
      obtain rfl := w2.symm
      refine g_ifeq_b hC 30 d_D_declare_25 rfl rfl (fun h25 => ?_) (fun h25 => ?_)
      ·
        have hok : zeok σ x v = true := by simp [zeok, h6, h14, h25]
        obtain ⟨k, hk, hx⟩ := zin_of (n := 8) (by decide) h6
        have hc : (x).toNatClampNeg = k := by rw [hx]; exact nI_clamp (by omega)
        refine g_aload_n hC d_D_declare_30 rfl rfl ?_
        refine g_getR hC _ 0 0 _ (by decide) rfl rfl fl_D_10 d_D_declare_31 rfl ?_
        refine g_getR hC _ 1 5 _ (zp_lt (by decide : 8 < 9)) (zS_p (by decide : 8 < 9)) rfl fl_D_66 d_D_declare_34 rfl ?_
        refine g_iload_n hC d_D_declare_37 rfl rfl ?_
        refine g_iload_n hC d_D_declare_38 rfl rfl ?_
        refine g_iast hC _ _ k (zp_lt' (by decide : 8 < 9) 1 (by decide)) (zS_pr (by decide : 8 < 9) 1 (by decide)) hx hk (by decide) d_D_declare_39 rfl ?_
        refine g_iconst hC (1) d_D_declare_40 (by decide) rfl ?_
        exact g_zret hC hr hlk d_D_declare_41 (Or.inr rfl) ⟨by rw [hok]; rfl, by rw [if_pos hok, hc]⟩
      ·
        have hok : zeok σ x v = false := by first | (simp [zeok, h6]; done) | (simp [zeok, h6, h14]; done) | (simp [zeok, h6, h14, h25]; done)
        refine g_iconst hC (0) d_D_declare_28 (by decide) rfl ?_
        exact g_zret hC hr hlk d_D_declare_29 (Or.inl rfl) ⟨by rw [hok]; rfl, (if_neg (zif_f hok)).symm⟩
set_option maxHeartbeats 4000000 in
set_option maxRecDepth 100000 in
theorem c_D_sign (l : Launch) (D : va_G) (K : Nat → ClassId) (q : Nat → Nat) (hq : zI q) (σ : zm) (pn wn : Nat) (hpn : pn ≤ 4) (hwn : wn ≤ 24) (h6 : σ (zp 8) 6 = nI pn) (h11 : σ (zp 8) 11 = nI wn) : zMi l y_D_sign b_D_sign 1 (some .int) 4 D K q [.ref (q (0))] σ (fun r σ' => r = zsea σ 8 pn wn ∧ σ' = zu σ (zp 8) 3 (zsea σ 8 pn wn)) := by
  refine zMi.of (own := "AppDesk") (lv := [(0, .ref (q (0)))]) (by decide) rfl hq (Nat.le_of_ble_eq_true rfl) rfl ?_
  intro p e s m below meth c hC hr hlk
  refine g_aload_n hC d_D_sign_0 rfl rfl ?_
  refine g_getR hC _ 0 0 _ (by decide) rfl rfl fl_D_10 d_D_sign_1 rfl ?_
  refine g_aload_n hC d_D_sign_4 rfl rfl ?_
  refine g_getR hC _ 0 0 _ (by decide) rfl rfl fl_D_10 d_D_sign_5 rfl ?_
  refine g_goi hC rfl (z_runV hC (c_P_sealOfSigner l D K q hq _ (by decide : 8 < 9) _ pn wn hpn hwn h6 h11) yy_P_sealOfSigner yv_D_70 (zp_lt (by decide : 8 < 9)) (zS_p (by decide : 8 < 9)) ⟨Nat.le_of_ble_eq_true rfl, Nat.le_of_ble_eq_true rfl⟩ ⟨Nat.zero_le _, Nat.zero_le _⟩ rfl (Nat.le_of_ble_eq_true rfl) d_D_sign_8) (fun r0 σ0 q0 => ?_)
  obtain ⟨rfl, w0⟩ := q0
  obtain rfl := w0.symm
  refine g_putI hC _ 1 3 (zp_lt (by decide : 8 < 9)) (zS_p (by decide : 8 < 9)) rfl fp_D_74 d_D_sign_11 rfl ?_
  refine g_aload_n hC d_D_sign_14 rfl rfl ?_
  refine g_getR hC _ 0 0 _ (by decide) rfl rfl fl_D_10 d_D_sign_15 rfl ?_
  refine g_getV hC _ 1 3 (zsea σ 8 pn wn) (zu_eq _ _ _ _) (zp_lt (by decide : 8 < 9)) (zS_p (by decide : 8 < 9)) rfl fl_D_74 d_D_sign_18 rfl ?_
  exact g_iret hC hr hlk d_D_sign_21 ⟨rfl, rfl⟩
set_option maxHeartbeats 4000000 in
set_option maxRecDepth 100000 in
theorem c_D_seal (l : Launch) (D : va_G) (K : Nat → ClassId) (q : Nat → Nat) (hq : zI q) (x : Int32) (σ : zm) : zMv l y_D_seal b_D_seal 2 none 0 D K q [.ref (q (0)), .int (x)] σ (fun σ' => σ' = zu σ (zp 8) 3 x) := by
  refine zMv.of (own := "AppDesk") (lv := [(0, .ref (q (0))), (1, .int (x))]) (by decide) rfl hq (Nat.le_of_ble_eq_true rfl) rfl ?_
  intro p e s m below meth c hC hr hlk
  refine g_aload_n hC d_D_seal_0 rfl rfl ?_
  refine g_getR hC _ 0 0 _ (by decide) rfl rfl fl_D_10 d_D_seal_1 rfl ?_
  refine g_iload_n hC d_D_seal_4 rfl rfl ?_
  refine g_putI hC _ 1 3 (zp_lt (by decide : 8 < 9)) (zS_p (by decide : 8 < 9)) rfl fp_D_74 d_D_seal_5 rfl ?_
  exact g_vret hC hr hlk d_D_seal_8 rfl
set_option maxHeartbeats 4000000 in
set_option maxRecDepth 100000 in
theorem c_D_isInstalled (l : Launch) (D : va_G) (K : Nat → ClassId) (q : Nat → Nat) (hq : zI q) (x : Int32) (σ : zm) : zMi l y_D_isInstalled b_D_isInstalled 2 (some .boolean) 1 D K q [.ref (q (0)), .int (x)] σ (fun r σ' => r = zb (zinst σ x) ∧ σ' = σ) := by
  refine zMi.of (own := "AppDesk") (lv := [(0, .ref (q (0))), (1, .int (x))]) (by decide) rfl hq (Nat.le_of_ble_eq_true rfl) rfl ?_
  intro p e s m below meth c hC hr hlk
  refine g_iload_n hC d_D_isInstalled_0 rfl rfl ?_
  refine g_bipush hC (8) d_D_isInstalled_1 (by decide) rfl ?_
  refine g_goi hC rfl (z_runS hC (c_D_isBelow l D K q hq _ _ _) yy_D_isBelow ys_D_41 ⟨Nat.le_of_ble_eq_true rfl, Nat.le_of_ble_eq_true rfl⟩ ⟨Nat.zero_le _, Nat.zero_le _⟩ rfl (Nat.le_of_ble_eq_true rfl) d_D_isInstalled_3) (fun r0 σ0 q0 => ?_)
  obtain ⟨rfl, w0⟩ := q0
  obtain rfl := w0.symm
  refine g_ifeq_b hC 25 d_D_isInstalled_6 rfl rfl (fun h6 => ?_) (fun h6 => ?_)
  ·
    refine g_iconst hC (0) d_D_isInstalled_25 (by decide) rfl ?_
    exact g_zret hC hr hlk d_D_isInstalled_26 (Or.inl rfl) ⟨by first | (simp [zinst, h6, hc, h18, zb]; done) | (simp [zinst, h6, zb]; done), rfl⟩
  ·
    obtain ⟨k, hk, hx⟩ := zin_of (n := 8) (by decide) h6
    have hc : (x).toNatClampNeg = k := by rw [hx]; exact nI_clamp (by omega)
    refine g_aload_n hC d_D_isInstalled_9 rfl rfl ?_
    refine g_getR hC _ 0 1 _ (by decide) rfl rfl fl_D_18 d_D_isInstalled_10 rfl ?_
    refine g_iload_n hC d_D_isInstalled_13 rfl rfl ?_
    refine g_aald hC _ _ k _ (by decide) rfl hx hk (by decide) (zS_app hk) d_D_isInstalled_14 rfl ?_
    refine g_getI hC _ 2 0 (za_lt hk) (zS_a hk) rfl fl_D_182 d_D_isInstalled_15 rfl ?_
    refine g_if_eq hC 25 d_D_isInstalled_18 rfl rfl (fun h18 => ?_) (fun h18 => ?_)
    ·
      refine g_iconst hC (0) d_D_isInstalled_25 (by decide) rfl ?_
      exact g_zret hC hr hlk d_D_isInstalled_26 (Or.inl rfl) ⟨by first | (simp [zinst, h6, hc, h18, zb]; done) | (simp [zinst, h6, zb]; done), rfl⟩
    ·
      refine g_iconst hC (1) d_D_isInstalled_21 (by decide) rfl ?_
      refine g_goto hC 26 d_D_isInstalled_22 rfl ?_
      exact g_zret hC hr hlk d_D_isInstalled_26 (Or.inr rfl) ⟨by first | (simp [zinst, h6, hc, h18, zb]; done) | (simp [zinst, h6, zb]; done), rfl⟩
set_option maxHeartbeats 4000000 in
set_option maxRecDepth 100000 in
theorem c_D_declarerOf (l : Launch) (D : va_G) (K : Nat → ClassId) (q : Nat → Nat) (hq : zI q) (x : Int32) (σ : zm) : zMi l y_D_declarerOf b_D_declarerOf 3 (some .int) 2 D K q [.ref (q (0)), .int (x)] σ (fun r σ' => r = zdcl σ x ∧ σ' = σ) := by
  refine zMi.of (own := "AppDesk") (lv := [(0, .ref (q (0))), (1, .int (x))]) (by decide) rfl hq (Nat.le_of_ble_eq_true rfl) rfl ?_
  intro p e s m below meth c hC hr hlk
  have J2 : ∀ (f : Nat) (k : Nat) (hif : k + f = 8) (he : zdcl σ x = zfst (zhit σ x) f k), zG p l e (zrm 2) s m ([.ref (q (0)), .int (x)] : List Value).toArray below meth c D K q (zA q) 3 0 0 (MQ below (va_Qi (fun r σ' => r = zdcl σ x ∧ σ' = σ) (zO D K q) (zA q)) ([.ref (q (0)), .int (x)] : List Value).toArray s 0 0 (zA q)) σ 2 [(0, .ref (q (0))), (1, .int (x)), (2, .int (nI k))] [] := by
    intro f
    induction f with
    | zero =>
      intro k hif he
      refine g_iload_n hC d_D_declarerOf_2 rfl rfl ?_
      refine g_bipush hC (8) d_D_declarerOf_3 (by decide) rfl ?_
      refine g_icmp_ge hC 44 d_D_declarerOf_5 rfl rfl (fun h5 => ?_) (fun h5 => absurd (nI_le (a := 8) (b := k) (by omega) (by omega)) h5)
      refine g_iconst hC (-1) d_D_declarerOf_44 (by decide) rfl ?_
      exact g_iret hC hr hlk d_D_declarerOf_45 ⟨he.symm, rfl⟩
    | succ f ih =>
      intro k hif he
      have hk8 : k < 8 := by omega
      refine g_iload_n hC d_D_declarerOf_2 rfl rfl ?_
      refine g_bipush hC (8) d_D_declarerOf_3 (by decide) rfl ?_
      refine g_icmp_ge hC 44 d_D_declarerOf_5 rfl rfl (fun h5 => absurd h5 (nI_ge (a := k) (b := 8) (by omega) (by omega))) (fun h5 => ?_)
      refine g_aload_n hC d_D_declarerOf_8 rfl rfl ?_
      refine g_getR hC _ 0 1 _ (by decide) rfl rfl fl_D_18 d_D_declarerOf_9 rfl ?_
      refine g_iload_n hC d_D_declarerOf_12 rfl rfl ?_
      refine g_aald hC _ _ k _ (by decide) rfl rfl hk8 (by decide) (zS_app hk8) d_D_declarerOf_13 rfl ?_
      refine g_getI hC _ 2 0 (za_lt hk8) (zS_a hk8) rfl fl_D_182 d_D_declarerOf_14 rfl ?_
      refine g_if_eq hC 38 d_D_declarerOf_17 rfl rfl (fun h17 => ?_) (fun h17 => ?_)
      ·
        refine g_iinc hC (nI (k + 1)) d_D_declarerOf_38 rfl rfl (nI_succ _).symm (by decide) ?_
        refine g_goto hC 2 d_D_declarerOf_41 rfl ?_
        exact zG.to (ih (k + 1) (by omega) (he.trans (zfst_f (by first | (simp [zhit, h17]; done) | (simp [zhit, h17, h33]; done))))) rfl rfl ⟨rfl, rfl, rfl, trivial⟩
      ·
        refine g_aload_n hC d_D_declarerOf_20 rfl rfl ?_
        refine g_getR hC _ 0 1 _ (by decide) rfl rfl fl_D_18 d_D_declarerOf_21 rfl ?_
        refine g_iload_n hC d_D_declarerOf_24 rfl rfl ?_
        refine g_aald hC _ _ k _ (by decide) rfl rfl hk8 (by decide) (zS_app hk8) d_D_declarerOf_25 rfl ?_
        refine g_getR hC _ 2 1 _ (za_lt hk8) (zS_a hk8) rfl fl_D_107 d_D_declarerOf_26 rfl ?_
        refine g_iload_n hC d_D_declarerOf_29 rfl rfl ?_
        refine g_goi hC rfl (z_runV hC (c_P_declares l D K q hq _ (Nat.lt_succ_of_lt hk8) _ _) yy_P_declares yv_D_63 (zp_lt (Nat.lt_succ_of_lt hk8)) (zS_p (Nat.lt_succ_of_lt hk8)) ⟨Nat.le_of_ble_eq_true rfl, Nat.le_of_ble_eq_true rfl⟩ ⟨Nat.zero_le _, Nat.zero_le _⟩ rfl (Nat.le_of_ble_eq_true rfl) d_D_declarerOf_30) (fun r0 σ0 q0 => ?_)
        obtain ⟨rfl, w0⟩ := q0
        obtain rfl := w0.symm
        refine g_ifeq_b hC 38 d_D_declarerOf_33 rfl rfl (fun h33 => ?_) (fun h33 => ?_)
        ·
          refine g_iinc hC (nI (k + 1)) d_D_declarerOf_38 rfl rfl (nI_succ _).symm (by decide) ?_
          refine g_goto hC 2 d_D_declarerOf_41 rfl ?_
          exact zG.to (ih (k + 1) (by omega) (he.trans (zfst_f (by first | (simp [zhit, h17]; done) | (simp [zhit, h17, h33]; done))))) rfl rfl ⟨rfl, rfl, rfl, trivial⟩
        ·
          refine g_iload_n hC d_D_declarerOf_36 rfl rfl ?_
          exact g_iret hC hr hlk d_D_declarerOf_37 ⟨by rw [he, zfst_t (by simp [zhit, h17, h33])], rfl⟩
  refine g_iconst hC (0) d_D_declarerOf_0 (by decide) rfl ?_
  refine g_istore_n hC d_D_declarerOf_1 rfl (by decide) ?_
  exact zG.to (J2 8 0 (by omega) rfl) rfl rfl ⟨rfl, rfl, rfl, trivial⟩
set_option maxHeartbeats 4000000 in
set_option maxRecDepth 100000 in
theorem c_D_isDeclaredByOther (l : Launch) (D : va_G) (K : Nat → ClassId) (q : Nat → Nat) (hq : zI q) (x n : Int32) (σ : zm) : zMi l y_D_isDeclaredByOther b_D_isDeclaredByOther 4 (some .boolean) 3 D K q [.ref (q (0)), .int (x), .int (n)] σ (fun r σ' => r = zb (zoth σ x n) ∧ σ' = σ) := by
  refine zMi.of (own := "AppDesk") (lv := [(0, .ref (q (0))), (1, .int (x)), (2, .int (n))]) (by decide) rfl hq (Nat.le_of_ble_eq_true rfl) rfl ?_
  intro p e s m below meth c hC hr hlk
  refine g_aload_n hC d_D_isDeclaredByOther_0 rfl rfl ?_
  refine g_iload_n hC d_D_isDeclaredByOther_1 rfl rfl ?_
  refine g_goi hC rfl (z_runV hC (c_D_declarerOf l D K q hq _ _ ) yy_D_declarerOf yv_D_176 (by decide) rfl ⟨Nat.le_of_ble_eq_true rfl, Nat.le_of_ble_eq_true rfl⟩ ⟨Nat.zero_le _, Nat.zero_le _⟩ rfl (Nat.le_of_ble_eq_true rfl) d_D_isDeclaredByOther_2) (fun r0 σ0 q0 => ?_)
  obtain ⟨rfl, w0⟩ := q0
  obtain rfl := w0.symm
  refine g_istore_n hC d_D_isDeclaredByOther_5 rfl (by decide) ?_
  refine g_iload_n hC d_D_isDeclaredByOther_6 rfl rfl ?_
  refine g_iconst hC (-1) d_D_isDeclaredByOther_7 (by decide) rfl ?_
  refine g_icmp_eq hC 20 d_D_isDeclaredByOther_8 rfl rfl (fun h8 => ?_) (fun h8 => ?_)
  ·
    refine g_iconst hC (0) d_D_isDeclaredByOther_20 (by decide) rfl ?_
    exact g_zret hC hr hlk d_D_isDeclaredByOther_21 (Or.inl rfl) ⟨by first | (simp [zoth, h8, zb]; done) | (simp [zoth, h8, h13, zb]; done), rfl⟩
  ·
    refine g_iload_n hC d_D_isDeclaredByOther_11 rfl rfl ?_
    refine g_iload_n hC d_D_isDeclaredByOther_12 rfl rfl ?_
    refine g_icmp_eq hC 20 d_D_isDeclaredByOther_13 rfl rfl (fun h13 => ?_) (fun h13 => ?_)
    ·
      refine g_iconst hC (0) d_D_isDeclaredByOther_20 (by decide) rfl ?_
      exact g_zret hC hr hlk d_D_isDeclaredByOther_21 (Or.inl rfl) ⟨by first | (simp [zoth, h8, zb]; done) | (simp [zoth, h8, h13, zb]; done), rfl⟩
    ·
      refine g_iconst hC (1) d_D_isDeclaredByOther_16 (by decide) rfl ?_
      refine g_goto hC 21 d_D_isDeclaredByOther_17 rfl ?_
      exact g_zret hC hr hlk d_D_isDeclaredByOther_21 (Or.inr rfl) ⟨by first | (simp [zoth, h8, zb]; done) | (simp [zoth, h8, h13, zb]; done), rfl⟩
set_option maxHeartbeats 4000000 in
set_option maxRecDepth 100000 in
theorem c_D_holds (l : Launch) (D : va_G) (K : Nat → ClassId) (q : Nat → Nat) (hq : zI q) (n x : Int32) (σ : zm) : zMi l y_D_holds b_D_holds 5 (some .boolean) 3 D K q [.ref (q (0)), .int (n), .int (x)] σ (fun r σ' => r = zb (zhold σ n x) ∧ σ' = σ) := by
  refine zMi.of (own := "AppDesk") (lv := [(0, .ref (q (0))), (1, .int (n)), (2, .int (x))]) (by decide) rfl hq (Nat.le_of_ble_eq_true rfl) rfl ?_
  intro p e s m below meth c hC hr hlk
  refine g_aload_n hC d_D_holds_0 rfl rfl ?_
  refine g_iload_n hC d_D_holds_1 rfl rfl ?_
  refine g_goi hC rfl (z_runV hC (c_D_isInstalled l D K q hq _ _ ) yy_D_isInstalled yv_D_97 (by decide) rfl ⟨Nat.le_of_ble_eq_true rfl, Nat.le_of_ble_eq_true rfl⟩ ⟨Nat.zero_le _, Nat.zero_le _⟩ rfl (Nat.le_of_ble_eq_true rfl) d_D_holds_2) (fun r0 σ0 q0 => ?_)
  obtain ⟨rfl, w0⟩ := q0
  obtain rfl := w0.symm
  refine g_ifeq_b hC 24 d_D_holds_5 rfl rfl (fun h5 => ?_) (fun h5 => ?_)
  ·
    have ho : zhold σ n x = false := by first | (exact zhold_1 h5) | (exact zhold_2 hc h21)
    refine g_iconst hC (0) d_D_holds_24 (by decide) rfl ?_
    exact g_zret hC hr hlk d_D_holds_25 (Or.inl rfl) ⟨by rw [ho]; rfl, rfl⟩
  ·
    obtain ⟨k, hk, hx⟩ := zin_of (n := 8) (by decide) (zinst_in h5)
    have hc : (n).toNatClampNeg = k := by rw [hx]; exact nI_clamp (by omega)
    refine g_aload_n hC d_D_holds_8 rfl rfl ?_
    refine g_getR hC _ 0 1 _ (by decide) rfl rfl fl_D_18 d_D_holds_9 rfl ?_
    refine g_iload_n hC d_D_holds_12 rfl rfl ?_
    refine g_aald hC _ _ k _ (by decide) rfl hx hk (by decide) (zS_app hk) d_D_holds_13 rfl ?_
    refine g_getR hC _ 2 1 _ (za_lt hk) (zS_a hk) rfl fl_D_107 d_D_holds_14 rfl ?_
    refine g_iload_n hC d_D_holds_17 rfl rfl ?_
    refine g_goi hC rfl (z_runV hC (c_P_asksFor l D K q hq _ (Nat.lt_succ_of_lt hk) _ _) yy_P_asksFor yv_D_57 (zp_lt (Nat.lt_succ_of_lt hk)) (zS_p (Nat.lt_succ_of_lt hk)) ⟨Nat.le_of_ble_eq_true rfl, Nat.le_of_ble_eq_true rfl⟩ ⟨Nat.zero_le _, Nat.zero_le _⟩ rfl (Nat.le_of_ble_eq_true rfl) d_D_holds_18) (fun r1 σ1 q1 => ?_)
    obtain ⟨rfl, w1⟩ := q1
    obtain rfl := w1.symm
    refine g_ifne_b hC 26 d_D_holds_21 rfl rfl (fun h21 => ?_) (fun h21 => ?_)
    ·
      refine g_aload_n hC d_D_holds_26 rfl rfl ?_
      refine g_iload_n hC d_D_holds_27 rfl rfl ?_
      refine g_goi hC rfl (z_runV hC (c_D_declarerOf l D K q hq _ _ ) yy_D_declarerOf yv_D_176 (by decide) rfl ⟨Nat.le_of_ble_eq_true rfl, Nat.le_of_ble_eq_true rfl⟩ ⟨Nat.zero_le _, Nat.zero_le _⟩ rfl (Nat.le_of_ble_eq_true rfl) d_D_holds_28) (fun r2 σ2 q2 => ?_)
      obtain ⟨rfl, w2⟩ := q2
      obtain rfl := w2.symm
      refine g_istore_n hC d_D_holds_31 rfl (by decide) ?_
      refine g_iload_n hC d_D_holds_32 rfl rfl ?_
      refine g_iconst hC (-1) d_D_holds_33 (by decide) rfl ?_
      refine g_icmp_ne hC 39 d_D_holds_34 rfl rfl (fun h34 => ?_) (fun h34 => ?_)
      ·
        obtain ⟨d, hd, hde⟩ := zdcl_of h34
        have hdc : (zdcl σ x).toNatClampNeg = d := by rw [hde]; exact nI_clamp (by omega)
        obtain ⟨j, hj, hxj⟩ := zin_of (n := 8) (by decide) (zhas_in h21)
        have hcj : (x).toNatClampNeg = j := by rw [hxj]; exact nI_clamp (by omega)
        refine g_aload_n hC d_D_holds_39 rfl rfl ?_
        refine g_getR hC _ 0 1 _ (by decide) rfl rfl fl_D_18 d_D_holds_40 rfl ?_
        refine g_iload_n hC d_D_holds_43 rfl rfl ?_
        refine g_aald hC _ _ d _ (by decide) rfl hde hd (by decide) (zS_app hd) d_D_holds_44 rfl ?_
        refine g_getR hC _ 2 1 _ (za_lt hd) (zS_a hd) rfl fl_D_107 d_D_holds_45 rfl ?_
        refine g_getR hC _ 1 5 _ (zp_lt (Nat.lt_succ_of_lt hd)) (zS_p (Nat.lt_succ_of_lt hd)) rfl fl_D_66 d_D_holds_48 rfl ?_
        refine g_iload_n hC d_D_holds_51 rfl rfl ?_
        refine g_iald hC _ _ j (zp_lt' (Nat.lt_succ_of_lt hd) 1 (by decide)) (zS_pr (Nat.lt_succ_of_lt hd) 1 (by decide)) hxj hj (by decide) d_D_holds_52 rfl ?_
        refine g_istore hC d_D_holds_53 rfl (by decide) ?_
        refine g_iload hC d_D_holds_55 rfl rfl ?_
        refine g_if_ne hC 62 d_D_holds_57 rfl rfl (fun h57 => ?_) (fun h57 => ?_)
        ·
          refine g_iload hC d_D_holds_62 rfl rfl ?_
          refine g_iconst hC (1) d_D_holds_64 (by decide) rfl ?_
          refine g_icmp_ne hC 79 d_D_holds_65 rfl rfl (fun h65 => ?_) (fun h65 => ?_)
          ·
            have ho := zhold_6 h5 hc h21 h34 hdc hcj h57 h65
            refine g_aload_n hC d_D_holds_79 rfl rfl ?_
            refine g_getR hC _ 0 1 _ (by decide) rfl rfl fl_D_18 d_D_holds_80 rfl ?_
            refine g_iload_n hC d_D_holds_83 rfl rfl ?_
            refine g_aald hC _ _ k _ (by decide) rfl hx hk (by decide) (zS_app hk) d_D_holds_84 rfl ?_
            refine g_getR hC _ 2 1 _ (za_lt hk) (zS_a hk) rfl fl_D_107 d_D_holds_85 rfl ?_
            refine g_getI hC _ 1 2 (zp_lt (Nat.lt_succ_of_lt hk)) (zS_p (Nat.lt_succ_of_lt hk)) rfl fl_D_155 d_D_holds_88 rfl ?_
            refine g_aload_n hC d_D_holds_91 rfl rfl ?_
            refine g_getR hC _ 0 1 _ (by decide) rfl rfl fl_D_18 d_D_holds_92 rfl ?_
            refine g_iload_n hC d_D_holds_95 rfl rfl ?_
            refine g_aald hC _ _ d _ (by decide) rfl hde hd (by decide) (zS_app hd) d_D_holds_96 rfl ?_
            refine g_getR hC _ 2 1 _ (za_lt hd) (zS_a hd) rfl fl_D_107 d_D_holds_97 rfl ?_
            refine g_getI hC _ 1 2 (zp_lt (Nat.lt_succ_of_lt hd)) (zS_p (Nat.lt_succ_of_lt hd)) rfl fl_D_155 d_D_holds_100 rfl ?_
            refine g_icmp_ne hC 110 d_D_holds_103 rfl rfl (fun h103 => ?_) (fun h103 => ?_)
            ·
              refine g_iconst hC (0) d_D_holds_110 (by decide) rfl ?_
              exact g_zret hC hr hlk d_D_holds_111 (Or.inl rfl) ⟨by rw [ho]; first | (rw [decide_eq_true h103]; rfl) | (rw [decide_eq_false h103]; rfl), rfl⟩
            ·
              refine g_iconst hC (1) d_D_holds_106 (by decide) rfl ?_
              refine g_goto hC 111 d_D_holds_107 rfl ?_
              exact g_zret hC hr hlk d_D_holds_111 (Or.inr rfl) ⟨by rw [ho]; first | (rw [decide_eq_true h103]; rfl) | (rw [decide_eq_false h103]; rfl), rfl⟩
          ·
            have ho : zhold σ n x = zhas (σ (za k) 2) x 8 := zhold_5 h5 hc h21 h34 hdc hcj h57 h65
            refine g_aload_n hC d_D_holds_68 rfl rfl ?_
            refine g_getR hC _ 0 1 _ (by decide) rfl rfl fl_D_18 d_D_holds_69 rfl ?_
            refine g_iload_n hC d_D_holds_72 rfl rfl ?_
            refine g_aald hC _ _ k _ (by decide) rfl hx hk (by decide) (zS_app hk) d_D_holds_73 rfl ?_
            refine g_iload_n hC d_D_holds_74 rfl rfl ?_
            refine g_goi hC rfl (z_runV hC (c_A_wasGranted l D K q hq _ hk _ _ ) yy_A_wasGranted yv_D_110 (za_lt hk) (zS_a hk) ⟨Nat.le_of_ble_eq_true rfl, Nat.le_of_ble_eq_true rfl⟩ ⟨Nat.zero_le _, Nat.zero_le _⟩ rfl (Nat.le_of_ble_eq_true rfl) d_D_holds_75) (fun r3 σ3 q3 => ?_)
            obtain ⟨rfl, w3⟩ := q3
            obtain rfl := w3.symm
            exact g_zret hC hr hlk d_D_holds_78 (zb01 _) ⟨by rw [ho], rfl⟩
        ·
          have ho : zhold σ n x = true := zhold_4 h5 hc h21 h34 hdc hcj h57
          refine g_iconst hC (1) d_D_holds_60 (by decide) rfl ?_
          exact g_zret hC hr hlk d_D_holds_61 (Or.inr rfl) ⟨by rw [ho]; rfl, rfl⟩
      ·
        have ho : zhold σ n x = false := zhold_3 h34
        refine g_iconst hC (0) d_D_holds_37 (by decide) rfl ?_
        exact g_zret hC hr hlk d_D_holds_38 (Or.inl rfl) ⟨by rw [ho]; rfl, rfl⟩
    ·
      have ho : zhold σ n x = false := by first | (exact zhold_1 h5) | (exact zhold_2 hc h21)
      refine g_iconst hC (0) d_D_holds_24 (by decide) rfl ?_
      exact g_zret hC hr hlk d_D_holds_25 (Or.inl rfl) ⟨by rw [ho]; rfl, rfl⟩
set_option maxHeartbeats 4000000 in
set_option maxRecDepth 100000 in
theorem c_D_passesGuard (l : Launch) (D : va_G) (K : Nat → ClassId) (q : Nat → Nat) (hq : zI q) (n x : Int32) (σ : zm) : zMi l y_D_passesGuard b_D_passesGuard 3 (some .boolean) 4 D K q [.ref (q (0)), .int (n), .int (x)] σ (fun r σ' => r = zb (zgua σ n x) ∧ σ' = σ) := by
  refine zMi.of (own := "AppDesk") (lv := [(0, .ref (q (0))), (1, .int (n)), (2, .int (x))]) (by decide) rfl hq (Nat.le_of_ble_eq_true rfl) rfl ?_
  intro p e s m below meth c hC hr hlk
  refine g_iload_n hC d_D_passesGuard_0 rfl rfl ?_
  refine g_iconst hC (-1) d_D_passesGuard_1 (by decide) rfl ?_
  refine g_icmp_eq hC 14 d_D_passesGuard_2 rfl rfl (fun h2 => ?_) (fun h2 => ?_)
  ·
    refine g_iconst hC (1) d_D_passesGuard_14 (by decide) rfl ?_
    refine g_goto hC 19 d_D_passesGuard_15 rfl ?_
    exact g_zret hC hr hlk d_D_passesGuard_19 (Or.inr rfl) ⟨by first | (simp [zgua, h2, zb]; done) | (simp [zgua, h2, h11, zb]; done), rfl⟩
  ·
    refine g_aload_n hC d_D_passesGuard_5 rfl rfl ?_
    refine g_iload_n hC d_D_passesGuard_6 rfl rfl ?_
    refine g_iload_n hC d_D_passesGuard_7 rfl rfl ?_
    refine g_goi hC rfl (z_runV hC (c_D_holds l D K q hq _ _ _ ) yy_D_holds yv_D_210 (by decide) rfl ⟨Nat.le_of_ble_eq_true rfl, Nat.le_of_ble_eq_true rfl⟩ ⟨Nat.zero_le _, Nat.zero_le _⟩ rfl (Nat.le_of_ble_eq_true rfl) d_D_passesGuard_8) (fun r0 σ0 q0 => ?_)
    obtain ⟨rfl, w0⟩ := q0
    obtain rfl := w0.symm
    refine g_ifeq_b hC 18 d_D_passesGuard_11 rfl rfl (fun h11 => ?_) (fun h11 => ?_)
    ·
      refine g_iconst hC (0) d_D_passesGuard_18 (by decide) rfl ?_
      exact g_zret hC hr hlk d_D_passesGuard_19 (Or.inl rfl) ⟨by first | (simp [zgua, h2, zb]; done) | (simp [zgua, h2, h11, zb]; done), rfl⟩
    ·
      refine g_iconst hC (1) d_D_passesGuard_14 (by decide) rfl ?_
      refine g_goto hC 19 d_D_passesGuard_15 rfl ?_
      exact g_zret hC hr hlk d_D_passesGuard_19 (Or.inr rfl) ⟨by first | (simp [zgua, h2, zb]; done) | (simp [zgua, h2, h11, zb]; done), rfl⟩
