/-! the reference's methods: the draft -/
def wz (σ : zm) : zm := zu σ 104 0 0
theorem wz_row (σ : zm) {a : Nat} (h : a ≠ 104) : wz σ a = σ a := zu_row _ _ h
def wapp (σ : zm) (x : Int32) : Bool := zin x 8 && !decide (σ 105 x.toNatClampNeg = 0)
def wfz (τ : zm) (n : Nat) : zm := fun a b => if a = 110 ∧ 64 ≤ b ∧ b < 64 + n then 0 else τ a b
theorem wfz_0 (τ : zm) : wfz τ 0 = τ := by
  funext a b
  unfold wfz
  rw [if_neg (by omega)]
theorem wfz_s (τ : zm) (n : Nat) : zu (wfz τ n) 110 (64 + n) 0 = wfz τ (n + 1) := by
  funext a b
  unfold zu wfz
  by_cases h : a = 110
  · subst h
    by_cases hb : b = 64 + n
    · subst hb
      rw [if_pos ⟨rfl, rfl⟩, if_pos (by omega)]
    · rw [if_neg (by omega)]
      by_cases hl : 64 ≤ b ∧ b < 64 + n
      · rw [if_pos ⟨rfl, hl⟩, if_pos (by omega)]
      · rw [if_neg (fun z => hl z.2), if_neg (by omega)]
  · rw [if_neg (fun z => h z.1), if_neg (fun z => h z.1), if_neg (fun z => h z.1)]
def wdr (σ : zm) (n v g : Int32) : zm := wfz (zu (zu (zu (zu (zu (zu (zu (wz σ) 104 14 n) 106 8 v) 107 8 g) 108 8 0) 109 8 0) 111 8 0) 116 8 0) 8
def wpar (σ : zm) (n : Nat) (a b g p : Int32) : zm := zu (zu (zu (zu (zu (wz σ) 112 (32 + n) a) 113 (32 + n) b) 114 (32 + n) g) 115 (32 + n) p) 111 8 (nI (n + 1))
theorem zpok_1 {a g : Int32} {n : Nat} (h : ¬ n < 4) : zpok a g n = false := by simp [zpok, h]
theorem zpok_2 {a g : Int32} {n : Nat} (h : zin a 10 = false) : zpok a g n = false := by simp [zpok, h]
theorem zpok_3 {a g : Int32} {n : Nat} (h : g < -1) : zpok a g n = false := by
  have h1 : ¬ g = -1 := fun z => by rw [z] at h; exact absurd h (by decide)
  have h2 : g < 0 := by
    rw [Int32.lt_iff_toInt_lt] at h ⊢
    have e1 : (-1 : Int32).toInt = -1 := by decide
    have e2 : (0 : Int32).toInt = 0 := by decide
    omega
  simp [zpok, h1, zin_f1 h2]
theorem zpok_4 {a g : Int32} {n : Nat} (h : 7 < g) : zpok a g n = false := by
  have h1 : ¬ g = -1 := fun z => by rw [z] at h; exact absurd h (by decide)
  have h2 : 8 ≤ g := by
    rw [Int32.lt_iff_toInt_lt] at h
    rw [Int32.le_iff_toInt_le]
    have e1 : (7 : Int32).toInt = 7 := by decide
    have e2 : (8 : Int32).toInt = 8 := by decide
    omega
  simp [zpok, h1, zin_f2 h2]
theorem zpok_5 {a g : Int32} {n : Nat} (h1 : n < 4) (h2 : zin a 10 = true) (h3 : ¬ g < -1) (h4 : g ≤ 7) : zpok a g n = true := by
  by_cases e : g = -1
  · simp [zpok, h1, h2, e]
  · have h5 : ¬ g < 0 := by
      rw [Int32.lt_iff_toInt_lt] at h3 ⊢
      have e1 : (-1 : Int32).toInt = -1 := by decide
      have e2 : (0 : Int32).toInt = 0 := by decide
      have e3 : ¬ g.toInt = -1 := fun z => e (Int32.toInt_inj.mp (by rw [z, e1]))
      omega
    have h6 : ¬ 8 ≤ g := by
      rw [Int32.le_iff_toInt_le] at h4 ⊢
      have e1 : (7 : Int32).toInt = 7 := by decide
      have e2 : (8 : Int32).toInt = 8 := by decide
      omega
    simp [zpok, h1, h2, zin_t h5 h6]
theorem dgP_s (a o g p : Nat → Int32) (h : Int32) (n : Nat) : dgP a o g p h (n + 1) = zmix (zmix (zmix (zmix (dgP a o g p h n) (a n)) (o n)) (g n)) (p n) := rfl
theorem dgW_s (w : Nat → Int32) (h : Int32) (n : Nat) : dgW w h (n + 1) = zmix (dgW w h n) (w n) := rfl
def waok (σ : zm) (x : Int32) : Bool := zin x 8 && !zbit (σ 109 8) x
def weok (σ : zm) (x v : Int32) : Bool := zin x 8 && zin v 3 && decide (σ 110 (64 + x.toNatClampNeg) = 0)
def mgL (d : Nat → Int32) (h : Int32) : Nat → Int32
  | 0 => h
  | n + 1 => if d n = 0 then mgL d h n else zmix (mgL d h n) (10 * nI n + d n - 1)
theorem mgL_t {d : Nat → Int32} {h : Int32} {n : Nat} (e : ¬ d n = 0) : mgL d h (n + 1) = zmix (mgL d h n) (10 * nI n + d n - 1) := if_neg e
theorem mgL_f {d : Nat → Int32} {h : Int32} {n : Nat} (e : d n = 0) : mgL d h (n + 1) = mgL d h n := if_pos e
def wsea (σ : zm) (pn wn : Nat) : Int32 := dgW (fun n => σ 117 (192 + n)) (dgP (fun n => σ 112 (32 + n)) (fun n => if σ 113 (32 + n) = 0 then 0 else 1) (fun n => σ 114 (32 + n)) (fun n => σ 115 (32 + n)) (mgL (fun n => σ 110 (64 + n)) (zmix (zmix (zmix 17 (σ 104 14)) (σ 106 8)) (σ 109 8)) 8) pn) wn ^^^ 1000003 * (σ 107 8 + 1)
def wnd (o : Int32) : Int32 := if o = 2 ∨ o = 3 ∨ o = 11 ∨ o = 12 then 2 else if o = 4 ∨ o = 5 ∨ o = 7 ∨ o = 9 ∨ o = 10 then 1 else 0
def wch (o : Int32) : Int32 := if o = 1 ∨ o = 4 ∨ o = 6 ∨ o = 13 then 1 else if o = 2 ∨ o = 3 ∨ o = 5 ∨ o = 7 ∨ o = 9 then -1 else if o = 11 ∨ o = 12 then -2 else 0
def wcm (σ : zm) (wn : Nat) (x h : Int32) : Bool × zm := if zin x (nI wn) then (if σ 129 x.toNatClampNeg < 0 ∨ σ 129 x.toNatClampNeg = h then (true, zu σ 129 x.toNatClampNeg h) else (false, σ)) else (false, σ)
theorem wcm_1 {σ : zm} {wn : Nat} {x h : Int32} (h1 : zin x (nI wn) = false) : wcm σ wn x h = (false, σ) := if_neg (zif_f h1)
theorem wcm_2 {σ : zm} {wn k : Nat} {x h : Int32} (h1 : zin x (nI wn) = true) (hc : x.toNatClampNeg = k) (h2 : ¬ σ 129 k < 0) (h3 : ¬ σ 129 k = h) : wcm σ wn x h = (false, σ) := by
  unfold wcm
  rw [if_pos h1, hc, if_neg (fun z => z.elim h2 h3)]
theorem wcm_3 {σ : zm} {wn k : Nat} {x h : Int32} (h1 : zin x (nI wn) = true) (hc : x.toNatClampNeg = k) (h2 : σ 129 k < 0 ∨ σ 129 k = h) : wcm σ wn x h = (true, zu σ 129 k h) := by
  unfold wcm
  rw [if_pos h1, hc, if_pos h2]
set_option maxHeartbeats 4000000 in
set_option maxRecDepth 100000 in
theorem c_M_thrown (l : Launch) (D : va_G) (K : Nat → ClassId) (q : Nat → Nat) (hq : zI q) (σ : zm) : zMi l y_M_thrown b_M_thrown 1 (some .int) 0 D K q [.ref (q (104))] σ (fun r σ' => r = σ 104 0 ∧ σ' = σ) := by
  refine zMi.of (own := "AppDeskModel") (lv := [(0, .ref (q (104)))]) (by decide) rfl hq (Nat.le_of_ble_eq_true rfl) rfl ?_
  intro p e s m below meth c hC hr hlk
  refine g_aload_n hC d_M_thrown_0 rfl rfl ?_
  refine g_getI hC _ 5 0 (by decide) rfl rfl fl_M_90 d_M_thrown_1 rfl ?_
  exact g_iret hC hr hlk d_M_thrown_4 ⟨rfl, rfl⟩
set_option maxHeartbeats 4000000 in
set_option maxRecDepth 100000 in
theorem c_M_isApp (l : Launch) (D : va_G) (K : Nat → ClassId) (q : Nat → Nat) (hq : zI q) (x : Int32) (σ : zm) : zMi l y_M_isApp b_M_isApp 2 (some .boolean) 1 D K q [.ref (q (104)), .int (x)] σ (fun r σ' => r = zb (wapp σ x) ∧ σ' = σ) := by
  refine zMi.of (own := "AppDeskModel") (lv := [(0, .ref (q (104))), (1, .int (x))]) (by decide) rfl hq (Nat.le_of_ble_eq_true rfl) rfl ?_
  intro p e s m below meth c hC hr hlk
  refine g_iload_n hC d_M_isApp_0 rfl rfl ?_
  refine g_bipush hC (8) d_M_isApp_1 (by decide) rfl ?_
  refine g_goi hC rfl (z_runS hC (c_M_in l D K q hq _ _ _) yy_M_in ys_M_93 ⟨Nat.le_of_ble_eq_true rfl, Nat.le_of_ble_eq_true rfl⟩ ⟨Nat.zero_le _, Nat.zero_le _⟩ rfl (Nat.le_of_ble_eq_true rfl) d_M_isApp_3) (fun r0 σ0 q0 => ?_)
  obtain ⟨rfl, w0⟩ := q0
  obtain rfl := w0.symm
  refine g_ifeq_b hC 22 d_M_isApp_6 rfl rfl (fun h6 => ?_) (fun h6 => ?_)
  ·
    refine g_iconst hC (0) d_M_isApp_22 (by decide) rfl ?_
    exact g_zret hC hr hlk d_M_isApp_23 (Or.inl rfl) ⟨by first | (simp [wapp, h6, hc, h15, zb]; done) | (simp [wapp, h6, zb]; done), rfl⟩
  ·
    obtain ⟨k, hk, hx⟩ := zin_of (n := 8) (by decide) h6
    have hc : (x).toNatClampNeg = k := by rw [hx]; exact nI_clamp (by omega)
    refine g_aload_n hC d_M_isApp_9 rfl rfl ?_
    refine g_getR hC _ 5 1 _ (by decide) rfl rfl fl_M_7 d_M_isApp_10 rfl ?_
    refine g_iload_n hC d_M_isApp_13 rfl rfl ?_
    refine g_zald hC _ _ k (by decide) rfl hx (by show k < 9; omega) (by decide) d_M_isApp_14 rfl ?_
    refine g_if_eq hC 22 d_M_isApp_15 rfl rfl (fun h15 => ?_) (fun h15 => ?_)
    ·
      refine g_iconst hC (0) d_M_isApp_22 (by decide) rfl ?_
      exact g_zret hC hr hlk d_M_isApp_23 (Or.inl rfl) ⟨by first | (simp [wapp, h6, hc, h15, zb]; done) | (simp [wapp, h6, zb]; done), rfl⟩
    ·
      refine g_iconst hC (1) d_M_isApp_18 (by decide) rfl ?_
      refine g_goto hC 23 d_M_isApp_19 rfl ?_
      exact g_zret hC hr hlk d_M_isApp_23 (Or.inr rfl) ⟨by first | (simp [wapp, h6, hc, h15, zb]; done) | (simp [wapp, h6, zb]; done), rfl⟩
set_option maxHeartbeats 4000000 in
set_option maxRecDepth 100000 in
theorem c_M_draft (l : Launch) (D : va_G) (K : Nat → ClassId) (q : Nat → Nat) (hq : zI q) (n v g : Int32) (σ : zm) : zMi l y_M_draft b_M_draft 5 (some .boolean) 1 D K q [.ref (q (104)), .int (n), .int (v), .int (g)] σ (fun r σ' => r = zb (zdok n v g) ∧ σ' = if zdok n v g then wdr σ n v g else wz σ) := by
  refine zMi.of (own := "AppDeskModel") (lv := [(0, .ref (q (104))), (1, .int (n)), (2, .int (v)), (3, .int (g))]) (by decide) rfl hq (Nat.le_of_ble_eq_true rfl) rfl ?_
  intro p e s m below meth c hC hr hlk
  have J85 : ∀ (f : Nat) (hok : zdok n v g = true) (k : Nat) (hif : k + f = 8), zG p l e (zrm 1) s m ([.ref (q (104)), .int (n), .int (v), .int (g)] : List Value).toArray below meth c D K q (zA q) 5 0 0 (MQ below (va_Qi (fun r σ' => r = zb (zdok n v g) ∧ σ' = if zdok n v g then wdr σ n v g else wz σ) (zO D K q) (zA q)) ([.ref (q (104)), .int (n), .int (v), .int (g)] : List Value).toArray s 0 0 (zA q)) (wfz (zu (zu (zu (zu (zu (zu (zu (wz σ) 104 14 n) 106 8 v) 107 8 g) 108 8 0) 109 8 0) 111 8 0) 116 8 0) k) 85 [(0, .ref (q (104))), (4, .int (nI k))] [] := by
    intro f
    induction f with
    | zero =>
      intro hok k hif
      refine g_iload hC d_M_draft_85 rfl rfl ?_
      refine g_bipush hC (8) d_M_draft_87 (by decide) rfl ?_
      refine g_icmp_ge hC 109 d_M_draft_89 rfl rfl (fun h89 => ?_) (fun h89 => absurd (nI_le (a := 8) (b := k) (by omega) (by omega)) h89)
      refine g_iconst hC (1) d_M_draft_109 (by decide) rfl ?_
      exact g_zret hC hr hlk d_M_draft_110 (Or.inr rfl) ⟨by rw [hok]; rfl, by rw [if_pos hok, show k = 8 by omega]; rfl⟩
    | succ f ih =>
      intro hok k hif
      refine g_iload hC d_M_draft_85 rfl rfl ?_
      refine g_bipush hC (8) d_M_draft_87 (by decide) rfl ?_
      refine g_icmp_ge hC 109 d_M_draft_89 rfl rfl (fun h89 => absurd h89 (nI_ge (a := k) (b := 8) (by omega) (by omega))) (fun h89 => ?_)
      refine g_aload_n hC d_M_draft_92 rfl rfl ?_
      refine g_getR hC _ 5 6 _ (by decide) rfl rfl fl_M_26 d_M_draft_93 rfl ?_
      refine g_bipush hC (64) d_M_draft_96 (by decide) rfl ?_
      refine g_iload hC d_M_draft_98 rfl rfl ?_
      refine g_iadd hC d_M_draft_100 rfl ?_
      refine g_top hC (nI (64 + k)) (nI_add 64 k) ?_
      refine g_iconst hC (0) d_M_draft_101 (by decide) rfl ?_
      refine g_iast hC _ _ (64 + k) (by decide) rfl rfl (by show 64 + k < 72; omega) (by decide) d_M_draft_102 rfl ?_
      refine g_iinc hC (nI (k + 1)) d_M_draft_103 rfl rfl (nI_succ _).symm (by decide) ?_
      refine g_goto hC 85 d_M_draft_106 rfl ?_
      exact zG.to (ih hok (k + 1) (by omega)) (wfz_s _ k) rfl ⟨rfl, rfl, trivial⟩
  refine g_aload_n hC d_M_draft_0 rfl rfl ?_
  refine g_iconst hC (0) d_M_draft_1 (by decide) rfl ?_
  refine g_putI hC _ 5 0 (by decide) rfl rfl fp_M_90 d_M_draft_2 rfl ?_
  refine g_iload_n hC d_M_draft_5 rfl rfl ?_
  refine g_bipush hC (8) d_M_draft_6 (by decide) rfl ?_
  refine g_goi hC rfl (z_runS hC (c_M_in l D K q hq _ _ _) yy_M_in ys_M_93 ⟨Nat.le_of_ble_eq_true rfl, Nat.le_of_ble_eq_true rfl⟩ ⟨Nat.zero_le _, Nat.zero_le _⟩ rfl (Nat.le_of_ble_eq_true rfl) d_M_draft_8) (fun r0 σ0 q0 => ?_)
  obtain ⟨rfl, w0⟩ := q0
  obtain rfl := w0.symm
  refine g_ifeq_b hC 27 d_M_draft_11 rfl rfl (fun h11 => ?_) (fun h11 => ?_)
  ·
    have hok : zdok n v g = false := by first | (simp [zdok, h11]; done) | (simp [zdok, Int32.not_le.mpr h16]; done) | (simp [zdok, h24]; done)
    refine g_iconst hC (0) d_M_draft_27 (by decide) rfl ?_
    exact g_zret hC hr hlk d_M_draft_28 (Or.inl rfl) ⟨by rw [hok]; rfl, (if_neg (zif_f hok)).symm⟩
  ·
    refine g_iload_n hC d_M_draft_14 rfl rfl ?_
    refine g_iconst hC (1) d_M_draft_15 (by decide) rfl ?_
    refine g_icmp_lt hC 27 d_M_draft_16 rfl rfl (fun h16 => ?_) (fun h16 => ?_)
    ·
      have hok : zdok n v g = false := by first | (simp [zdok, h11]; done) | (simp [zdok, Int32.not_le.mpr h16]; done) | (simp [zdok, h24]; done)
      refine g_iconst hC (0) d_M_draft_27 (by decide) rfl ?_
      exact g_zret hC hr hlk d_M_draft_28 (Or.inl rfl) ⟨by rw [hok]; rfl, (if_neg (zif_f hok)).symm⟩
    ·
      refine g_iload_n hC d_M_draft_19 rfl rfl ?_
      refine g_iconst hC (4) d_M_draft_20 (by decide) rfl ?_
      refine g_goi hC rfl (z_runS hC (c_M_in l D K q hq _ _ _) yy_M_in ys_M_93 ⟨Nat.le_of_ble_eq_true rfl, Nat.le_of_ble_eq_true rfl⟩ ⟨Nat.zero_le _, Nat.zero_le _⟩ rfl (Nat.le_of_ble_eq_true rfl) d_M_draft_21) (fun r1 σ1 q1 => ?_)
      obtain ⟨rfl, w1⟩ := q1
      obtain rfl := w1.symm
      refine g_ifne_b hC 29 d_M_draft_24 rfl rfl (fun h24 => ?_) (fun h24 => ?_)
      ·
        have hok : zdok n v g = true := by simp [zdok, h11, Int32.not_lt.mp h16, h24]
        refine g_aload_n hC d_M_draft_29 rfl rfl ?_
        refine g_iload_n hC d_M_draft_30 rfl rfl ?_
        refine g_putI hC _ 5 14 (by decide) rfl rfl fp_M_97 d_M_draft_31 rfl ?_
        refine g_aload_n hC d_M_draft_34 rfl rfl ?_
        refine g_getR hC _ 5 2 _ (by decide) rfl rfl fl_M_13 d_M_draft_35 rfl ?_
        refine g_bipush hC (8) d_M_draft_38 (by decide) rfl ?_
        refine g_iload_n hC d_M_draft_40 rfl rfl ?_
        refine g_iast hC _ _ 8 (by decide) rfl (by decide) (by decide) (by decide) d_M_draft_41 rfl ?_
        refine g_aload_n hC d_M_draft_42 rfl rfl ?_
        refine g_getR hC _ 5 3 _ (by decide) rfl rfl fl_M_17 d_M_draft_43 rfl ?_
        refine g_bipush hC (8) d_M_draft_46 (by decide) rfl ?_
        refine g_iload_n hC d_M_draft_48 rfl rfl ?_
        refine g_iast hC _ _ 8 (by decide) rfl (by decide) (by decide) (by decide) d_M_draft_49 rfl ?_
        refine g_aload_n hC d_M_draft_50 rfl rfl ?_
        refine g_getR hC _ 5 4 _ (by decide) rfl rfl fl_M_20 d_M_draft_51 rfl ?_
        refine g_bipush hC (8) d_M_draft_54 (by decide) rfl ?_
        refine g_iconst hC (0) d_M_draft_56 (by decide) rfl ?_
        refine g_iast hC _ _ 8 (by decide) rfl (by decide) (by decide) (by decide) d_M_draft_57 rfl ?_
        refine g_aload_n hC d_M_draft_58 rfl rfl ?_
        refine g_getR hC _ 5 5 _ (by decide) rfl rfl fl_M_23 d_M_draft_59 rfl ?_
        refine g_bipush hC (8) d_M_draft_62 (by decide) rfl ?_
        refine g_iconst hC (0) d_M_draft_64 (by decide) rfl ?_
        refine g_iast hC _ _ 8 (by decide) rfl (by decide) (by decide) (by decide) d_M_draft_65 rfl ?_
        refine g_aload_n hC d_M_draft_66 rfl rfl ?_
        refine g_getR hC _ 5 7 _ (by decide) rfl rfl fl_M_29 d_M_draft_67 rfl ?_
        refine g_bipush hC (8) d_M_draft_70 (by decide) rfl ?_
        refine g_iconst hC (0) d_M_draft_72 (by decide) rfl ?_
        refine g_iast hC _ _ 8 (by decide) rfl (by decide) (by decide) (by decide) d_M_draft_73 rfl ?_
        refine g_aload_n hC d_M_draft_74 rfl rfl ?_
        refine g_getR hC _ 5 12 _ (by decide) rfl rfl fl_M_44 d_M_draft_75 rfl ?_
        refine g_bipush hC (8) d_M_draft_78 (by decide) rfl ?_
        refine g_iconst hC (0) d_M_draft_80 (by decide) rfl ?_
        refine g_iast hC _ _ 8 (by decide) rfl (by decide) (by decide) (by decide) d_M_draft_81 rfl ?_
        refine g_iconst hC (0) d_M_draft_82 (by decide) rfl ?_
        refine g_istore hC d_M_draft_83 rfl (by decide) ?_
        exact zG.to (J85 8 hok 0 (by omega)) (wfz_0 _).symm rfl ⟨rfl, rfl, trivial⟩
      ·
        have hok : zdok n v g = false := by first | (simp [zdok, h11]; done) | (simp [zdok, Int32.not_le.mpr h16]; done) | (simp [zdok, h24]; done)
        refine g_iconst hC (0) d_M_draft_27 (by decide) rfl ?_
        exact g_zret hC hr hlk d_M_draft_28 (Or.inl rfl) ⟨by rw [hok]; rfl, (if_neg (zif_f hok)).symm⟩
set_option maxHeartbeats 4000000 in
set_option maxRecDepth 100000 in
theorem c_M_word (l : Launch) (D : va_G) (K : Nat → ClassId) (q : Nat → Nat) (hq : zI q) (w : Int32) (σ : zm) (n : Nat) (hn : n ≤ 24) (h : σ 116 8 = nI n) : zMi l y_M_word b_M_word 2 (some .boolean) 0 D K q [.ref (q (104)), .int (w)] σ (fun r σ' => r = zb (decide (n < 24)) ∧ σ' = if n < 24 then zu (zu (wz σ) 117 (192 + n) w) 116 8 (nI (n + 1)) else wz σ) := by
  refine zMi.of (own := "AppDeskModel") (lv := [(0, .ref (q (104))), (1, .int (w))]) (by decide) rfl hq (Nat.le_of_ble_eq_true rfl) rfl ?_
  intro p e s m below meth c hC hr hlk
  refine g_aload_n hC d_M_word_0 rfl rfl ?_
  refine g_iconst hC (0) d_M_word_1 (by decide) rfl ?_
  refine g_putI hC _ 5 0 (by decide) rfl rfl fp_M_90 d_M_word_2 rfl ?_
  refine g_aload_n hC d_M_word_5 rfl rfl ?_
  refine g_getR hC _ 5 12 _ (by decide) rfl rfl fl_M_44 d_M_word_6 rfl ?_
  refine g_bipush hC (8) d_M_word_9 (by decide) rfl ?_
  refine g_ialdV hC _ _ 8 (nI n) (by rw [zu_row _ _ (by decide)]; exact h) (by decide) rfl (by decide) (by decide) (by decide) d_M_word_11 rfl ?_
  refine g_bipush hC (24) d_M_word_12 (by decide) rfl ?_
  refine g_icmp_ne hC 19 d_M_word_14 rfl rfl (fun h14 => ?_) (fun h14 => ?_)
  ·
    have hlt : n < 24 := by
      have : ¬ n = 24 := fun z => h14 (by rw [z]; rfl)
      omega
    refine g_aload_n hC d_M_word_19 rfl rfl ?_
    refine g_getR hC _ 5 13 _ (by decide) rfl rfl fl_M_47 d_M_word_20 rfl ?_
    refine g_sipush hC (192) d_M_word_23 (by decide) rfl ?_
    refine g_aload_n hC d_M_word_26 rfl rfl ?_
    refine g_getR hC _ 5 12 _ (by decide) rfl rfl fl_M_44 d_M_word_27 rfl ?_
    refine g_bipush hC (8) d_M_word_30 (by decide) rfl ?_
    refine g_ialdV hC _ _ 8 (nI n) (by rw [zu_row _ _ (by decide)]; exact h) (by decide) rfl (by decide) (by decide) (by decide) d_M_word_32 rfl ?_
    refine g_iadd hC d_M_word_33 rfl ?_
    refine g_top hC (nI (192 + n)) (nI_add 192 n) ?_
    refine g_iload_n hC d_M_word_34 rfl rfl ?_
    refine g_iast hC _ _ ((192 + n)) (by decide) rfl rfl (by omega) (by decide) d_M_word_35 rfl ?_
    refine g_aload_n hC d_M_word_36 rfl rfl ?_
    refine g_getR hC _ 5 12 _ (by decide) rfl rfl fl_M_44 d_M_word_37 rfl ?_
    refine g_bipush hC (8) d_M_word_40 (by decide) rfl ?_
    refine g_dup2 hC d_M_word_42 rfl rfl rfl ?_
    refine g_ialdV hC _ _ 8 (nI n) (by rw [zu_row _ _ (by decide), zu_row _ _ (by decide)]; exact h) (by decide) rfl (by decide) (by decide) (by decide) d_M_word_43 rfl ?_
    refine g_iconst hC (1) d_M_word_44 (by decide) rfl ?_
    refine g_iadd hC d_M_word_45 rfl ?_
    refine g_top hC (nI (n + 1)) (nI_1 n) ?_
    refine g_iast hC _ _ 8 (by decide) rfl (by decide) (by decide) (by decide) d_M_word_46 rfl ?_
    refine g_iconst hC (1) d_M_word_47 (by decide) rfl ?_
    exact g_zret hC hr hlk d_M_word_48 (Or.inr rfl) ⟨by rw [decide_eq_true hlt]; rfl, (if_pos hlt).symm⟩
  ·
    have hlt : ¬ n < 24 := fun z => absurd ((nI_eq (a := n) (b := 24) (by omega) (by decide)).mp h14) (by omega)
    refine g_iconst hC (0) d_M_word_17 (by decide) rfl ?_
    exact g_zret hC hr hlk d_M_word_18 (Or.inl rfl) ⟨by rw [decide_eq_false hlt]; rfl, (if_neg hlt).symm⟩
set_option maxHeartbeats 4000000 in
set_option maxRecDepth 100000 in
theorem c_M_part (l : Launch) (D : va_G) (K : Nat → ClassId) (q : Nat → Nat) (hq : zI q) (a : Int32) (b : Bool) (g p0 : Int32) (σ : zm) (n : Nat) (hn : n ≤ 4) (h : σ 111 8 = nI n) : zMi l y_M_part b_M_part 6 (some .boolean) 1 D K q [.ref (q (104)), .int (a), .int (zb b), .int (g), .int (p0)] σ (fun r σ' => r = zb (zpok a g n) ∧ σ' = if zpok a g n then wpar σ n a (zb b) g p0 else wz σ) := by
  refine zMi.of (own := "AppDeskModel") (lv := [(0, .ref (q (104))), (1, .int (a)), (2, .int (zb b)), (3, .int (g)), (4, .int (p0))]) (by decide) rfl hq (Nat.le_of_ble_eq_true rfl) rfl ?_
  intro p e s m below meth c hC hr hlk
  refine g_aload_n hC d_M_part_0 rfl rfl ?_
  refine g_iconst hC (0) d_M_part_1 (by decide) rfl ?_
  refine g_putI hC _ 5 0 (by decide) rfl rfl fp_M_90 d_M_part_2 rfl ?_
  refine g_aload_n hC d_M_part_5 rfl rfl ?_
  refine g_getR hC _ 5 7 _ (by decide) rfl rfl fl_M_29 d_M_part_6 rfl ?_
  refine g_bipush hC (8) d_M_part_9 (by decide) rfl ?_
  refine g_ialdV hC _ _ 8 (nI n) (by rw [zu_row _ _ (by decide)]; exact h) (by decide) rfl (by decide) (by decide) (by decide) d_M_part_11 rfl ?_
  refine g_iconst hC (4) d_M_part_12 (by decide) rfl ?_
  refine g_icmp_eq hC 36 d_M_part_13 rfl rfl (fun h13 => ?_) (fun h13 => ?_)
  ·
    have hok : zpok a g n = false := by first | exact zpok_1 (fun z => absurd ((nI_eq (a := n) (b := 4) (by omega) (by decide)).mp h13) (by omega)) | exact zpok_2 h22 | exact zpok_3 h27 | exact zpok_4 (Int32.not_le.mp h33)
    refine g_iconst hC (0) d_M_part_36 (by decide) rfl ?_
    exact g_zret hC hr hlk d_M_part_37 (Or.inl rfl) ⟨by rw [hok]; rfl, (if_neg (zif_f hok)).symm⟩
  ·
    refine g_iload_n hC d_M_part_16 rfl rfl ?_
    refine g_bipush hC (10) d_M_part_17 (by decide) rfl ?_
    refine g_goi hC rfl (z_runS hC (c_M_in l D K q hq _ _ _) yy_M_in ys_M_93 ⟨Nat.le_of_ble_eq_true rfl, Nat.le_of_ble_eq_true rfl⟩ ⟨Nat.zero_le _, Nat.zero_le _⟩ rfl (Nat.le_of_ble_eq_true rfl) d_M_part_19) (fun r0 σ0 q0 => ?_)
    obtain ⟨rfl, w0⟩ := q0
    obtain rfl := w0.symm
    refine g_ifeq_b hC 36 d_M_part_22 rfl rfl (fun h22 => ?_) (fun h22 => ?_)
    ·
      have hok : zpok a g n = false := by first | exact zpok_1 (fun z => absurd ((nI_eq (a := n) (b := 4) (by omega) (by decide)).mp h13) (by omega)) | exact zpok_2 h22 | exact zpok_3 h27 | exact zpok_4 (Int32.not_le.mp h33)
      refine g_iconst hC (0) d_M_part_36 (by decide) rfl ?_
      exact g_zret hC hr hlk d_M_part_37 (Or.inl rfl) ⟨by rw [hok]; rfl, (if_neg (zif_f hok)).symm⟩
    ·
      refine g_iload_n hC d_M_part_25 rfl rfl ?_
      refine g_iconst hC (-1) d_M_part_26 (by decide) rfl ?_
      refine g_icmp_lt hC 36 d_M_part_27 rfl rfl (fun h27 => ?_) (fun h27 => ?_)
      ·
        have hok : zpok a g n = false := by first | exact zpok_1 (fun z => absurd ((nI_eq (a := n) (b := 4) (by omega) (by decide)).mp h13) (by omega)) | exact zpok_2 h22 | exact zpok_3 h27 | exact zpok_4 (Int32.not_le.mp h33)
        refine g_iconst hC (0) d_M_part_36 (by decide) rfl ?_
        exact g_zret hC hr hlk d_M_part_37 (Or.inl rfl) ⟨by rw [hok]; rfl, (if_neg (zif_f hok)).symm⟩
      ·
        refine g_iload_n hC d_M_part_30 rfl rfl ?_
        refine g_bipush hC (7) d_M_part_31 (by decide) rfl ?_
        refine g_icmp_le hC 38 d_M_part_33 rfl rfl (fun h33 => ?_) (fun h33 => ?_)
        ·
          have hlt : n < 4 := by
            have : ¬ n = 4 := fun z => h13 (by rw [z]; rfl)
            omega
          have hok : zpok a g n = true := zpok_5 hlt h22 h27 h33
          refine g_bipush hC (32) d_M_part_38 (by decide) rfl ?_
          refine g_aload_n hC d_M_part_40 rfl rfl ?_
          refine g_getR hC _ 5 7 _ (by decide) rfl rfl fl_M_29 d_M_part_41 rfl ?_
          refine g_bipush hC (8) d_M_part_44 (by decide) rfl ?_
          refine g_ialdV hC _ _ 8 (nI n) (by rw [zu_row _ _ (by decide)]; exact h) (by decide) rfl (by decide) (by decide) (by decide) d_M_part_46 rfl ?_
          refine g_iadd hC d_M_part_47 rfl ?_
          refine g_top hC (nI (32 + n)) (nI_add 32 n) ?_
          refine g_istore hC d_M_part_48 rfl (by decide) ?_
          refine g_aload_n hC d_M_part_50 rfl rfl ?_
          refine g_getR hC _ 5 8 _ (by decide) rfl rfl fl_M_32 d_M_part_51 rfl ?_
          refine g_iload hC d_M_part_54 rfl rfl ?_
          refine g_iload_n hC d_M_part_56 rfl rfl ?_
          refine g_iast hC _ _ (32 + n) (by decide) rfl rfl (by show 32 + n < 36; omega) (by decide) d_M_part_57 rfl ?_
          refine g_aload_n hC d_M_part_58 rfl rfl ?_
          refine g_getR hC _ 5 9 _ (by decide) rfl rfl fl_M_35 d_M_part_59 rfl ?_
          refine g_iload hC d_M_part_62 rfl rfl ?_
          refine g_iload_n hC d_M_part_64 rfl rfl ?_
          refine g_zast hC _ _ (32 + n) (by decide) rfl rfl (by show 32 + n < 36; omega) (by decide) (zb01 _) d_M_part_65 rfl ?_
          refine g_aload_n hC d_M_part_66 rfl rfl ?_
          refine g_getR hC _ 5 10 _ (by decide) rfl rfl fl_M_38 d_M_part_67 rfl ?_
          refine g_iload hC d_M_part_70 rfl rfl ?_
          refine g_iload_n hC d_M_part_72 rfl rfl ?_
          refine g_iast hC _ _ (32 + n) (by decide) rfl rfl (by show 32 + n < 36; omega) (by decide) d_M_part_73 rfl ?_
          refine g_aload_n hC d_M_part_74 rfl rfl ?_
          refine g_getR hC _ 5 11 _ (by decide) rfl rfl fl_M_41 d_M_part_75 rfl ?_
          refine g_iload hC d_M_part_78 rfl rfl ?_
          refine g_iload hC d_M_part_80 rfl rfl ?_
          refine g_iast hC _ _ (32 + n) (by decide) rfl rfl (by show 32 + n < 36; omega) (by decide) d_M_part_82 rfl ?_
          refine g_aload_n hC d_M_part_83 rfl rfl ?_
          refine g_getR hC _ 5 7 _ (by decide) rfl rfl fl_M_29 d_M_part_84 rfl ?_
          refine g_bipush hC (8) d_M_part_87 (by decide) rfl ?_
          refine g_dup2 hC d_M_part_89 rfl rfl rfl ?_
          refine g_ialdV hC _ _ 8 (nI n) (by rw [zu_row _ _ (by decide), zu_row _ _ (by decide), zu_row _ _ (by decide), zu_row _ _ (by decide), zu_row _ _ (by decide)]; exact h) (by decide) rfl (by decide) (by decide) (by decide) d_M_part_90 rfl ?_
          refine g_iconst hC (1) d_M_part_91 (by decide) rfl ?_
          refine g_iadd hC d_M_part_92 rfl ?_
          refine g_top hC (nI (n + 1)) (nI_1 n) ?_
          refine g_iast hC _ _ 8 (by decide) rfl (by decide) (by decide) (by decide) d_M_part_93 rfl ?_
          refine g_iconst hC (1) d_M_part_94 (by decide) rfl ?_
          exact g_zret hC hr hlk d_M_part_95 (Or.inr rfl) ⟨by rw [hok]; rfl, (if_pos hok).symm⟩
        ·
          have hok : zpok a g n = false := by first | exact zpok_1 (fun z => absurd ((nI_eq (a := n) (b := 4) (by omega) (by decide)).mp h13) (by omega)) | exact zpok_2 h22 | exact zpok_3 h27 | exact zpok_4 (Int32.not_le.mp h33)
          refine g_iconst hC (0) d_M_part_36 (by decide) rfl ?_
          exact g_zret hC hr hlk d_M_part_37 (Or.inl rfl) ⟨by rw [hok]; rfl, (if_neg (zif_f hok)).symm⟩
set_option maxHeartbeats 4000000 in
set_option maxRecDepth 100000 in
theorem c_M_ask (l : Launch) (D : va_G) (K : Nat → ClassId) (q : Nat → Nat) (hq : zI q) (x : Int32) (σ : zm) : zMi l y_M_ask b_M_ask 2 (some .boolean) 1 D K q [.ref (q (104)), .int (x)] σ (fun r σ' => r = zb (waok σ x) ∧ σ' = if waok σ x then zu (wz σ) 109 8 (σ 109 8 ||| (1 <<< (x &&& 31))) else wz σ) := by
  refine zMi.of (own := "AppDeskModel") (lv := [(0, .ref (q (104))), (1, .int (x))]) (by decide) rfl hq (Nat.le_of_ble_eq_true rfl) rfl ?_
  intro p e s m below meth c hC hr hlk
  refine g_aload_n hC d_M_ask_0 rfl rfl ?_
  refine g_iconst hC (0) d_M_ask_1 (by decide) rfl ?_
  refine g_putI hC _ 5 0 (by decide) rfl rfl fp_M_90 d_M_ask_2 rfl ?_
  refine g_iload_n hC d_M_ask_5 rfl rfl ?_
  refine g_bipush hC (8) d_M_ask_6 (by decide) rfl ?_
  refine g_goi hC rfl (z_runS hC (c_M_in l D K q hq _ _ _) yy_M_in ys_M_93 ⟨Nat.le_of_ble_eq_true rfl, Nat.le_of_ble_eq_true rfl⟩ ⟨Nat.zero_le _, Nat.zero_le _⟩ rfl (Nat.le_of_ble_eq_true rfl) d_M_ask_8) (fun r0 σ0 q0 => ?_)
  obtain ⟨rfl, w0⟩ := q0
  obtain rfl := w0.symm
  refine g_ifeq_b hC 29 d_M_ask_11 rfl rfl (fun h11 => ?_) (fun h11 => ?_)
  ·
    have hok : waok σ x = false := by first | (simp [waok, h11]; done) | (simp [waok, zbit, h26]; done)
    refine g_iconst hC (0) d_M_ask_29 (by decide) rfl ?_
    exact g_zret hC hr hlk d_M_ask_30 (Or.inl rfl) ⟨by rw [hok]; rfl, (if_neg (zif_f hok)).symm⟩
  ·
    refine g_aload_n hC d_M_ask_14 rfl rfl ?_
    refine g_getR hC _ 5 5 _ (by decide) rfl rfl fl_M_23 d_M_ask_15 rfl ?_
    refine g_bipush hC (8) d_M_ask_18 (by decide) rfl ?_
    refine g_ialdV hC _ _ 8 (σ 109 8) (by rw [zu_row _ _ (by decide)]) (by decide) rfl (by decide) (by decide) (by decide) d_M_ask_20 rfl ?_
    refine g_iload_n hC d_M_ask_21 rfl rfl ?_
    refine g_ishr hC d_M_ask_22 rfl ?_
    refine g_iconst hC (1) d_M_ask_23 (by decide) rfl ?_
    refine g_iand hC d_M_ask_24 rfl ?_
    refine g_iconst hC (1) d_M_ask_25 (by decide) rfl ?_
    refine g_icmp_ne hC 31 d_M_ask_26 rfl rfl (fun h26 => ?_) (fun h26 => ?_)
    ·
      have hok : waok σ x = true := by simp [waok, zbit, h11, h26]
      refine g_aload_n hC d_M_ask_31 rfl rfl ?_
      refine g_getR hC _ 5 5 _ (by decide) rfl rfl fl_M_23 d_M_ask_32 rfl ?_
      refine g_bipush hC (8) d_M_ask_35 (by decide) rfl ?_
      refine g_aload_n hC d_M_ask_37 rfl rfl ?_
      refine g_getR hC _ 5 5 _ (by decide) rfl rfl fl_M_23 d_M_ask_38 rfl ?_
      refine g_bipush hC (8) d_M_ask_41 (by decide) rfl ?_
      refine g_ialdV hC _ _ 8 (σ 109 8) (by rw [zu_row _ _ (by decide)]) (by decide) rfl (by decide) (by decide) (by decide) d_M_ask_43 rfl ?_
      refine g_iconst hC (1) d_M_ask_44 (by decide) rfl ?_
      refine g_iload_n hC d_M_ask_45 rfl rfl ?_
      refine g_ishl hC d_M_ask_46 rfl ?_
      refine g_ior hC d_M_ask_47 rfl ?_
      refine g_iast hC _ _ 8 (by decide) rfl (by decide) (by decide) (by decide) d_M_ask_48 rfl ?_
      refine g_iconst hC (1) d_M_ask_49 (by decide) rfl ?_
      exact g_zret hC hr hlk d_M_ask_50 (Or.inr rfl) ⟨by rw [hok]; rfl, (if_pos hok).symm⟩
    ·
      have hok : waok σ x = false := by first | (simp [waok, h11]; done) | (simp [waok, zbit, h26]; done)
      refine g_iconst hC (0) d_M_ask_29 (by decide) rfl ?_
      exact g_zret hC hr hlk d_M_ask_30 (Or.inl rfl) ⟨by rw [hok]; rfl, (if_neg (zif_f hok)).symm⟩
set_option maxHeartbeats 4000000 in
set_option maxRecDepth 100000 in
theorem c_M_declare (l : Launch) (D : va_G) (K : Nat → ClassId) (q : Nat → Nat) (hq : zI q) (x v : Int32) (σ : zm) : zMi l y_M_declare b_M_declare 3 (some .boolean) 1 D K q [.ref (q (104)), .int (x), .int (v)] σ (fun r σ' => r = zb (weok σ x v) ∧ σ' = if weok σ x v then zu (wz σ) 110 (64 + x.toNatClampNeg) (v + 1) else wz σ) := by
  refine zMi.of (own := "AppDeskModel") (lv := [(0, .ref (q (104))), (1, .int (x)), (2, .int (v))]) (by decide) rfl hq (Nat.le_of_ble_eq_true rfl) rfl ?_
  intro p e s m below meth c hC hr hlk
  refine g_aload_n hC d_M_declare_0 rfl rfl ?_
  refine g_iconst hC (0) d_M_declare_1 (by decide) rfl ?_
  refine g_putI hC _ 5 0 (by decide) rfl rfl fp_M_90 d_M_declare_2 rfl ?_
  refine g_iload_n hC d_M_declare_5 rfl rfl ?_
  refine g_bipush hC (8) d_M_declare_6 (by decide) rfl ?_
  refine g_goi hC rfl (z_runS hC (c_M_in l D K q hq _ _ _) yy_M_in ys_M_93 ⟨Nat.le_of_ble_eq_true rfl, Nat.le_of_ble_eq_true rfl⟩ ⟨Nat.zero_le _, Nat.zero_le _⟩ rfl (Nat.le_of_ble_eq_true rfl) d_M_declare_8) (fun r0 σ0 q0 => ?_)
  obtain ⟨rfl, w0⟩ := q0
  obtain rfl := w0.symm
  refine g_ifeq_b hC 34 d_M_declare_11 rfl rfl (fun h11 => ?_) (fun h11 => ?_)
  ·
    have hok : weok σ x v = false := by first | (simp [weok, h11]; done) | (simp [weok, h19]; done) | (simp [weok, hc, h31]; done)
    refine g_iconst hC (0) d_M_declare_34 (by decide) rfl ?_
    exact g_zret hC hr hlk d_M_declare_35 (Or.inl rfl) ⟨by rw [hok]; rfl, (if_neg (zif_f hok)).symm⟩
  ·
    refine g_iload_n hC d_M_declare_14 rfl rfl ?_
    refine g_iconst hC (3) d_M_declare_15 (by decide) rfl ?_
    refine g_goi hC rfl (z_runS hC (c_M_in l D K q hq _ _ _) yy_M_in ys_M_93 ⟨Nat.le_of_ble_eq_true rfl, Nat.le_of_ble_eq_true rfl⟩ ⟨Nat.zero_le _, Nat.zero_le _⟩ rfl (Nat.le_of_ble_eq_true rfl) d_M_declare_16) (fun r1 σ1 q1 => ?_)
    obtain ⟨rfl, w1⟩ := q1
    obtain rfl := w1.symm
    refine g_ifeq_b hC 34 d_M_declare_19 rfl rfl (fun h19 => ?_) (fun h19 => ?_)
    ·
      have hok : weok σ x v = false := by first | (simp [weok, h11]; done) | (simp [weok, h19]; done) | (simp [weok, hc, h31]; done)
      refine g_iconst hC (0) d_M_declare_34 (by decide) rfl ?_
      exact g_zret hC hr hlk d_M_declare_35 (Or.inl rfl) ⟨by rw [hok]; rfl, (if_neg (zif_f hok)).symm⟩
    ·
      obtain ⟨k, hk, hx⟩ := zin_of (n := 8) (by decide) h11
      have hc : (x).toNatClampNeg = k := by rw [hx]; exact nI_clamp (by omega)
      refine g_aload_n hC d_M_declare_22 rfl rfl ?_
      refine g_getR hC _ 5 6 _ (by decide) rfl rfl fl_M_26 d_M_declare_23 rfl ?_
      refine g_bipush hC (64) d_M_declare_26 (by decide) rfl ?_
      refine g_iload_n hC d_M_declare_28 rfl rfl ?_
      refine g_iadd hC d_M_declare_29 rfl ?_
      refine g_top hC (nI (64 + k)) (by rw [hx]; exact nI_add 64 k) ?_
      refine g_ialdV hC _ _ (64 + k) (σ 110 (64 + k)) (by rw [zu_row _ _ (by decide)]) (by decide) rfl rfl (by show 64 + k < 72; omega) (by decide) d_M_declare_30 rfl ?_
      refine g_if_eq hC 36 d_M_declare_31 rfl rfl (fun h31 => ?_) (fun h31 => ?_)
      ·
        have hok : weok σ x v = true := by simp [weok, h11, h19, hc, h31]
        refine g_aload_n hC d_M_declare_36 rfl rfl ?_
        refine g_getR hC _ 5 6 _ (by decide) rfl rfl fl_M_26 d_M_declare_37 rfl ?_
        refine g_bipush hC (64) d_M_declare_40 (by decide) rfl ?_
        refine g_iload_n hC d_M_declare_42 rfl rfl ?_
        refine g_iadd hC d_M_declare_43 rfl ?_
        refine g_top hC (nI (64 + k)) (by rw [hx]; exact nI_add 64 k) ?_
        refine g_iload_n hC d_M_declare_44 rfl rfl ?_
        refine g_iconst hC (1) d_M_declare_45 (by decide) rfl ?_
        refine g_iadd hC d_M_declare_46 rfl ?_
        refine g_iast hC _ _ (64 + k) (by decide) rfl rfl (by show 64 + k < 72; omega) (by decide) d_M_declare_47 rfl ?_
        refine g_iconst hC (1) d_M_declare_48 (by decide) rfl ?_
        exact g_zret hC hr hlk d_M_declare_49 (Or.inr rfl) ⟨by rw [hok]; rfl, by rw [if_pos hok, hc]; rfl⟩
      ·
        have hok : weok σ x v = false := by first | (simp [weok, h11]; done) | (simp [weok, h19]; done) | (simp [weok, hc, h31]; done)
        refine g_iconst hC (0) d_M_declare_34 (by decide) rfl ?_
        exact g_zret hC hr hlk d_M_declare_35 (Or.inl rfl) ⟨by rw [hok]; rfl, (if_neg (zif_f hok)).symm⟩
set_option maxHeartbeats 4000000 in
set_option maxRecDepth 100000 in
theorem c_M_sealed (l : Launch) (D : va_G) (K : Nat → ClassId) (q : Nat → Nat) (hq : zI q) (σ : zm) (pn wn : Nat) (hpn : pn ≤ 4) (hwn : wn ≤ 24) (hpc : σ 111 8 = nI pn) (hwc : σ 116 8 = nI wn) : zMi l y_M_sealed b_M_sealed 3 (some .int) 1 D K q [.ref (q (104))] σ (fun r σ' => r = wsea σ pn wn ∧ σ' = σ) := by
  refine zMi.of (own := "AppDeskModel") (lv := [(0, .ref (q (104)))]) (by decide) rfl hq (Nat.le_of_ble_eq_true rfl) rfl ?_
  intro p e s m below meth c hC hr hlk
  have J158 : ∀ (f : Nat) (k : Nat) (hif : k + f = wn), zG p l e (zrm 1) s m ([.ref (q (104))] : List Value).toArray below meth c D K q (zA q) 3 0 0 (MQ below (va_Qi (fun r σ' => r = wsea σ pn wn ∧ σ' = σ) (zO D K q) (zA q)) ([.ref (q (104))] : List Value).toArray s 0 0 (zA q)) σ 158 [(0, .ref (q (104))), (1, .int (dgW (fun n => σ 117 (192 + n)) (dgP (fun n => σ 112 (32 + n)) (fun n => if σ 113 (32 + n) = 0 then 0 else 1) (fun n => σ 114 (32 + n)) (fun n => σ 115 (32 + n)) (mgL (fun n => σ 110 (64 + n)) (zmix (zmix (zmix 17 (σ 104 14)) (σ 106 8)) (σ 109 8)) 8) pn) k)), (2, .int (nI k))] [] := by
    intro f
    induction f with
    | zero =>
      intro k hif
      refine g_iload_n hC d_M_sealed_158 rfl rfl ?_
      refine g_aload_n hC d_M_sealed_159 rfl rfl ?_
      refine g_getR hC _ 5 12 _ (by decide) rfl rfl fl_M_44 d_M_sealed_160 rfl ?_
      refine g_bipush hC (8) d_M_sealed_163 (by decide) rfl ?_
      refine g_ialdV hC _ _ 8 (nI wn) (hwc) (by decide) rfl (by decide) (by decide) (by decide) d_M_sealed_165 rfl ?_
      refine g_icmp_ge hC 190 d_M_sealed_166 rfl rfl (fun h166 => ?_) (fun h166 => absurd (nI_le (a := wn) (b := k) (by omega) (by omega)) h166)
      refine g_iload_n hC d_M_sealed_190 rfl rfl ?_
      refine g_ldc hC _ d_M_sealed_191 (by exact kk_M_104) rfl ?_
      refine g_aload_n hC d_M_sealed_193 rfl rfl ?_
      refine g_getR hC _ 5 3 _ (by decide) rfl rfl fl_M_17 d_M_sealed_194 rfl ?_
      refine g_bipush hC (8) d_M_sealed_197 (by decide) rfl ?_
      refine g_iald hC _ _ 8 (by decide) rfl (by decide) (by decide) (by decide) d_M_sealed_199 rfl ?_
      refine g_iconst hC (1) d_M_sealed_200 (by decide) rfl ?_
      refine g_iadd hC d_M_sealed_201 rfl ?_
      refine g_imul hC d_M_sealed_202 rfl ?_
      refine g_ixor hC d_M_sealed_203 rfl ?_
      exact g_iret hC hr hlk d_M_sealed_204 ⟨by rw [show k = wn by omega]; rfl, rfl⟩
    | succ f ih =>
      intro k hif
      refine g_iload_n hC d_M_sealed_158 rfl rfl ?_
      refine g_aload_n hC d_M_sealed_159 rfl rfl ?_
      refine g_getR hC _ 5 12 _ (by decide) rfl rfl fl_M_44 d_M_sealed_160 rfl ?_
      refine g_bipush hC (8) d_M_sealed_163 (by decide) rfl ?_
      refine g_ialdV hC _ _ 8 (nI wn) (hwc) (by decide) rfl (by decide) (by decide) (by decide) d_M_sealed_165 rfl ?_
      refine g_icmp_ge hC 190 d_M_sealed_166 rfl rfl (fun h166 => absurd h166 (nI_ge (a := k) (b := wn) (by omega) (by omega))) (fun h166 => ?_)
      refine g_iload_n hC d_M_sealed_169 rfl rfl ?_
      refine g_aload_n hC d_M_sealed_170 rfl rfl ?_
      refine g_getR hC _ 5 13 _ (by decide) rfl rfl fl_M_47 d_M_sealed_171 rfl ?_
      refine g_sipush hC (192) d_M_sealed_174 (by decide) rfl ?_
      refine g_iload_n hC d_M_sealed_177 rfl rfl ?_
      refine g_iadd hC d_M_sealed_178 rfl ?_
      refine g_top hC (nI (192 + k)) (nI_add 192 k) ?_
      refine g_iald hC _ _ (192 + k) (by decide) rfl rfl (by show 192 + k < 216; omega) (by decide) d_M_sealed_179 rfl ?_
      refine g_goi hC rfl (z_runS hC (c_M_mixed l D K q hq _ _ _) yy_M_mixed ys_M_100 ⟨Nat.le_of_ble_eq_true rfl, Nat.le_of_ble_eq_true rfl⟩ ⟨Nat.zero_le _, Nat.zero_le _⟩ rfl (Nat.le_of_ble_eq_true rfl) d_M_sealed_180) (fun r0 σ0 q0 => ?_)
      obtain ⟨rfl, w0⟩ := q0
      obtain rfl := w0.symm
      refine g_istore_n hC d_M_sealed_183 rfl (by decide) ?_
      refine g_iinc hC (nI (k + 1)) d_M_sealed_184 rfl rfl (nI_succ _).symm (by decide) ?_
      refine g_goto hC 158 d_M_sealed_187 rfl ?_
      exact zG.to (ih (k + 1) (by omega)) rfl rfl ⟨rfl, congrArg (fun z => some (Value.int z)) (dgW_s (fun n => σ 117 (192 + n)) (dgP (fun n => σ 112 (32 + n)) (fun n => if σ 113 (32 + n) = 0 then 0 else 1) (fun n => σ 114 (32 + n)) (fun n => σ 115 (32 + n)) (mgL (fun n => σ 110 (64 + n)) (zmix (zmix (zmix 17 (σ 104 14)) (σ 106 8)) (σ 109 8)) 8) pn) k).symm, rfl, trivial⟩
  have J84 : ∀ (f : Nat) (k : Nat) (hif : k + f = pn), zG p l e (zrm 1) s m ([.ref (q (104))] : List Value).toArray below meth c D K q (zA q) 3 0 0 (MQ below (va_Qi (fun r σ' => r = wsea σ pn wn ∧ σ' = σ) (zO D K q) (zA q)) ([.ref (q (104))] : List Value).toArray s 0 0 (zA q)) σ 84 [(0, .ref (q (104))), (1, .int (dgP (fun n => σ 112 (32 + n)) (fun n => if σ 113 (32 + n) = 0 then 0 else 1) (fun n => σ 114 (32 + n)) (fun n => σ 115 (32 + n)) (mgL (fun n => σ 110 (64 + n)) (zmix (zmix (zmix 17 (σ 104 14)) (σ 106 8)) (σ 109 8)) 8) k)), (2, .int (nI (32 + k)))] [] := by
    intro f
    induction f with
    | zero =>
      intro k hif
      refine g_iload_n hC d_M_sealed_84 rfl rfl ?_
      refine g_bipush hC (32) d_M_sealed_85 (by decide) rfl ?_
      refine g_aload_n hC d_M_sealed_87 rfl rfl ?_
      refine g_getR hC _ 5 7 _ (by decide) rfl rfl fl_M_29 d_M_sealed_88 rfl ?_
      refine g_bipush hC (8) d_M_sealed_91 (by decide) rfl ?_
      refine g_ialdV hC _ _ 8 (nI pn) (hpc) (by decide) rfl (by decide) (by decide) (by decide) d_M_sealed_93 rfl ?_
      refine g_iadd hC d_M_sealed_94 rfl ?_
      refine g_top hC (nI (32 + pn)) (nI_add 32 pn) ?_
      refine g_icmp_ge hC 156 d_M_sealed_95 rfl rfl (fun h95 => ?_) (fun h95 => absurd (nI_le (a := 32 + pn) (b := 32 + k) (by omega) (by omega)) h95)
      refine g_iconst hC (0) d_M_sealed_156 (by decide) rfl ?_
      refine g_istore_n hC d_M_sealed_157 rfl (by decide) ?_
      exact zG.to (J158 wn 0 (by omega)) rfl rfl ⟨rfl, congrArg (fun z => some (Value.int z)) (by rw [show k = pn by omega]; rfl), rfl, trivial⟩
    | succ f ih =>
      intro k hif
      refine g_iload_n hC d_M_sealed_84 rfl rfl ?_
      refine g_bipush hC (32) d_M_sealed_85 (by decide) rfl ?_
      refine g_aload_n hC d_M_sealed_87 rfl rfl ?_
      refine g_getR hC _ 5 7 _ (by decide) rfl rfl fl_M_29 d_M_sealed_88 rfl ?_
      refine g_bipush hC (8) d_M_sealed_91 (by decide) rfl ?_
      refine g_ialdV hC _ _ 8 (nI pn) (hpc) (by decide) rfl (by decide) (by decide) (by decide) d_M_sealed_93 rfl ?_
      refine g_iadd hC d_M_sealed_94 rfl ?_
      refine g_top hC (nI (32 + pn)) (nI_add 32 pn) ?_
      refine g_icmp_ge hC 156 d_M_sealed_95 rfl rfl (fun h95 => absurd h95 (nI_ge (a := 32 + k) (b := 32 + pn) (by omega) (by omega))) (fun h95 => ?_)
      refine g_iload_n hC d_M_sealed_98 rfl rfl ?_
      refine g_aload_n hC d_M_sealed_99 rfl rfl ?_
      refine g_getR hC _ 5 8 _ (by decide) rfl rfl fl_M_32 d_M_sealed_100 rfl ?_
      refine g_iload_n hC d_M_sealed_103 rfl rfl ?_
      refine g_iald hC _ _ (32 + k) (by decide) rfl rfl (by show 32 + k < 36; omega) (by decide) d_M_sealed_104 rfl ?_
      refine g_goi hC rfl (z_runS hC (c_M_mixed l D K q hq _ _ _) yy_M_mixed ys_M_100 ⟨Nat.le_of_ble_eq_true rfl, Nat.le_of_ble_eq_true rfl⟩ ⟨Nat.zero_le _, Nat.zero_le _⟩ rfl (Nat.le_of_ble_eq_true rfl) d_M_sealed_105) (fun r1 σ1 q1 => ?_)
      obtain ⟨rfl, w1⟩ := q1
      obtain rfl := w1.symm
      refine g_istore_n hC d_M_sealed_108 rfl (by decide) ?_
      refine g_iload_n hC d_M_sealed_109 rfl rfl ?_
      refine g_aload_n hC d_M_sealed_110 rfl rfl ?_
      refine g_getR hC _ 5 9 _ (by decide) rfl rfl fl_M_35 d_M_sealed_111 rfl ?_
      refine g_iload_n hC d_M_sealed_114 rfl rfl ?_
      refine g_zald hC _ _ (32 + k) (by decide) rfl rfl (by show 32 + k < 36; omega) (by decide) d_M_sealed_115 rfl ?_
      refine g_if_eq hC 123 d_M_sealed_116 rfl rfl (fun h116 => ?_) (fun h116 => ?_)
      ·
        refine g_iconst hC (0) d_M_sealed_123 (by decide) rfl ?_
        refine g_top hC ((if σ 113 (32 + k) = 0 then 0 else 1)) ((if_pos h116).symm) ?_
        refine g_goi hC rfl (z_runS hC (c_M_mixed l D K q hq _ _ _) yy_M_mixed ys_M_100 ⟨Nat.le_of_ble_eq_true rfl, Nat.le_of_ble_eq_true rfl⟩ ⟨Nat.zero_le _, Nat.zero_le _⟩ rfl (Nat.le_of_ble_eq_true rfl) d_M_sealed_124) (fun r2 σ2 q2 => ?_)
        obtain ⟨rfl, w2⟩ := q2
        obtain rfl := w2.symm
        refine g_istore_n hC d_M_sealed_127 rfl (by decide) ?_
        refine g_iload_n hC d_M_sealed_128 rfl rfl ?_
        refine g_aload_n hC d_M_sealed_129 rfl rfl ?_
        refine g_getR hC _ 5 10 _ (by decide) rfl rfl fl_M_38 d_M_sealed_130 rfl ?_
        refine g_iload_n hC d_M_sealed_133 rfl rfl ?_
        refine g_iald hC _ _ (32 + k) (by decide) rfl rfl (by show 32 + k < 36; omega) (by decide) d_M_sealed_134 rfl ?_
        refine g_goi hC rfl (z_runS hC (c_M_mixed l D K q hq _ _ _) yy_M_mixed ys_M_100 ⟨Nat.le_of_ble_eq_true rfl, Nat.le_of_ble_eq_true rfl⟩ ⟨Nat.zero_le _, Nat.zero_le _⟩ rfl (Nat.le_of_ble_eq_true rfl) d_M_sealed_135) (fun r3 σ3 q3 => ?_)
        obtain ⟨rfl, w3⟩ := q3
        obtain rfl := w3.symm
        refine g_istore_n hC d_M_sealed_138 rfl (by decide) ?_
        refine g_iload_n hC d_M_sealed_139 rfl rfl ?_
        refine g_aload_n hC d_M_sealed_140 rfl rfl ?_
        refine g_getR hC _ 5 11 _ (by decide) rfl rfl fl_M_41 d_M_sealed_141 rfl ?_
        refine g_iload_n hC d_M_sealed_144 rfl rfl ?_
        refine g_iald hC _ _ (32 + k) (by decide) rfl rfl (by show 32 + k < 36; omega) (by decide) d_M_sealed_145 rfl ?_
        refine g_goi hC rfl (z_runS hC (c_M_mixed l D K q hq _ _ _) yy_M_mixed ys_M_100 ⟨Nat.le_of_ble_eq_true rfl, Nat.le_of_ble_eq_true rfl⟩ ⟨Nat.zero_le _, Nat.zero_le _⟩ rfl (Nat.le_of_ble_eq_true rfl) d_M_sealed_146) (fun r4 σ4 q4 => ?_)
        obtain ⟨rfl, w4⟩ := q4
        obtain rfl := w4.symm
        refine g_istore_n hC d_M_sealed_149 rfl (by decide) ?_
        refine g_iinc hC (nI (32 + (k + 1))) d_M_sealed_150 rfl rfl (nI_succ _).symm (by decide) ?_
        refine g_goto hC 84 d_M_sealed_153 rfl ?_
        exact zG.to (ih (k + 1) (by omega)) rfl rfl ⟨rfl, congrArg (fun z => some (Value.int z)) (dgP_s (fun n => σ 112 (32 + n)) (fun n => if σ 113 (32 + n) = 0 then 0 else 1) (fun n => σ 114 (32 + n)) (fun n => σ 115 (32 + n)) (mgL (fun n => σ 110 (64 + n)) (zmix (zmix (zmix 17 (σ 104 14)) (σ 106 8)) (σ 109 8)) 8) k).symm, rfl, trivial⟩
      ·
        refine g_iconst hC (1) d_M_sealed_119 (by decide) rfl ?_
        refine g_top hC ((if σ 113 (32 + k) = 0 then 0 else 1)) ((if_neg h116).symm) ?_
        refine g_goto hC 124 d_M_sealed_120 rfl ?_
        refine g_goi hC rfl (z_runS hC (c_M_mixed l D K q hq _ _ _) yy_M_mixed ys_M_100 ⟨Nat.le_of_ble_eq_true rfl, Nat.le_of_ble_eq_true rfl⟩ ⟨Nat.zero_le _, Nat.zero_le _⟩ rfl (Nat.le_of_ble_eq_true rfl) d_M_sealed_124) (fun r5 σ5 q5 => ?_)
        obtain ⟨rfl, w5⟩ := q5
        obtain rfl := w5.symm
        refine g_istore_n hC d_M_sealed_127 rfl (by decide) ?_
        refine g_iload_n hC d_M_sealed_128 rfl rfl ?_
        refine g_aload_n hC d_M_sealed_129 rfl rfl ?_
        refine g_getR hC _ 5 10 _ (by decide) rfl rfl fl_M_38 d_M_sealed_130 rfl ?_
        refine g_iload_n hC d_M_sealed_133 rfl rfl ?_
        refine g_iald hC _ _ (32 + k) (by decide) rfl rfl (by show 32 + k < 36; omega) (by decide) d_M_sealed_134 rfl ?_
        refine g_goi hC rfl (z_runS hC (c_M_mixed l D K q hq _ _ _) yy_M_mixed ys_M_100 ⟨Nat.le_of_ble_eq_true rfl, Nat.le_of_ble_eq_true rfl⟩ ⟨Nat.zero_le _, Nat.zero_le _⟩ rfl (Nat.le_of_ble_eq_true rfl) d_M_sealed_135) (fun r6 σ6 q6 => ?_)
        obtain ⟨rfl, w6⟩ := q6
        obtain rfl := w6.symm
        refine g_istore_n hC d_M_sealed_138 rfl (by decide) ?_
        refine g_iload_n hC d_M_sealed_139 rfl rfl ?_
        refine g_aload_n hC d_M_sealed_140 rfl rfl ?_
        refine g_getR hC _ 5 11 _ (by decide) rfl rfl fl_M_41 d_M_sealed_141 rfl ?_
        refine g_iload_n hC d_M_sealed_144 rfl rfl ?_
        refine g_iald hC _ _ (32 + k) (by decide) rfl rfl (by show 32 + k < 36; omega) (by decide) d_M_sealed_145 rfl ?_
        refine g_goi hC rfl (z_runS hC (c_M_mixed l D K q hq _ _ _) yy_M_mixed ys_M_100 ⟨Nat.le_of_ble_eq_true rfl, Nat.le_of_ble_eq_true rfl⟩ ⟨Nat.zero_le _, Nat.zero_le _⟩ rfl (Nat.le_of_ble_eq_true rfl) d_M_sealed_146) (fun r7 σ7 q7 => ?_)
        obtain ⟨rfl, w7⟩ := q7
        obtain rfl := w7.symm
        refine g_istore_n hC d_M_sealed_149 rfl (by decide) ?_
        refine g_iinc hC (nI (32 + (k + 1))) d_M_sealed_150 rfl rfl (nI_succ _).symm (by decide) ?_
        refine g_goto hC 84 d_M_sealed_153 rfl ?_
        exact zG.to (ih (k + 1) (by omega)) rfl rfl ⟨rfl, congrArg (fun z => some (Value.int z)) (dgP_s (fun n => σ 112 (32 + n)) (fun n => if σ 113 (32 + n) = 0 then 0 else 1) (fun n => σ 114 (32 + n)) (fun n => σ 115 (32 + n)) (mgL (fun n => σ 110 (64 + n)) (zmix (zmix (zmix 17 (σ 104 14)) (σ 106 8)) (σ 109 8)) 8) k).symm, rfl, trivial⟩
  have J32 : ∀ (f : Nat) (k : Nat) (hif : k + f = 8), zG p l e (zrm 1) s m ([.ref (q (104))] : List Value).toArray below meth c D K q (zA q) 3 0 0 (MQ below (va_Qi (fun r σ' => r = wsea σ pn wn ∧ σ' = σ) (zO D K q) (zA q)) ([.ref (q (104))] : List Value).toArray s 0 0 (zA q)) σ 32 [(0, .ref (q (104))), (1, .int (mgL (fun n => σ 110 (64 + n)) (zmix (zmix (zmix 17 (σ 104 14)) (σ 106 8)) (σ 109 8)) k)), (2, .int (nI k))] [] := by
    intro f
    induction f with
    | zero =>
      intro k hif
      refine g_iload_n hC d_M_sealed_32 rfl rfl ?_
      refine g_bipush hC (8) d_M_sealed_33 (by decide) rfl ?_
      refine g_icmp_ge hC 81 d_M_sealed_35 rfl rfl (fun h35 => ?_) (fun h35 => absurd (nI_le (a := 8) (b := k) (by omega) (by omega)) h35)
      refine g_bipush hC (32) d_M_sealed_81 (by decide) rfl ?_
      refine g_istore_n hC d_M_sealed_83 rfl (by decide) ?_
      exact zG.to (J84 pn 0 (by omega)) rfl rfl ⟨rfl, congrArg (fun z => some (Value.int z)) (by rw [show k = 8 by omega]; rfl), rfl, trivial⟩
    | succ f ih =>
      intro k hif
      refine g_iload_n hC d_M_sealed_32 rfl rfl ?_
      refine g_bipush hC (8) d_M_sealed_33 (by decide) rfl ?_
      refine g_icmp_ge hC 81 d_M_sealed_35 rfl rfl (fun h35 => absurd h35 (nI_ge (a := k) (b := 8) (by omega) (by omega))) (fun h35 => ?_)
      refine g_aload_n hC d_M_sealed_38 rfl rfl ?_
      refine g_getR hC _ 5 6 _ (by decide) rfl rfl fl_M_26 d_M_sealed_39 rfl ?_
      refine g_bipush hC (64) d_M_sealed_42 (by decide) rfl ?_
      refine g_iload_n hC d_M_sealed_44 rfl rfl ?_
      refine g_iadd hC d_M_sealed_45 rfl ?_
      refine g_top hC (nI (64 + k)) (nI_add 64 k) ?_
      refine g_iald hC _ _ (64 + k) (by decide) rfl rfl (by show 64 + k < 72; omega) (by decide) d_M_sealed_46 rfl ?_
      refine g_if_eq hC 73 d_M_sealed_47 rfl rfl (fun h47 => ?_) (fun h47 => ?_)
      ·
        refine g_iload_n hC d_M_sealed_73 rfl rfl ?_
        refine g_istore_n hC d_M_sealed_74 rfl (by decide) ?_
        refine g_iinc hC (nI (k + 1)) d_M_sealed_75 rfl rfl (nI_succ _).symm (by decide) ?_
        refine g_goto hC 32 d_M_sealed_78 rfl ?_
        first | exact zG.to (ih (k + 1) (by omega)) rfl rfl ⟨rfl, congrArg (fun z => some (Value.int z)) (mgL_t (d := fun n => σ 110 (64 + n)) (h := (zmix (zmix (zmix 17 (σ 104 14)) (σ 106 8)) (σ 109 8))) (n := k) h47).symm, rfl, trivial⟩ | exact zG.to (ih (k + 1) (by omega)) rfl rfl ⟨rfl, congrArg (fun z => some (Value.int z)) (mgL_f (d := fun n => σ 110 (64 + n)) (h := (zmix (zmix (zmix 17 (σ 104 14)) (σ 106 8)) (σ 109 8))) (n := k) h47).symm, rfl, trivial⟩
      ·
        refine g_iload_n hC d_M_sealed_50 rfl rfl ?_
        refine g_bipush hC (10) d_M_sealed_51 (by decide) rfl ?_
        refine g_iload_n hC d_M_sealed_53 rfl rfl ?_
        refine g_imul hC d_M_sealed_54 rfl ?_
        refine g_aload_n hC d_M_sealed_55 rfl rfl ?_
        refine g_getR hC _ 5 6 _ (by decide) rfl rfl fl_M_26 d_M_sealed_56 rfl ?_
        refine g_bipush hC (64) d_M_sealed_59 (by decide) rfl ?_
        refine g_iload_n hC d_M_sealed_61 rfl rfl ?_
        refine g_iadd hC d_M_sealed_62 rfl ?_
        refine g_top hC (nI (64 + k)) (nI_add 64 k) ?_
        refine g_iald hC _ _ (64 + k) (by decide) rfl rfl (by show 64 + k < 72; omega) (by decide) d_M_sealed_63 rfl ?_
        refine g_iadd hC d_M_sealed_64 rfl ?_
        refine g_iconst hC (1) d_M_sealed_65 (by decide) rfl ?_
        refine g_isub hC d_M_sealed_66 rfl ?_
        refine g_goi hC rfl (z_runS hC (c_M_mixed l D K q hq _ _ _) yy_M_mixed ys_M_100 ⟨Nat.le_of_ble_eq_true rfl, Nat.le_of_ble_eq_true rfl⟩ ⟨Nat.zero_le _, Nat.zero_le _⟩ rfl (Nat.le_of_ble_eq_true rfl) d_M_sealed_67) (fun r8 σ8 q8 => ?_)
        obtain ⟨rfl, w8⟩ := q8
        obtain rfl := w8.symm
        refine g_goto hC 74 d_M_sealed_70 rfl ?_
        refine g_istore_n hC d_M_sealed_74 rfl (by decide) ?_
        refine g_iinc hC (nI (k + 1)) d_M_sealed_75 rfl rfl (nI_succ _).symm (by decide) ?_
        refine g_goto hC 32 d_M_sealed_78 rfl ?_
        first | exact zG.to (ih (k + 1) (by omega)) rfl rfl ⟨rfl, congrArg (fun z => some (Value.int z)) (mgL_t (d := fun n => σ 110 (64 + n)) (h := (zmix (zmix (zmix 17 (σ 104 14)) (σ 106 8)) (σ 109 8))) (n := k) h47).symm, rfl, trivial⟩ | exact zG.to (ih (k + 1) (by omega)) rfl rfl ⟨rfl, congrArg (fun z => some (Value.int z)) (mgL_f (d := fun n => σ 110 (64 + n)) (h := (zmix (zmix (zmix 17 (σ 104 14)) (σ 106 8)) (σ 109 8))) (n := k) h47).symm, rfl, trivial⟩
  refine g_bipush hC (17) d_M_sealed_0 (by decide) rfl ?_
  refine g_aload_n hC d_M_sealed_2 rfl rfl ?_
  refine g_getI hC _ 5 14 (by decide) rfl rfl fl_M_97 d_M_sealed_3 rfl ?_
  refine g_goi hC rfl (z_runS hC (c_M_mixed l D K q hq _ _ _) yy_M_mixed ys_M_100 ⟨Nat.le_of_ble_eq_true rfl, Nat.le_of_ble_eq_true rfl⟩ ⟨Nat.zero_le _, Nat.zero_le _⟩ rfl (Nat.le_of_ble_eq_true rfl) d_M_sealed_6) (fun r9 σ9 q9 => ?_)
  obtain ⟨rfl, w9⟩ := q9
  obtain rfl := w9.symm
  refine g_aload_n hC d_M_sealed_9 rfl rfl ?_
  refine g_getR hC _ 5 2 _ (by decide) rfl rfl fl_M_13 d_M_sealed_10 rfl ?_
  refine g_bipush hC (8) d_M_sealed_13 (by decide) rfl ?_
  refine g_iald hC _ _ 8 (by decide) rfl (by decide) (by decide) (by decide) d_M_sealed_15 rfl ?_
  refine g_goi hC rfl (z_runS hC (c_M_mixed l D K q hq _ _ _) yy_M_mixed ys_M_100 ⟨Nat.le_of_ble_eq_true rfl, Nat.le_of_ble_eq_true rfl⟩ ⟨Nat.zero_le _, Nat.zero_le _⟩ rfl (Nat.le_of_ble_eq_true rfl) d_M_sealed_16) (fun r10 σ10 q10 => ?_)
  obtain ⟨rfl, w10⟩ := q10
  obtain rfl := w10.symm
  refine g_aload_n hC d_M_sealed_19 rfl rfl ?_
  refine g_getR hC _ 5 5 _ (by decide) rfl rfl fl_M_23 d_M_sealed_20 rfl ?_
  refine g_bipush hC (8) d_M_sealed_23 (by decide) rfl ?_
  refine g_iald hC _ _ 8 (by decide) rfl (by decide) (by decide) (by decide) d_M_sealed_25 rfl ?_
  refine g_goi hC rfl (z_runS hC (c_M_mixed l D K q hq _ _ _) yy_M_mixed ys_M_100 ⟨Nat.le_of_ble_eq_true rfl, Nat.le_of_ble_eq_true rfl⟩ ⟨Nat.zero_le _, Nat.zero_le _⟩ rfl (Nat.le_of_ble_eq_true rfl) d_M_sealed_26) (fun r11 σ11 q11 => ?_)
  obtain ⟨rfl, w11⟩ := q11
  obtain rfl := w11.symm
  refine g_istore_n hC d_M_sealed_29 rfl (by decide) ?_
  refine g_iconst hC (0) d_M_sealed_30 (by decide) rfl ?_
  refine g_istore_n hC d_M_sealed_31 rfl (by decide) ?_
  exact zG.to (J32 8 0 (by omega)) rfl rfl ⟨rfl, rfl, rfl, trivial⟩
set_option maxHeartbeats 4000000 in
set_option maxRecDepth 100000 in
theorem c_M_sign (l : Launch) (D : va_G) (K : Nat → ClassId) (q : Nat → Nat) (hq : zI q) (σ : zm) (pn wn : Nat) (hpn : pn ≤ 4) (hwn : wn ≤ 24) (hpc : σ 111 8 = nI pn) (hwc : σ 116 8 = nI wn) : zMi l y_M_sign b_M_sign 1 (some .int) 2 D K q [.ref (q (104))] σ (fun r σ' => r = wsea (wz σ) pn wn ∧ σ' = zu (wz σ) 108 8 (wsea (wz σ) pn wn)) := by
  refine zMi.of (own := "AppDeskModel") (lv := [(0, .ref (q (104)))]) (by decide) rfl hq (Nat.le_of_ble_eq_true rfl) rfl ?_
  intro p e s m below meth c hC hr hlk
  refine g_aload_n hC d_M_sign_0 rfl rfl ?_
  refine g_iconst hC (0) d_M_sign_1 (by decide) rfl ?_
  refine g_putI hC _ 5 0 (by decide) rfl rfl fp_M_90 d_M_sign_2 rfl ?_
  refine g_aload_n hC d_M_sign_5 rfl rfl ?_
  refine g_getR hC _ 5 4 _ (by decide) rfl rfl fl_M_20 d_M_sign_6 rfl ?_
  refine g_bipush hC (8) d_M_sign_9 (by decide) rfl ?_
  refine g_aload_n hC d_M_sign_11 rfl rfl ?_
  refine g_goi hC rfl (z_runV hC (c_M_sealed l D K q hq _ pn wn hpn hwn (by rw [zu_row _ _ (by decide)]; exact hpc) (by rw [zu_row _ _ (by decide)]; exact hwc)) yy_M_sealed yv_M_105 (by decide) rfl ⟨Nat.le_of_ble_eq_true rfl, Nat.le_of_ble_eq_true rfl⟩ ⟨Nat.zero_le _, Nat.zero_le _⟩ rfl (Nat.le_of_ble_eq_true rfl) d_M_sign_12) (fun r0 σ0 q0 => ?_)
  obtain ⟨rfl, w0⟩ := q0
  obtain rfl := w0.symm
  refine g_iast hC _ _ 8 (by decide) rfl (by decide) (by decide) (by decide) d_M_sign_15 rfl ?_
  refine g_aload_n hC d_M_sign_16 rfl rfl ?_
  refine g_getR hC _ 5 4 _ (by decide) rfl rfl fl_M_20 d_M_sign_17 rfl ?_
  refine g_bipush hC (8) d_M_sign_20 (by decide) rfl ?_
  refine g_ialdV hC _ _ 8 (wsea (wz σ) pn wn) (zu_eq _ _ _ _) (by decide) rfl (by decide) (by decide) (by decide) d_M_sign_22 rfl ?_
  exact g_iret hC hr hlk d_M_sign_23 ⟨rfl, rfl⟩
set_option maxHeartbeats 4000000 in
set_option maxRecDepth 100000 in
theorem c_M_seal (l : Launch) (D : va_G) (K : Nat → ClassId) (q : Nat → Nat) (hq : zI q) (x : Int32) (σ : zm) : zMv l y_M_seal b_M_seal 2 none 0 D K q [.ref (q (104)), .int (x)] σ (fun σ' => σ' = zu (wz σ) 108 8 x) := by
  refine zMv.of (own := "AppDeskModel") (lv := [(0, .ref (q (104))), (1, .int (x))]) (by decide) rfl hq (Nat.le_of_ble_eq_true rfl) rfl ?_
  intro p e s m below meth c hC hr hlk
  refine g_aload_n hC d_M_seal_0 rfl rfl ?_
  refine g_iconst hC (0) d_M_seal_1 (by decide) rfl ?_
  refine g_putI hC _ 5 0 (by decide) rfl rfl fp_M_90 d_M_seal_2 rfl ?_
  refine g_aload_n hC d_M_seal_5 rfl rfl ?_
  refine g_getR hC _ 5 4 _ (by decide) rfl rfl fl_M_20 d_M_seal_6 rfl ?_
  refine g_bipush hC (8) d_M_seal_9 (by decide) rfl ?_
  refine g_iload_n hC d_M_seal_11 rfl rfl ?_
  refine g_iast hC _ _ 8 (by decide) rfl (by decide) (by decide) (by decide) d_M_seal_12 rfl ?_
  exact g_vret hC hr hlk d_M_seal_13 rfl
set_option maxHeartbeats 4000000 in
set_option maxRecDepth 100000 in
theorem c_M_needs (l : Launch) (D : va_G) (K : Nat → ClassId) (q : Nat → Nat) (hq : zI q) (o : Int32) (σ : zm) : zMi l y_M_needs b_M_needs 1 (some .int) 0 D K q [.int (o)] σ (fun r σ' => r = wnd o ∧ σ' = σ) := by
  refine zMi.of (own := "AppDeskModel") (lv := [(0, .int (o))]) (by decide) rfl hq (Nat.le_of_ble_eq_true rfl) rfl ?_
  intro p e s m below meth c hC hr hlk
  refine g_iload_n hC d_M_needs_0 rfl rfl ?_
  refine g_iconst hC (2) d_M_needs_1 (by decide) rfl ?_
  refine g_icmp_eq hC 22 d_M_needs_2 rfl rfl (fun h2 => ?_) (fun h2 => ?_)
  ·
    refine g_iconst hC (2) d_M_needs_22 (by decide) rfl ?_
    refine g_goto hC 59 d_M_needs_23 rfl ?_
    exact g_iret hC hr hlk d_M_needs_59 ⟨by first | (simp [wnd, h2]; done) | (simp [wnd, h2, h7]; done) | (simp [wnd, h2, h7, h13]; done) | (simp [wnd, h2, h7, h13, h19]; done) | (simp [wnd, h2, h7, h13, h19, h28]; done) | (simp [wnd, h2, h7, h13, h19, h28, h33]; done) | (simp [wnd, h2, h7, h13, h19, h28, h33, h39]; done) | (simp [wnd, h2, h7, h13, h19, h28, h33, h39, h45]; done) | (simp [wnd, h2, h7, h13, h19, h28, h33, h39, h45, h51]; done), rfl⟩
  ·
    refine g_iload_n hC d_M_needs_5 rfl rfl ?_
    refine g_iconst hC (3) d_M_needs_6 (by decide) rfl ?_
    refine g_icmp_eq hC 22 d_M_needs_7 rfl rfl (fun h7 => ?_) (fun h7 => ?_)
    ·
      refine g_iconst hC (2) d_M_needs_22 (by decide) rfl ?_
      refine g_goto hC 59 d_M_needs_23 rfl ?_
      exact g_iret hC hr hlk d_M_needs_59 ⟨by first | (simp [wnd, h2]; done) | (simp [wnd, h2, h7]; done) | (simp [wnd, h2, h7, h13]; done) | (simp [wnd, h2, h7, h13, h19]; done) | (simp [wnd, h2, h7, h13, h19, h28]; done) | (simp [wnd, h2, h7, h13, h19, h28, h33]; done) | (simp [wnd, h2, h7, h13, h19, h28, h33, h39]; done) | (simp [wnd, h2, h7, h13, h19, h28, h33, h39, h45]; done) | (simp [wnd, h2, h7, h13, h19, h28, h33, h39, h45, h51]; done), rfl⟩
    ·
      refine g_iload_n hC d_M_needs_10 rfl rfl ?_
      refine g_bipush hC (11) d_M_needs_11 (by decide) rfl ?_
      refine g_icmp_eq hC 22 d_M_needs_13 rfl rfl (fun h13 => ?_) (fun h13 => ?_)
      ·
        refine g_iconst hC (2) d_M_needs_22 (by decide) rfl ?_
        refine g_goto hC 59 d_M_needs_23 rfl ?_
        exact g_iret hC hr hlk d_M_needs_59 ⟨by first | (simp [wnd, h2]; done) | (simp [wnd, h2, h7]; done) | (simp [wnd, h2, h7, h13]; done) | (simp [wnd, h2, h7, h13, h19]; done) | (simp [wnd, h2, h7, h13, h19, h28]; done) | (simp [wnd, h2, h7, h13, h19, h28, h33]; done) | (simp [wnd, h2, h7, h13, h19, h28, h33, h39]; done) | (simp [wnd, h2, h7, h13, h19, h28, h33, h39, h45]; done) | (simp [wnd, h2, h7, h13, h19, h28, h33, h39, h45, h51]; done), rfl⟩
      ·
        refine g_iload_n hC d_M_needs_16 rfl rfl ?_
        refine g_bipush hC (12) d_M_needs_17 (by decide) rfl ?_
        refine g_icmp_ne hC 26 d_M_needs_19 rfl rfl (fun h19 => ?_) (fun h19 => ?_)
        ·
          refine g_iload_n hC d_M_needs_26 rfl rfl ?_
          refine g_iconst hC (4) d_M_needs_27 (by decide) rfl ?_
          refine g_icmp_eq hC 54 d_M_needs_28 rfl rfl (fun h28 => ?_) (fun h28 => ?_)
          ·
            refine g_iconst hC (1) d_M_needs_54 (by decide) rfl ?_
            refine g_goto hC 59 d_M_needs_55 rfl ?_
            exact g_iret hC hr hlk d_M_needs_59 ⟨by first | (simp [wnd, h2]; done) | (simp [wnd, h2, h7]; done) | (simp [wnd, h2, h7, h13]; done) | (simp [wnd, h2, h7, h13, h19]; done) | (simp [wnd, h2, h7, h13, h19, h28]; done) | (simp [wnd, h2, h7, h13, h19, h28, h33]; done) | (simp [wnd, h2, h7, h13, h19, h28, h33, h39]; done) | (simp [wnd, h2, h7, h13, h19, h28, h33, h39, h45]; done) | (simp [wnd, h2, h7, h13, h19, h28, h33, h39, h45, h51]; done), rfl⟩
          ·
            refine g_iload_n hC d_M_needs_31 rfl rfl ?_
            refine g_iconst hC (5) d_M_needs_32 (by decide) rfl ?_
            refine g_icmp_eq hC 54 d_M_needs_33 rfl rfl (fun h33 => ?_) (fun h33 => ?_)
            ·
              refine g_iconst hC (1) d_M_needs_54 (by decide) rfl ?_
              refine g_goto hC 59 d_M_needs_55 rfl ?_
              exact g_iret hC hr hlk d_M_needs_59 ⟨by first | (simp [wnd, h2]; done) | (simp [wnd, h2, h7]; done) | (simp [wnd, h2, h7, h13]; done) | (simp [wnd, h2, h7, h13, h19]; done) | (simp [wnd, h2, h7, h13, h19, h28]; done) | (simp [wnd, h2, h7, h13, h19, h28, h33]; done) | (simp [wnd, h2, h7, h13, h19, h28, h33, h39]; done) | (simp [wnd, h2, h7, h13, h19, h28, h33, h39, h45]; done) | (simp [wnd, h2, h7, h13, h19, h28, h33, h39, h45, h51]; done), rfl⟩
            ·
              refine g_iload_n hC d_M_needs_36 rfl rfl ?_
              refine g_bipush hC (7) d_M_needs_37 (by decide) rfl ?_
              refine g_icmp_eq hC 54 d_M_needs_39 rfl rfl (fun h39 => ?_) (fun h39 => ?_)
              ·
                refine g_iconst hC (1) d_M_needs_54 (by decide) rfl ?_
                refine g_goto hC 59 d_M_needs_55 rfl ?_
                exact g_iret hC hr hlk d_M_needs_59 ⟨by first | (simp [wnd, h2]; done) | (simp [wnd, h2, h7]; done) | (simp [wnd, h2, h7, h13]; done) | (simp [wnd, h2, h7, h13, h19]; done) | (simp [wnd, h2, h7, h13, h19, h28]; done) | (simp [wnd, h2, h7, h13, h19, h28, h33]; done) | (simp [wnd, h2, h7, h13, h19, h28, h33, h39]; done) | (simp [wnd, h2, h7, h13, h19, h28, h33, h39, h45]; done) | (simp [wnd, h2, h7, h13, h19, h28, h33, h39, h45, h51]; done), rfl⟩
              ·
                refine g_iload_n hC d_M_needs_42 rfl rfl ?_
                refine g_bipush hC (9) d_M_needs_43 (by decide) rfl ?_
                refine g_icmp_eq hC 54 d_M_needs_45 rfl rfl (fun h45 => ?_) (fun h45 => ?_)
                ·
                  refine g_iconst hC (1) d_M_needs_54 (by decide) rfl ?_
                  refine g_goto hC 59 d_M_needs_55 rfl ?_
                  exact g_iret hC hr hlk d_M_needs_59 ⟨by first | (simp [wnd, h2]; done) | (simp [wnd, h2, h7]; done) | (simp [wnd, h2, h7, h13]; done) | (simp [wnd, h2, h7, h13, h19]; done) | (simp [wnd, h2, h7, h13, h19, h28]; done) | (simp [wnd, h2, h7, h13, h19, h28, h33]; done) | (simp [wnd, h2, h7, h13, h19, h28, h33, h39]; done) | (simp [wnd, h2, h7, h13, h19, h28, h33, h39, h45]; done) | (simp [wnd, h2, h7, h13, h19, h28, h33, h39, h45, h51]; done), rfl⟩
                ·
                  refine g_iload_n hC d_M_needs_48 rfl rfl ?_
                  refine g_bipush hC (10) d_M_needs_49 (by decide) rfl ?_
                  refine g_icmp_ne hC 58 d_M_needs_51 rfl rfl (fun h51 => ?_) (fun h51 => ?_)
                  ·
                    refine g_iconst hC (0) d_M_needs_58 (by decide) rfl ?_
                    exact g_iret hC hr hlk d_M_needs_59 ⟨by first | (simp [wnd, h2]; done) | (simp [wnd, h2, h7]; done) | (simp [wnd, h2, h7, h13]; done) | (simp [wnd, h2, h7, h13, h19]; done) | (simp [wnd, h2, h7, h13, h19, h28]; done) | (simp [wnd, h2, h7, h13, h19, h28, h33]; done) | (simp [wnd, h2, h7, h13, h19, h28, h33, h39]; done) | (simp [wnd, h2, h7, h13, h19, h28, h33, h39, h45]; done) | (simp [wnd, h2, h7, h13, h19, h28, h33, h39, h45, h51]; done), rfl⟩
                  ·
                    refine g_iconst hC (1) d_M_needs_54 (by decide) rfl ?_
                    refine g_goto hC 59 d_M_needs_55 rfl ?_
                    exact g_iret hC hr hlk d_M_needs_59 ⟨by first | (simp [wnd, h2]; done) | (simp [wnd, h2, h7]; done) | (simp [wnd, h2, h7, h13]; done) | (simp [wnd, h2, h7, h13, h19]; done) | (simp [wnd, h2, h7, h13, h19, h28]; done) | (simp [wnd, h2, h7, h13, h19, h28, h33]; done) | (simp [wnd, h2, h7, h13, h19, h28, h33, h39]; done) | (simp [wnd, h2, h7, h13, h19, h28, h33, h39, h45]; done) | (simp [wnd, h2, h7, h13, h19, h28, h33, h39, h45, h51]; done), rfl⟩
        ·
          refine g_iconst hC (2) d_M_needs_22 (by decide) rfl ?_
          refine g_goto hC 59 d_M_needs_23 rfl ?_
          exact g_iret hC hr hlk d_M_needs_59 ⟨by first | (simp [wnd, h2]; done) | (simp [wnd, h2, h7]; done) | (simp [wnd, h2, h7, h13]; done) | (simp [wnd, h2, h7, h13, h19]; done) | (simp [wnd, h2, h7, h13, h19, h28]; done) | (simp [wnd, h2, h7, h13, h19, h28, h33]; done) | (simp [wnd, h2, h7, h13, h19, h28, h33, h39]; done) | (simp [wnd, h2, h7, h13, h19, h28, h33, h39, h45]; done) | (simp [wnd, h2, h7, h13, h19, h28, h33, h39, h45, h51]; done), rfl⟩
set_option maxHeartbeats 4000000 in
set_option maxRecDepth 100000 in
theorem c_M_change (l : Launch) (D : va_G) (K : Nat → ClassId) (q : Nat → Nat) (hq : zI q) (o : Int32) (σ : zm) : zMi l y_M_change b_M_change 1 (some .int) 0 D K q [.int (o)] σ (fun r σ' => r = wch o ∧ σ' = σ) := by
  refine zMi.of (own := "AppDeskModel") (lv := [(0, .int (o))]) (by decide) rfl hq (Nat.le_of_ble_eq_true rfl) rfl ?_
  intro p e s m below meth c hC hr hlk
  refine g_iload_n hC d_M_change_0 rfl rfl ?_
  refine g_iconst hC (1) d_M_change_1 (by decide) rfl ?_
  refine g_icmp_eq hC 22 d_M_change_2 rfl rfl (fun h2 => ?_) (fun h2 => ?_)
  ·
    refine g_iconst hC (1) d_M_change_22 (by decide) rfl ?_
    refine g_goto hC 75 d_M_change_23 rfl ?_
    exact g_iret hC hr hlk d_M_change_75 ⟨by first | (simp [wch, h2]; done) | (simp [wch, h2, h7]; done) | (simp [wch, h2, h7, h13]; done) | (simp [wch, h2, h7, h13, h19]; done) | (simp [wch, h2, h7, h13, h19, h28]; done) | (simp [wch, h2, h7, h13, h19, h28, h33]; done) | (simp [wch, h2, h7, h13, h19, h28, h33, h38]; done) | (simp [wch, h2, h7, h13, h19, h28, h33, h38, h44]; done) | (simp [wch, h2, h7, h13, h19, h28, h33, h38, h44, h50]; done) | (simp [wch, h2, h7, h13, h19, h28, h33, h38, h44, h50, h60]; done) | (simp [wch, h2, h7, h13, h19, h28, h33, h38, h44, h50, h60, h66]; done), rfl⟩
  ·
    refine g_iload_n hC d_M_change_5 rfl rfl ?_
    refine g_iconst hC (4) d_M_change_6 (by decide) rfl ?_
    refine g_icmp_eq hC 22 d_M_change_7 rfl rfl (fun h7 => ?_) (fun h7 => ?_)
    ·
      refine g_iconst hC (1) d_M_change_22 (by decide) rfl ?_
      refine g_goto hC 75 d_M_change_23 rfl ?_
      exact g_iret hC hr hlk d_M_change_75 ⟨by first | (simp [wch, h2]; done) | (simp [wch, h2, h7]; done) | (simp [wch, h2, h7, h13]; done) | (simp [wch, h2, h7, h13, h19]; done) | (simp [wch, h2, h7, h13, h19, h28]; done) | (simp [wch, h2, h7, h13, h19, h28, h33]; done) | (simp [wch, h2, h7, h13, h19, h28, h33, h38]; done) | (simp [wch, h2, h7, h13, h19, h28, h33, h38, h44]; done) | (simp [wch, h2, h7, h13, h19, h28, h33, h38, h44, h50]; done) | (simp [wch, h2, h7, h13, h19, h28, h33, h38, h44, h50, h60]; done) | (simp [wch, h2, h7, h13, h19, h28, h33, h38, h44, h50, h60, h66]; done), rfl⟩
    ·
      refine g_iload_n hC d_M_change_10 rfl rfl ?_
      refine g_bipush hC (6) d_M_change_11 (by decide) rfl ?_
      refine g_icmp_eq hC 22 d_M_change_13 rfl rfl (fun h13 => ?_) (fun h13 => ?_)
      ·
        refine g_iconst hC (1) d_M_change_22 (by decide) rfl ?_
        refine g_goto hC 75 d_M_change_23 rfl ?_
        exact g_iret hC hr hlk d_M_change_75 ⟨by first | (simp [wch, h2]; done) | (simp [wch, h2, h7]; done) | (simp [wch, h2, h7, h13]; done) | (simp [wch, h2, h7, h13, h19]; done) | (simp [wch, h2, h7, h13, h19, h28]; done) | (simp [wch, h2, h7, h13, h19, h28, h33]; done) | (simp [wch, h2, h7, h13, h19, h28, h33, h38]; done) | (simp [wch, h2, h7, h13, h19, h28, h33, h38, h44]; done) | (simp [wch, h2, h7, h13, h19, h28, h33, h38, h44, h50]; done) | (simp [wch, h2, h7, h13, h19, h28, h33, h38, h44, h50, h60]; done) | (simp [wch, h2, h7, h13, h19, h28, h33, h38, h44, h50, h60, h66]; done), rfl⟩
      ·
        refine g_iload_n hC d_M_change_16 rfl rfl ?_
        refine g_bipush hC (13) d_M_change_17 (by decide) rfl ?_
        refine g_icmp_ne hC 26 d_M_change_19 rfl rfl (fun h19 => ?_) (fun h19 => ?_)
        ·
          refine g_iload_n hC d_M_change_26 rfl rfl ?_
          refine g_iconst hC (2) d_M_change_27 (by decide) rfl ?_
          refine g_icmp_eq hC 53 d_M_change_28 rfl rfl (fun h28 => ?_) (fun h28 => ?_)
          ·
            refine g_iconst hC (-1) d_M_change_53 (by decide) rfl ?_
            refine g_goto hC 75 d_M_change_54 rfl ?_
            exact g_iret hC hr hlk d_M_change_75 ⟨by first | (simp [wch, h2]; done) | (simp [wch, h2, h7]; done) | (simp [wch, h2, h7, h13]; done) | (simp [wch, h2, h7, h13, h19]; done) | (simp [wch, h2, h7, h13, h19, h28]; done) | (simp [wch, h2, h7, h13, h19, h28, h33]; done) | (simp [wch, h2, h7, h13, h19, h28, h33, h38]; done) | (simp [wch, h2, h7, h13, h19, h28, h33, h38, h44]; done) | (simp [wch, h2, h7, h13, h19, h28, h33, h38, h44, h50]; done) | (simp [wch, h2, h7, h13, h19, h28, h33, h38, h44, h50, h60]; done) | (simp [wch, h2, h7, h13, h19, h28, h33, h38, h44, h50, h60, h66]; done), rfl⟩
          ·
            refine g_iload_n hC d_M_change_31 rfl rfl ?_
            refine g_iconst hC (3) d_M_change_32 (by decide) rfl ?_
            refine g_icmp_eq hC 53 d_M_change_33 rfl rfl (fun h33 => ?_) (fun h33 => ?_)
            ·
              refine g_iconst hC (-1) d_M_change_53 (by decide) rfl ?_
              refine g_goto hC 75 d_M_change_54 rfl ?_
              exact g_iret hC hr hlk d_M_change_75 ⟨by first | (simp [wch, h2]; done) | (simp [wch, h2, h7]; done) | (simp [wch, h2, h7, h13]; done) | (simp [wch, h2, h7, h13, h19]; done) | (simp [wch, h2, h7, h13, h19, h28]; done) | (simp [wch, h2, h7, h13, h19, h28, h33]; done) | (simp [wch, h2, h7, h13, h19, h28, h33, h38]; done) | (simp [wch, h2, h7, h13, h19, h28, h33, h38, h44]; done) | (simp [wch, h2, h7, h13, h19, h28, h33, h38, h44, h50]; done) | (simp [wch, h2, h7, h13, h19, h28, h33, h38, h44, h50, h60]; done) | (simp [wch, h2, h7, h13, h19, h28, h33, h38, h44, h50, h60, h66]; done), rfl⟩
            ·
              refine g_iload_n hC d_M_change_36 rfl rfl ?_
              refine g_iconst hC (5) d_M_change_37 (by decide) rfl ?_
              refine g_icmp_eq hC 53 d_M_change_38 rfl rfl (fun h38 => ?_) (fun h38 => ?_)
              ·
                refine g_iconst hC (-1) d_M_change_53 (by decide) rfl ?_
                refine g_goto hC 75 d_M_change_54 rfl ?_
                exact g_iret hC hr hlk d_M_change_75 ⟨by first | (simp [wch, h2]; done) | (simp [wch, h2, h7]; done) | (simp [wch, h2, h7, h13]; done) | (simp [wch, h2, h7, h13, h19]; done) | (simp [wch, h2, h7, h13, h19, h28]; done) | (simp [wch, h2, h7, h13, h19, h28, h33]; done) | (simp [wch, h2, h7, h13, h19, h28, h33, h38]; done) | (simp [wch, h2, h7, h13, h19, h28, h33, h38, h44]; done) | (simp [wch, h2, h7, h13, h19, h28, h33, h38, h44, h50]; done) | (simp [wch, h2, h7, h13, h19, h28, h33, h38, h44, h50, h60]; done) | (simp [wch, h2, h7, h13, h19, h28, h33, h38, h44, h50, h60, h66]; done), rfl⟩
              ·
                refine g_iload_n hC d_M_change_41 rfl rfl ?_
                refine g_bipush hC (7) d_M_change_42 (by decide) rfl ?_
                refine g_icmp_eq hC 53 d_M_change_44 rfl rfl (fun h44 => ?_) (fun h44 => ?_)
                ·
                  refine g_iconst hC (-1) d_M_change_53 (by decide) rfl ?_
                  refine g_goto hC 75 d_M_change_54 rfl ?_
                  exact g_iret hC hr hlk d_M_change_75 ⟨by first | (simp [wch, h2]; done) | (simp [wch, h2, h7]; done) | (simp [wch, h2, h7, h13]; done) | (simp [wch, h2, h7, h13, h19]; done) | (simp [wch, h2, h7, h13, h19, h28]; done) | (simp [wch, h2, h7, h13, h19, h28, h33]; done) | (simp [wch, h2, h7, h13, h19, h28, h33, h38]; done) | (simp [wch, h2, h7, h13, h19, h28, h33, h38, h44]; done) | (simp [wch, h2, h7, h13, h19, h28, h33, h38, h44, h50]; done) | (simp [wch, h2, h7, h13, h19, h28, h33, h38, h44, h50, h60]; done) | (simp [wch, h2, h7, h13, h19, h28, h33, h38, h44, h50, h60, h66]; done), rfl⟩
                ·
                  refine g_iload_n hC d_M_change_47 rfl rfl ?_
                  refine g_bipush hC (9) d_M_change_48 (by decide) rfl ?_
                  refine g_icmp_ne hC 57 d_M_change_50 rfl rfl (fun h50 => ?_) (fun h50 => ?_)
                  ·
                    refine g_iload_n hC d_M_change_57 rfl rfl ?_
                    refine g_bipush hC (11) d_M_change_58 (by decide) rfl ?_
                    refine g_icmp_eq hC 69 d_M_change_60 rfl rfl (fun h60 => ?_) (fun h60 => ?_)
                    ·
                      refine g_bipush hC (-2) d_M_change_69 (by decide) rfl ?_
                      refine g_goto hC 75 d_M_change_71 rfl ?_
                      exact g_iret hC hr hlk d_M_change_75 ⟨by first | (simp [wch, h2]; done) | (simp [wch, h2, h7]; done) | (simp [wch, h2, h7, h13]; done) | (simp [wch, h2, h7, h13, h19]; done) | (simp [wch, h2, h7, h13, h19, h28]; done) | (simp [wch, h2, h7, h13, h19, h28, h33]; done) | (simp [wch, h2, h7, h13, h19, h28, h33, h38]; done) | (simp [wch, h2, h7, h13, h19, h28, h33, h38, h44]; done) | (simp [wch, h2, h7, h13, h19, h28, h33, h38, h44, h50]; done) | (simp [wch, h2, h7, h13, h19, h28, h33, h38, h44, h50, h60]; done) | (simp [wch, h2, h7, h13, h19, h28, h33, h38, h44, h50, h60, h66]; done), rfl⟩
                    ·
                      refine g_iload_n hC d_M_change_63 rfl rfl ?_
                      refine g_bipush hC (12) d_M_change_64 (by decide) rfl ?_
                      refine g_icmp_ne hC 74 d_M_change_66 rfl rfl (fun h66 => ?_) (fun h66 => ?_)
                      ·
                        refine g_iconst hC (0) d_M_change_74 (by decide) rfl ?_
                        exact g_iret hC hr hlk d_M_change_75 ⟨by first | (simp [wch, h2]; done) | (simp [wch, h2, h7]; done) | (simp [wch, h2, h7, h13]; done) | (simp [wch, h2, h7, h13, h19]; done) | (simp [wch, h2, h7, h13, h19, h28]; done) | (simp [wch, h2, h7, h13, h19, h28, h33]; done) | (simp [wch, h2, h7, h13, h19, h28, h33, h38]; done) | (simp [wch, h2, h7, h13, h19, h28, h33, h38, h44]; done) | (simp [wch, h2, h7, h13, h19, h28, h33, h38, h44, h50]; done) | (simp [wch, h2, h7, h13, h19, h28, h33, h38, h44, h50, h60]; done) | (simp [wch, h2, h7, h13, h19, h28, h33, h38, h44, h50, h60, h66]; done), rfl⟩
                      ·
                        refine g_bipush hC (-2) d_M_change_69 (by decide) rfl ?_
                        refine g_goto hC 75 d_M_change_71 rfl ?_
                        exact g_iret hC hr hlk d_M_change_75 ⟨by first | (simp [wch, h2]; done) | (simp [wch, h2, h7]; done) | (simp [wch, h2, h7, h13]; done) | (simp [wch, h2, h7, h13, h19]; done) | (simp [wch, h2, h7, h13, h19, h28]; done) | (simp [wch, h2, h7, h13, h19, h28, h33]; done) | (simp [wch, h2, h7, h13, h19, h28, h33, h38]; done) | (simp [wch, h2, h7, h13, h19, h28, h33, h38, h44]; done) | (simp [wch, h2, h7, h13, h19, h28, h33, h38, h44, h50]; done) | (simp [wch, h2, h7, h13, h19, h28, h33, h38, h44, h50, h60]; done) | (simp [wch, h2, h7, h13, h19, h28, h33, h38, h44, h50, h60, h66]; done), rfl⟩
                  ·
                    refine g_iconst hC (-1) d_M_change_53 (by decide) rfl ?_
                    refine g_goto hC 75 d_M_change_54 rfl ?_
                    exact g_iret hC hr hlk d_M_change_75 ⟨by first | (simp [wch, h2]; done) | (simp [wch, h2, h7]; done) | (simp [wch, h2, h7, h13]; done) | (simp [wch, h2, h7, h13, h19]; done) | (simp [wch, h2, h7, h13, h19, h28]; done) | (simp [wch, h2, h7, h13, h19, h28, h33]; done) | (simp [wch, h2, h7, h13, h19, h28, h33, h38]; done) | (simp [wch, h2, h7, h13, h19, h28, h33, h38, h44]; done) | (simp [wch, h2, h7, h13, h19, h28, h33, h38, h44, h50]; done) | (simp [wch, h2, h7, h13, h19, h28, h33, h38, h44, h50, h60]; done) | (simp [wch, h2, h7, h13, h19, h28, h33, h38, h44, h50, h60, h66]; done), rfl⟩
        ·
          refine g_iconst hC (1) d_M_change_22 (by decide) rfl ?_
          refine g_goto hC 75 d_M_change_23 rfl ?_
          exact g_iret hC hr hlk d_M_change_75 ⟨by first | (simp [wch, h2]; done) | (simp [wch, h2, h7]; done) | (simp [wch, h2, h7, h13]; done) | (simp [wch, h2, h7, h13, h19]; done) | (simp [wch, h2, h7, h13, h19, h28]; done) | (simp [wch, h2, h7, h13, h19, h28, h33]; done) | (simp [wch, h2, h7, h13, h19, h28, h33, h38]; done) | (simp [wch, h2, h7, h13, h19, h28, h33, h38, h44]; done) | (simp [wch, h2, h7, h13, h19, h28, h33, h38, h44, h50]; done) | (simp [wch, h2, h7, h13, h19, h28, h33, h38, h44, h50, h60]; done) | (simp [wch, h2, h7, h13, h19, h28, h33, h38, h44, h50, h60, h66]; done), rfl⟩
set_option maxHeartbeats 4000000 in
set_option maxRecDepth 100000 in
theorem c_M_comes (l : Launch) (D : va_G) (K : Nat → ClassId) (q : Nat → Nat) (hq : zI q) (x h0 : Int32) (wn : Nat) (hwn : wn ≤ 24) (σ : zm) (hwc : σ 116 8 = nI wn) : zMi l y_M_comes b_M_comes 3 (some .boolean) 1 D K q [.ref (q (104)), .int (x), .int (h0)] σ (fun r σ' => r = zb (wcm σ wn x h0).1 ∧ σ' = (wcm σ wn x h0).2) := by
  refine zMi.of (own := "AppDeskModel") (lv := [(0, .ref (q (104))), (1, .int (x)), (2, .int (h0))]) (by decide) rfl hq (Nat.le_of_ble_eq_true rfl) rfl ?_
  intro p e s m below meth c hC hr hlk
  refine g_iload_n hC d_M_comes_0 rfl rfl ?_
  refine g_aload_n hC d_M_comes_1 rfl rfl ?_
  refine g_getR hC _ 5 12 _ (by decide) rfl rfl fl_M_44 d_M_comes_2 rfl ?_
  refine g_bipush hC (8) d_M_comes_5 (by decide) rfl ?_
  refine g_ialdV hC _ _ 8 (nI wn) (hwc) (by decide) rfl (by decide) (by decide) (by decide) d_M_comes_7 rfl ?_
  refine g_goi hC rfl (z_runS hC (c_M_in l D K q hq _ _ _) yy_M_in ys_M_93 ⟨Nat.le_of_ble_eq_true rfl, Nat.le_of_ble_eq_true rfl⟩ ⟨Nat.zero_le _, Nat.zero_le _⟩ rfl (Nat.le_of_ble_eq_true rfl) d_M_comes_8) (fun r0 σ0 q0 => ?_)
  obtain ⟨rfl, w0⟩ := q0
  obtain rfl := w0.symm
  refine g_ifeq_b hC 33 d_M_comes_11 rfl rfl (fun h11 => ?_) (fun h11 => ?_)
  ·
    have ho : wcm σ wn x h0 = (false, σ) := by first | exact wcm_1 h11 | exact wcm_2 h11 hc h20 h30
    refine g_iconst hC (0) d_M_comes_33 (by decide) rfl ?_
    exact g_zret hC hr hlk d_M_comes_34 (Or.inl rfl) ⟨by rw [ho]; rfl, by rw [ho]⟩
  ·
    obtain ⟨k, hk, hx⟩ := zin_of (n := wn) (by omega) h11
    have hc : x.toNatClampNeg = k := by rw [hx]; exact nI_clamp (by omega)
    refine g_aload_n hC d_M_comes_14 rfl rfl ?_
    refine g_getR hC _ 5 28 _ (by decide) rfl rfl fl_M_87 d_M_comes_15 rfl ?_
    refine g_iload_n hC d_M_comes_18 rfl rfl ?_
    refine g_iald hC _ _ k (by decide) rfl hx (by show k < 24; omega) (by decide) d_M_comes_19 rfl ?_
    refine g_if_lt hC 35 d_M_comes_20 rfl rfl (fun h20 => ?_) (fun h20 => ?_)
    ·
      have ho : wcm σ wn x h0 = (true, zu σ 129 k h0) := by first | exact wcm_3 h11 hc (Or.inl h20) | exact wcm_3 h11 hc (Or.inr h30)
      refine g_aload_n hC d_M_comes_35 rfl rfl ?_
      refine g_getR hC _ 5 28 _ (by decide) rfl rfl fl_M_87 d_M_comes_36 rfl ?_
      refine g_iload_n hC d_M_comes_39 rfl rfl ?_
      refine g_iload_n hC d_M_comes_40 rfl rfl ?_
      refine g_iast hC _ _ k (by decide) rfl hx (by show k < 24; omega) (by decide) d_M_comes_41 rfl ?_
      refine g_iconst hC (1) d_M_comes_42 (by decide) rfl ?_
      exact g_zret hC hr hlk d_M_comes_43 (Or.inr rfl) ⟨by rw [ho]; rfl, by rw [ho]⟩
    ·
      refine g_aload_n hC d_M_comes_23 rfl rfl ?_
      refine g_getR hC _ 5 28 _ (by decide) rfl rfl fl_M_87 d_M_comes_24 rfl ?_
      refine g_iload_n hC d_M_comes_27 rfl rfl ?_
      refine g_iald hC _ _ k (by decide) rfl hx (by show k < 24; omega) (by decide) d_M_comes_28 rfl ?_
      refine g_iload_n hC d_M_comes_29 rfl rfl ?_
      refine g_icmp_eq hC 35 d_M_comes_30 rfl rfl (fun h30 => ?_) (fun h30 => ?_)
      ·
        have ho : wcm σ wn x h0 = (true, zu σ 129 k h0) := by first | exact wcm_3 h11 hc (Or.inl h20) | exact wcm_3 h11 hc (Or.inr h30)
        refine g_aload_n hC d_M_comes_35 rfl rfl ?_
        refine g_getR hC _ 5 28 _ (by decide) rfl rfl fl_M_87 d_M_comes_36 rfl ?_
        refine g_iload_n hC d_M_comes_39 rfl rfl ?_
        refine g_iload_n hC d_M_comes_40 rfl rfl ?_
        refine g_iast hC _ _ k (by decide) rfl hx (by show k < 24; omega) (by decide) d_M_comes_41 rfl ?_
        refine g_iconst hC (1) d_M_comes_42 (by decide) rfl ?_
        exact g_zret hC hr hlk d_M_comes_43 (Or.inr rfl) ⟨by rw [ho]; rfl, by rw [ho]⟩
      ·
        have ho : wcm σ wn x h0 = (false, σ) := by first | exact wcm_1 h11 | exact wcm_2 h11 hc h20 h30
        refine g_iconst hC (0) d_M_comes_33 (by decide) rfl ?_
        exact g_zret hC hr hlk d_M_comes_34 (Or.inl rfl) ⟨by rw [ho]; rfl, by rw [ho]⟩
