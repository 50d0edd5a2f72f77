/-! the verifier's methods -/
def zga (o n : Int32) : Bool := if o = 6 ∨ o = 7 then zin n 4 else if o = 13 then zin n 8 else true
def zrm1 (σ : zm) (x h : Int32) : zm := if σ 7 x.toNatClampNeg = -1 ∧ σ 6 2 < 24 then zu (zu (zu σ 7 x.toNatClampNeg h) 8 (σ 6 2).toNatClampNeg x) 6 2 (σ 6 2 + 1) else σ
def zrc (σ : zm) (wn : Nat) (x h : Int32) : Bool × zm := if zin x (nI wn) then (decide (zrm1 σ x h 7 x.toNatClampNeg = h), zrm1 σ x h) else (false, σ)
theorem zrc_t {σ τ : zm} {wn k : Nat} {x h : Int32} (hz : zin x (nI wn) = true) (hc : x.toNatClampNeg = k) (hτ : zrm1 σ x h = τ) : zrc σ wn x h = (decide (τ 7 k = h), τ) := by
  unfold zrc
  rw [if_pos hz, hc, hτ]
theorem zrm1_off (σ : zm) (x h : Int32) {a : Nat} (ha : a ≠ 6 ∧ a ≠ 7 ∧ a ≠ 8) : zrm1 σ x h a = σ a := by
  unfold zrm1
  split
  · rw [zu_row _ _ ha.1, zu_row _ _ ha.2.2, zu_row _ _ ha.2.1]
  · rfl
theorem zrc_off (σ : zm) (wn : Nat) (x h : Int32) {a : Nat} (ha : a ≠ 6 ∧ a ≠ 7 ∧ a ≠ 8) : (zrc σ wn x h).2 a = σ a := by
  unfold zrc
  split
  · exact zrm1_off σ x h ha
  · rfl
theorem zrc_cn {σ : zm} {wn cn : Nat} {x h : Int32} (hcn : cn ≤ 24) (h62 : σ 6 2 = nI cn) : ∃ c2 : Nat, c2 ≤ 24 ∧ (zrc σ wn x h).2 6 2 = nI c2 := by
  unfold zrc
  split
  · show ∃ c2 : Nat, c2 ≤ 24 ∧ zrm1 σ x h 6 2 = nI c2
    unfold zrm1
    split
    · rename_i hh
      rw [h62] at hh
      have := (nI_ltI (a := cn) (b := 24) (by omega) (by decide)).mp hh.2
      exact ⟨cn + 1, by omega, by rw [zu_eq, h62, nI_1]⟩
    · exact ⟨cn, hcn, h62⟩
  · exact ⟨cn, hcn, h62⟩
def zgx (σ : zm) (wn : Nat) (x n h : Int32) (b g : Bool) : Bool × zm :=
  if (if b then zrc σ wn (x + n) h else (true, σ)).1 then (if g then zrc (if b then zrc σ wn (x + n) h else (true, σ)).2 wn (x + 1) h else (true, (if b then zrc σ wn (x + n) h else (true, σ)).2)) else (false, (if b then zrc σ wn (x + n) h else (true, σ)).2)
theorem zgx_ff {σ : zm} {wn : Nat} {x n h : Int32} : zgx σ wn x n h false false = (true, σ) := rfl
theorem zgx_ft {σ : zm} {wn : Nat} {x n h : Int32} : zgx σ wn x n h false true = zrc σ wn (x + 1) h := rfl
theorem zgx_tF {σ : zm} {wn : Nat} {x n h : Int32} {g : Bool} (e : (zrc σ wn (x + n) h).1 = false) : zgx σ wn x n h true g = (false, (zrc σ wn (x + n) h).2) := by
  unfold zgx
  simp [e]
theorem zgx_tf {σ : zm} {wn : Nat} {x n h : Int32} (e : (zrc σ wn (x + n) h).1 = true) : zgx σ wn x n h true false = (true, (zrc σ wn (x + n) h).2) := by
  unfold zgx
  simp [e]
theorem zgx_tt {σ : zm} {wn : Nat} {x n h : Int32} (e : (zrc σ wn (x + n) h).1 = true) : zgx σ wn x n h true true = zrc (zrc σ wn (x + n) h).2 wn (x + 1) h := by
  unfold zgx
  simp [e]
/-- what a reached word leads to: whether it goes on well, and the verifier's rows behind it -/
def zgw (σ : zm) (i wn k o : Nat) : Bool × zm :=
  if ¬ o < 14 then (false, σ) else if zga (nI o) (σ (zp i + 6) k >>> ((4 : Int32) &&& 31)) = false then (false, σ) else if σ 7 k < zNeed o then (false, σ) else if 6 < σ 7 k - zNeed o + zLeav o then (false, σ)
  else zgx σ wn (nI k) (σ (zp i + 6) k >>> ((4 : Int32) &&& 31)) (σ 7 k - zNeed o + zLeav o) (decide (o = 8 ∨ o = 9)) (decide (o ≠ 0 ∧ o ≠ 8))
theorem zgw_1 {σ : zm} {i wn k o : Nat} (h : ¬ o < 14) : zgw σ i wn k o = (false, σ) := if_pos h
theorem zgw_2 {σ : zm} {i wn k o : Nat} (h : o < 14) (h2 : zga (nI o) (σ (zp i + 6) k >>> ((4 : Int32) &&& 31)) = false) : zgw σ i wn k o = (false, σ) := by
  unfold zgw
  rw [if_neg (fun z => z h), if_pos h2]
theorem zgw_3 {σ : zm} {i wn k o : Nat} (h : o < 14) (h2 : zga (nI o) (σ (zp i + 6) k >>> ((4 : Int32) &&& 31)) = true) (h3 : σ 7 k < zNeed o) : zgw σ i wn k o = (false, σ) := by
  unfold zgw
  rw [if_neg (fun z => z h), if_neg (by rw [h2]; decide), if_pos h3]
theorem zgw_4 {σ : zm} {i wn k o : Nat} (h : o < 14) (h2 : zga (nI o) (σ (zp i + 6) k >>> ((4 : Int32) &&& 31)) = true) (h3 : ¬ σ 7 k < zNeed o) (h4 : 6 < σ 7 k - zNeed o + zLeav o) : zgw σ i wn k o = (false, σ) := by
  unfold zgw
  rw [if_neg (fun z => z h), if_neg (by rw [h2]; decide), if_neg h3, if_pos h4]
theorem zgw_5 {σ : zm} {i wn k o : Nat} (h : o < 14) (h2 : zga (nI o) (σ (zp i + 6) k >>> ((4 : Int32) &&& 31)) = true) (h3 : ¬ σ 7 k < zNeed o) (h4 : ¬ 6 < σ 7 k - zNeed o + zLeav o) : zgw σ i wn k o = zgx σ wn (nI k) (σ (zp i + 6) k >>> ((4 : Int32) &&& 31)) (σ 7 k - zNeed o + zLeav o) (decide (o = 8 ∨ o = 9)) (decide (o ≠ 0 ∧ o ≠ 8)) := by
  unfold zgw
  rw [if_neg (fun z => z h), if_neg (by rw [h2]; decide), if_neg h3, if_neg h4]
set_option maxHeartbeats 4000000 in
set_option maxRecDepth 100000 in
theorem c_V_hasGoodArgument (l : Launch) (D : va_G) (K : Nat → ClassId) (q : Nat → Nat) (hq : zI q) (o n : Int32) (σ : zm) : zMi l y_V_hasGoodArgument b_V_hasGoodArgument 2 (some .boolean) 1 D K q [.int (o), .int (n)] σ (fun r σ' => r = zb (zga o n) ∧ σ' = σ) := by
  refine zMi.of (own := "AppDesk$Verifier") (lv := [(0, .int (o)), (1, .int (n))]) (by decide) rfl hq (Nat.le_of_ble_eq_true rfl) rfl ?_
  intro p e s m below meth c hC hr hlk
  refine g_iload_n hC d_V_hasGoodArgument_0 rfl rfl ?_
  refine g_bipush hC (6) d_V_hasGoodArgument_1 (by decide) rfl ?_
  refine g_icmp_eq hC 12 d_V_hasGoodArgument_3 rfl rfl (fun h3 => ?_) (fun h3 => ?_)
  ·
    refine g_iload_n hC d_V_hasGoodArgument_12 rfl rfl ?_
    refine g_iconst hC (4) d_V_hasGoodArgument_13 (by decide) rfl ?_
    refine g_goi hC rfl (z_runN hC (c_D_isBelow l D K q hq _ _ _) yy_D_isBelow yn_V_47 ⟨Nat.le_of_ble_eq_true rfl, Nat.le_of_ble_eq_true rfl⟩ ⟨Nat.zero_le _, Nat.zero_le _⟩ rfl (Nat.le_of_ble_eq_true rfl) d_V_hasGoodArgument_14) (fun r0 σ0 q0 => ?_)
    obtain ⟨rfl, w0⟩ := q0
    obtain rfl := w0.symm
    exact g_zret hC hr hlk d_V_hasGoodArgument_17 (zb01 _) ⟨by first | (simp [zga, h3]; done) | (simp [zga, h3, h9]; done) | (simp [zga, h3, h9, h21, zb]; done) | (simp [zga, h3, h9, h21, h30, zb]; done), rfl⟩
  ·
    refine g_iload_n hC d_V_hasGoodArgument_6 rfl rfl ?_
    refine g_bipush hC (7) d_V_hasGoodArgument_7 (by decide) rfl ?_
    refine g_icmp_ne hC 18 d_V_hasGoodArgument_9 rfl rfl (fun h9 => ?_) (fun h9 => ?_)
    ·
      refine g_iload_n hC d_V_hasGoodArgument_18 rfl rfl ?_
      refine g_bipush hC (13) d_V_hasGoodArgument_19 (by decide) rfl ?_
      refine g_icmp_ne hC 33 d_V_hasGoodArgument_21 rfl rfl (fun h21 => ?_) (fun h21 => ?_)
      ·
        refine g_iconst hC (1) d_V_hasGoodArgument_33 (by decide) rfl ?_
        refine g_goto hC 38 d_V_hasGoodArgument_34 rfl ?_
        exact g_zret hC hr hlk d_V_hasGoodArgument_38 (Or.inr rfl) ⟨by first | (simp [zga, h3]; done) | (simp [zga, h3, h9]; done) | (simp [zga, h3, h9, h21, zb]; done) | (simp [zga, h3, h9, h21, h30, zb]; done), rfl⟩
      ·
        refine g_iload_n hC d_V_hasGoodArgument_24 rfl rfl ?_
        refine g_bipush hC (8) d_V_hasGoodArgument_25 (by decide) rfl ?_
        refine g_goi hC rfl (z_runN hC (c_D_isBelow l D K q hq _ _ _) yy_D_isBelow yn_V_47 ⟨Nat.le_of_ble_eq_true rfl, Nat.le_of_ble_eq_true rfl⟩ ⟨Nat.zero_le _, Nat.zero_le _⟩ rfl (Nat.le_of_ble_eq_true rfl) d_V_hasGoodArgument_27) (fun r1 σ1 q1 => ?_)
        obtain ⟨rfl, w1⟩ := q1
        obtain rfl := w1.symm
        refine g_ifeq_b hC 37 d_V_hasGoodArgument_30 rfl rfl (fun h30 => ?_) (fun h30 => ?_)
        ·
          refine g_iconst hC (0) d_V_hasGoodArgument_37 (by decide) rfl ?_
          exact g_zret hC hr hlk d_V_hasGoodArgument_38 (Or.inl rfl) ⟨by first | (simp [zga, h3]; done) | (simp [zga, h3, h9]; done) | (simp [zga, h3, h9, h21, zb]; done) | (simp [zga, h3, h9, h21, h30, zb]; done), rfl⟩
        ·
          refine g_iconst hC (1) d_V_hasGoodArgument_33 (by decide) rfl ?_
          refine g_goto hC 38 d_V_hasGoodArgument_34 rfl ?_
          exact g_zret hC hr hlk d_V_hasGoodArgument_38 (Or.inr rfl) ⟨by first | (simp [zga, h3]; done) | (simp [zga, h3, h9]; done) | (simp [zga, h3, h9, h21, zb]; done) | (simp [zga, h3, h9, h21, h30, zb]; done), rfl⟩
    ·
      refine g_iload_n hC d_V_hasGoodArgument_12 rfl rfl ?_
      refine g_iconst hC (4) d_V_hasGoodArgument_13 (by decide) rfl ?_
      refine g_goi hC rfl (z_runN hC (c_D_isBelow l D K q hq _ _ _) yy_D_isBelow yn_V_47 ⟨Nat.le_of_ble_eq_true rfl, Nat.le_of_ble_eq_true rfl⟩ ⟨Nat.zero_le _, Nat.zero_le _⟩ rfl (Nat.le_of_ble_eq_true rfl) d_V_hasGoodArgument_14) (fun r2 σ2 q2 => ?_)
      obtain ⟨rfl, w2⟩ := q2
      obtain rfl := w2.symm
      exact g_zret hC hr hlk d_V_hasGoodArgument_17 (zb01 _) ⟨by first | (simp [zga, h3]; done) | (simp [zga, h3, h9]; done) | (simp [zga, h3, h9, h21, zb]; done) | (simp [zga, h3, h9, h21, h30, zb]; done), rfl⟩
set_option maxHeartbeats 4000000 in
set_option maxRecDepth 100000 in
theorem c_V_reach (l : Launch) (D : va_G) (K : Nat → ClassId) (q : Nat → Nat) (hq : zI q) (i : Nat) (hi : i < 9) (x h0 : Int32) (wn cn : Nat) (hwn : wn ≤ 24) (hcn : cn ≤ 24) (σ : zm) (h11 : σ (zp i) 11 = nI wn) (h62 : σ 6 2 = nI cn) : zMi l y_V_reach b_V_reach 4 (some .boolean) 1 D K q [.ref (q (6)), .ref (q (zp i)), .int (x), .int (h0)] σ (fun r σ' => r = zb (zrc σ wn x h0).1 ∧ σ' = (zrc σ wn x h0).2) := by
  refine zMi.of (own := "AppDesk$Verifier") (lv := [(0, .ref (q (6))), (1, .ref (q (zp i))), (2, .int (x)), (3, .int (h0))]) (by decide) rfl hq (Nat.le_of_ble_eq_true rfl) rfl ?_
  intro p e s m below meth c hC hr hlk
  have J59 : ∀ (k : Nat) (hk : k < wn) (hx : x = nI k) (hc : x.toNatClampNeg = k) (hz0 : zin x (nI wn) = true) (τ : zm) (hτ : zrm1 σ x h0 = τ), zG p l e (zrm 1) s m ([.ref (q (6)), .ref (q (zp i)), .int (x), .int (h0)] : List Value).toArray below meth c D K q (zA q) 4 0 0 (MQ below (va_Qi (fun r σ' => r = zb (zrc σ wn x h0).1 ∧ σ' = (zrc σ wn x h0).2) (zO D K q) (zA q)) ([.ref (q (6)), .ref (q (zp i)), .int (x), .int (h0)] : List Value).toArray s 0 0 (zA q)) τ 59 [(0, .ref (q (6))), (1, .ref (q (zp i))), (2, .int (x)), (3, .int (h0))] [] := by
    intro k hk hx hc hz0 τ hτ
    refine g_aload_n hC d_V_reach_59 rfl rfl ?_
    refine g_getR hC _ 4 0 _ (by decide) rfl rfl fl_V_9 d_V_reach_60 rfl ?_
    refine g_iload_n hC d_V_reach_63 rfl rfl ?_
    refine g_iald hC _ _ k (by decide) rfl hx (by show k < 24; omega) (by decide) d_V_reach_64 rfl ?_
    refine g_iload_n hC d_V_reach_65 rfl rfl ?_
    refine g_icmp_ne hC 73 d_V_reach_66 rfl rfl (fun h66 => ?_) (fun h66 => ?_)
    ·
      refine g_iconst hC (0) d_V_reach_73 (by decide) rfl ?_
      exact g_zret hC hr hlk d_V_reach_74 (Or.inl rfl) ⟨by rw [zrc_t hz0 hc hτ]; first | (rw [decide_eq_true h66]; rfl) | (rw [decide_eq_false h66]; rfl), by rw [zrc_t hz0 hc hτ]⟩
    ·
      refine g_iconst hC (1) d_V_reach_69 (by decide) rfl ?_
      refine g_goto hC 74 d_V_reach_70 rfl ?_
      exact g_zret hC hr hlk d_V_reach_74 (Or.inr rfl) ⟨by rw [zrc_t hz0 hc hτ]; first | (rw [decide_eq_true h66]; rfl) | (rw [decide_eq_false h66]; rfl), by rw [zrc_t hz0 hc hτ]⟩
  refine g_iload_n hC d_V_reach_0 rfl rfl ?_
  refine g_aload_n hC d_V_reach_1 rfl rfl ?_
  refine g_getV hC _ 1 11 (nI wn) (h11) (zp_lt hi) (zS_p hi) rfl fl_V_44 d_V_reach_2 rfl ?_
  refine g_goi hC rfl (z_runN hC (c_D_isBelow l D K q hq _ _ _) yy_D_isBelow yn_V_47 ⟨Nat.le_of_ble_eq_true rfl, Nat.le_of_ble_eq_true rfl⟩ ⟨Nat.zero_le _, Nat.zero_le _⟩ rfl (Nat.le_of_ble_eq_true rfl) d_V_reach_5) (fun r0 σ0 q0 => ?_)
  obtain ⟨rfl, w0⟩ := q0
  obtain rfl := w0.symm
  refine g_ifne_b hC 13 d_V_reach_8 rfl rfl (fun h8 => ?_) (fun h8 => ?_)
  ·
    obtain ⟨k, hk, hx⟩ := zin_of (n := wn) (by omega) h8
    have hc : x.toNatClampNeg = k := by rw [hx]; exact nI_clamp (by omega)
    refine g_aload_n hC d_V_reach_13 rfl rfl ?_
    refine g_getR hC _ 4 0 _ (by decide) rfl rfl fl_V_9 d_V_reach_14 rfl ?_
    refine g_iload_n hC d_V_reach_17 rfl rfl ?_
    refine g_iald hC _ _ k (by decide) rfl hx (by show k < 24; omega) (by decide) d_V_reach_18 rfl ?_
    refine g_iconst hC (-1) d_V_reach_19 (by decide) rfl ?_
    refine g_icmp_ne hC 59 d_V_reach_20 rfl rfl (fun h20 => ?_) (fun h20 => ?_)
    ·
      exact zG.to (J59 k hk hx hc h8 _ (by first | (unfold zrm1; rw [hc, if_neg (fun z => h20 z.1)]; done) | (unfold zrm1; rw [if_neg (fun z => absurd h29 (Int32.not_le.mpr (h62 ▸ z.2)))]; done) | (unfold zrm1; rw [hc, h62, nI_clamp (by omega), if_pos ⟨h20, nI_lt (a := cn) (b := 24) hlt (by decide)⟩, nI_1]; done))) rfl rfl ⟨rfl, rfl, rfl, rfl, trivial⟩
    ·
      refine g_aload_n hC d_V_reach_23 rfl rfl ?_
      refine g_getV hC _ 4 2 (nI cn) (h62) (by decide) rfl rfl fl_V_24 d_V_reach_24 rfl ?_
      refine g_bipush hC (24) d_V_reach_27 (by decide) rfl ?_
      refine g_icmp_ge hC 59 d_V_reach_29 rfl rfl (fun h29 => ?_) (fun h29 => ?_)
      ·
        exact zG.to (J59 k hk hx hc h8 _ (by first | (unfold zrm1; rw [hc, if_neg (fun z => h20 z.1)]; done) | (unfold zrm1; rw [if_neg (fun z => absurd h29 (Int32.not_le.mpr (h62 ▸ z.2)))]; done) | (unfold zrm1; rw [hc, h62, nI_clamp (by omega), if_pos ⟨h20, nI_lt (a := cn) (b := 24) hlt (by decide)⟩, nI_1]; done))) rfl rfl ⟨rfl, rfl, rfl, rfl, trivial⟩
      ·
        have hlt : cn < 24 := Nat.lt_of_not_le (fun z => h29 (nI_le (a := 24) (b := cn) z (by omega)))
        refine g_aload_n hC d_V_reach_32 rfl rfl ?_
        refine g_getR hC _ 4 0 _ (by decide) rfl rfl fl_V_9 d_V_reach_33 rfl ?_
        refine g_iload_n hC d_V_reach_36 rfl rfl ?_
        refine g_iload_n hC d_V_reach_37 rfl rfl ?_
        refine g_iast hC _ _ k (by decide) rfl hx (by show k < 24; omega) (by decide) d_V_reach_38 rfl ?_
        refine g_aload_n hC d_V_reach_39 rfl rfl ?_
        refine g_getR hC _ 4 1 _ (by decide) rfl rfl fl_V_15 d_V_reach_40 rfl ?_
        refine g_aload_n hC d_V_reach_43 rfl rfl ?_
        refine g_getV hC _ 4 2 (nI cn) (by rw [zu_row _ _ (by decide)]; exact h62) (by decide) rfl rfl fl_V_24 d_V_reach_44 rfl ?_
        refine g_iload_n hC d_V_reach_47 rfl rfl ?_
        refine g_iast hC _ _ cn (by decide) rfl rfl hlt (by decide) d_V_reach_48 rfl ?_
        refine g_aload_n hC d_V_reach_49 rfl rfl ?_
        refine g_dup hC d_V_reach_50 rfl rfl ?_
        refine g_getV hC _ 4 2 (nI cn) (by rw [zu_row _ _ (by decide), zu_row _ _ (by decide)]; exact h62) (by decide) rfl rfl fl_V_24 d_V_reach_51 rfl ?_
        refine g_iconst hC (1) d_V_reach_54 (by decide) rfl ?_
        refine g_iadd hC d_V_reach_55 rfl ?_
        refine g_top hC (nI (cn + 1)) (nI_1 cn) ?_
        refine g_putI hC _ 4 2 (by decide) rfl rfl fp_V_24 d_V_reach_56 rfl ?_
        exact zG.to (J59 k hk hx hc h8 _ (by first | (unfold zrm1; rw [hc, if_neg (fun z => h20 z.1)]; done) | (unfold zrm1; rw [if_neg (fun z => absurd h29 (Int32.not_le.mpr (h62 ▸ z.2)))]; done) | (unfold zrm1; rw [hc, h62, nI_clamp (by omega), if_pos ⟨h20, nI_lt (a := cn) (b := 24) hlt (by decide)⟩, nI_1]; done))) rfl rfl ⟨rfl, rfl, rfl, rfl, trivial⟩
  ·
    have hz : zrc σ wn x h0 = (false, σ) := if_neg (zif_f h8)
    refine g_iconst hC (0) d_V_reach_11 (by decide) rfl ?_
    exact g_zret hC hr hlk d_V_reach_12 (Or.inl rfl) ⟨by rw [hz]; rfl, by rw [hz]⟩
set_option maxHeartbeats 4000000 in
set_option maxRecDepth 100000 in
theorem c_V_goesOnWell (l : Launch) (D : va_G) (K : Nat → ClassId) (q : Nat → Nat) (hq : zI q) (i : Nat) (hi : i < 9) (k wn cn o : Nat) (hk : k < wn) (hwn : wn ≤ 24) (hcn : cn ≤ 24) (ho : o < 16) (σ : zm) (hoe : σ (zp i + 6) k &&& 15 = nI o) (h11 : σ (zp i) 11 = nI wn) (h62 : σ 6 2 = nI cn) : zMi l y_V_goesOnWell b_V_goesOnWell 8 (some .boolean) 2 D K q [.ref (q (6)), .ref (q (zp i)), .int (nI k)] σ (fun r σ' => r = zb (zgw σ i wn k o).1 ∧ σ' = (zgw σ i wn k o).2) := by
  refine zMi.of (own := "AppDesk$Verifier") (lv := [(0, .ref (q (6))), (1, .ref (q (zp i))), (2, .int (nI k))]) (by decide) rfl hq (Nat.le_of_ble_eq_true rfl) rfl ?_
  intro p e s m below meth c hC hr hlk
  have J115 : ∀ (b g : Bool) (hb : b = decide (o = 8 ∨ o = 9)) (hg : g = decide (o ≠ 0 ∧ o ≠ 8)) (ho14 : o < 14) (e1 : zgw σ i wn k o = zgx σ wn (nI k) (σ (zp i + 6) k >>> ((4 : Int32) &&& 31)) (σ 7 k - zNeed o + zLeav o) (decide (o = 8 ∨ o = 9)) (decide (o ≠ 0 ∧ o ≠ 8))), zG p l e (zrm 2) s m ([.ref (q (6)), .ref (q (zp i)), .int (nI k)] : List Value).toArray below meth c D K q (zA q) 8 0 0 (MQ below (va_Qi (fun r σ' => r = zb (zgw σ i wn k o).1 ∧ σ' = (zgw σ i wn k o).2) (zO D K q) (zA q)) ([.ref (q (6)), .ref (q (zp i)), .int (nI k)] : List Value).toArray s 0 0 (zA q)) σ 115 [(0, .ref (q (6))), (1, .ref (q (zp i))), (2, .int (nI k)), (3, .int (nI o)), (4, .int ((σ (zp i + 6) k >>> ((4 : Int32) &&& 31)))), (5, .int ((σ 7 k - zNeed o + zLeav o))), (6, .int (zb b))] [.int (zb g)] := by
    intro b g hb hg ho14 e1
    refine g_istore hC d_V_goesOnWell_115 rfl (by decide) ?_
    refine g_iload hC d_V_goesOnWell_117 rfl rfl ?_
    refine g_ifeq_b hC 136 d_V_goesOnWell_119 rfl rfl (fun h119 => ?_) (fun h119 => ?_)
    ·
      refine g_iload hC d_V_goesOnWell_136 rfl rfl ?_
      refine g_ifeq_b hC 154 d_V_goesOnWell_138 rfl rfl (fun h138 => ?_) (fun h138 => ?_)
      ·
        refine g_iconst hC (1) d_V_goesOnWell_154 (by decide) rfl ?_
        refine g_goto hC 159 d_V_goesOnWell_155 rfl ?_
        exact g_zret hC hr hlk d_V_goesOnWell_159 (Or.inr rfl) ⟨by first | (rw [e1, ← hb, ← hg, h119, h138, zgx_ff]; try rfl; done) | (rw [e1, ← hb, ← hg, h119, h138, zgx_ft, h151]; try rfl; done) | (rw [e1, ← hb, h119, zgx_tF h133]; try rfl; done) | (rw [e1, ← hb, ← hg, h119, h138, zgx_tf h133]; try rfl; done) | (rw [e1, ← hb, ← hg, h119, h138, zgx_tt h133, h151]; try rfl; done), by first | (rw [e1, ← hb, ← hg, h119, h138, zgx_ff]; try rfl; done) | (rw [e1, ← hb, ← hg, h119, h138, zgx_ft]; try rfl; done) | (rw [e1, ← hb, h119, zgx_tF h133]; try rfl; done) | (rw [e1, ← hb, ← hg, h119, h138, zgx_tf h133]; try rfl; done) | (rw [e1, ← hb, ← hg, h119, h138, zgx_tt h133]; try rfl; done)⟩
      ·
        refine g_aload_n hC d_V_goesOnWell_141 rfl rfl ?_
        refine g_aload_n hC d_V_goesOnWell_142 rfl rfl ?_
        refine g_iload_n hC d_V_goesOnWell_143 rfl rfl ?_
        refine g_iconst hC (1) d_V_goesOnWell_144 (by decide) rfl ?_
        refine g_iadd hC d_V_goesOnWell_145 rfl ?_
        refine g_iload hC d_V_goesOnWell_146 rfl rfl ?_
        refine g_goi hC rfl (z_runV hC (c_V_reach l D K q hq _ hi _ _ wn cn hwn hcn _ h11 h62) yy_V_reach yv_V_36 (by decide) rfl ⟨Nat.le_of_ble_eq_true rfl, Nat.le_of_ble_eq_true rfl⟩ ⟨Nat.zero_le _, Nat.zero_le _⟩ rfl (Nat.le_of_ble_eq_true rfl) d_V_goesOnWell_148) (fun r0 σ0 q0 => ?_)
        obtain ⟨rfl, w0⟩ := q0
        obtain rfl := w0.symm
        refine g_ifeq_b hC 158 d_V_goesOnWell_151 rfl rfl (fun h151 => ?_) (fun h151 => ?_)
        ·
          refine g_iconst hC (0) d_V_goesOnWell_158 (by decide) rfl ?_
          exact g_zret hC hr hlk d_V_goesOnWell_159 (Or.inl rfl) ⟨by first | (rw [e1, ← hb, ← hg, h119, h138, zgx_ff]; try rfl; done) | (rw [e1, ← hb, ← hg, h119, h138, zgx_ft, h151]; try rfl; done) | (rw [e1, ← hb, h119, zgx_tF h133]; try rfl; done) | (rw [e1, ← hb, ← hg, h119, h138, zgx_tf h133]; try rfl; done) | (rw [e1, ← hb, ← hg, h119, h138, zgx_tt h133, h151]; try rfl; done), by first | (rw [e1, ← hb, ← hg, h119, h138, zgx_ff]; try rfl; done) | (rw [e1, ← hb, ← hg, h119, h138, zgx_ft]; try rfl; done) | (rw [e1, ← hb, h119, zgx_tF h133]; try rfl; done) | (rw [e1, ← hb, ← hg, h119, h138, zgx_tf h133]; try rfl; done) | (rw [e1, ← hb, ← hg, h119, h138, zgx_tt h133]; try rfl; done)⟩
        ·
          refine g_iconst hC (1) d_V_goesOnWell_154 (by decide) rfl ?_
          refine g_goto hC 159 d_V_goesOnWell_155 rfl ?_
          exact g_zret hC hr hlk d_V_goesOnWell_159 (Or.inr rfl) ⟨by first | (rw [e1, ← hb, ← hg, h119, h138, zgx_ff]; try rfl; done) | (rw [e1, ← hb, ← hg, h119, h138, zgx_ft, h151]; try rfl; done) | (rw [e1, ← hb, h119, zgx_tF h133]; try rfl; done) | (rw [e1, ← hb, ← hg, h119, h138, zgx_tf h133]; try rfl; done) | (rw [e1, ← hb, ← hg, h119, h138, zgx_tt h133, h151]; try rfl; done), by first | (rw [e1, ← hb, ← hg, h119, h138, zgx_ff]; try rfl; done) | (rw [e1, ← hb, ← hg, h119, h138, zgx_ft]; try rfl; done) | (rw [e1, ← hb, h119, zgx_tF h133]; try rfl; done) | (rw [e1, ← hb, ← hg, h119, h138, zgx_tf h133]; try rfl; done) | (rw [e1, ← hb, ← hg, h119, h138, zgx_tt h133]; try rfl; done)⟩
    ·
      refine g_aload_n hC d_V_goesOnWell_122 rfl rfl ?_
      refine g_aload_n hC d_V_goesOnWell_123 rfl rfl ?_
      refine g_iload_n hC d_V_goesOnWell_124 rfl rfl ?_
      refine g_iload hC d_V_goesOnWell_125 rfl rfl ?_
      refine g_iadd hC d_V_goesOnWell_127 rfl ?_
      refine g_iload hC d_V_goesOnWell_128 rfl rfl ?_
      refine g_goi hC rfl (z_runV hC (c_V_reach l D K q hq _ hi _ _ wn cn hwn hcn _ h11 h62) yy_V_reach yv_V_36 (by decide) rfl ⟨Nat.le_of_ble_eq_true rfl, Nat.le_of_ble_eq_true rfl⟩ ⟨Nat.zero_le _, Nat.zero_le _⟩ rfl (Nat.le_of_ble_eq_true rfl) d_V_goesOnWell_130) (fun r1 σ1 q1 => ?_)
      obtain ⟨rfl, w1⟩ := q1
      obtain rfl := w1.symm
      obtain ⟨cn, hcn, h62⟩ := zrc_cn (wn := wn) (x := (nI k + (σ (zp i + 6) k >>> ((4 : Int32) &&& 31)))) (h := (σ 7 k - zNeed o + zLeav o)) hcn h62
      have h11 : (zrc σ wn (nI k + (σ (zp i + 6) k >>> ((4 : Int32) &&& 31))) (σ 7 k - zNeed o + zLeav o)).2 (zp i) 11 = nI wn := by rw [zrc_off _ _ _ _ (by unfold zp; omega)]; exact h11
      refine g_ifeq_b hC 158 d_V_goesOnWell_133 rfl rfl (fun h133 => ?_) (fun h133 => ?_)
      ·
        refine g_iconst hC (0) d_V_goesOnWell_158 (by decide) rfl ?_
        exact g_zret hC hr hlk d_V_goesOnWell_159 (Or.inl rfl) ⟨by first | (rw [e1, ← hb, ← hg, h119, h138, zgx_ff]; try rfl; done) | (rw [e1, ← hb, ← hg, h119, h138, zgx_ft, h151]; try rfl; done) | (rw [e1, ← hb, h119, zgx_tF h133]; try rfl; done) | (rw [e1, ← hb, ← hg, h119, h138, zgx_tf h133]; try rfl; done) | (rw [e1, ← hb, ← hg, h119, h138, zgx_tt h133, h151]; try rfl; done), by first | (rw [e1, ← hb, ← hg, h119, h138, zgx_ff]; try rfl; done) | (rw [e1, ← hb, ← hg, h119, h138, zgx_ft]; try rfl; done) | (rw [e1, ← hb, h119, zgx_tF h133]; try rfl; done) | (rw [e1, ← hb, ← hg, h119, h138, zgx_tf h133]; try rfl; done) | (rw [e1, ← hb, ← hg, h119, h138, zgx_tt h133]; try rfl; done)⟩
      ·
        refine g_iload hC d_V_goesOnWell_136 rfl rfl ?_
        refine g_ifeq_b hC 154 d_V_goesOnWell_138 rfl rfl (fun h138 => ?_) (fun h138 => ?_)
        ·
          refine g_iconst hC (1) d_V_goesOnWell_154 (by decide) rfl ?_
          refine g_goto hC 159 d_V_goesOnWell_155 rfl ?_
          exact g_zret hC hr hlk d_V_goesOnWell_159 (Or.inr rfl) ⟨by first | (rw [e1, ← hb, ← hg, h119, h138, zgx_ff]; try rfl; done) | (rw [e1, ← hb, ← hg, h119, h138, zgx_ft, h151]; try rfl; done) | (rw [e1, ← hb, h119, zgx_tF h133]; try rfl; done) | (rw [e1, ← hb, ← hg, h119, h138, zgx_tf h133]; try rfl; done) | (rw [e1, ← hb, ← hg, h119, h138, zgx_tt h133, h151]; try rfl; done), by first | (rw [e1, ← hb, ← hg, h119, h138, zgx_ff]; try rfl; done) | (rw [e1, ← hb, ← hg, h119, h138, zgx_ft]; try rfl; done) | (rw [e1, ← hb, h119, zgx_tF h133]; try rfl; done) | (rw [e1, ← hb, ← hg, h119, h138, zgx_tf h133]; try rfl; done) | (rw [e1, ← hb, ← hg, h119, h138, zgx_tt h133]; try rfl; done)⟩
        ·
          refine g_aload_n hC d_V_goesOnWell_141 rfl rfl ?_
          refine g_aload_n hC d_V_goesOnWell_142 rfl rfl ?_
          refine g_iload_n hC d_V_goesOnWell_143 rfl rfl ?_
          refine g_iconst hC (1) d_V_goesOnWell_144 (by decide) rfl ?_
          refine g_iadd hC d_V_goesOnWell_145 rfl ?_
          refine g_iload hC d_V_goesOnWell_146 rfl rfl ?_
          refine g_goi hC rfl (z_runV hC (c_V_reach l D K q hq _ hi _ _ wn cn hwn hcn _ h11 h62) yy_V_reach yv_V_36 (by decide) rfl ⟨Nat.le_of_ble_eq_true rfl, Nat.le_of_ble_eq_true rfl⟩ ⟨Nat.zero_le _, Nat.zero_le _⟩ rfl (Nat.le_of_ble_eq_true rfl) d_V_goesOnWell_148) (fun r2 σ2 q2 => ?_)
          obtain ⟨rfl, w2⟩ := q2
          obtain rfl := w2.symm
          refine g_ifeq_b hC 158 d_V_goesOnWell_151 rfl rfl (fun h151 => ?_) (fun h151 => ?_)
          ·
            refine g_iconst hC (0) d_V_goesOnWell_158 (by decide) rfl ?_
            exact g_zret hC hr hlk d_V_goesOnWell_159 (Or.inl rfl) ⟨by first | (rw [e1, ← hb, ← hg, h119, h138, zgx_ff]; try rfl; done) | (rw [e1, ← hb, ← hg, h119, h138, zgx_ft, h151]; try rfl; done) | (rw [e1, ← hb, h119, zgx_tF h133]; try rfl; done) | (rw [e1, ← hb, ← hg, h119, h138, zgx_tf h133]; try rfl; done) | (rw [e1, ← hb, ← hg, h119, h138, zgx_tt h133, h151]; try rfl; done), by first | (rw [e1, ← hb, ← hg, h119, h138, zgx_ff]; try rfl; done) | (rw [e1, ← hb, ← hg, h119, h138, zgx_ft]; try rfl; done) | (rw [e1, ← hb, h119, zgx_tF h133]; try rfl; done) | (rw [e1, ← hb, ← hg, h119, h138, zgx_tf h133]; try rfl; done) | (rw [e1, ← hb, ← hg, h119, h138, zgx_tt h133]; try rfl; done)⟩
          ·
            refine g_iconst hC (1) d_V_goesOnWell_154 (by decide) rfl ?_
            refine g_goto hC 159 d_V_goesOnWell_155 rfl ?_
            exact g_zret hC hr hlk d_V_goesOnWell_159 (Or.inr rfl) ⟨by first | (rw [e1, ← hb, ← hg, h119, h138, zgx_ff]; try rfl; done) | (rw [e1, ← hb, ← hg, h119, h138, zgx_ft, h151]; try rfl; done) | (rw [e1, ← hb, h119, zgx_tF h133]; try rfl; done) | (rw [e1, ← hb, ← hg, h119, h138, zgx_tf h133]; try rfl; done) | (rw [e1, ← hb, ← hg, h119, h138, zgx_tt h133, h151]; try rfl; done), by first | (rw [e1, ← hb, ← hg, h119, h138, zgx_ff]; try rfl; done) | (rw [e1, ← hb, ← hg, h119, h138, zgx_ft]; try rfl; done) | (rw [e1, ← hb, h119, zgx_tF h133]; try rfl; done) | (rw [e1, ← hb, ← hg, h119, h138, zgx_tf h133]; try rfl; done) | (rw [e1, ← hb, ← hg, h119, h138, zgx_tt h133]; try rfl; done)⟩
  have J98 : ∀ (b : Bool) (hb : b = decide (o = 8 ∨ o = 9)) (ho14 : o < 14) (e1 : zgw σ i wn k o = zgx σ wn (nI k) (σ (zp i + 6) k >>> ((4 : Int32) &&& 31)) (σ 7 k - zNeed o + zLeav o) (decide (o = 8 ∨ o = 9)) (decide (o ≠ 0 ∧ o ≠ 8))), zG p l e (zrm 2) s m ([.ref (q (6)), .ref (q (zp i)), .int (nI k)] : List Value).toArray below meth c D K q (zA q) 8 0 0 (MQ below (va_Qi (fun r σ' => r = zb (zgw σ i wn k o).1 ∧ σ' = (zgw σ i wn k o).2) (zO D K q) (zA q)) ([.ref (q (6)), .ref (q (zp i)), .int (nI k)] : List Value).toArray s 0 0 (zA q)) σ 98 [(0, .ref (q (6))), (1, .ref (q (zp i))), (2, .int (nI k)), (3, .int (nI o)), (4, .int ((σ (zp i + 6) k >>> ((4 : Int32) &&& 31)))), (5, .int ((σ 7 k - zNeed o + zLeav o)))] [.int (zb b)] := by
    intro b hb ho14 e1
    refine g_istore hC d_V_goesOnWell_98 rfl (by decide) ?_
    refine g_iload_n hC d_V_goesOnWell_100 rfl rfl ?_
    refine g_if_eq hC 114 d_V_goesOnWell_101 rfl rfl (fun h101 => ?_) (fun h101 => ?_)
    ·
      refine g_iconst hC (0) d_V_goesOnWell_114 (by decide) rfl ?_
      exact zG.to (J115 b false hb (by first | (have z8 := (nI_eq (a := o) (b := 0) (by omega) (by decide)).mp h101; rw [z8]; rfl) | (have z9 := (nI_eq (a := o) (b := 8) (by omega) (by decide)).mp h107; rw [z9]; rfl) | (have z8 : ¬ o = 0 := fun z => h101 (by rw [z]; rfl); have z9 : ¬ o = 8 := fun z => h107 (by rw [z]; rfl); simp [z8, z9]; done)) ho14 e1) rfl rfl ⟨rfl, rfl, rfl, rfl, rfl, rfl, rfl, trivial⟩
    ·
      refine g_iload_n hC d_V_goesOnWell_104 rfl rfl ?_
      refine g_bipush hC (8) d_V_goesOnWell_105 (by decide) rfl ?_
      refine g_icmp_eq hC 114 d_V_goesOnWell_107 rfl rfl (fun h107 => ?_) (fun h107 => ?_)
      ·
        refine g_iconst hC (0) d_V_goesOnWell_114 (by decide) rfl ?_
        exact zG.to (J115 b false hb (by first | (have z8 := (nI_eq (a := o) (b := 0) (by omega) (by decide)).mp h101; rw [z8]; rfl) | (have z9 := (nI_eq (a := o) (b := 8) (by omega) (by decide)).mp h107; rw [z9]; rfl) | (have z8 : ¬ o = 0 := fun z => h101 (by rw [z]; rfl); have z9 : ¬ o = 8 := fun z => h107 (by rw [z]; rfl); simp [z8, z9]; done)) ho14 e1) rfl rfl ⟨rfl, rfl, rfl, rfl, rfl, rfl, rfl, trivial⟩
      ·
        refine g_iconst hC (1) d_V_goesOnWell_110 (by decide) rfl ?_
        refine g_goto hC 115 d_V_goesOnWell_111 rfl ?_
        exact zG.to (J115 b true hb (by first | (have z8 := (nI_eq (a := o) (b := 0) (by omega) (by decide)).mp h101; rw [z8]; rfl) | (have z9 := (nI_eq (a := o) (b := 8) (by omega) (by decide)).mp h107; rw [z9]; rfl) | (have z8 : ¬ o = 0 := fun z => h101 (by rw [z]; rfl); have z9 : ¬ o = 8 := fun z => h107 (by rw [z]; rfl); simp [z8, z9]; done)) ho14 e1) rfl rfl ⟨rfl, rfl, rfl, rfl, rfl, rfl, rfl, trivial⟩
  refine g_aload_n hC d_V_goesOnWell_0 rfl rfl ?_
  refine g_getR hC _ 1 12 _ (zp_lt hi) (zS_p hi) rfl fl_V_51 d_V_goesOnWell_1 rfl ?_
  refine g_iload_n hC d_V_goesOnWell_4 rfl rfl ?_
  refine g_iald hC _ _ k (zp_lt' hi 6 (by decide)) (zS_pr hi 6 (by decide)) rfl (by show k < 24; omega) (by decide) d_V_goesOnWell_5 rfl ?_
  refine g_goi hC rfl (z_runN hC (c_D_operationOf l D K q hq _ _) yy_D_operationOf yn_V_54 ⟨Nat.le_of_ble_eq_true rfl, Nat.le_of_ble_eq_true rfl⟩ ⟨Nat.zero_le _, Nat.zero_le _⟩ rfl (Nat.le_of_ble_eq_true rfl) d_V_goesOnWell_6) (fun r3 σ3 q3 => ?_)
  obtain ⟨rfl, w3⟩ := q3
  obtain rfl := w3.symm
  refine g_top hC (nI o) (hoe) ?_
  refine g_istore_n hC d_V_goesOnWell_9 rfl (by decide) ?_
  refine g_aload_n hC d_V_goesOnWell_10 rfl rfl ?_
  refine g_getR hC _ 1 12 _ (zp_lt hi) (zS_p hi) rfl fl_V_51 d_V_goesOnWell_11 rfl ?_
  refine g_iload_n hC d_V_goesOnWell_14 rfl rfl ?_
  refine g_iald hC _ _ k (zp_lt' hi 6 (by decide)) (zS_pr hi 6 (by decide)) rfl (by show k < 24; omega) (by decide) d_V_goesOnWell_15 rfl ?_
  refine g_goi hC rfl (z_runN hC (c_D_argumentOf l D K q hq _ _) yy_D_argumentOf yn_V_58 ⟨Nat.le_of_ble_eq_true rfl, Nat.le_of_ble_eq_true rfl⟩ ⟨Nat.zero_le _, Nat.zero_le _⟩ rfl (Nat.le_of_ble_eq_true rfl) d_V_goesOnWell_16) (fun r4 σ4 q4 => ?_)
  obtain ⟨rfl, w4⟩ := q4
  obtain rfl := w4.symm
  refine g_istore hC d_V_goesOnWell_19 rfl (by decide) ?_
  refine g_iload_n hC d_V_goesOnWell_21 rfl rfl ?_
  refine g_bipush hC (14) d_V_goesOnWell_22 (by decide) rfl ?_
  refine g_icmp_ge hC 50 d_V_goesOnWell_24 rfl rfl (fun h24 => ?_) (fun h24 => ?_)
  ·
    have e0 : zgw σ i wn k o = (false, σ) := by first | (exact zgw_1 (fun z => absurd h24 (nI_ge (a := o) (b := 14) z (by decide)))) | (exact zgw_2 ho14 h33) | (exact zgw_3 ho14 h33 (Int32.not_le.mp h47))
    refine g_iconst hC (0) d_V_goesOnWell_50 (by decide) rfl ?_
    exact g_zret hC hr hlk d_V_goesOnWell_51 (Or.inl rfl) ⟨by rw [e0]; rfl, by rw [e0]⟩
  ·
    have ho14 : o < 14 := Nat.lt_of_not_le (fun z => h24 (nI_le (a := 14) (b := o) z (by omega)))
    refine g_iload_n hC d_V_goesOnWell_27 rfl rfl ?_
    refine g_iload hC d_V_goesOnWell_28 rfl rfl ?_
    refine g_goi hC rfl (z_runS hC (c_V_hasGoodArgument l D K q hq _ _ _) yy_V_hasGoodArgument ys_V_61 ⟨Nat.le_of_ble_eq_true rfl, Nat.le_of_ble_eq_true rfl⟩ ⟨Nat.zero_le _, Nat.zero_le _⟩ rfl (Nat.le_of_ble_eq_true rfl) d_V_goesOnWell_30) (fun r5 σ5 q5 => ?_)
    obtain ⟨rfl, w5⟩ := q5
    obtain rfl := w5.symm
    refine g_ifeq_b hC 50 d_V_goesOnWell_33 rfl rfl (fun h33 => ?_) (fun h33 => ?_)
    ·
      have e0 : zgw σ i wn k o = (false, σ) := by first | (exact zgw_1 (fun z => absurd h24 (nI_ge (a := o) (b := 14) z (by decide)))) | (exact zgw_2 ho14 h33) | (exact zgw_3 ho14 h33 (Int32.not_le.mp h47))
      refine g_iconst hC (0) d_V_goesOnWell_50 (by decide) rfl ?_
      exact g_zret hC hr hlk d_V_goesOnWell_51 (Or.inl rfl) ⟨by rw [e0]; rfl, by rw [e0]⟩
    ·
      refine g_aload_n hC d_V_goesOnWell_36 rfl rfl ?_
      refine g_getR hC _ 4 0 _ (by decide) rfl rfl fl_V_9 d_V_goesOnWell_37 rfl ?_
      refine g_iload_n hC d_V_goesOnWell_40 rfl rfl ?_
      refine g_iald hC _ _ k (by decide) rfl rfl (by show k < 24; omega) (by decide) d_V_goesOnWell_41 rfl ?_
      refine g_need hC rfl d_V_goesOnWell_42 rfl (fun t6 hT6 => ?_)
      refine g_iload_n hC d_V_goesOnWell_45 rfl rfl ?_
      refine g_tab hC o hT6 rfl ho14 d_V_goesOnWell_46 rfl ?_
      refine g_icmp_ge hC 52 d_V_goesOnWell_47 rfl rfl (fun h47 => ?_) (fun h47 => ?_)
      ·
        refine g_aload_n hC d_V_goesOnWell_52 rfl rfl ?_
        refine g_getR hC _ 4 0 _ (by decide) rfl rfl fl_V_9 d_V_goesOnWell_53 rfl ?_
        refine g_iload_n hC d_V_goesOnWell_56 rfl rfl ?_
        refine g_iald hC _ _ k (by decide) rfl rfl (by show k < 24; omega) (by decide) d_V_goesOnWell_57 rfl ?_
        refine g_need hC rfl d_V_goesOnWell_58 rfl (fun t7 hT7 => ?_)
        refine g_iload_n hC d_V_goesOnWell_61 rfl rfl ?_
        refine g_tab hC o hT7 rfl ho14 d_V_goesOnWell_62 rfl ?_
        refine g_isub hC d_V_goesOnWell_63 rfl ?_
        refine g_leav hC rfl d_V_goesOnWell_64 rfl (fun t8 hT8 => ?_)
        refine g_iload_n hC d_V_goesOnWell_67 rfl rfl ?_
        refine g_tab hC o hT8 rfl ho14 d_V_goesOnWell_68 rfl ?_
        refine g_iadd hC d_V_goesOnWell_69 rfl ?_
        refine g_istore hC d_V_goesOnWell_70 rfl (by decide) ?_
        refine g_iload hC d_V_goesOnWell_72 rfl rfl ?_
        refine g_bipush hC (6) d_V_goesOnWell_74 (by decide) rfl ?_
        refine g_icmp_le hC 81 d_V_goesOnWell_76 rfl rfl (fun h76 => ?_) (fun h76 => ?_)
        ·
          have e1 := zgw_5 (i := i) (wn := wn) ho14 h33 (Int32.not_lt.mpr h47) (Int32.not_lt.mpr h76)
          refine g_iload_n hC d_V_goesOnWell_81 rfl rfl ?_
          refine g_bipush hC (8) d_V_goesOnWell_82 (by decide) rfl ?_
          refine g_icmp_eq hC 93 d_V_goesOnWell_84 rfl rfl (fun h84 => ?_) (fun h84 => ?_)
          ·
            refine g_iconst hC (1) d_V_goesOnWell_93 (by decide) rfl ?_
            refine g_goto hC 98 d_V_goesOnWell_94 rfl ?_
            exact zG.to (J98 true (by first | (have z8 := (nI_eq (a := o) (b := 8) (by omega) (by decide)).mp h84; rw [z8]; rfl) | (have z9 := (nI_eq (a := o) (b := 9) (by omega) (by decide)).mp h90; rw [z9]; rfl) | (have z8 : ¬ o = 8 := fun z => h84 (by rw [z]; rfl); have z9 : ¬ o = 9 := fun z => h90 (by rw [z]; rfl); simp [z8, z9]; done)) ho14 e1) rfl rfl ⟨rfl, rfl, rfl, rfl, rfl, rfl, trivial⟩
          ·
            refine g_iload_n hC d_V_goesOnWell_87 rfl rfl ?_
            refine g_bipush hC (9) d_V_goesOnWell_88 (by decide) rfl ?_
            refine g_icmp_ne hC 97 d_V_goesOnWell_90 rfl rfl (fun h90 => ?_) (fun h90 => ?_)
            ·
              refine g_iconst hC (0) d_V_goesOnWell_97 (by decide) rfl ?_
              exact zG.to (J98 false (by first | (have z8 := (nI_eq (a := o) (b := 8) (by omega) (by decide)).mp h84; rw [z8]; rfl) | (have z9 := (nI_eq (a := o) (b := 9) (by omega) (by decide)).mp h90; rw [z9]; rfl) | (have z8 : ¬ o = 8 := fun z => h84 (by rw [z]; rfl); have z9 : ¬ o = 9 := fun z => h90 (by rw [z]; rfl); simp [z8, z9]; done)) ho14 e1) rfl rfl ⟨rfl, rfl, rfl, rfl, rfl, rfl, trivial⟩
            ·
              refine g_iconst hC (1) d_V_goesOnWell_93 (by decide) rfl ?_
              refine g_goto hC 98 d_V_goesOnWell_94 rfl ?_
              exact zG.to (J98 true (by first | (have z8 := (nI_eq (a := o) (b := 8) (by omega) (by decide)).mp h84; rw [z8]; rfl) | (have z9 := (nI_eq (a := o) (b := 9) (by omega) (by decide)).mp h90; rw [z9]; rfl) | (have z8 : ¬ o = 8 := fun z => h84 (by rw [z]; rfl); have z9 : ¬ o = 9 := fun z => h90 (by rw [z]; rfl); simp [z8, z9]; done)) ho14 e1) rfl rfl ⟨rfl, rfl, rfl, rfl, rfl, rfl, trivial⟩
        ·
          have e0 : zgw σ i wn k o = (false, σ) := zgw_4 ho14 h33 (Int32.not_lt.mpr h47) (Int32.not_le.mp h76)
          refine g_iconst hC (0) d_V_goesOnWell_79 (by decide) rfl ?_
          exact g_zret hC hr hlk d_V_goesOnWell_80 (Or.inl rfl) ⟨by rw [e0]; rfl, by rw [e0]⟩
      ·
        have e0 : zgw σ i wn k o = (false, σ) := by first | (exact zgw_1 (fun z => absurd h24 (nI_ge (a := o) (b := 14) z (by decide)))) | (exact zgw_2 ho14 h33) | (exact zgw_3 ho14 h33 (Int32.not_le.mp h47))
        refine g_iconst hC (0) d_V_goesOnWell_50 (by decide) rfl ?_
        exact g_zret hC hr hlk d_V_goesOnWell_51 (Or.inl rfl) ⟨by rw [e0]; rfl, by rw [e0]⟩
