/-! the reference's goesOn and good -/
theorem wok_a {n : Int32} {o : Nat} (h6 : ¬ o = 6) (h7 : ¬ o = 7) (h13 : ¬ o = 13) (h : o < 14) : true = wok n o := by
  have e : ∀ j, j < 16 → ¬ o = j → ¬ nI o = nI j := fun j hj hne z => hne ((nI_eq (by omega) (by omega)).mp z)
  unfold wok zga
  rw [decide_eq_true h, if_neg (fun z => z.elim (e 6 (by omega) h6) (e 7 (by omega) h7)), if_neg (show ¬ nI o = 13 from e 13 (by omega) h13)]
  rfl
theorem go_n {o j : Nat} (ho : o < 16) (hj : j < 16) (h : nI o = nI j) : o = j := (nI_eq (by omega) (by omega)).mp h
section GO
variable {X A : Bool × zm} {τ σ : zm} {o wn : Nat} {x n h : Int32} {g : Bool}
theorem go_1 (e2 : X = if decide (o ≠ 0 ∧ o ≠ 8) = true then A else (true, τ)) (ho : o < 16) (h : nI o = 0) : X = (true, τ) := by
  rw [e2, if_neg (by simp [go_n (j := 0) ho (by omega) h])]
theorem go_2 (e2 : X = if decide (o ≠ 0 ∧ o ≠ 8) = true then A else (true, τ)) (ho : o < 16) (h : nI o = 8) : X = (true, τ) := by
  rw [e2, if_neg (by simp [go_n (j := 8) ho (by omega) h])]
theorem go_3 (e2 : X = if decide (o ≠ 0 ∧ o ≠ 8) = true then A else (true, τ)) (h1 : ¬ nI o = 0) (h2 : ¬ nI o = 8) : X = A := by
  rw [e2, if_pos (decide_eq_true ⟨fun z => h1 (by rw [z]; rfl), fun z => h2 (by rw [z]; rfl)⟩)]
theorem go_4 (e1 : X = wgx σ wn x n h (decide (o = 8 ∨ o = 9)) g) (ho : o < 16) (h1 : nI o = 8) (h2 : (wcm σ wn (x + n) h).1 = false) : X = (false, (wcm σ wn (x + n) h).2) := by
  rw [e1, decide_eq_true (Or.inl (go_n (j := 8) ho (by omega) h1)), wgx_tF h2]
theorem go_4b (e1 : X = wgx σ wn x n h (decide (o = 8 ∨ o = 9)) g) (ho : o < 16) (h1 : nI o = 9) (h2 : (wcm σ wn (x + n) h).1 = false) : X = (false, (wcm σ wn (x + n) h).2) := by
  rw [e1, decide_eq_true (Or.inr (go_n (j := 9) ho (by omega) h1)), wgx_tF h2]
theorem go_5 (e1 : X = wgx σ wn x n h (decide (o = 8 ∨ o = 9)) g) (h1 : ¬ nI o = 8) (h2 : ¬ nI o = 9) : X = if g then wcm σ wn (x + 1) h else (true, σ) := by
  rw [e1, decide_eq_false (fun z => z.elim (fun z => h1 (by rw [z]; rfl)) (fun z => h2 (by rw [z]; rfl))), wgx_f]
theorem go_6 (e1 : X = wgx σ wn x n h (decide (o = 8 ∨ o = 9)) g) (ho : o < 16) (h1 : nI o = 8) (h2 : (wcm σ wn (x + n) h).1 = true) : X = if g then wcm (wcm σ wn (x + n) h).2 wn (x + 1) h else (true, (wcm σ wn (x + n) h).2) := by
  rw [e1, decide_eq_true (Or.inl (go_n (j := 8) ho (by omega) h1)), wgx_tT h2]
theorem go_7 (e1 : X = wgx σ wn x n h (decide (o = 8 ∨ o = 9)) g) (ho : o < 16) (h1 : nI o = 9) (h2 : (wcm σ wn (x + n) h).1 = true) : X = if g then wcm (wcm σ wn (x + n) h).2 wn (x + 1) h else (true, (wcm σ wn (x + n) h).2) := by
  rw [e1, decide_eq_true (Or.inr (go_n (j := 9) ho (by omega) h1)), wgx_tT h2]
theorem wcm_w {w2 : Nat} (hw : σ 116 8 = nI w2) : (wcm σ wn x h).2 116 8 = nI w2 := by rw [wcm_off _ _ _ _ (by decide)]; exact hw
end GO
theorem wok_b {n : Int32} {o : Nat} (h : ¬ o < 14) : false = wok n o := by
  unfold wok
  rw [decide_eq_false h, Bool.false_and]
set_option maxHeartbeats 4000000 in
set_option maxRecDepth 100000 in
theorem c_M_goesOn (l : Launch) (D : va_G) (K : Nat → ClassId) (q : Nat → Nat) (hq : zI q) (k wn o : Nat) (hk : k < wn) (hwn : wn ≤ 24) (ho : o < 16) (σ : zm) (hoe : σ 117 (192 + k) &&& 15 = nI o) (hwc : σ 116 8 = nI wn) : zMi l y_M_goesOn b_M_goesOn 8 (some .boolean) 2 D K q [.ref (q (104)), .int (nI k)] σ (fun r σ' => r = zb (wgo σ wn k o).1 ∧ σ' = (wgo σ wn k o).2) := by
  refine zMi.of (own := "AppDeskModel") (lv := [(0, .ref (q (104))), (1, .int (nI k))]) (by decide) rfl hq (Nat.le_of_ble_eq_true rfl) rfl ?_
  intro p e s m below meth c hC hr hlk
  have J148 : ∀ (τ : zm) (hwt : τ 116 8 = nI wn) (e2 : wgo σ wn k o = if (decide (o ≠ 0 ∧ o ≠ 8)) then wcm τ wn (nI k + 1) (σ 129 k + wch (nI o)) else (true, τ)), zG p l e (zrm 2) s m ([.ref (q (104)), .int (nI k)] : List Value).toArray below meth c D K q (zA q) 8 0 0 (MQ below (va_Qi (fun r σ' => r = zb (wgo σ wn k o).1 ∧ σ' = (wgo σ wn k o).2) (zO D K q) (zA q)) ([.ref (q (104)), .int (nI k)] : List Value).toArray s 0 0 (zA q)) τ 148 [(0, .ref (q (104))), (1, .int (nI k)), (3, .int (nI o)), (5, .int ((σ 129 k + wch (nI o))))] [] := by
    intro τ hwt e2
    refine g_iload_n hC d_M_goesOn_148 rfl rfl ?_
    refine g_if_eq hC 170 d_M_goesOn_149 rfl rfl (fun h149 => ?_) (fun h149 => ?_)
    ·
      first | have e0 := go_1 e2 ho h149 | have e0 := go_2 e2 ho h155 | have e0 := go_3 e2 h149 h155
      refine g_iconst hC (1) d_M_goesOn_170 (by decide) rfl ?_
      refine g_goto hC 175 d_M_goesOn_171 rfl ?_
      exact g_zret hC hr hlk d_M_goesOn_175 (Or.inr rfl) ⟨by rw [e0]; first | rfl | (rw [h167]; rfl), by rw [e0]⟩
    ·
      refine g_iload_n hC d_M_goesOn_152 rfl rfl ?_
      refine g_bipush hC (8) d_M_goesOn_153 (by decide) rfl ?_
      refine g_icmp_eq hC 170 d_M_goesOn_155 rfl rfl (fun h155 => ?_) (fun h155 => ?_)
      ·
        first | have e0 := go_1 e2 ho h149 | have e0 := go_2 e2 ho h155 | have e0 := go_3 e2 h149 h155
        refine g_iconst hC (1) d_M_goesOn_170 (by decide) rfl ?_
        refine g_goto hC 175 d_M_goesOn_171 rfl ?_
        exact g_zret hC hr hlk d_M_goesOn_175 (Or.inr rfl) ⟨by rw [e0]; first | rfl | (rw [h167]; rfl), by rw [e0]⟩
      ·
        refine g_aload_n hC d_M_goesOn_158 rfl rfl ?_
        refine g_iload_n hC d_M_goesOn_159 rfl rfl ?_
        refine g_iconst hC (1) d_M_goesOn_160 (by decide) rfl ?_
        refine g_iadd hC d_M_goesOn_161 rfl ?_
        refine g_iload hC d_M_goesOn_162 rfl rfl ?_
        refine g_goi hC rfl (z_runV hC (c_M_comes l D K q hq _ _ _ hwn _ hwt) yy_M_comes yv_M_116 (by decide) rfl ⟨Nat.le_of_ble_eq_true rfl, Nat.le_of_ble_eq_true rfl⟩ ⟨Nat.zero_le _, Nat.zero_le _⟩ rfl (Nat.le_of_ble_eq_true rfl) d_M_goesOn_164) (fun r0 σ0 q0 => ?_)
        obtain ⟨rfl, w0⟩ := q0
        obtain rfl := w0.symm
        refine g_ifeq_b hC 174 d_M_goesOn_167 rfl rfl (fun h167 => ?_) (fun h167 => ?_)
        ·
          first | have e0 := go_3 e2 h149 h155 | have e0 := go_4 e1 ho h114 h133 | have e0 := go_4b e1 ho h120 h133
          refine g_iconst hC (0) d_M_goesOn_174 (by decide) rfl ?_
          exact g_zret hC hr hlk d_M_goesOn_175 (Or.inl rfl) ⟨by rw [e0]; first | rfl | (rw [h167]; rfl), by rw [e0]⟩
        ·
          first | have e0 := go_1 e2 ho h149 | have e0 := go_2 e2 ho h155 | have e0 := go_3 e2 h149 h155
          refine g_iconst hC (1) d_M_goesOn_170 (by decide) rfl ?_
          refine g_goto hC 175 d_M_goesOn_171 rfl ?_
          exact g_zret hC hr hlk d_M_goesOn_175 (Or.inr rfl) ⟨by rw [e0]; first | rfl | (rw [h167]; rfl), by rw [e0]⟩
  have J82 : ∀ (b : Bool) (hb : b = wok (σ 117 (192 + k) >>> ((4 : Int32) &&& 31)) o), zG p l e (zrm 2) s m ([.ref (q (104)), .int (nI k)] : List Value).toArray below meth c D K q (zA q) 8 0 0 (MQ below (va_Qi (fun r σ' => r = zb (wgo σ wn k o).1 ∧ σ' = (wgo σ wn k o).2) (zO D K q) (zA q)) ([.ref (q (104)), .int (nI k)] : List Value).toArray s 0 0 (zA q)) σ 82 [(0, .ref (q (104))), (1, .int (nI k)), (3, .int (nI o)), (4, .int ((σ 117 (192 + k) >>> ((4 : Int32) &&& 31)))), (5, .int ((σ 129 k + wch (nI o))))] [.int (zb b)] := by
    intro b hb
    refine g_istore hC d_M_goesOn_82 rfl (by decide) ?_
    refine g_iload hC d_M_goesOn_84 rfl rfl ?_
    refine g_ifeq_b hC 109 d_M_goesOn_86 rfl rfl (fun h86 => ?_) (fun h86 => ?_)
    ·
      have e0 : wgo σ wn k o = (false, σ) := by first | exact wgo_1 (hb ▸ h86) | exact wgo_2 (hb ▸ h86) h99 | exact wgo_3 (hb ▸ h86) h99 (Int32.not_le.mp h106)
      refine g_iconst hC (0) d_M_goesOn_109 (by decide) rfl ?_
      exact g_zret hC hr hlk d_M_goesOn_110 (Or.inl rfl) ⟨by rw [e0]; rfl, by rw [e0]⟩
    ·
      refine g_aload_n hC d_M_goesOn_89 rfl rfl ?_
      refine g_getR hC _ 5 28 _ (by decide) rfl rfl fl_M_87 d_M_goesOn_90 rfl ?_
      refine g_iload_n hC d_M_goesOn_93 rfl rfl ?_
      refine g_iald hC _ _ k (by decide) rfl rfl (by show k < 24; omega) (by decide) d_M_goesOn_94 rfl ?_
      refine g_iload_n hC d_M_goesOn_95 rfl rfl ?_
      refine g_goi hC rfl (z_runS hC (c_M_needs l D K q hq _ _ ) yy_M_needs ys_M_113 ⟨Nat.le_of_ble_eq_true rfl, Nat.le_of_ble_eq_true rfl⟩ ⟨Nat.zero_le _, Nat.zero_le _⟩ rfl (Nat.le_of_ble_eq_true rfl) d_M_goesOn_96) (fun r1 σ1 q1 => ?_)
      obtain ⟨rfl, w1⟩ := q1
      obtain rfl := w1.symm
      refine g_icmp_lt hC 109 d_M_goesOn_99 rfl rfl (fun h99 => ?_) (fun h99 => ?_)
      ·
        have e0 : wgo σ wn k o = (false, σ) := by first | exact wgo_1 (hb ▸ h86) | exact wgo_2 (hb ▸ h86) h99 | exact wgo_3 (hb ▸ h86) h99 (Int32.not_le.mp h106)
        refine g_iconst hC (0) d_M_goesOn_109 (by decide) rfl ?_
        exact g_zret hC hr hlk d_M_goesOn_110 (Or.inl rfl) ⟨by rw [e0]; rfl, by rw [e0]⟩
      ·
        refine g_iload hC d_M_goesOn_102 rfl rfl ?_
        refine g_bipush hC (6) d_M_goesOn_104 (by decide) rfl ?_
        refine g_icmp_le hC 111 d_M_goesOn_106 rfl rfl (fun h106 => ?_) (fun h106 => ?_)
        ·
          have e1 := wgo_4 (wn := wn) (hb ▸ h86 : wok (σ 117 (192 + k) >>> ((4 : Int32) &&& 31)) o = true) h99 (Int32.not_lt.mpr h106)
          refine g_iload_n hC d_M_goesOn_111 rfl rfl ?_
          refine g_bipush hC (8) d_M_goesOn_112 (by decide) rfl ?_
          refine g_icmp_eq hC 123 d_M_goesOn_114 rfl rfl (fun h114 => ?_) (fun h114 => ?_)
          ·
            refine g_aload_n hC d_M_goesOn_123 rfl rfl ?_
            refine g_iload_n hC d_M_goesOn_124 rfl rfl ?_
            refine g_iload hC d_M_goesOn_125 rfl rfl ?_
            refine g_iadd hC d_M_goesOn_127 rfl ?_
            refine g_iload hC d_M_goesOn_128 rfl rfl ?_
            refine g_goi hC rfl (z_runV hC (c_M_comes l D K q hq _ _ _ hwn _ hwc) yy_M_comes yv_M_116 (by decide) rfl ⟨Nat.le_of_ble_eq_true rfl, Nat.le_of_ble_eq_true rfl⟩ ⟨Nat.zero_le _, Nat.zero_le _⟩ rfl (Nat.le_of_ble_eq_true rfl) d_M_goesOn_130) (fun r2 σ2 q2 => ?_)
            obtain ⟨rfl, w2⟩ := q2
            obtain rfl := w2.symm
            refine g_ifeq_b hC 140 d_M_goesOn_133 rfl rfl (fun h133 => ?_) (fun h133 => ?_)
            ·
              refine g_iconst hC (0) d_M_goesOn_140 (by decide) rfl ?_
              refine g_istore hC d_M_goesOn_141 rfl (by decide) ?_
              refine g_iload hC d_M_goesOn_143 rfl rfl ?_
              refine g_if_eq hC 174 d_M_goesOn_145 rfl rfl (fun h145 => ?_) (fun h145 => absurd (by decide) h145)
              first | have e0 := go_3 e2 h149 h155 | have e0 := go_4 e1 ho h114 h133 | have e0 := go_4b e1 ho h120 h133
              refine g_iconst hC (0) d_M_goesOn_174 (by decide) rfl ?_
              exact g_zret hC hr hlk d_M_goesOn_175 (Or.inl rfl) ⟨by rw [e0]; first | rfl | (rw [h167]; rfl), by rw [e0]⟩
            ·
              refine g_iconst hC (1) d_M_goesOn_136 (by decide) rfl ?_
              refine g_goto hC 141 d_M_goesOn_137 rfl ?_
              refine g_istore hC d_M_goesOn_141 rfl (by decide) ?_
              refine g_iload hC d_M_goesOn_143 rfl rfl ?_
              refine g_if_eq hC 174 d_M_goesOn_145 rfl rfl (fun h145 => absurd h145 (by decide)) (fun h145 => ?_)
              first | exact zG.to (J148 _ hwc (go_5 e1 h114 h120)) rfl rfl ⟨rfl, rfl, rfl, rfl, trivial⟩ | exact zG.to (J148 _ (wcm_w hwc) (go_6 e1 ho h114 h133)) rfl rfl ⟨rfl, rfl, rfl, rfl, trivial⟩ | exact zG.to (J148 _ (wcm_w hwc) (go_7 e1 ho h120 h133)) rfl rfl ⟨rfl, rfl, rfl, rfl, trivial⟩
          ·
            refine g_iload_n hC d_M_goesOn_117 rfl rfl ?_
            refine g_bipush hC (9) d_M_goesOn_118 (by decide) rfl ?_
            refine g_icmp_ne hC 136 d_M_goesOn_120 rfl rfl (fun h120 => ?_) (fun h120 => ?_)
            ·
              refine g_iconst hC (1) d_M_goesOn_136 (by decide) rfl ?_
              refine g_goto hC 141 d_M_goesOn_137 rfl ?_
              refine g_istore hC d_M_goesOn_141 rfl (by decide) ?_
              refine g_iload hC d_M_goesOn_143 rfl rfl ?_
              refine g_if_eq hC 174 d_M_goesOn_145 rfl rfl (fun h145 => absurd h145 (by decide)) (fun h145 => ?_)
              first | exact zG.to (J148 _ hwc (go_5 e1 h114 h120)) rfl rfl ⟨rfl, rfl, rfl, rfl, trivial⟩ | exact zG.to (J148 _ (wcm_w hwc) (go_6 e1 ho h114 h133)) rfl rfl ⟨rfl, rfl, rfl, rfl, trivial⟩ | exact zG.to (J148 _ (wcm_w hwc) (go_7 e1 ho h120 h133)) rfl rfl ⟨rfl, rfl, rfl, rfl, trivial⟩
            ·
              refine g_aload_n hC d_M_goesOn_123 rfl rfl ?_
              refine g_iload_n hC d_M_goesOn_124 rfl rfl ?_
              refine g_iload hC d_M_goesOn_125 rfl rfl ?_
              refine g_iadd hC d_M_goesOn_127 rfl ?_
              refine g_iload hC d_M_goesOn_128 rfl rfl ?_
              refine g_goi hC rfl (z_runV hC (c_M_comes l D K q hq _ _ _ hwn _ hwc) yy_M_comes yv_M_116 (by decide) rfl ⟨Nat.le_of_ble_eq_true rfl, Nat.le_of_ble_eq_true rfl⟩ ⟨Nat.zero_le _, Nat.zero_le _⟩ rfl (Nat.le_of_ble_eq_true rfl) d_M_goesOn_130) (fun r3 σ3 q3 => ?_)
              obtain ⟨rfl, w3⟩ := q3
              obtain rfl := w3.symm
              refine g_ifeq_b hC 140 d_M_goesOn_133 rfl rfl (fun h133 => ?_) (fun h133 => ?_)
              ·
                refine g_iconst hC (0) d_M_goesOn_140 (by decide) rfl ?_
                refine g_istore hC d_M_goesOn_141 rfl (by decide) ?_
                refine g_iload hC d_M_goesOn_143 rfl rfl ?_
                refine g_if_eq hC 174 d_M_goesOn_145 rfl rfl (fun h145 => ?_) (fun h145 => absurd (by decide) h145)
                first | have e0 := go_3 e2 h149 h155 | have e0 := go_4 e1 ho h114 h133 | have e0 := go_4b e1 ho h120 h133
                refine g_iconst hC (0) d_M_goesOn_174 (by decide) rfl ?_
                exact g_zret hC hr hlk d_M_goesOn_175 (Or.inl rfl) ⟨by rw [e0]; first | rfl | (rw [h167]; rfl), by rw [e0]⟩
              ·
                refine g_iconst hC (1) d_M_goesOn_136 (by decide) rfl ?_
                refine g_goto hC 141 d_M_goesOn_137 rfl ?_
                refine g_istore hC d_M_goesOn_141 rfl (by decide) ?_
                refine g_iload hC d_M_goesOn_143 rfl rfl ?_
                refine g_if_eq hC 174 d_M_goesOn_145 rfl rfl (fun h145 => absurd h145 (by decide)) (fun h145 => ?_)
                first | exact zG.to (J148 _ hwc (go_5 e1 h114 h120)) rfl rfl ⟨rfl, rfl, rfl, rfl, trivial⟩ | exact zG.to (J148 _ (wcm_w hwc) (go_6 e1 ho h114 h133)) rfl rfl ⟨rfl, rfl, rfl, rfl, trivial⟩ | exact zG.to (J148 _ (wcm_w hwc) (go_7 e1 ho h120 h133)) rfl rfl ⟨rfl, rfl, rfl, rfl, trivial⟩
        ·
          have e0 : wgo σ wn k o = (false, σ) := by first | exact wgo_1 (hb ▸ h86) | exact wgo_2 (hb ▸ h86) h99 | exact wgo_3 (hb ▸ h86) h99 (Int32.not_le.mp h106)
          refine g_iconst hC (0) d_M_goesOn_109 (by decide) rfl ?_
          exact g_zret hC hr hlk d_M_goesOn_110 (Or.inl rfl) ⟨by rw [e0]; rfl, by rw [e0]⟩
  refine g_aload_n hC d_M_goesOn_0 rfl rfl ?_
  refine g_getR hC _ 5 13 _ (by decide) rfl rfl fl_M_47 d_M_goesOn_1 rfl ?_
  refine g_sipush hC (192) d_M_goesOn_4 (by decide) rfl ?_
  refine g_iload_n hC d_M_goesOn_7 rfl rfl ?_
  refine g_iadd hC d_M_goesOn_8 rfl ?_
  refine g_top hC (nI (192 + k)) (nI_add 192 k) ?_
  refine g_iald hC _ _ (192 + k) (by decide) rfl rfl (by show 192 + k < 216; omega) (by decide) d_M_goesOn_9 rfl ?_
  refine g_istore_n hC d_M_goesOn_10 rfl (by decide) ?_
  refine g_iload_n hC d_M_goesOn_11 rfl rfl ?_
  refine g_bipush hC (15) d_M_goesOn_12 (by decide) rfl ?_
  refine g_iand hC d_M_goesOn_14 rfl ?_
  refine g_top hC (nI o) (hoe) ?_
  refine g_istore_n hC d_M_goesOn_15 rfl (by decide) ?_
  refine g_iload_n hC d_M_goesOn_16 rfl rfl ?_
  refine g_iconst hC (4) d_M_goesOn_17 (by decide) rfl ?_
  refine g_ishr hC d_M_goesOn_18 rfl ?_
  refine g_istore hC d_M_goesOn_19 rfl (by decide) ?_
  refine g_aload_n hC d_M_goesOn_21 rfl rfl ?_
  refine g_getR hC _ 5 28 _ (by decide) rfl rfl fl_M_87 d_M_goesOn_22 rfl ?_
  refine g_iload_n hC d_M_goesOn_25 rfl rfl ?_
  refine g_iald hC _ _ k (by decide) rfl rfl (by show k < 24; omega) (by decide) d_M_goesOn_26 rfl ?_
  refine g_iload_n hC d_M_goesOn_27 rfl rfl ?_
  refine g_goi hC rfl (z_runS hC (c_M_change l D K q hq _ _ ) yy_M_change ys_M_109 ⟨Nat.le_of_ble_eq_true rfl, Nat.le_of_ble_eq_true rfl⟩ ⟨Nat.zero_le _, Nat.zero_le _⟩ rfl (Nat.le_of_ble_eq_true rfl) d_M_goesOn_28) (fun r4 σ4 q4 => ?_)
  obtain ⟨rfl, w4⟩ := q4
  obtain rfl := w4.symm
  refine g_iadd hC d_M_goesOn_31 rfl ?_
  refine g_istore hC d_M_goesOn_32 rfl (by decide) ?_
  refine g_iload_n hC d_M_goesOn_34 rfl rfl ?_
  refine g_bipush hC (6) d_M_goesOn_35 (by decide) rfl ?_
  refine g_icmp_eq hC 46 d_M_goesOn_37 rfl rfl (fun h37 => ?_) (fun h37 => ?_)
  ·
    refine g_iload hC d_M_goesOn_46 rfl rfl ?_
    refine g_iconst hC (4) d_M_goesOn_48 (by decide) rfl ?_
    refine g_goi hC rfl (z_runS hC (c_M_in l D K q hq _ _ _) yy_M_in ys_M_93 ⟨Nat.le_of_ble_eq_true rfl, Nat.le_of_ble_eq_true rfl⟩ ⟨Nat.zero_le _, Nat.zero_le _⟩ rfl (Nat.le_of_ble_eq_true rfl) d_M_goesOn_49) (fun r5 σ5 q5 => ?_)
    obtain ⟨rfl, w5⟩ := q5
    obtain rfl := w5.symm
    refine g_goto hC 82 d_M_goesOn_52 rfl ?_
    exact zG.to (J82 _ (by first | (have z := (nI_eq (a := o) (b := 6) (by omega) (by decide)).mp h37; rw [z]; rfl) | (have z := (nI_eq (a := o) (b := 7) (by omega) (by decide)).mp h43; rw [z]; rfl) | (have z := (nI_eq (a := o) (b := 13) (by omega) (by decide)).mp h58; rw [z]; rfl) | exact wok_a (fun z => h37 (by rw [z]; rfl)) (fun z => h43 (by rw [z]; rfl)) (fun z => h58 (by rw [z]; rfl)) ((nI_ltI (a := o) (b := 14) (by omega) (by decide)).mp (Int32.not_le.mp h74)) | exact wok_b (fun z => absurd h74 (nI_ge (a := o) (b := 14) z (by decide))))) rfl rfl ⟨rfl, rfl, rfl, rfl, rfl, trivial⟩
  ·
    refine g_iload_n hC d_M_goesOn_40 rfl rfl ?_
    refine g_bipush hC (7) d_M_goesOn_41 (by decide) rfl ?_
    refine g_icmp_ne hC 55 d_M_goesOn_43 rfl rfl (fun h43 => ?_) (fun h43 => ?_)
    ·
      refine g_iload_n hC d_M_goesOn_55 rfl rfl ?_
      refine g_bipush hC (13) d_M_goesOn_56 (by decide) rfl ?_
      refine g_icmp_ne hC 71 d_M_goesOn_58 rfl rfl (fun h58 => ?_) (fun h58 => ?_)
      ·
        refine g_iload_n hC d_M_goesOn_71 rfl rfl ?_
        refine g_bipush hC (14) d_M_goesOn_72 (by decide) rfl ?_
        refine g_icmp_ge hC 81 d_M_goesOn_74 rfl rfl (fun h74 => ?_) (fun h74 => ?_)
        ·
          refine g_iconst hC (0) d_M_goesOn_81 (by decide) rfl ?_
          exact zG.to (J82 false (by first | (have z := (nI_eq (a := o) (b := 6) (by omega) (by decide)).mp h37; rw [z]; rfl) | (have z := (nI_eq (a := o) (b := 7) (by omega) (by decide)).mp h43; rw [z]; rfl) | (have z := (nI_eq (a := o) (b := 13) (by omega) (by decide)).mp h58; rw [z]; rfl) | exact wok_a (fun z => h37 (by rw [z]; rfl)) (fun z => h43 (by rw [z]; rfl)) (fun z => h58 (by rw [z]; rfl)) ((nI_ltI (a := o) (b := 14) (by omega) (by decide)).mp (Int32.not_le.mp h74)) | exact wok_b (fun z => absurd h74 (nI_ge (a := o) (b := 14) z (by decide))))) rfl rfl ⟨rfl, rfl, rfl, rfl, rfl, trivial⟩
        ·
          refine g_iconst hC (1) d_M_goesOn_77 (by decide) rfl ?_
          refine g_goto hC 82 d_M_goesOn_78 rfl ?_
          exact zG.to (J82 true (by first | (have z := (nI_eq (a := o) (b := 6) (by omega) (by decide)).mp h37; rw [z]; rfl) | (have z := (nI_eq (a := o) (b := 7) (by omega) (by decide)).mp h43; rw [z]; rfl) | (have z := (nI_eq (a := o) (b := 13) (by omega) (by decide)).mp h58; rw [z]; rfl) | exact wok_a (fun z => h37 (by rw [z]; rfl)) (fun z => h43 (by rw [z]; rfl)) (fun z => h58 (by rw [z]; rfl)) ((nI_ltI (a := o) (b := 14) (by omega) (by decide)).mp (Int32.not_le.mp h74)) | exact wok_b (fun z => absurd h74 (nI_ge (a := o) (b := 14) z (by decide))))) rfl rfl ⟨rfl, rfl, rfl, rfl, rfl, trivial⟩
      ·
        refine g_iload hC d_M_goesOn_61 rfl rfl ?_
        refine g_bipush hC (8) d_M_goesOn_63 (by decide) rfl ?_
        refine g_goi hC rfl (z_runS hC (c_M_in l D K q hq _ _ _) yy_M_in ys_M_93 ⟨Nat.le_of_ble_eq_true rfl, Nat.le_of_ble_eq_true rfl⟩ ⟨Nat.zero_le _, Nat.zero_le _⟩ rfl (Nat.le_of_ble_eq_true rfl) d_M_goesOn_65) (fun r6 σ6 q6 => ?_)
        obtain ⟨rfl, w6⟩ := q6
        obtain rfl := w6.symm
        refine g_goto hC 82 d_M_goesOn_68 rfl ?_
        exact zG.to (J82 _ (by first | (have z := (nI_eq (a := o) (b := 6) (by omega) (by decide)).mp h37; rw [z]; rfl) | (have z := (nI_eq (a := o) (b := 7) (by omega) (by decide)).mp h43; rw [z]; rfl) | (have z := (nI_eq (a := o) (b := 13) (by omega) (by decide)).mp h58; rw [z]; rfl) | exact wok_a (fun z => h37 (by rw [z]; rfl)) (fun z => h43 (by rw [z]; rfl)) (fun z => h58 (by rw [z]; rfl)) ((nI_ltI (a := o) (b := 14) (by omega) (by decide)).mp (Int32.not_le.mp h74)) | exact wok_b (fun z => absurd h74 (nI_ge (a := o) (b := 14) z (by decide))))) rfl rfl ⟨rfl, rfl, rfl, rfl, rfl, trivial⟩
    ·
      refine g_iload hC d_M_goesOn_46 rfl rfl ?_
      refine g_iconst hC (4) d_M_goesOn_48 (by decide) rfl ?_
      refine g_goi hC rfl (z_runS hC (c_M_in l D K q hq _ _ _) yy_M_in ys_M_93 ⟨Nat.le_of_ble_eq_true rfl, Nat.le_of_ble_eq_true rfl⟩ ⟨Nat.zero_le _, Nat.zero_le _⟩ rfl (Nat.le_of_ble_eq_true rfl) d_M_goesOn_49) (fun r7 σ7 q7 => ?_)
      obtain ⟨rfl, w7⟩ := q7
      obtain rfl := w7.symm
      refine g_goto hC 82 d_M_goesOn_52 rfl ?_
      exact zG.to (J82 _ (by first | (have z := (nI_eq (a := o) (b := 6) (by omega) (by decide)).mp h37; rw [z]; rfl) | (have z := (nI_eq (a := o) (b := 7) (by omega) (by decide)).mp h43; rw [z]; rfl) | (have z := (nI_eq (a := o) (b := 13) (by omega) (by decide)).mp h58; rw [z]; rfl) | exact wok_a (fun z => h37 (by rw [z]; rfl)) (fun z => h43 (by rw [z]; rfl)) (fun z => h58 (by rw [z]; rfl)) ((nI_ltI (a := o) (b := 14) (by omega) (by decide)).mp (Int32.not_le.mp h74)) | exact wok_b (fun z => absurd h74 (nI_ge (a := o) (b := 14) z (by decide))))) rfl rfl ⟨rfl, rfl, rfl, rfl, rfl, trivial⟩
