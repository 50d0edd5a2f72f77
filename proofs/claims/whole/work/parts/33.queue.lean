/-! the queue's methods -/
def zrow (σ : zm) (k : Nat) (g1 g2 g3 : Int32) : zm := zu (zu (zu σ 3 k g1) 4 k g2) 5 k g3
theorem zrow_off (σ : zm) (k : Nat) (g1 g2 g3 : Int32) {a : Nat} (h : a ≠ 3 ∧ a ≠ 4 ∧ a ≠ 5) : zrow σ k g1 g2 g3 a = σ a := by
  unfold zrow
  rw [zu_row _ _ h.2.2, zu_row _ _ h.2.1, zu_row _ _ h.1]
/-- the first n rows, each from the one behind it -/
def zsh (σ : zm) : Nat → zm
  | 0 => σ
  | n + 1 => zrow (zsh σ n) n (zsh σ n 3 (n + 1)) (zsh σ n 4 (n + 1)) (zsh σ n 5 (n + 1))
theorem zsh_off (σ : zm) (n : Nat) {a : Nat} (h : a ≠ 3 ∧ a ≠ 4 ∧ a ≠ 5) : zsh σ n a = σ a := by
  induction n with
  | zero => rfl
  | succ n ih => exact (zrow_off _ _ _ _ _ h).trans ih
theorem zmax_pred {n : Nat} (h : 1 ≤ n) (hn : n < 2 ^ 31) : zmax (nI n - 1) 0 = nI (n - 1) := by
  obtain ⟨k, rfl⟩ : ∃ k, n = k + 1 := ⟨n - 1, by omega⟩
  rw [nI_pred]
  unfold zmax
  rw [if_neg (nI_pos (by omega))]
  rfl
/-- the rows whose sender isn't g, moved up: the memory, and how many they are -/
def zdr (σ : zm) (g : Int32) : Nat → zm × Nat
  | 0 => (σ, 0)
  | n + 1 => if (zdr σ g n).1 3 n = g then zdr σ g n else (zrow (zdr σ g n).1 (zdr σ g n).2 ((zdr σ g n).1 3 n) ((zdr σ g n).1 4 n) ((zdr σ g n).1 5 n), (zdr σ g n).2 + 1)
theorem zdr_t {σ : zm} {g : Int32} {n : Nat} (h : (zdr σ g n).1 3 n = g) : zdr σ g (n + 1) = zdr σ g n := if_pos h
theorem zdr_f {σ : zm} {g : Int32} {n : Nat} (h : ¬ (zdr σ g n).1 3 n = g) : zdr σ g (n + 1) = (zrow (zdr σ g n).1 (zdr σ g n).2 ((zdr σ g n).1 3 n) ((zdr σ g n).1 4 n) ((zdr σ g n).1 5 n), (zdr σ g n).2 + 1) := if_neg h
theorem zdr_le (σ : zm) (g : Int32) (n : Nat) : (zdr σ g n).2 ≤ n := by
  induction n with
  | zero => exact Nat.le_refl _
  | succ n ih =>
    by_cases h : (zdr σ g n).1 3 n = g
    · rw [zdr_t h]; omega
    · rw [zdr_f h]; exact Nat.succ_le_succ ih
theorem zdr_off (σ : zm) (g : Int32) (n : Nat) {a : Nat} (ha : a ≠ 3 ∧ a ≠ 4 ∧ a ≠ 5) : (zdr σ g n).1 a = σ a := by
  induction n with
  | zero => rfl
  | succ n ih =>
    by_cases h : (zdr σ g n).1 3 n = g
    · rw [zdr_t h]; exact ih
    · rw [zdr_f h]; exact (zrow_off _ _ _ _ _ ha).trans ih
set_option maxHeartbeats 4000000 in
set_option maxRecDepth 100000 in
theorem c_Q_setRow (l : Launch) (D : va_G) (K : Nat → ClassId) (q : Nat → Nat) (hq : zI q) (k : Nat) (hk : k < 8) (g1 g2 g3 : Int32) (σ : zm) : zMv l y_Q_setRow b_Q_setRow 5 none 0 D K q [.ref (q (2)), .int (nI k), .int (g1), .int (g2), .int (g3)] σ (fun σ' => σ' = zrow σ k g1 g2 g3) := by
  refine zMv.of (own := "AppDesk$IntentQueue") (lv := [(0, .ref (q (2))), (1, .int (nI k)), (2, .int (g1)), (3, .int (g2)), (4, .int (g3))]) (by decide) rfl hq (Nat.le_of_ble_eq_true rfl) rfl ?_
  intro p e s m below meth c hC hr hlk
  refine g_aload_n hC d_Q_setRow_0 rfl rfl ?_
  refine g_getR hC _ 3 1 _ (by decide) rfl rfl fl_Q_9 d_Q_setRow_1 rfl ?_
  refine g_iload_n hC d_Q_setRow_4 rfl rfl ?_
  refine g_iload_n hC d_Q_setRow_5 rfl rfl ?_
  refine g_iast hC _ _ k (by decide) rfl rfl hk (by decide) d_Q_setRow_6 rfl ?_
  refine g_aload_n hC d_Q_setRow_7 rfl rfl ?_
  refine g_getR hC _ 3 2 _ (by decide) rfl rfl fl_Q_15 d_Q_setRow_8 rfl ?_
  refine g_iload_n hC d_Q_setRow_11 rfl rfl ?_
  refine g_iload_n hC d_Q_setRow_12 rfl rfl ?_
  refine g_iast hC _ _ k (by decide) rfl rfl hk (by decide) d_Q_setRow_13 rfl ?_
  refine g_aload_n hC d_Q_setRow_14 rfl rfl ?_
  refine g_getR hC _ 3 3 _ (by decide) rfl rfl fl_Q_18 d_Q_setRow_15 rfl ?_
  refine g_iload_n hC d_Q_setRow_18 rfl rfl ?_
  refine g_iload hC d_Q_setRow_19 rfl rfl ?_
  refine g_iast hC _ _ k (by decide) rfl rfl hk (by decide) d_Q_setRow_21 rfl ?_
  exact g_vret hC hr hlk d_Q_setRow_22 rfl
set_option maxHeartbeats 4000000 in
set_option maxRecDepth 100000 in
theorem c_Q_add (l : Launch) (D : va_G) (K : Nat → ClassId) (q : Nat → Nat) (hq : zI q) (n : Nat) (hn : n ≤ 8) (g1 g2 g3 : Int32) (σ : zm) (h : σ 2 0 = nI n) : zMi l y_Q_add b_Q_add 4 (some .boolean) 1 D K q [.ref (q (2)), .int (g1), .int (g2), .int (g3)] σ (fun r σ' => r = zb (decide (n < 8)) ∧ σ' = if n < 8 then zu (zrow σ n g1 g2 g3) 2 0 (nI (n + 1)) else σ) := by
  refine zMi.of (own := "AppDesk$IntentQueue") (lv := [(0, .ref (q (2))), (1, .int (g1)), (2, .int (g2)), (3, .int (g3))]) (by decide) rfl hq (Nat.le_of_ble_eq_true rfl) rfl ?_
  intro p e s m below meth c hC hr hlk
  refine g_aload_n hC d_Q_add_0 rfl rfl ?_
  refine g_getV hC _ 3 0 (nI n) (h) (by decide) rfl rfl fl_Q_21 d_Q_add_1 rfl ?_
  refine g_bipush hC (8) d_Q_add_4 (by decide) rfl ?_
  refine g_icmp_lt hC 11 d_Q_add_6 rfl rfl (fun h6 => ?_) (fun h6 => ?_)
  ·
    have hlt : n < 8 := (nI_ltI (a := n) (b := 8) (by omega) (by decide)).mp h6
    refine g_aload_n hC d_Q_add_11 rfl rfl ?_
    refine g_aload_n hC d_Q_add_12 rfl rfl ?_
    refine g_getV hC _ 3 0 (nI n) (h) (by decide) rfl rfl fl_Q_21 d_Q_add_13 rfl ?_
    refine g_iload_n hC d_Q_add_16 rfl rfl ?_
    refine g_iload_n hC d_Q_add_17 rfl rfl ?_
    refine g_iload_n hC d_Q_add_18 rfl rfl ?_
    refine g_gov hC rfl (z_runV hC (c_Q_setRow l D K q hq _ hlt _ _ _ _) yy_Q_setRow yv_Q_25 (by decide) rfl ⟨Nat.le_of_ble_eq_true rfl, Nat.le_of_ble_eq_true rfl⟩ ⟨Nat.zero_le _, Nat.zero_le _⟩ rfl (Nat.le_of_ble_eq_true rfl) d_Q_add_19) (fun σ0 q0 => ?_)
    obtain rfl := q0.symm
    refine g_aload_n hC d_Q_add_22 rfl rfl ?_
    refine g_dup hC d_Q_add_23 rfl rfl ?_
    refine g_getV hC _ 3 0 (nI n) (by rw [zrow_off σ _ _ _ _ (by decide)]; exact h) (by decide) rfl rfl fl_Q_21 d_Q_add_24 rfl ?_
    refine g_iconst hC (1) d_Q_add_27 (by decide) rfl ?_
    refine g_iadd hC d_Q_add_28 rfl ?_
    refine g_top hC (nI (n + 1)) (nI_1 n) ?_
    refine g_putI hC _ 3 0 (by decide) rfl rfl fp_Q_21 d_Q_add_29 rfl ?_
    refine g_iconst hC (1) d_Q_add_32 (by decide) rfl ?_
    exact g_zret hC hr hlk d_Q_add_33 (Or.inr rfl) ⟨by rw [decide_eq_true hlt]; rfl, (if_pos hlt).symm⟩
  ·
    have hlt : ¬ n < 8 := fun z => h6 (nI_lt (a := n) (b := 8) z (by decide))
    refine g_iconst hC (0) d_Q_add_9 (by decide) rfl ?_
    exact g_zret hC hr hlk d_Q_add_10 (Or.inl rfl) ⟨by rw [decide_eq_false hlt]; rfl, (if_neg hlt).symm⟩
set_option maxHeartbeats 4000000 in
set_option maxRecDepth 100000 in
theorem c_Q_dropFirst (l : Launch) (D : va_G) (K : Nat → ClassId) (q : Nat → Nat) (hq : zI q) (n : Nat) (hn1 : 1 ≤ n) (hn : n ≤ 8) (σ : zm) (h : σ 2 0 = nI n) : zMv l y_Q_dropFirst b_Q_dropFirst 2 none 1 D K q [.ref (q (2))] σ (fun σ' => σ' = zu (zsh σ (n - 1)) 2 0 (nI (n - 1))) := by
  refine zMv.of (own := "AppDesk$IntentQueue") (lv := [(0, .ref (q (2)))]) (by decide) rfl hq (Nat.le_of_ble_eq_true rfl) rfl ?_
  intro p e s m below meth c hC hr hlk
  have J2 : ∀ (f : Nat) (k : Nat) (hif : k + 1 + f = n), zG p l e (zrm 1) s m ([.ref (q (2))] : List Value).toArray below meth c D K q (zA q) 2 0 0 (MQ below (va_Qv (fun σ' => σ' = zu (zsh σ (n - 1)) 2 0 (nI (n - 1))) (zO D K q) (zA q)) ([.ref (q (2))] : List Value).toArray s 0 0 (zA q)) (zsh σ k) 2 [(0, .ref (q (2))), (1, .int (nI (k + 1)))] [] := by
    intro f
    induction f with
    | zero =>
      intro k hif
      refine g_iload_n hC d_Q_dropFirst_2 rfl rfl ?_
      refine g_aload_n hC d_Q_dropFirst_3 rfl rfl ?_
      refine g_getV hC _ 3 0 (nI n) (by rw [zsh_off σ k (by decide)]; exact h) (by decide) rfl rfl fl_Q_21 d_Q_dropFirst_4 rfl ?_
      refine g_icmp_ge hC 41 d_Q_dropFirst_7 rfl rfl (fun h7 => ?_) (fun h7 => absurd (nI_le (a := n) (b := k + 1) (by omega) (by omega)) h7)
      refine g_aload_n hC d_Q_dropFirst_41 rfl rfl ?_
      refine g_aload_n hC d_Q_dropFirst_42 rfl rfl ?_
      refine g_getV hC _ 3 0 (nI n) (by rw [zsh_off σ k (by decide)]; exact h) (by decide) rfl rfl fl_Q_21 d_Q_dropFirst_43 rfl ?_
      refine g_iconst hC (1) d_Q_dropFirst_46 (by decide) rfl ?_
      refine g_isub hC d_Q_dropFirst_47 rfl ?_
      refine g_iconst hC (0) d_Q_dropFirst_48 (by decide) rfl ?_
      refine g_max hC km_Q_29 d_Q_dropFirst_49 rfl ⟨Nat.le_of_ble_eq_true rfl, Nat.le_of_ble_eq_true rfl, Nat.zero_le _, Nat.zero_le _⟩ (Nat.le_of_ble_eq_true rfl) ?_
      refine g_top hC (nI (n - 1)) (zmax_pred hn1 (by omega)) ?_
      refine g_putI hC _ 3 0 (by decide) rfl rfl fp_Q_21 d_Q_dropFirst_52 rfl ?_
      exact g_vret hC hr hlk d_Q_dropFirst_55 (by rw [show n - 1 = k by omega])
    | succ f ih =>
      intro k hif
      refine g_iload_n hC d_Q_dropFirst_2 rfl rfl ?_
      refine g_aload_n hC d_Q_dropFirst_3 rfl rfl ?_
      refine g_getV hC _ 3 0 (nI n) (by rw [zsh_off σ k (by decide)]; exact h) (by decide) rfl rfl fl_Q_21 d_Q_dropFirst_4 rfl ?_
      refine g_icmp_ge hC 41 d_Q_dropFirst_7 rfl rfl (fun h7 => absurd h7 (nI_ge (a := k + 1) (b := n) (by omega) (by omega))) (fun h7 => ?_)
      refine g_aload_n hC d_Q_dropFirst_10 rfl rfl ?_
      refine g_iload_n hC d_Q_dropFirst_11 rfl rfl ?_
      refine g_iconst hC (1) d_Q_dropFirst_12 (by decide) rfl ?_
      refine g_isub hC d_Q_dropFirst_13 rfl ?_
      refine g_top hC (nI k) (nI_pred k) ?_
      refine g_aload_n hC d_Q_dropFirst_14 rfl rfl ?_
      refine g_getR hC _ 3 1 _ (by decide) rfl rfl fl_Q_9 d_Q_dropFirst_15 rfl ?_
      refine g_iload_n hC d_Q_dropFirst_18 rfl rfl ?_
      refine g_iald hC _ _ ((k + 1)) (by decide) rfl rfl (by omega) (by decide) d_Q_dropFirst_19 rfl ?_
      refine g_aload_n hC d_Q_dropFirst_20 rfl rfl ?_
      refine g_getR hC _ 3 2 _ (by decide) rfl rfl fl_Q_15 d_Q_dropFirst_21 rfl ?_
      refine g_iload_n hC d_Q_dropFirst_24 rfl rfl ?_
      refine g_iald hC _ _ ((k + 1)) (by decide) rfl rfl (by omega) (by decide) d_Q_dropFirst_25 rfl ?_
      refine g_aload_n hC d_Q_dropFirst_26 rfl rfl ?_
      refine g_getR hC _ 3 3 _ (by decide) rfl rfl fl_Q_18 d_Q_dropFirst_27 rfl ?_
      refine g_iload_n hC d_Q_dropFirst_30 rfl rfl ?_
      refine g_iald hC _ _ ((k + 1)) (by decide) rfl rfl (by omega) (by decide) d_Q_dropFirst_31 rfl ?_
      refine g_gov hC rfl (z_runV hC (c_Q_setRow l D K q hq _ (by omega) _ _ _ _) yy_Q_setRow yv_Q_25 (by decide) rfl ⟨Nat.le_of_ble_eq_true rfl, Nat.le_of_ble_eq_true rfl⟩ ⟨Nat.zero_le _, Nat.zero_le _⟩ rfl (Nat.le_of_ble_eq_true rfl) d_Q_dropFirst_32) (fun σ0 q0 => ?_)
      obtain rfl := q0.symm
      refine g_iinc hC (nI (k + 1 + 1)) d_Q_dropFirst_35 rfl rfl (nI_succ _).symm (by decide) ?_
      refine g_goto hC 2 d_Q_dropFirst_38 rfl ?_
      exact zG.to (ih (k + 1) (by omega)) rfl rfl ⟨rfl, rfl, trivial⟩
  refine g_iconst hC (1) d_Q_dropFirst_0 (by decide) rfl ?_
  refine g_istore_n hC d_Q_dropFirst_1 rfl (by decide) ?_
  exact zG.to (J2 (n - 1) 0 (by omega)) rfl rfl ⟨rfl, rfl, trivial⟩
set_option maxHeartbeats 4000000 in
set_option maxRecDepth 100000 in
theorem c_Q_dropAllOf (l : Launch) (D : va_G) (K : Nat → ClassId) (q : Nat → Nat) (hq : zI q) (n : Nat) (hn : n ≤ 8) (g : Int32) (σ : zm) (h : σ 2 0 = nI n) : zMv l y_Q_dropAllOf b_Q_dropAllOf 4 none 1 D K q [.ref (q (2)), .int (g)] σ (fun σ' => σ' = zu (zdr σ g n).1 2 0 (nI (zdr σ g n).2)) := by
  refine zMv.of (own := "AppDesk$IntentQueue") (lv := [(0, .ref (q (2))), (1, .int (g))]) (by decide) rfl hq (Nat.le_of_ble_eq_true rfl) rfl ?_
  intro p e s m below meth c hC hr hlk
  have J4 : ∀ (f : Nat) (k : Nat) (hif : k + f = n), zG p l e (zrm 1) s m ([.ref (q (2)), .int (g)] : List Value).toArray below meth c D K q (zA q) 4 0 0 (MQ below (va_Qv (fun σ' => σ' = zu (zdr σ g n).1 2 0 (nI (zdr σ g n).2)) (zO D K q) (zA q)) ([.ref (q (2)), .int (g)] : List Value).toArray s 0 0 (zA q)) (zdr σ g k).1 4 [(0, .ref (q (2))), (1, .int (g)), (2, .int (nI (zdr σ g k).2)), (3, .int (nI k))] [] := by
    intro f
    induction f with
    | zero =>
      intro k hif
      refine g_iload_n hC d_Q_dropAllOf_4 rfl rfl ?_
      refine g_aload_n hC d_Q_dropAllOf_5 rfl rfl ?_
      refine g_getV hC _ 3 0 (nI n) (by rw [zdr_off σ g k (by decide)]; exact h) (by decide) rfl rfl fl_Q_21 d_Q_dropAllOf_6 rfl ?_
      refine g_icmp_ge hC 54 d_Q_dropAllOf_9 rfl rfl (fun h9 => ?_) (fun h9 => absurd (nI_le (a := n) (b := k) (by omega) (by omega)) h9)
      refine g_aload_n hC d_Q_dropAllOf_54 rfl rfl ?_
      refine g_iload_n hC d_Q_dropAllOf_55 rfl rfl ?_
      refine g_putI hC _ 3 0 (by decide) rfl rfl fp_Q_21 d_Q_dropAllOf_56 rfl ?_
      exact g_vret hC hr hlk d_Q_dropAllOf_59 (by rw [show n = k by omega])
    | succ f ih =>
      intro k hif
      refine g_iload_n hC d_Q_dropAllOf_4 rfl rfl ?_
      refine g_aload_n hC d_Q_dropAllOf_5 rfl rfl ?_
      refine g_getV hC _ 3 0 (nI n) (by rw [zdr_off σ g k (by decide)]; exact h) (by decide) rfl rfl fl_Q_21 d_Q_dropAllOf_6 rfl ?_
      refine g_icmp_ge hC 54 d_Q_dropAllOf_9 rfl rfl (fun h9 => absurd h9 (nI_ge (a := k) (b := n) (by omega) (by omega))) (fun h9 => ?_)
      refine g_aload_n hC d_Q_dropAllOf_12 rfl rfl ?_
      refine g_getR hC _ 3 1 _ (by decide) rfl rfl fl_Q_9 d_Q_dropAllOf_13 rfl ?_
      refine g_iload_n hC d_Q_dropAllOf_16 rfl rfl ?_
      refine g_iald hC _ _ (k) (by decide) rfl rfl (by omega) (by decide) d_Q_dropAllOf_17 rfl ?_
      refine g_iload_n hC d_Q_dropAllOf_18 rfl rfl ?_
      refine g_icmp_eq hC 48 d_Q_dropAllOf_19 rfl rfl (fun h19 => ?_) (fun h19 => ?_)
      ·
        refine g_iinc hC (nI (k + 1)) d_Q_dropAllOf_48 rfl rfl (nI_succ _).symm (by decide) ?_
        refine g_goto hC 4 d_Q_dropAllOf_51 rfl ?_
        first | exact zG.to (ih (k + 1) (by omega)) (congrArg Prod.fst (zdr_t h19)).symm rfl ⟨rfl, rfl, congrArg (fun z => some (Value.int (nI (Prod.snd z)))) (zdr_t h19).symm, rfl, trivial⟩ | exact zG.to (ih (k + 1) (by omega)) (congrArg Prod.fst (zdr_f h19)).symm rfl ⟨rfl, rfl, congrArg (fun z => some (Value.int (nI (Prod.snd z)))) (zdr_f h19).symm, rfl, trivial⟩
      ·
        refine g_aload_n hC d_Q_dropAllOf_22 rfl rfl ?_
        refine g_iload_n hC d_Q_dropAllOf_23 rfl rfl ?_
        refine g_aload_n hC d_Q_dropAllOf_24 rfl rfl ?_
        refine g_getR hC _ 3 1 _ (by decide) rfl rfl fl_Q_9 d_Q_dropAllOf_25 rfl ?_
        refine g_iload_n hC d_Q_dropAllOf_28 rfl rfl ?_
        refine g_iald hC _ _ (k) (by decide) rfl rfl (by omega) (by decide) d_Q_dropAllOf_29 rfl ?_
        refine g_aload_n hC d_Q_dropAllOf_30 rfl rfl ?_
        refine g_getR hC _ 3 2 _ (by decide) rfl rfl fl_Q_15 d_Q_dropAllOf_31 rfl ?_
        refine g_iload_n hC d_Q_dropAllOf_34 rfl rfl ?_
        refine g_iald hC _ _ (k) (by decide) rfl rfl (by omega) (by decide) d_Q_dropAllOf_35 rfl ?_
        refine g_aload_n hC d_Q_dropAllOf_36 rfl rfl ?_
        refine g_getR hC _ 3 3 _ (by decide) rfl rfl fl_Q_18 d_Q_dropAllOf_37 rfl ?_
        refine g_iload_n hC d_Q_dropAllOf_40 rfl rfl ?_
        refine g_iald hC _ _ (k) (by decide) rfl rfl (by omega) (by decide) d_Q_dropAllOf_41 rfl ?_
        refine g_gov hC rfl (z_runV hC (c_Q_setRow l D K q hq _ (by have := zdr_le σ g k; omega) _ _ _ _) yy_Q_setRow yv_Q_25 (by decide) rfl ⟨Nat.le_of_ble_eq_true rfl, Nat.le_of_ble_eq_true rfl⟩ ⟨Nat.zero_le _, Nat.zero_le _⟩ rfl (Nat.le_of_ble_eq_true rfl) d_Q_dropAllOf_42) (fun σ0 q0 => ?_)
        obtain rfl := q0.symm
        refine g_iinc hC (nI ((zdr σ g k).2 + 1)) d_Q_dropAllOf_45 rfl rfl (nI_succ _).symm (by decide) ?_
        refine g_iinc hC (nI (k + 1)) d_Q_dropAllOf_48 rfl rfl (nI_succ _).symm (by decide) ?_
        refine g_goto hC 4 d_Q_dropAllOf_51 rfl ?_
        first | exact zG.to (ih (k + 1) (by omega)) (congrArg Prod.fst (zdr_t h19)).symm rfl ⟨rfl, rfl, congrArg (fun z => some (Value.int (nI (Prod.snd z)))) (zdr_t h19).symm, rfl, trivial⟩ | exact zG.to (ih (k + 1) (by omega)) (congrArg Prod.fst (zdr_f h19)).symm rfl ⟨rfl, rfl, congrArg (fun z => some (Value.int (nI (Prod.snd z)))) (zdr_f h19).symm, rfl, trivial⟩
  refine g_iconst hC (0) d_Q_dropAllOf_0 (by decide) rfl ?_
  refine g_istore_n hC d_Q_dropAllOf_1 rfl (by decide) ?_
  refine g_iconst hC (0) d_Q_dropAllOf_2 (by decide) rfl ?_
  refine g_istore_n hC d_Q_dropAllOf_3 rfl (by decide) ?_
  exact zG.to (J4 n 0 (by omega)) rfl rfl ⟨rfl, rfl, rfl, rfl, trivial⟩
