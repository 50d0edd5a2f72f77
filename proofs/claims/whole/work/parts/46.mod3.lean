/-! the reference's methods: clashes, remove, app -/
def wcl0 (σ : zm) (nm : Nat) : Bool := !decide (σ 105 nm = 0) && (!decide (σ 107 nm = σ 107 8) || decide (σ 106 8 ≤ σ 106 nm))
def wclq (σ : zm) (nm a t : Nat) : Bool := !decide (nI a = nI nm) && !decide (σ 105 a = 0) && !decide (σ 110 (8 * a + t) = 0) && !decide (σ 110 (64 + t) = 0)
def wclp (σ : zm) (nm : Nat) : Nat → Bool
  | 0 => wcl0 σ nm
  | n + 1 => wclp σ nm n || wclq σ nm (n / 8) (n % 8)
theorem wclp_s (σ : zm) (nm a t : Nat) (ht : t < 8) : wclp σ nm (8 * a + t + 1) = (wclp σ nm (8 * a + t) || wclq σ nm a t) := by
  show (wclp σ nm (8 * a + t) || wclq σ nm ((8 * a + t) / 8) ((8 * a + t) % 8)) = _
  rw [show (8 * a + t) / 8 = a by omega, show (8 * a + t) % 8 = t by omega]
section WCL
variable {σ : zm} {nm a t : Nat} (ht : t < 8)
theorem wcl_1 (ht : t < 8) (h : wclp σ nm (8 * a + t) = true) : (1 : Int32) = zb (wclp σ nm (8 * a + t + 1)) := by rw [wclp_s σ nm a t ht, h]; rfl
theorem wcl_2 (ht : t < 8) (h1 : ¬ nI a = nI nm) (h2 : ¬ σ 105 a = 0) (h3 : ¬ σ 110 (8 * a + t) = 0) (h4 : ¬ σ 110 (64 + t) = 0) : (1 : Int32) = zb (wclp σ nm (8 * a + t + 1)) := by
  rw [wclp_s σ nm a t ht]
  simp [wclq, h1, h2, h3, h4, zb]
theorem wcl_3 (ht : t < 8) (h : wclp σ nm (8 * a + t) = false) (h1 : nI a = nI nm) : (0 : Int32) = zb (wclp σ nm (8 * a + t + 1)) := by
  rw [wclp_s σ nm a t ht]
  simp [wclq, h, h1, zb]
theorem wcl_4 (ht : t < 8) (h : wclp σ nm (8 * a + t) = false) (h1 : σ 105 a = 0) : (0 : Int32) = zb (wclp σ nm (8 * a + t + 1)) := by
  rw [wclp_s σ nm a t ht]
  simp [wclq, h, h1, zb]
theorem wcl_5 (ht : t < 8) (h : wclp σ nm (8 * a + t) = false) (h1 : σ 110 (8 * a + t) = 0) : (0 : Int32) = zb (wclp σ nm (8 * a + t + 1)) := by
  rw [wclp_s σ nm a t ht]
  simp [wclq, h, h1, zb]
theorem wcl_6 (ht : t < 8) (h : wclp σ nm (8 * a + t) = false) (h1 : σ 110 (64 + t) = 0) : (0 : Int32) = zb (wclp σ nm (8 * a + t + 1)) := by
  rw [wclp_s σ nm a t ht]
  simp [wclq, h, h1, zb]
end WCL
def wrm (σ : zm) (k n : Nat) : zm := fun a b => if a = 118 ∧ 8 * k ≤ b ∧ b < 8 * k + n then 0 else zu (zu (zu (wz σ) 105 k 0) 121 k 0) 120 k 0 a b
theorem wrm_0 (σ : zm) (k : Nat) : wrm σ k 0 = zu (zu (zu (wz σ) 105 k 0) 121 k 0) 120 k 0 := by
  funext a b
  unfold wrm
  rw [if_neg (by omega)]
theorem wrm_s (σ : zm) (k n : Nat) : zu (wrm σ k n) 118 (8 * k + n) 0 = wrm σ k (n + 1) := by
  funext a b
  unfold wrm
  rw [show zu (fun a b => if a = 118 ∧ 8 * k ≤ b ∧ b < 8 * k + n then 0 else zu (zu (zu (wz σ) 105 k 0) 121 k 0) 120 k 0 a b) 118 (8 * k + n) 0 a b = if a = 118 ∧ b = 8 * k + n then 0 else (if a = 118 ∧ 8 * k ≤ b ∧ b < 8 * k + n then 0 else zu (zu (zu (wz σ) 105 k 0) 121 k 0) 120 k 0 a b) from rfl]
  by_cases h : a = 118 ∧ b = 8 * k + n
  · rw [if_pos h, if_pos (by omega)]
  · rw [if_neg h]
    by_cases h2 : a = 118 ∧ 8 * k ≤ b ∧ b < 8 * k + n
    · rw [if_pos h2, if_pos (by omega)]
    · rw [if_neg h2, if_neg (by omega)]
theorem wrm_q (σ : zm) (k n : Nat) : wrm σ k n 104 24 = σ 104 24 := by
  unfold wrm
  rw [if_neg (by omega), zu_row _ _ (by decide), zu_row _ _ (by decide), zu_row _ _ (by decide)]
  exact zu_ne _ _ (Or.inr (by decide))
theorem wrow_off (σ : zm) (k : Nat) (g1 g2 g3 : Int32) {a : Nat} (h : a ≠ 126 ∧ a ≠ 127 ∧ a ≠ 128) : wrow σ k g1 g2 g3 a = σ a := by
  unfold wrow
  rw [zu_row _ _ h.2.2, zu_row _ _ h.2.1, zu_row _ _ h.1]
def wdq (σ : zm) (g : Int32) : Nat → zm × Nat
  | 0 => (σ, 0)
  | n + 1 => if (wdq σ g n).1 126 n = g then wdq σ g n else (wrow (wdq σ g n).1 (wdq σ g n).2 ((wdq σ g n).1 126 n) ((wdq σ g n).1 127 n) ((wdq σ g n).1 128 n), (wdq σ g n).2 + 1)
theorem wdq_t {σ : zm} {g : Int32} {n : Nat} (h : (wdq σ g n).1 126 n = g) : wdq σ g (n + 1) = wdq σ g n := if_pos h
theorem wdq_f {σ : zm} {g : Int32} {n : Nat} (h : ¬ (wdq σ g n).1 126 n = g) : wdq σ g (n + 1) = (wrow (wdq σ g n).1 (wdq σ g n).2 ((wdq σ g n).1 126 n) ((wdq σ g n).1 127 n) ((wdq σ g n).1 128 n), (wdq σ g n).2 + 1) := if_neg h
theorem wdq_le (σ : zm) (g : Int32) (n : Nat) : (wdq σ g n).2 ≤ n := by
  induction n with
  | zero => exact Nat.le_refl _
  | succ n ih =>
    by_cases h : (wdq σ g n).1 126 n = g
    · rw [wdq_t h]; omega
    · rw [wdq_f h]; exact Nat.succ_le_succ ih
theorem wdq_off (σ : zm) (g : Int32) (n : Nat) {a : Nat} (ha : a ≠ 126 ∧ a ≠ 127 ∧ a ≠ 128) : (wdq σ g n).1 a = σ a := by
  induction n with
  | zero => rfl
  | succ n ih =>
    by_cases h : (wdq σ g n).1 126 n = g
    · rw [wdq_t h]; exact ih
    · rw [wdq_f h]; exact (wrow_off _ _ _ _ _ ha).trans ih
def wap1 (σ : zm) (k : Nat) (x : Int32) : Int32 := if x = 0 then σ 106 k else if x = 1 then σ 107 k else if x = 2 then (if σ 121 k = 0 then 0 else 1) else if x = 6 then nI (wcnt (wz σ) k 8) else if σ 121 k = 0 then 0 else if x = 3 then σ 122 k else if x = 4 then σ 123 k else if σ 123 k ≤ 0 then 0 else σ 124 (6 * k + ((σ 123 k).toNatClampNeg - 1))
def wappw (σ : zm) (n x : Int32) : Int32 := if wapp σ n && !decide (x < 0) && decide (x ≤ 6) then wap1 σ n.toNatClampNeg x else -1
theorem wap_1 {σ : zm} {n x : Int32} (h : wapp σ n = false) : wappw σ n x = -1 := by simp [wappw, h]
theorem wap_2 {σ : zm} {n x : Int32} (h : x < 0) : wappw σ n x = -1 := by simp [wappw, h]
theorem wap_3 {σ : zm} {n x : Int32} (h : 6 < x) : wappw σ n x = -1 := by
  unfold wappw
  rw [decide_eq_false (Int32.not_le.mpr h), Bool.and_false]
  rfl
theorem wap_4 {σ : zm} {n x : Int32} {k : Nat} (h1 : wapp σ n = true) (hc : n.toNatClampNeg = k) (h2 : ¬ x < 0) (h3 : x ≤ 6) : wappw σ n x = wap1 σ k x := by
  unfold wappw
  rw [h1, hc, decide_eq_false h2, decide_eq_true h3]
  rfl
section WAX
variable {σ : zm} {k h : Nat} {x : Int32}
theorem wax_0 (e : x = 0) : wap1 σ k x = σ 106 k := if_pos e
theorem wax_1 (e : x = 1) : wap1 σ k x = σ 107 k := by subst e; rfl
theorem wx_3 (h1 : ¬ 3 ≤ x) (h2 : ¬ x = 0) (h3 : ¬ x = 1) (h0 : ¬ x < 0) : x = 2 := by
  rcases pk_ix x (n := 3) (by decide) with z | z | ⟨j, hj, z⟩
  · exact absurd z h0
  · exact absurd z h1
  · subst z
    have : j = 0 ∨ j = 1 ∨ j = 2 := by omega
    rcases this with rfl | rfl | rfl
    · exact absurd rfl h2
    · exact absurd rfl h3
    · rfl
theorem wx_7 (h1 : 3 ≤ x) (h2 : x ≤ 6) : x = 3 ∨ x = 4 ∨ x = 5 ∨ x = 6 := by
  have h3 : ¬ x < 0 := fun z => absurd (Int32.lt_of_lt_of_le z (show (0 : Int32) ≤ 3 by decide)) (Int32.not_lt.mpr h1)
  obtain ⟨j, hj, rfl⟩ := nI_of2 (M := 6) (n := 6) (by decide) h3 h2
  have h4 : 3 ≤ j := (nI_leI (a := 3) (b := j) (by decide) (by omega)).mp h1
  have : j = 3 ∨ j = 4 ∨ j = 5 ∨ j = 6 := by omega
  rcases this with rfl | rfl | rfl | rfl
  · exact Or.inl rfl
  · exact Or.inr (Or.inl rfl)
  · exact Or.inr (Or.inr (Or.inl rfl))
  · exact Or.inr (Or.inr (Or.inr rfl))
theorem wax_2 (h1 : ¬ 3 ≤ x) (h2 : ¬ x = 0) (h3 : ¬ x = 1) (h0 : ¬ x < 0) (e : σ 121 k = 0) : wap1 σ k x = 0 := by
  have := wx_3 h1 h2 h3 h0
  subst this
  exact if_pos e
theorem wax_2b (h1 : ¬ 3 ≤ x) (h2 : ¬ x = 0) (h3 : ¬ x = 1) (h0 : ¬ x < 0) (e : ¬ σ 121 k = 0) : wap1 σ k x = 1 := by
  have := wx_3 h1 h2 h3 h0
  subst this
  exact if_neg e
theorem wax_6 (e : x = 6) : wap1 σ k x = nI (wcnt (wz σ) k 8) := by subst e; rfl
theorem wax_r (h1 : 3 ≤ x) (h2 : ¬ x = 6) (h3 : x ≤ 6) (e : σ 121 k = 0) : wap1 σ k x = 0 := by
  rcases wx_7 h1 h3 with rfl | rfl | rfl | rfl
  · exact if_pos e
  · exact if_pos e
  · exact if_pos e
  · exact absurd rfl h2
theorem wax_3 (e : x = 3) (r : ¬ σ 121 k = 0) : wap1 σ k x = σ 122 k := by
  subst e
  exact if_neg r
theorem wax_4 (e : x = 4) (r : ¬ σ 121 k = 0) : wap1 σ k x = σ 123 k := by
  subst e
  exact if_neg r
theorem wax_5 (h1 : 3 ≤ x) (h2 : x ≤ 6) (h6 : ¬ x = 6) (h3 : ¬ x = 3) (h4 : ¬ x = 4) (r : ¬ σ 121 k = 0) (e : σ 123 k = nI h) (h0 : 0 < h) (hh : h ≤ 6) : wap1 σ k x = zu σ 104 0 0 124 (6 * k + (h - 1 - 0)) := by
  rcases wx_7 h1 h2 with rfl | rfl | rfl | rfl
  · exact absurd rfl h3
  · exact absurd rfl h4
  · rw [zu_row _ _ (by decide)]
    show (if σ 121 k = 0 then 0 else if σ 123 k ≤ 0 then 0 else σ 124 (6 * k + ((σ 123 k).toNatClampNeg - 1))) = _
    rw [if_neg r, e, if_neg (nI_nle h0 (by omega)), nI_clamp (by omega)]
    rfl
  · exact absurd rfl h6
theorem wax_5b (h1 : 3 ≤ x) (h2 : x ≤ 6) (h6 : ¬ x = 6) (h3 : ¬ x = 3) (h4 : ¬ x = 4) (r : ¬ σ 121 k = 0) (e : σ 123 k = nI h) (h0 : nI h ≤ 0) : wap1 σ k x = 0 := by
  rcases wx_7 h1 h2 with rfl | rfl | rfl | rfl
  · exact absurd rfl h3
  · exact absurd rfl h4
  · show (if σ 121 k = 0 then 0 else if σ 123 k ≤ 0 then 0 else σ 124 (6 * k + ((σ 123 k).toNatClampNeg - 1))) = _
    rw [if_neg r, e, if_pos h0]
  · exact absurd rfl h6
end WAX
set_option maxHeartbeats 4000000 in
set_option maxRecDepth 100000 in
theorem c_M_clashes (l : Launch) (D : va_G) (K : Nat → ClassId) (q : Nat → Nat) (hq : zI q) (σ : zm) (nm : Nat) (hnm : nm < 8) (h : σ 104 14 = nI nm) : zMi l y_M_clashes b_M_clashes 5 (some .boolean) 0 D K q [.ref (q (104))] σ (fun r σ' => r = zb (wclp σ nm 64) ∧ σ' = σ) := by
  refine zMi.of (own := "AppDeskModel") (lv := [(0, .ref (q (104)))]) (by decide) rfl hq (Nat.le_of_ble_eq_true rfl) rfl ?_
  intro p e s m below meth c hC hr hlk
  have J63 : ∀ (f : Nat) (a : Nat) (ha : a < 8) (K128 : zG p l e (zrm 0) s m ([.ref (q (104))] : List Value).toArray below meth c D K q (zA q) 5 0 0 (MQ below (va_Qi (fun r σ' => r = zb (wclp σ nm 64) ∧ σ' = σ) (zO D K q) (zA q)) ([.ref (q (104))] : List Value).toArray s 0 0 (zA q)) σ 128 [(0, .ref (q (104))), (1, .int (nI nm)), (2, .int (zb (wclp σ nm (8 * (a + 1))))), (3, .int (nI a))] []) (t : Nat) (hif : t + f = 8), zG p l e (zrm 0) s m ([.ref (q (104))] : List Value).toArray below meth c D K q (zA q) 5 0 0 (MQ below (va_Qi (fun r σ' => r = zb (wclp σ nm 64) ∧ σ' = σ) (zO D K q) (zA q)) ([.ref (q (104))] : List Value).toArray s 0 0 (zA q)) σ 63 [(0, .ref (q (104))), (1, .int (nI nm)), (2, .int (zb (wclp σ nm (8 * a + t)))), (3, .int (nI a)), (4, .int (nI t))] [] := by
    intro f
    induction f with
    | zero =>
      intro a ha K128 t hif
      refine g_iload hC d_M_clashes_63 rfl rfl ?_
      refine g_bipush hC (8) d_M_clashes_65 (by decide) rfl ?_
      refine g_icmp_ge hC 128 d_M_clashes_67 rfl rfl (fun h67 => ?_) (fun h67 => absurd (nI_le (a := 8) (b := t) (by omega) (by omega)) h67)
      exact zG.to K128 rfl rfl ⟨rfl, rfl, congrArg (fun z => some (Value.int (zb (wclp σ nm z)))) (show 8 * a + t = 8 * (a + 1) by omega), rfl, trivial⟩
    | succ f ih =>
      intro a ha K128 t hif
      have ht8 : t < 8 := by omega
      refine g_iload hC d_M_clashes_63 rfl rfl ?_
      refine g_bipush hC (8) d_M_clashes_65 (by decide) rfl ?_
      refine g_icmp_ge hC 128 d_M_clashes_67 rfl rfl (fun h67 => absurd h67 (nI_ge (a := t) (b := 8) (by omega) (by omega))) (fun h67 => ?_)
      refine g_iload_n hC d_M_clashes_70 rfl rfl ?_
      refine g_ifne_b hC 116 d_M_clashes_71 rfl rfl (fun h71 => ?_) (fun h71 => ?_)
      ·
        refine g_iconst hC (1) d_M_clashes_116 (by decide) rfl ?_
        refine g_top hC (zb (wclp σ nm (8 * a + t + 1))) (by first | exact wcl_1 ht8 h71 | exact wcl_2 ht8 h76 h85 h100 h113) ?_
        refine g_goto hC 121 d_M_clashes_117 rfl ?_
        refine g_istore_n hC d_M_clashes_121 rfl (by decide) ?_
        refine g_iinc hC (nI (t + 1)) d_M_clashes_122 rfl rfl (nI_succ _).symm (by decide) ?_
        refine g_goto hC 63 d_M_clashes_125 rfl ?_
        exact zG.to (ih a ha K128 (t + 1) (by omega)) rfl rfl ⟨rfl, rfl, rfl, rfl, rfl, trivial⟩
      ·
        refine g_iload_n hC d_M_clashes_74 rfl rfl ?_
        refine g_iload_n hC d_M_clashes_75 rfl rfl ?_
        refine g_icmp_eq hC 120 d_M_clashes_76 rfl rfl (fun h76 => ?_) (fun h76 => ?_)
        ·
          refine g_iconst hC (0) d_M_clashes_120 (by decide) rfl ?_
          refine g_top hC (zb (wclp σ nm (8 * a + t + 1))) (by first | exact wcl_3 ht8 h71 h76 | exact wcl_4 ht8 h71 h85 | exact wcl_5 ht8 h71 h100 | exact wcl_6 ht8 h71 h113) ?_
          refine g_istore_n hC d_M_clashes_121 rfl (by decide) ?_
          refine g_iinc hC (nI (t + 1)) d_M_clashes_122 rfl rfl (nI_succ _).symm (by decide) ?_
          refine g_goto hC 63 d_M_clashes_125 rfl ?_
          exact zG.to (ih a ha K128 (t + 1) (by omega)) rfl rfl ⟨rfl, rfl, rfl, rfl, rfl, trivial⟩
        ·
          refine g_aload_n hC d_M_clashes_79 rfl rfl ?_
          refine g_getR hC _ 5 1 _ (by decide) rfl rfl fl_M_7 d_M_clashes_80 rfl ?_
          refine g_iload_n hC d_M_clashes_83 rfl rfl ?_
          refine g_zald hC _ _ a (by decide) rfl rfl (by show a < 9; omega) (by decide) d_M_clashes_84 rfl ?_
          refine g_if_eq hC 120 d_M_clashes_85 rfl rfl (fun h85 => ?_) (fun h85 => ?_)
          ·
            refine g_iconst hC (0) d_M_clashes_120 (by decide) rfl ?_
            refine g_top hC (zb (wclp σ nm (8 * a + t + 1))) (by first | exact wcl_3 ht8 h71 h76 | exact wcl_4 ht8 h71 h85 | exact wcl_5 ht8 h71 h100 | exact wcl_6 ht8 h71 h113) ?_
            refine g_istore_n hC d_M_clashes_121 rfl (by decide) ?_
            refine g_iinc hC (nI (t + 1)) d_M_clashes_122 rfl rfl (nI_succ _).symm (by decide) ?_
            refine g_goto hC 63 d_M_clashes_125 rfl ?_
            exact zG.to (ih a ha K128 (t + 1) (by omega)) rfl rfl ⟨rfl, rfl, rfl, rfl, rfl, trivial⟩
          ·
            refine g_aload_n hC d_M_clashes_88 rfl rfl ?_
            refine g_getR hC _ 5 6 _ (by decide) rfl rfl fl_M_26 d_M_clashes_89 rfl ?_
            refine g_bipush hC (8) d_M_clashes_92 (by decide) rfl ?_
            refine g_iload_n hC d_M_clashes_94 rfl rfl ?_
            refine g_imul hC d_M_clashes_95 rfl ?_
            refine g_top hC (nI (8 * a)) (pk_mul 8 a) ?_
            refine g_iload hC d_M_clashes_96 rfl rfl ?_
            refine g_iadd hC d_M_clashes_98 rfl ?_
            refine g_top hC (nI (8 * a + t)) (nI_add (8 * a) t) ?_
            refine g_iald hC _ _ (8 * a + t) (by decide) rfl rfl (by show 8 * a + t < 72; omega) (by decide) d_M_clashes_99 rfl ?_
            refine g_if_eq hC 120 d_M_clashes_100 rfl rfl (fun h100 => ?_) (fun h100 => ?_)
            ·
              refine g_iconst hC (0) d_M_clashes_120 (by decide) rfl ?_
              refine g_top hC (zb (wclp σ nm (8 * a + t + 1))) (by first | exact wcl_3 ht8 h71 h76 | exact wcl_4 ht8 h71 h85 | exact wcl_5 ht8 h71 h100 | exact wcl_6 ht8 h71 h113) ?_
              refine g_istore_n hC d_M_clashes_121 rfl (by decide) ?_
              refine g_iinc hC (nI (t + 1)) d_M_clashes_122 rfl rfl (nI_succ _).symm (by decide) ?_
              refine g_goto hC 63 d_M_clashes_125 rfl ?_
              exact zG.to (ih a ha K128 (t + 1) (by omega)) rfl rfl ⟨rfl, rfl, rfl, rfl, rfl, trivial⟩
            ·
              refine g_aload_n hC d_M_clashes_103 rfl rfl ?_
              refine g_getR hC _ 5 6 _ (by decide) rfl rfl fl_M_26 d_M_clashes_104 rfl ?_
              refine g_bipush hC (64) d_M_clashes_107 (by decide) rfl ?_
              refine g_iload hC d_M_clashes_109 rfl rfl ?_
              refine g_iadd hC d_M_clashes_111 rfl ?_
              refine g_top hC (nI (64 + t)) (nI_add 64 t) ?_
              refine g_iald hC _ _ (64 + t) (by decide) rfl rfl (by show 64 + t < 72; omega) (by decide) d_M_clashes_112 rfl ?_
              refine g_if_eq hC 120 d_M_clashes_113 rfl rfl (fun h113 => ?_) (fun h113 => ?_)
              ·
                refine g_iconst hC (0) d_M_clashes_120 (by decide) rfl ?_
                refine g_top hC (zb (wclp σ nm (8 * a + t + 1))) (by first | exact wcl_3 ht8 h71 h76 | exact wcl_4 ht8 h71 h85 | exact wcl_5 ht8 h71 h100 | exact wcl_6 ht8 h71 h113) ?_
                refine g_istore_n hC d_M_clashes_121 rfl (by decide) ?_
                refine g_iinc hC (nI (t + 1)) d_M_clashes_122 rfl rfl (nI_succ _).symm (by decide) ?_
                refine g_goto hC 63 d_M_clashes_125 rfl ?_
                exact zG.to (ih a ha K128 (t + 1) (by omega)) rfl rfl ⟨rfl, rfl, rfl, rfl, rfl, trivial⟩
              ·
                refine g_iconst hC (1) d_M_clashes_116 (by decide) rfl ?_
                refine g_top hC (zb (wclp σ nm (8 * a + t + 1))) (by first | exact wcl_1 ht8 h71 | exact wcl_2 ht8 h76 h85 h100 h113) ?_
                refine g_goto hC 121 d_M_clashes_117 rfl ?_
                refine g_istore_n hC d_M_clashes_121 rfl (by decide) ?_
                refine g_iinc hC (nI (t + 1)) d_M_clashes_122 rfl rfl (nI_succ _).symm (by decide) ?_
                refine g_goto hC 63 d_M_clashes_125 rfl ?_
                exact zG.to (ih a ha K128 (t + 1) (by omega)) rfl rfl ⟨rfl, rfl, rfl, rfl, rfl, trivial⟩
  have J54 : ∀ (f : Nat) (a : Nat) (hif : a + f = 8), zG p l e (zrm 0) s m ([.ref (q (104))] : List Value).toArray below meth c D K q (zA q) 5 0 0 (MQ below (va_Qi (fun r σ' => r = zb (wclp σ nm 64) ∧ σ' = σ) (zO D K q) (zA q)) ([.ref (q (104))] : List Value).toArray s 0 0 (zA q)) σ 54 [(0, .ref (q (104))), (1, .int (nI nm)), (2, .int (zb (wclp σ nm (8 * a)))), (3, .int (nI a))] [] := by
    intro f
    induction f with
    | zero =>
      intro a hif
      refine g_iload_n hC d_M_clashes_54 rfl rfl ?_
      refine g_bipush hC (8) d_M_clashes_55 (by decide) rfl ?_
      refine g_icmp_ge hC 134 d_M_clashes_57 rfl rfl (fun h57 => ?_) (fun h57 => absurd (nI_le (a := 8) (b := a) (by omega) (by omega)) h57)
      refine g_iload_n hC d_M_clashes_134 rfl rfl ?_
      exact g_zret hC hr hlk d_M_clashes_135 (zb01 _) ⟨by rw [show a = 8 by omega], rfl⟩
    | succ f ih =>
      intro a hif
      refine g_iload_n hC d_M_clashes_54 rfl rfl ?_
      refine g_bipush hC (8) d_M_clashes_55 (by decide) rfl ?_
      refine g_icmp_ge hC 134 d_M_clashes_57 rfl rfl (fun h57 => absurd h57 (nI_ge (a := a) (b := 8) (by omega) (by omega))) (fun h57 => ?_)
      refine g_iconst hC (0) d_M_clashes_60 (by decide) rfl ?_
      refine g_istore hC d_M_clashes_61 rfl (by decide) ?_
      refine zG.to (J63 8 a (by omega) ?_ 0 (by omega)) rfl rfl ⟨rfl, rfl, rfl, rfl, rfl, trivial⟩
      refine g_iinc hC (nI (a + 1)) d_M_clashes_128 rfl rfl (nI_succ _).symm (by decide) ?_
      refine g_goto hC 54 d_M_clashes_131 rfl ?_
      exact zG.to (ih (a + 1) (by omega)) rfl rfl ⟨rfl, rfl, rfl, rfl, trivial⟩
  refine g_aload_n hC d_M_clashes_0 rfl rfl ?_
  refine g_getV hC _ 5 14 (nI nm) (h) (by decide) rfl rfl fl_M_97 d_M_clashes_1 rfl ?_
  refine g_istore_n hC d_M_clashes_4 rfl (by decide) ?_
  refine g_aload_n hC d_M_clashes_5 rfl rfl ?_
  refine g_getR hC _ 5 1 _ (by decide) rfl rfl fl_M_7 d_M_clashes_6 rfl ?_
  refine g_iload_n hC d_M_clashes_9 rfl rfl ?_
  refine g_zald hC _ _ nm (by decide) rfl rfl (by show nm < 9; omega) (by decide) d_M_clashes_10 rfl ?_
  refine g_if_eq hC 50 d_M_clashes_11 rfl rfl (fun h11 => ?_) (fun h11 => ?_)
  ·
    refine g_iconst hC (0) d_M_clashes_50 (by decide) rfl ?_
    refine g_top hC (zb (wclp σ nm 0)) (by first | (simp [wclp, wcl0, h11, zb]; done) | (simp [wclp, wcl0, h11, h27, Int32.not_le.mpr h43, zb]; done)) ?_
    refine g_istore_n hC d_M_clashes_51 rfl (by decide) ?_
    refine g_iconst hC (0) d_M_clashes_52 (by decide) rfl ?_
    refine g_istore_n hC d_M_clashes_53 rfl (by decide) ?_
    exact zG.to (J54 8 0 (by omega)) rfl rfl ⟨rfl, rfl, rfl, rfl, trivial⟩
  ·
    refine g_aload_n hC d_M_clashes_14 rfl rfl ?_
    refine g_getR hC _ 5 3 _ (by decide) rfl rfl fl_M_17 d_M_clashes_15 rfl ?_
    refine g_iload_n hC d_M_clashes_18 rfl rfl ?_
    refine g_iald hC _ _ nm (by decide) rfl rfl (by show nm < 9; omega) (by decide) d_M_clashes_19 rfl ?_
    refine g_aload_n hC d_M_clashes_20 rfl rfl ?_
    refine g_getR hC _ 5 3 _ (by decide) rfl rfl fl_M_17 d_M_clashes_21 rfl ?_
    refine g_bipush hC (8) d_M_clashes_24 (by decide) rfl ?_
    refine g_iald hC _ _ 8 (by decide) rfl (by decide) (by decide) (by decide) d_M_clashes_26 rfl ?_
    refine g_icmp_ne hC 46 d_M_clashes_27 rfl rfl (fun h27 => ?_) (fun h27 => ?_)
    ·
      refine g_iconst hC (1) d_M_clashes_46 (by decide) rfl ?_
      refine g_top hC (zb (wclp σ nm 0)) (by first | (simp [wclp, wcl0, h11, h27, zb]; done) | (simp [wclp, wcl0, h11, h27, Int32.not_lt.mp h43, zb]; done)) ?_
      refine g_goto hC 51 d_M_clashes_47 rfl ?_
      refine g_istore_n hC d_M_clashes_51 rfl (by decide) ?_
      refine g_iconst hC (0) d_M_clashes_52 (by decide) rfl ?_
      refine g_istore_n hC d_M_clashes_53 rfl (by decide) ?_
      exact zG.to (J54 8 0 (by omega)) rfl rfl ⟨rfl, rfl, rfl, rfl, trivial⟩
    ·
      refine g_aload_n hC d_M_clashes_30 rfl rfl ?_
      refine g_getR hC _ 5 2 _ (by decide) rfl rfl fl_M_13 d_M_clashes_31 rfl ?_
      refine g_iload_n hC d_M_clashes_34 rfl rfl ?_
      refine g_iald hC _ _ nm (by decide) rfl rfl (by show nm < 9; omega) (by decide) d_M_clashes_35 rfl ?_
      refine g_aload_n hC d_M_clashes_36 rfl rfl ?_
      refine g_getR hC _ 5 2 _ (by decide) rfl rfl fl_M_13 d_M_clashes_37 rfl ?_
      refine g_bipush hC (8) d_M_clashes_40 (by decide) rfl ?_
      refine g_iald hC _ _ 8 (by decide) rfl (by decide) (by decide) (by decide) d_M_clashes_42 rfl ?_
      refine g_icmp_lt hC 50 d_M_clashes_43 rfl rfl (fun h43 => ?_) (fun h43 => ?_)
      ·
        refine g_iconst hC (0) d_M_clashes_50 (by decide) rfl ?_
        refine g_top hC (zb (wclp σ nm 0)) (by first | (simp [wclp, wcl0, h11, zb]; done) | (simp [wclp, wcl0, h11, h27, Int32.not_le.mpr h43, zb]; done)) ?_
        refine g_istore_n hC d_M_clashes_51 rfl (by decide) ?_
        refine g_iconst hC (0) d_M_clashes_52 (by decide) rfl ?_
        refine g_istore_n hC d_M_clashes_53 rfl (by decide) ?_
        exact zG.to (J54 8 0 (by omega)) rfl rfl ⟨rfl, rfl, rfl, rfl, trivial⟩
      ·
        refine g_iconst hC (1) d_M_clashes_46 (by decide) rfl ?_
        refine g_top hC (zb (wclp σ nm 0)) (by first | (simp [wclp, wcl0, h11, h27, zb]; done) | (simp [wclp, wcl0, h11, h27, Int32.not_lt.mp h43, zb]; done)) ?_
        refine g_goto hC 51 d_M_clashes_47 rfl ?_
        refine g_istore_n hC d_M_clashes_51 rfl (by decide) ?_
        refine g_iconst hC (0) d_M_clashes_52 (by decide) rfl ?_
        refine g_istore_n hC d_M_clashes_53 rfl (by decide) ?_
        exact zG.to (J54 8 0 (by omega)) rfl rfl ⟨rfl, rfl, rfl, rfl, trivial⟩
set_option maxHeartbeats 4000000 in
set_option maxRecDepth 100000 in
theorem c_M_remove (l : Launch) (D : va_G) (K : Nat → ClassId) (q : Nat → Nat) (hq : zI q) (n : Int32) (σ : zm) (z : Nat) (hz : z ≤ 8) (h : σ 104 24 = nI z) : zMi l y_M_remove b_M_remove 4 (some .boolean) 2 D K q [.ref (q (104)), .int (n)] σ (fun r σ' => r = zb (wapp σ n) ∧ σ' = if wapp σ n then zu (wdq (wrm σ n.toNatClampNeg 8) n z).1 104 24 (nI (wdq (wrm σ n.toNatClampNeg 8) n z).2) else wz σ) := by
  refine zMi.of (own := "AppDeskModel") (lv := [(0, .ref (q (104))), (1, .int (n))]) (by decide) rfl hq (Nat.le_of_ble_eq_true rfl) rfl ?_
  intro p e s m below meth c hC hr hlk
  have J66 : ∀ (f : Nat) (k : Nat) (hk : k < 8) (hx : n = nI k) (hc : n.toNatClampNeg = k) (ha : wapp σ n = true) (t : Nat) (hif : t + f = z), zG p l e (zrm 2) s m ([.ref (q (104)), .int (n)] : List Value).toArray below meth c D K q (zA q) 4 0 0 (MQ below (va_Qi (fun r σ' => r = zb (wapp σ n) ∧ σ' = if wapp σ n then zu (wdq (wrm σ n.toNatClampNeg 8) n z).1 104 24 (nI (wdq (wrm σ n.toNatClampNeg 8) n z).2) else wz σ) (zO D K q) (zA q)) ([.ref (q (104)), .int (n)] : List Value).toArray s 0 0 (zA q)) (wdq (wrm σ k 8) n t).1 66 [(0, .ref (q (104))), (1, .int (n)), (2, .int (nI (wdq (wrm σ k 8) n t).2)), (3, .int (nI t))] [] := by
    intro f
    induction f with
    | zero =>
      intro k hk hx hc ha t hif
      refine g_iload_n hC d_M_remove_66 rfl rfl ?_
      refine g_aload_n hC d_M_remove_67 rfl rfl ?_
      refine g_getV hC _ 5 24 (nI z) (by rw [wdq_off _ _ _ (by decide), wrm_q]; exact h) (by decide) rfl rfl fl_M_136 d_M_remove_68 rfl ?_
      refine g_icmp_ge hC 99 d_M_remove_71 rfl rfl (fun h71 => ?_) (fun h71 => absurd (nI_le (a := z) (b := t) (by omega) (by omega)) h71)
      refine g_aload_n hC d_M_remove_99 rfl rfl ?_
      refine g_iload_n hC d_M_remove_100 rfl rfl ?_
      refine g_putI hC _ 5 24 (by decide) rfl rfl fp_M_136 d_M_remove_101 rfl ?_
      refine g_iconst hC (1) d_M_remove_104 (by decide) rfl ?_
      exact g_zret hC hr hlk d_M_remove_105 (Or.inr rfl) ⟨by rw [ha]; rfl, by rw [if_pos ha, hc, show z = t by omega]⟩
    | succ f ih =>
      intro k hk hx hc ha t hif
      refine g_iload_n hC d_M_remove_66 rfl rfl ?_
      refine g_aload_n hC d_M_remove_67 rfl rfl ?_
      refine g_getV hC _ 5 24 (nI z) (by rw [wdq_off _ _ _ (by decide), wrm_q]; exact h) (by decide) rfl rfl fl_M_136 d_M_remove_68 rfl ?_
      refine g_icmp_ge hC 99 d_M_remove_71 rfl rfl (fun h71 => absurd h71 (nI_ge (a := t) (b := z) (by omega) (by omega))) (fun h71 => ?_)
      refine g_aload_n hC d_M_remove_74 rfl rfl ?_
      refine g_getR hC _ 5 25 _ (by decide) rfl rfl fl_M_78 d_M_remove_75 rfl ?_
      refine g_iload_n hC d_M_remove_78 rfl rfl ?_
      refine g_iald hC _ _ t (by decide) rfl rfl (by show t < 9; omega) (by decide) d_M_remove_79 rfl ?_
      refine g_iload_n hC d_M_remove_80 rfl rfl ?_
      refine g_icmp_eq hC 93 d_M_remove_81 rfl rfl (fun h81 => ?_) (fun h81 => ?_)
      ·
        refine g_iinc hC (nI (t + 1)) d_M_remove_93 rfl rfl (nI_succ _).symm (by decide) ?_
        refine g_goto hC 66 d_M_remove_96 rfl ?_
        first | exact zG.to (ih k hk hx hc ha (t + 1) (by omega)) (congrArg Prod.fst (wdq_t h81)).symm rfl ⟨rfl, rfl, congrArg (fun z => some (Value.int (nI (Prod.snd z)))) (wdq_t h81).symm, rfl, trivial⟩ | exact zG.to (ih k hk hx hc ha (t + 1) (by omega)) (congrArg Prod.fst (wdq_f h81)).symm rfl ⟨rfl, rfl, congrArg (fun z => some (Value.int (nI (Prod.snd z)))) (wdq_f h81).symm, rfl, trivial⟩
      ·
        refine g_aload_n hC d_M_remove_84 rfl rfl ?_
        refine g_iload_n hC d_M_remove_85 rfl rfl ?_
        refine g_iload_n hC d_M_remove_86 rfl rfl ?_
        refine g_gov hC rfl (z_runV hC (c_M_move l D K q hq t _ (by omega) (by have := wdq_le (wrm σ k 8) n t; omega) _) yy_M_move yv_M_139 (by decide) rfl ⟨Nat.le_of_ble_eq_true rfl, Nat.le_of_ble_eq_true rfl⟩ ⟨Nat.zero_le _, Nat.zero_le _⟩ rfl (Nat.le_of_ble_eq_true rfl) d_M_remove_87) (fun σ0 q0 => ?_)
        obtain rfl := q0.symm
        refine g_iinc hC (nI ((wdq (wrm σ k 8) n t).2 + 1)) d_M_remove_90 rfl rfl (nI_succ _).symm (by decide) ?_
        refine g_iinc hC (nI (t + 1)) d_M_remove_93 rfl rfl (nI_succ _).symm (by decide) ?_
        refine g_goto hC 66 d_M_remove_96 rfl ?_
        first | exact zG.to (ih k hk hx hc ha (t + 1) (by omega)) (congrArg Prod.fst (wdq_t h81)).symm rfl ⟨rfl, rfl, congrArg (fun z => some (Value.int (nI (Prod.snd z)))) (wdq_t h81).symm, rfl, trivial⟩ | exact zG.to (ih k hk hx hc ha (t + 1) (by omega)) (congrArg Prod.fst (wdq_f h81)).symm rfl ⟨rfl, rfl, congrArg (fun z => some (Value.int (nI (Prod.snd z)))) (wdq_f h81).symm, rfl, trivial⟩
  have J38 : ∀ (f : Nat) (k : Nat) (hk : k < 8) (hx : n = nI k) (hc : n.toNatClampNeg = k) (ha : wapp σ n = true) (t : Nat) (hif : t + f = 8), zG p l e (zrm 2) s m ([.ref (q (104)), .int (n)] : List Value).toArray below meth c D K q (zA q) 4 0 0 (MQ below (va_Qi (fun r σ' => r = zb (wapp σ n) ∧ σ' = if wapp σ n then zu (wdq (wrm σ n.toNatClampNeg 8) n z).1 104 24 (nI (wdq (wrm σ n.toNatClampNeg 8) n z).2) else wz σ) (zO D K q) (zA q)) ([.ref (q (104)), .int (n)] : List Value).toArray s 0 0 (zA q)) (wrm σ k t) 38 [(0, .ref (q (104))), (1, .int (n)), (2, .int (nI t))] [] := by
    intro f
    induction f with
    | zero =>
      intro k hk hx hc ha t hif
      refine g_iload_n hC d_M_remove_38 rfl rfl ?_
      refine g_bipush hC (8) d_M_remove_39 (by decide) rfl ?_
      refine g_icmp_ge hC 62 d_M_remove_41 rfl rfl (fun h41 => ?_) (fun h41 => absurd (nI_le (a := 8) (b := t) (by omega) (by omega)) h41)
      refine g_iconst hC (0) d_M_remove_62 (by decide) rfl ?_
      refine g_istore_n hC d_M_remove_63 rfl (by decide) ?_
      refine g_iconst hC (0) d_M_remove_64 (by decide) rfl ?_
      refine g_istore_n hC d_M_remove_65 rfl (by decide) ?_
      exact zG.to (J66 z k hk hx hc ha 0 (by omega)) (by rw [show t = 8 by omega]; rfl) rfl ⟨rfl, rfl, rfl, rfl, trivial⟩
    | succ f ih =>
      intro k hk hx hc ha t hif
      refine g_iload_n hC d_M_remove_38 rfl rfl ?_
      refine g_bipush hC (8) d_M_remove_39 (by decide) rfl ?_
      refine g_icmp_ge hC 62 d_M_remove_41 rfl rfl (fun h41 => absurd h41 (nI_ge (a := t) (b := 8) (by omega) (by omega))) (fun h41 => ?_)
      refine g_aload_n hC d_M_remove_44 rfl rfl ?_
      refine g_getR hC _ 5 15 _ (by decide) rfl rfl fl_M_50 d_M_remove_45 rfl ?_
      refine g_bipush hC (8) d_M_remove_48 (by decide) rfl ?_
      refine g_iload_n hC d_M_remove_50 rfl rfl ?_
      refine g_imul hC d_M_remove_51 rfl ?_
      refine g_top hC (nI (8 * k)) (by rw [hx]; exact pk_mul 8 k) ?_
      refine g_iload_n hC d_M_remove_52 rfl rfl ?_
      refine g_iadd hC d_M_remove_53 rfl ?_
      refine g_top hC (nI (8 * k + t)) (nI_add (8 * k) t) ?_
      refine g_iconst hC (0) d_M_remove_54 (by decide) rfl ?_
      refine g_zast hC _ _ (8 * k + t) (by decide) rfl rfl (by show 8 * k + t < 64; omega) (by decide) (Or.inl rfl) d_M_remove_55 rfl ?_
      refine g_iinc hC (nI (t + 1)) d_M_remove_56 rfl rfl (nI_succ _).symm (by decide) ?_
      refine g_goto hC 38 d_M_remove_59 rfl ?_
      exact zG.to (ih k hk hx hc ha (t + 1) (by omega)) (wrm_s σ k t) rfl ⟨rfl, rfl, rfl, trivial⟩
  refine g_aload_n hC d_M_remove_0 rfl rfl ?_
  refine g_iconst hC (0) d_M_remove_1 (by decide) rfl ?_
  refine g_putI hC _ 5 0 (by decide) rfl rfl fp_M_90 d_M_remove_2 rfl ?_
  refine g_aload_n hC d_M_remove_5 rfl rfl ?_
  refine g_iload_n hC d_M_remove_6 rfl rfl ?_
  refine g_goi hC rfl (z_runV hC (c_M_isApp l D K q hq _ _ ) yy_M_isApp yv_M_133 (by decide) rfl ⟨Nat.le_of_ble_eq_true rfl, Nat.le_of_ble_eq_true rfl⟩ ⟨Nat.zero_le _, Nat.zero_le _⟩ rfl (Nat.le_of_ble_eq_true rfl) d_M_remove_7) (fun r1 σ1 q1 => ?_)
  obtain ⟨rfl, w1⟩ := q1
  obtain rfl := w1.symm
  refine g_ifne_b hC 15 d_M_remove_10 rfl rfl (fun h10 => ?_) (fun h10 => ?_)
  ·
    have ha : wapp σ n = true := h10
    obtain ⟨k, hk, hx⟩ := zin_of (n := 8) (by decide) (wapp_in ha)
    have hc : (n).toNatClampNeg = k := by rw [hx]; exact nI_clamp (by omega)
    refine g_aload_n hC d_M_remove_15 rfl rfl ?_
    refine g_getR hC _ 5 1 _ (by decide) rfl rfl fl_M_7 d_M_remove_16 rfl ?_
    refine g_iload_n hC d_M_remove_19 rfl rfl ?_
    refine g_iconst hC (0) d_M_remove_20 (by decide) rfl ?_
    refine g_zast hC _ _ k (by decide) rfl hx (by show k < 9; omega) (by decide) (Or.inl rfl) d_M_remove_21 rfl ?_
    refine g_aload_n hC d_M_remove_22 rfl rfl ?_
    refine g_getR hC _ 5 18 _ (by decide) rfl rfl fl_M_59 d_M_remove_23 rfl ?_
    refine g_iload_n hC d_M_remove_26 rfl rfl ?_
    refine g_iconst hC (0) d_M_remove_27 (by decide) rfl ?_
    refine g_zast hC _ _ k (by decide) rfl hx (by show k < 8; omega) (by decide) (Or.inl rfl) d_M_remove_28 rfl ?_
    refine g_aload_n hC d_M_remove_29 rfl rfl ?_
    refine g_getR hC _ 5 17 _ (by decide) rfl rfl fl_M_56 d_M_remove_30 rfl ?_
    refine g_iload_n hC d_M_remove_33 rfl rfl ?_
    refine g_iconst hC (0) d_M_remove_34 (by decide) rfl ?_
    refine g_iast hC _ _ k (by decide) rfl hx (by show k < 8; omega) (by decide) d_M_remove_35 rfl ?_
    refine g_iconst hC (0) d_M_remove_36 (by decide) rfl ?_
    refine g_istore_n hC d_M_remove_37 rfl (by decide) ?_
    exact zG.to (J38 8 k hk hx hc ha 0 (by omega)) (wrm_0 σ k).symm rfl ⟨rfl, rfl, rfl, trivial⟩
  ·
    have hn : wapp σ n = false := h10
    refine g_iconst hC (0) d_M_remove_13 (by decide) rfl ?_
    exact g_zret hC hr hlk d_M_remove_14 (Or.inl rfl) ⟨by rw [hn]; rfl, (if_neg (zif_f hn)).symm⟩
set_option maxHeartbeats 4000000 in
set_option maxRecDepth 100000 in
theorem c_M_app (l : Launch) (D : va_G) (K : Nat → ClassId) (q : Nat → Nat) (hq : zI q) (n x : Int32) (σ : zm) (hh : ∀ a, a < 8 → ¬ σ 121 a = 0 → ∃ h, h ≤ 6 ∧ σ 123 a = nI h) : zMi l y_M_app b_M_app 3 (some .int) 2 D K q [.ref (q (104)), .int (n), .int (x)] σ (fun r σ' => r = wappw σ n x ∧ σ' = wz σ) := by
  refine zMi.of (own := "AppDeskModel") (lv := [(0, .ref (q (104))), (1, .int (n)), (2, .int (x))]) (by decide) rfl hq (Nat.le_of_ble_eq_true rfl) rfl ?_
  intro p e s m below meth c hC hr hlk
  refine g_aload_n hC d_M_app_0 rfl rfl ?_
  refine g_iconst hC (0) d_M_app_1 (by decide) rfl ?_
  refine g_putI hC _ 5 0 (by decide) rfl rfl fp_M_90 d_M_app_2 rfl ?_
  refine g_aload_n hC d_M_app_5 rfl rfl ?_
  refine g_iload_n hC d_M_app_6 rfl rfl ?_
  refine g_goi hC rfl (z_runV hC (c_M_isApp l D K q hq _ _ ) yy_M_isApp yv_M_133 (by decide) rfl ⟨Nat.le_of_ble_eq_true rfl, Nat.le_of_ble_eq_true rfl⟩ ⟨Nat.zero_le _, Nat.zero_le _⟩ rfl (Nat.le_of_ble_eq_true rfl) d_M_app_7) (fun r0 σ0 q0 => ?_)
  obtain ⟨rfl, w0⟩ := q0
  obtain rfl := w0.symm
  refine g_ifeq_b hC 23 d_M_app_10 rfl rfl (fun h10 => ?_) (fun h10 => ?_)
  ·
    have ho : wappw σ n x = -1 := by first | exact wap_1 h10 | exact wap_2 h14 | exact wap_3 (Int32.not_le.mp h20)
    refine g_iconst hC (-1) d_M_app_23 (by decide) rfl ?_
    exact g_iret hC hr hlk d_M_app_24 ⟨ho.symm, rfl⟩
  ·
    have ha : wapp σ n = true := h10
    obtain ⟨k, hk, hx⟩ := zin_of (n := 8) (by decide) (wapp_in ha)
    have hc : (n).toNatClampNeg = k := by rw [hx]; exact nI_clamp (by omega)
    refine g_iload_n hC d_M_app_13 rfl rfl ?_
    refine g_if_lt hC 23 d_M_app_14 rfl rfl (fun h14 => ?_) (fun h14 => ?_)
    ·
      have ho : wappw σ n x = -1 := by first | exact wap_1 h10 | exact wap_2 h14 | exact wap_3 (Int32.not_le.mp h20)
      refine g_iconst hC (-1) d_M_app_23 (by decide) rfl ?_
      exact g_iret hC hr hlk d_M_app_24 ⟨ho.symm, rfl⟩
    ·
      refine g_iload_n hC d_M_app_17 rfl rfl ?_
      refine g_bipush hC (6) d_M_app_18 (by decide) rfl ?_
      refine g_icmp_le hC 25 d_M_app_20 rfl rfl (fun h20 => ?_) (fun h20 => ?_)
      ·
        have ho : wappw σ n x = wap1 σ k x := wap_4 h10 hc h14 h20
        refine g_iload_n hC d_M_app_25 rfl rfl ?_
        refine g_iconst hC (3) d_M_app_26 (by decide) rfl ?_
        refine g_icmp_ge hC 72 d_M_app_27 rfl rfl (fun h27 => ?_) (fun h27 => ?_)
        ·
          refine g_iload_n hC d_M_app_72 rfl rfl ?_
          refine g_bipush hC (6) d_M_app_73 (by decide) rfl ?_
          refine g_icmp_ne hC 84 d_M_app_75 rfl rfl (fun h75 => ?_) (fun h75 => ?_)
          ·
            refine g_aload_n hC d_M_app_84 rfl rfl ?_
            refine g_getR hC _ 5 18 _ (by decide) rfl rfl fl_M_59 d_M_app_85 rfl ?_
            refine g_iload_n hC d_M_app_88 rfl rfl ?_
            refine g_zaldV hC _ _ k (σ 121 k) (by rw [zu_row _ _ (by decide)]) (by decide) rfl hx (by show k < 8; omega) (by decide) d_M_app_89 rfl ?_
            refine g_if_ne hC 95 d_M_app_90 rfl rfl (fun h90 => ?_) (fun h90 => ?_)
            ·
              obtain ⟨h, hh6, hhe⟩ := hh k hk h90
              refine g_iload_n hC d_M_app_95 rfl rfl ?_
              refine g_iconst hC (3) d_M_app_96 (by decide) rfl ?_
              refine g_icmp_ne hC 109 d_M_app_97 rfl rfl (fun h97 => ?_) (fun h97 => ?_)
              ·
                refine g_iload_n hC d_M_app_109 rfl rfl ?_
                refine g_iconst hC (4) d_M_app_110 (by decide) rfl ?_
                refine g_icmp_ne hC 123 d_M_app_111 rfl rfl (fun h111 => ?_) (fun h111 => ?_)
                ·
                  refine g_aload_n hC d_M_app_123 rfl rfl ?_
                  refine g_getR hC _ 5 20 _ (by decide) rfl rfl fl_M_65 d_M_app_124 rfl ?_
                  refine g_iload_n hC d_M_app_127 rfl rfl ?_
                  refine g_ialdV hC _ _ k (nI h) (by rw [zu_row _ _ (by decide)]; exact hhe) (by decide) rfl hx (by show k < 8; omega) (by decide) d_M_app_128 rfl ?_
                  refine g_if_le hC 141 d_M_app_129 rfl rfl (fun h129 => ?_) (fun h129 => ?_)
                  ·
                    refine g_iconst hC (0) d_M_app_141 (by decide) rfl ?_
                    exact g_iret hC hr hlk d_M_app_142 ⟨by rw [ho]; first | exact (wax_3 h97 h90).symm | exact (wax_4 h111 h90).symm | exact (wax_5 h27 h20 h75 h97 h111 h90 hhe h0 hh6).symm | exact (wax_5b h27 h20 h75 h97 h111 h90 hhe h129).symm, rfl⟩
                  ·
                    have h0 : 0 < h := Nat.pos_of_ne_zero (fun z => h129 (by rw [z]; decide))
                    refine g_aload_n hC d_M_app_132 rfl rfl ?_
                    refine g_iload_n hC d_M_app_133 rfl rfl ?_
                    refine g_top hC (nI k) (hx) ?_
                    refine g_iconst hC (0) d_M_app_134 (by decide) rfl ?_
                    refine g_goi hC rfl (z_runV hC (c_M_top l D K q hq k 0 h hk h0 hh6 _ (by rw [zu_row _ _ (by decide)]; exact hhe)) yy_M_top yv_M_154 (by decide) rfl ⟨Nat.le_of_ble_eq_true rfl, Nat.le_of_ble_eq_true rfl⟩ ⟨Nat.zero_le _, Nat.zero_le _⟩ rfl (Nat.le_of_ble_eq_true rfl) d_M_app_135) (fun r1 σ1 q1 => ?_)
                    obtain ⟨rfl, w1⟩ := q1
                    obtain rfl := w1.symm
                    refine g_goto hC 142 d_M_app_138 rfl ?_
                    exact g_iret hC hr hlk d_M_app_142 ⟨by rw [ho]; first | exact (wax_3 h97 h90).symm | exact (wax_4 h111 h90).symm | exact (wax_5 h27 h20 h75 h97 h111 h90 hhe h0 hh6).symm | exact (wax_5b h27 h20 h75 h97 h111 h90 hhe h129).symm, rfl⟩
                ·
                  refine g_aload_n hC d_M_app_114 rfl rfl ?_
                  refine g_getR hC _ 5 20 _ (by decide) rfl rfl fl_M_65 d_M_app_115 rfl ?_
                  refine g_iload_n hC d_M_app_118 rfl rfl ?_
                  refine g_ialdV hC _ _ k (σ 123 k) (by rw [zu_row _ _ (by decide)]) (by decide) rfl hx (by show k < 8; omega) (by decide) d_M_app_119 rfl ?_
                  refine g_goto hC 142 d_M_app_120 rfl ?_
                  exact g_iret hC hr hlk d_M_app_142 ⟨by rw [ho]; first | exact (wax_3 h97 h90).symm | exact (wax_4 h111 h90).symm | exact (wax_5 h27 h20 h75 h97 h111 h90 hhe h0 hh6).symm | exact (wax_5b h27 h20 h75 h97 h111 h90 hhe h129).symm, rfl⟩
              ·
                refine g_aload_n hC d_M_app_100 rfl rfl ?_
                refine g_getR hC _ 5 19 _ (by decide) rfl rfl fl_M_62 d_M_app_101 rfl ?_
                refine g_iload_n hC d_M_app_104 rfl rfl ?_
                refine g_ialdV hC _ _ k (σ 122 k) (by rw [zu_row _ _ (by decide)]) (by decide) rfl hx (by show k < 8; omega) (by decide) d_M_app_105 rfl ?_
                refine g_goto hC 142 d_M_app_106 rfl ?_
                exact g_iret hC hr hlk d_M_app_142 ⟨by rw [ho]; first | exact (wax_3 h97 h90).symm | exact (wax_4 h111 h90).symm | exact (wax_5 h27 h20 h75 h97 h111 h90 hhe h0 hh6).symm | exact (wax_5b h27 h20 h75 h97 h111 h90 hhe h129).symm, rfl⟩
            ·
              refine g_iconst hC (0) d_M_app_93 (by decide) rfl ?_
              exact g_iret hC hr hlk d_M_app_94 ⟨by rw [ho]; exact (wax_r h27 h75 h20 h90).symm, rfl⟩
          ·
            refine g_aload_n hC d_M_app_78 rfl rfl ?_
            refine g_iload_n hC d_M_app_79 rfl rfl ?_
            refine g_top hC (nI k) (hx) ?_
            refine g_goi hC rfl (z_runV hC (c_M_keys l D K q hq k hk _) yy_M_keys yv_M_157 (by decide) rfl ⟨Nat.le_of_ble_eq_true rfl, Nat.le_of_ble_eq_true rfl⟩ ⟨Nat.zero_le _, Nat.zero_le _⟩ rfl (Nat.le_of_ble_eq_true rfl) d_M_app_80) (fun r2 σ2 q2 => ?_)
            obtain ⟨rfl, w2⟩ := q2
            obtain rfl := w2.symm
            exact g_iret hC hr hlk d_M_app_83 ⟨by rw [ho]; exact (wax_6 h75).symm, rfl⟩
        ·
          refine g_iload_n hC d_M_app_30 rfl rfl ?_
          refine g_if_ne hC 43 d_M_app_31 rfl rfl (fun h31 => ?_) (fun h31 => ?_)
          ·
            refine g_iload_n hC d_M_app_43 rfl rfl ?_
            refine g_iconst hC (1) d_M_app_44 (by decide) rfl ?_
            refine g_icmp_ne hC 57 d_M_app_45 rfl rfl (fun h45 => ?_) (fun h45 => ?_)
            ·
              refine g_aload_n hC d_M_app_57 rfl rfl ?_
              refine g_getR hC _ 5 18 _ (by decide) rfl rfl fl_M_59 d_M_app_58 rfl ?_
              refine g_iload_n hC d_M_app_61 rfl rfl ?_
              refine g_zaldV hC _ _ k (σ 121 k) (by rw [zu_row _ _ (by decide)]) (by decide) rfl hx (by show k < 8; omega) (by decide) d_M_app_62 rfl ?_
              refine g_if_eq hC 70 d_M_app_63 rfl rfl (fun h63 => ?_) (fun h63 => ?_)
              ·
                refine g_iconst hC (0) d_M_app_70 (by decide) rfl ?_
                exact g_iret hC hr hlk d_M_app_71 ⟨by rw [ho]; first | exact (wax_0 h31).symm | exact (wax_1 h45).symm | exact (wax_2 h27 h31 h45 h14 h63).symm | exact (wax_2b h27 h31 h45 h14 h63).symm, rfl⟩
              ·
                refine g_iconst hC (1) d_M_app_66 (by decide) rfl ?_
                refine g_goto hC 71 d_M_app_67 rfl ?_
                exact g_iret hC hr hlk d_M_app_71 ⟨by rw [ho]; first | exact (wax_0 h31).symm | exact (wax_1 h45).symm | exact (wax_2 h27 h31 h45 h14 h63).symm | exact (wax_2b h27 h31 h45 h14 h63).symm, rfl⟩
            ·
              refine g_aload_n hC d_M_app_48 rfl rfl ?_
              refine g_getR hC _ 5 3 _ (by decide) rfl rfl fl_M_17 d_M_app_49 rfl ?_
              refine g_iload_n hC d_M_app_52 rfl rfl ?_
              refine g_ialdV hC _ _ k (σ 107 k) (by rw [zu_row _ _ (by decide)]) (by decide) rfl hx (by show k < 9; omega) (by decide) d_M_app_53 rfl ?_
              refine g_goto hC 71 d_M_app_54 rfl ?_
              exact g_iret hC hr hlk d_M_app_71 ⟨by rw [ho]; first | exact (wax_0 h31).symm | exact (wax_1 h45).symm | exact (wax_2 h27 h31 h45 h14 h63).symm | exact (wax_2b h27 h31 h45 h14 h63).symm, rfl⟩
          ·
            refine g_aload_n hC d_M_app_34 rfl rfl ?_
            refine g_getR hC _ 5 2 _ (by decide) rfl rfl fl_M_13 d_M_app_35 rfl ?_
            refine g_iload_n hC d_M_app_38 rfl rfl ?_
            refine g_ialdV hC _ _ k (σ 106 k) (by rw [zu_row _ _ (by decide)]) (by decide) rfl hx (by show k < 9; omega) (by decide) d_M_app_39 rfl ?_
            refine g_goto hC 71 d_M_app_40 rfl ?_
            exact g_iret hC hr hlk d_M_app_71 ⟨by rw [ho]; first | exact (wax_0 h31).symm | exact (wax_1 h45).symm | exact (wax_2 h27 h31 h45 h14 h63).symm | exact (wax_2b h27 h31 h45 h14 h63).symm, rfl⟩
      ·
        have ho : wappw σ n x = -1 := by first | exact wap_1 h10 | exact wap_2 h14 | exact wap_3 (Int32.not_le.mp h20)
        refine g_iconst hC (-1) d_M_app_23 (by decide) rfl ?_
        exact g_iret hC hr hlk d_M_app_24 ⟨ho.symm, rfl⟩
