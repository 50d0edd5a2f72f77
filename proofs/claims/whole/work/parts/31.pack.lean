/-! a pack's methods: a row filled, a draft begun anew, a part, the digest, a copy -/
def zfill (σ : zm) (j n : Nat) (v : Int32) : zm := fun a b => if a = j ∧ b < n then v else σ a b
theorem zfill_0 (σ : zm) (j : Nat) (v : Int32) : zfill σ j 0 v = σ := by funext a b; simp [zfill]
theorem zfill_s (σ : zm) (j i : Nat) (v : Int32) : zu (zfill σ j i v) j i v = zfill σ j (i + 1) v := by
  funext a b
  unfold zu zfill
  by_cases h : a = j
  · subst h
    by_cases hb : b = i
    · subst hb; simp
    · simp only [hb, and_false, if_false, true_and]
      by_cases hl : b < i
      · rw [if_pos hl, if_pos (by omega)]
      · rw [if_neg hl, if_neg (by omega)]
  · simp [h]
def zbeg (σ : zm) (i : Nat) (n v g : Int32) : zm := zu (zu (zfill (zu (zu (zu (zu (zu σ (zp i) 0 n) (zp i) 1 v) (zp i) 2 g) (zp i) 3 0) (zp i) 4 0) (zp i + 1) 8 (-1)) (zp i) 6 0) (zp i) 11 0
def zpar (σ : zm) (i n : Nat) (a b g p : Int32) : zm := zu (zu (zu (zu (zu σ (zp i + 2) n a) (zp i + 3) n b) (zp i + 4) n g) (zp i + 5) n p) (zp i) 6 (nI (n + 1))
def dgL (f : Nat → Int32) (h : Int32) : Nat → Int32
  | 0 => h
  | n + 1 => if f n = -1 then dgL f h n else zmix (dgL f h n) (10 * nI n + f n)
def dgP (a o g p : Nat → Int32) (h : Int32) : Nat → Int32
  | 0 => h
  | n + 1 => zmix (zmix (zmix (zmix (dgP a o g p h n) (a n)) (o n)) (g n)) (p n)
def dgW (w : Nat → Int32) (h : Int32) : Nat → Int32
  | 0 => h
  | n + 1 => zmix (dgW w h n) (w n)
theorem dgL_t {f : Nat → Int32} {h : Int32} {n : Nat} (e : ¬ f n = -1) : dgL f h (n + 1) = zmix (dgL f h n) (10 * nI n + f n) := if_neg e
theorem dgL_f {f : Nat → Int32} {h : Int32} {n : Nat} (e : f n = -1) : dgL f h (n + 1) = dgL f h n := if_pos e
theorem zdec_nI {σ : zm} {i k : Nat} (hk : k < 8) : zdec σ i (nI k) = !decide (σ (zp i + 1) k = -1) := by
  unfold zdec
  rw [show zin (nI k) 8 = true from zin_nI (n := 8) hk (by decide), nI_clamp (by omega), Bool.true_and]
theorem zdec_t {σ : zm} {i k : Nat} (hk : k < 8) (h : zdec σ i (nI k) = true) : ¬ σ (zp i + 1) k = -1 := by
  rw [zdec_nI hk] at h
  simpa using h
theorem zdec_f {σ : zm} {i k : Nat} (hk : k < 8) (h : zdec σ i (nI k) = false) : σ (zp i + 1) k = -1 := by
  rw [zdec_nI hk] at h
  simpa using h
def zdig (σ : zm) (i pn wn : Nat) : Int32 := dgW (σ (zp i + 6)) (dgP (σ (zp i + 2)) (σ (zp i + 3)) (σ (zp i + 4)) (σ (zp i + 5)) (dgL (σ (zp i + 1)) (zmix (zmix (zmix 17 (σ (zp i) 0)) (σ (zp i) 1)) (σ (zp i) 4)) 8) pn) wn
def zsea (σ : zm) (i pn wn : Nat) : Int32 := zdig σ i pn wn ^^^ 1000003 * (σ (zp i) 2 + 1)
theorem zu_col (σ : zm) {j k b : Nat} (v : Int32) (h : b ≠ k) : zu σ j k v j b = σ j b := zu_ne σ v (Or.inr h)
theorem zfill_off (σ : zm) {j n a : Nat} (v : Int32) (h : a ≠ j) : zfill σ j n v a = σ a := by funext b; simp [zfill, h]
theorem zbeg_off (σ : zm) {i a : Nat} (n v g : Int32) (h : a < zp i ∨ zp i + 7 ≤ a) : zbeg σ i n v g a = σ a := by
  unfold zbeg
  simp (disch := omega) only [zu_row, zfill_off]
theorem zbeg_0 (σ : zm) (i : Nat) (n v g : Int32) : zbeg σ i n v g (zp i) 0 = n := by
  unfold zbeg
  simp (disch := omega) only [zu_col, zu_eq, zfill_off]
theorem zbeg_1 (σ : zm) (i : Nat) (n v g : Int32) : zbeg σ i n v g (zp i) 1 = v := by
  unfold zbeg
  simp (disch := omega) only [zu_col, zu_eq, zfill_off]
theorem zbeg_2 (σ : zm) (i : Nat) (n v g : Int32) : zbeg σ i n v g (zp i) 2 = g := by
  unfold zbeg
  simp (disch := omega) only [zu_col, zu_eq, zfill_off]
section ZCR
variable {p : Program} {l : Launch} {e : Env} {R : Room} {s : State} {m : MethodId} {args : Array Value} {below : List Frame} {meth : Method} {c : Code} {cc : ByteArray} {nL ce sl : Nat} {own : String} {D : va_G} {K : Nat → ClassId} {q : Nat → Nat} {A : Nat → Prop} {Q : State → Prop} {σ : zm} {pc pc' : Nat} {lv lv' : List (Nat × Value)} {st rest : List Value}
theorem g_copyR (hC : zX p s m args c cc nL own D K q A) {index : Nat} (j0 j1 n0 n1 k : Nat) {fl0 fl1 : List (Option Nat)} {n : Int32} (hw : Cond.methodLink own index arraycopyName ∈ zT) (hj0 : j0 < zN) (hs0 : zS j0 = (1, n0, fl0)) (hj1 : j1 < zN) (hs1 : zS j1 = (1, n1, fl1)) (hn : n = nI k) (hk : k < 2 ^ 31) (h0 : k ≤ n0) (h1 : k ≤ n1) (hR : 1 ≤ R.frames ∧ 30 ≤ R.locals) (hW : (st.map fun v => v.category).sum ≤ 8) (hdg : decode cc pc = .ok (.invokestatic index, 3)) (hp : pc + 3 = pc') (kk : ∀ τ : zm, (∀ a, a ≠ j1 → τ a = σ a) → (∀ b, b < k → τ j1 b = σ j0 b) → zG p l e R s m args below meth c D K q A nL ce sl Q τ pc' lv st) : zG p l e R s m args below meth c D K q A nL ce sl Q σ pc lv (.int n :: .int 0 :: .ref (q j1) :: .int 0 :: .ref (q j0) :: st) :=
  g_copy hC j0 j1 n0 n1 k hw hj0 hs0 hj1 hs1 hn hk h0 h1 hR hW hdg hp (kk _ (fun a ha => zr_ne σ _ ha) (fun b hb => by rw [zr_eq, pk_cpy_in (Nat.zero_le b) (by omega), Nat.sub_zero, Nat.zero_add]))
end ZCR
/-- pack i is as pack k was, all else is as it was -/
def zPk (σ τ : zm) (i k : Nat) : Prop := (∀ a b, (a < zp i ∨ zp i + 7 ≤ a) → τ a b = σ a b) ∧ (τ (zp i) 0 = σ (zp k) 0 ∧ τ (zp i) 1 = σ (zp k) 1 ∧ τ (zp i) 2 = σ (zp k) 2 ∧ τ (zp i) 3 = σ (zp k) 3 ∧ τ (zp i) 4 = σ (zp k) 4 ∧ τ (zp i) 6 = σ (zp k) 6 ∧ τ (zp i) 11 = σ (zp k) 11) ∧ (∀ b, b < 8 → τ (zp i + 1) b = σ (zp k + 1) b) ∧ (∀ b, b < 4 → τ (zp i + 2) b = σ (zp k + 2) b ∧ τ (zp i + 3) b = σ (zp k + 3) b ∧ τ (zp i + 4) b = σ (zp k + 4) b ∧ τ (zp i + 5) b = σ (zp k + 5) b) ∧ ∀ b, b < 24 → τ (zp i + 6) b = σ (zp k + 6) b
set_option maxHeartbeats 4000000 in
set_option maxRecDepth 100000 in
theorem c_J_fill (l : Launch) (D : va_G) (K : Nat → ClassId) (q : Nat → Nat) (hq : zI q) (j n : Nat) {fl : List (Option Nat)} (hj : j < zN) (hs : zS j = (1, n, fl)) (hn : n < 2 ^ 31) (v : Int32) (σ : zm) : zMv l y_J_fill b_J_fill 4 none 0 D K q [.ref (q (j)), .int (v)] σ (fun σ' => σ' = zfill σ j n v) := by
  refine zMv.of (own := "java/util/Arrays") (lv := [(0, .ref (q (j))), (1, .int (v))]) (by decide) rfl hq (Nat.le_of_ble_eq_true rfl) rfl ?_
  intro p e s m below meth c hC hr hlk
  have J5 : ∀ (f : Nat) (i : Nat) (hif : i + f = n), zG p l e (zrm 0) s m ([.ref (q (j)), .int (v)] : List Value).toArray below meth c D K q (zA q) 4 0 0 (MQ below (va_Qv (fun σ' => σ' = zfill σ j n v) (zO D K q) (zA q)) ([.ref (q (j)), .int (v)] : List Value).toArray s 0 0 (zA q)) (zfill σ j i v) 5 [(0, .ref (q (j))), (1, .int (v)), (2, .int (nI i)), (3, .int (nI n))] [] := by
    intro f
    induction f with
    | zero =>
      intro i hif
      have hin : i = n := by omega
      refine g_iload_n hC d_J_fill_5 rfl rfl ?_
      refine g_iload_n hC d_J_fill_6 rfl rfl ?_
      refine g_icmp_ge hC 20 d_J_fill_7 rfl rfl (fun h7 => ?_) (fun h7 => absurd (nI_le (a := n) (b := i) (by omega) (by omega)) h7)
      exact g_vret hC hr hlk d_J_fill_20 (by rw [hin])
    | succ f ih =>
      intro i hif
      refine g_iload_n hC d_J_fill_5 rfl rfl ?_
      refine g_iload_n hC d_J_fill_6 rfl rfl ?_
      refine g_icmp_ge hC 20 d_J_fill_7 rfl rfl (fun h7 => absurd h7 (nI_ge (a := i) (b := n) (by omega) hn)) (fun h7 => ?_)
      refine g_aload_n hC d_J_fill_10 rfl rfl ?_
      refine g_iload_n hC d_J_fill_11 rfl rfl ?_
      refine g_iload_n hC d_J_fill_12 rfl rfl ?_
      refine g_iast hC _ _ (i) hj hs rfl (by omega) hn d_J_fill_13 rfl ?_
      refine g_iinc hC (nI (i + 1)) d_J_fill_14 rfl rfl (nI_succ _).symm (by decide) ?_
      refine g_goto hC 5 d_J_fill_17 rfl ?_
      exact zG.to (ih (i + 1) (by omega)) (zfill_s σ j i v) rfl ⟨rfl, rfl, rfl, rfl, trivial⟩
  refine g_iconst hC (0) d_J_fill_0 (by decide) rfl ?_
  refine g_istore_n hC d_J_fill_1 rfl (by decide) ?_
  refine g_aload_n hC d_J_fill_2 rfl rfl ?_
  refine g_alenI hC _ _ hj hs hn d_J_fill_3 rfl ?_
  refine g_istore_n hC d_J_fill_4 rfl (by decide) ?_
  exact zG.to (J5 n 0 (by omega)) (zfill_0 σ j v).symm rfl ⟨rfl, rfl, rfl, rfl, trivial⟩
set_option maxHeartbeats 4000000 in
set_option maxRecDepth 100000 in
theorem c_P_beginAnew (l : Launch) (D : va_G) (K : Nat → ClassId) (q : Nat → Nat) (hq : zI q) (i : Nat) (hi : i < 9) (n v g : Int32) (σ : zm) : zMv l y_P_beginAnew b_P_beginAnew 4 none 1 D K q [.ref (q (zp i)), .int (n), .int (v), .int (g)] σ (fun σ' => σ' = zbeg σ i n v g) := by
  refine zMv.of (own := "AppDesk$Pack") (lv := [(0, .ref (q (zp i))), (1, .int (n)), (2, .int (v)), (3, .int (g))]) (by decide) rfl hq (Nat.le_of_ble_eq_true rfl) rfl ?_
  intro p e s m below meth c hC hr hlk
  refine g_aload_n hC d_P_beginAnew_0 rfl rfl ?_
  refine g_iload_n hC d_P_beginAnew_1 rfl rfl ?_
  refine g_putI hC _ 1 0 (zp_lt hi) (zS_p hi) rfl fp_P_40 d_P_beginAnew_2 rfl ?_
  refine g_aload_n hC d_P_beginAnew_5 rfl rfl ?_
  refine g_iload_n hC d_P_beginAnew_6 rfl rfl ?_
  refine g_putI hC _ 1 1 (zp_lt hi) (zS_p hi) rfl fp_P_9 d_P_beginAnew_7 rfl ?_
  refine g_aload_n hC d_P_beginAnew_10 rfl rfl ?_
  refine g_iload_n hC d_P_beginAnew_11 rfl rfl ?_
  refine g_putI hC _ 1 2 (zp_lt hi) (zS_p hi) rfl fp_P_43 d_P_beginAnew_12 rfl ?_
  refine g_aload_n hC d_P_beginAnew_15 rfl rfl ?_
  refine g_iconst hC (0) d_P_beginAnew_16 (by decide) rfl ?_
  refine g_putI hC _ 1 3 (zp_lt hi) (zS_p hi) rfl fp_P_46 d_P_beginAnew_17 rfl ?_
  refine g_aload_n hC d_P_beginAnew_20 rfl rfl ?_
  refine g_iconst hC (0) d_P_beginAnew_21 (by decide) rfl ?_
  refine g_putI hC _ 1 4 (zp_lt hi) (zS_p hi) rfl fp_P_49 d_P_beginAnew_22 rfl ?_
  refine g_aload_n hC d_P_beginAnew_25 rfl rfl ?_
  refine g_getR hC _ 1 5 _ (zp_lt hi) (zS_p hi) rfl fl_P_15 d_P_beginAnew_26 rfl ?_
  refine g_iconst hC (-1) d_P_beginAnew_29 (by decide) rfl ?_
  refine g_gov hC rfl (z_runS hC (c_J_fill l D K q hq _ _ (zp_lt' hi 1 (by decide)) (zS_pr hi 1 (by decide)) (by decide) _ _) yy_J_fill ys_P_19 ⟨Nat.le_of_ble_eq_true rfl, Nat.le_of_ble_eq_true rfl⟩ ⟨Nat.zero_le _, Nat.zero_le _⟩ rfl (Nat.le_of_ble_eq_true rfl) d_P_beginAnew_30) (fun σ0 q0 => ?_)
  obtain rfl := q0.symm
  refine g_aload_n hC d_P_beginAnew_33 rfl rfl ?_
  refine g_iconst hC (0) d_P_beginAnew_34 (by decide) rfl ?_
  refine g_putI hC _ 1 6 (zp_lt hi) (zS_p hi) rfl fp_P_52 d_P_beginAnew_35 rfl ?_
  refine g_aload_n hC d_P_beginAnew_38 rfl rfl ?_
  refine g_iconst hC (0) d_P_beginAnew_39 (by decide) rfl ?_
  refine g_putI hC _ 1 11 (zp_lt hi) (zS_p hi) rfl fp_P_55 d_P_beginAnew_40 rfl ?_
  exact g_vret hC hr hlk d_P_beginAnew_43 rfl
set_option maxHeartbeats 4000000 in
set_option maxRecDepth 100000 in
theorem c_P_addPart (l : Launch) (D : va_G) (K : Nat → ClassId) (q : Nat → Nat) (hq : zI q) (i : Nat) (hi : i < 9) (a : Int32) (b : Bool) (g p0 : Int32) (σ : zm) (n : Nat) (hn : n ≤ 4) (h : σ (zp i) 6 = nI n) : zMi l y_P_addPart b_P_addPart 5 (some .boolean) 0 D K q [.ref (q (zp i)), .int (a), .int (zb b), .int (g), .int (p0)] σ (fun r σ' => r = zb (decide (n < 4)) ∧ σ' = if n < 4 then zpar σ i n a (zb b) g p0 else σ) := by
  refine zMi.of (own := "AppDesk$Pack") (lv := [(0, .ref (q (zp i))), (1, .int (a)), (2, .int (zb b)), (3, .int (g)), (4, .int (p0))]) (by decide) rfl hq (Nat.le_of_ble_eq_true rfl) rfl ?_
  intro p e s m below meth c hC hr hlk
  refine g_aload_n hC d_P_addPart_0 rfl rfl ?_
  refine g_getV hC _ 1 6 (nI n) (h) (zp_lt hi) (zS_p hi) rfl fl_P_52 d_P_addPart_1 rfl ?_
  refine g_iconst hC (4) d_P_addPart_4 (by decide) rfl ?_
  refine g_icmp_lt hC 10 d_P_addPart_5 rfl rfl (fun h5 => ?_) (fun h5 => ?_)
  ·
    have hlt : n < 4 := (nI_ltI (a := n) (b := 4) (by omega) (by decide)).mp h5
    refine g_aload_n hC d_P_addPart_10 rfl rfl ?_
    refine g_getR hC _ 1 7 _ (zp_lt hi) (zS_p hi) rfl fl_P_25 d_P_addPart_11 rfl ?_
    refine g_aload_n hC d_P_addPart_14 rfl rfl ?_
    refine g_getV hC _ 1 6 (nI n) (by simp [zu, h]) (zp_lt hi) (zS_p hi) rfl fl_P_52 d_P_addPart_15 rfl ?_
    refine g_iload_n hC d_P_addPart_18 rfl rfl ?_
    refine g_iast hC _ _ (n) (zp_lt' hi 2 (by decide)) (zS_pr hi 2 (by decide)) rfl (by omega) (by decide) d_P_addPart_19 rfl ?_
    refine g_aload_n hC d_P_addPart_20 rfl rfl ?_
    refine g_getR hC _ 1 8 _ (zp_lt hi) (zS_p hi) rfl fl_P_28 d_P_addPart_21 rfl ?_
    refine g_aload_n hC d_P_addPart_24 rfl rfl ?_
    refine g_getV hC _ 1 6 (nI n) (by simp [zu, h]) (zp_lt hi) (zS_p hi) rfl fl_P_52 d_P_addPart_25 rfl ?_
    refine g_iload_n hC d_P_addPart_28 rfl rfl ?_
    refine g_ifeq_b hC 36 d_P_addPart_29 rfl rfl (fun h29 => ?_) (fun h29 => ?_)
    ·
      refine g_iconst hC (0) d_P_addPart_36 (by decide) rfl ?_
      refine g_top hC (zb b) (by rw [h29] <;> rfl) ?_
      refine g_iast hC _ _ (n) (zp_lt' hi 3 (by decide)) (zS_pr hi 3 (by decide)) rfl (by omega) (by decide) d_P_addPart_37 rfl ?_
      refine g_aload_n hC d_P_addPart_38 rfl rfl ?_
      refine g_getR hC _ 1 9 _ (zp_lt hi) (zS_p hi) rfl fl_P_31 d_P_addPart_39 rfl ?_
      refine g_aload_n hC d_P_addPart_42 rfl rfl ?_
      refine g_getV hC _ 1 6 (nI n) (by simp [zu, h]) (zp_lt hi) (zS_p hi) rfl fl_P_52 d_P_addPart_43 rfl ?_
      refine g_iload_n hC d_P_addPart_46 rfl rfl ?_
      refine g_iast hC _ _ (n) (zp_lt' hi 4 (by decide)) (zS_pr hi 4 (by decide)) rfl (by omega) (by decide) d_P_addPart_47 rfl ?_
      refine g_aload_n hC d_P_addPart_48 rfl rfl ?_
      refine g_getR hC _ 1 10 _ (zp_lt hi) (zS_p hi) rfl fl_P_34 d_P_addPart_49 rfl ?_
      refine g_aload_n hC d_P_addPart_52 rfl rfl ?_
      refine g_getV hC _ 1 6 (nI n) (by simp [zu, h]) (zp_lt hi) (zS_p hi) rfl fl_P_52 d_P_addPart_53 rfl ?_
      refine g_iload hC d_P_addPart_56 rfl rfl ?_
      refine g_iast hC _ _ (n) (zp_lt' hi 5 (by decide)) (zS_pr hi 5 (by decide)) rfl (by omega) (by decide) d_P_addPart_58 rfl ?_
      refine g_aload_n hC d_P_addPart_59 rfl rfl ?_
      refine g_dup hC d_P_addPart_60 rfl rfl ?_
      refine g_getV hC _ 1 6 (nI n) (by simp [zu, h]) (zp_lt hi) (zS_p hi) rfl fl_P_52 d_P_addPart_61 rfl ?_
      refine g_iconst hC (1) d_P_addPart_64 (by decide) rfl ?_
      refine g_iadd hC d_P_addPart_65 rfl ?_
      refine g_top hC (nI (n + 1)) (nI_1 n) ?_
      refine g_putI hC _ 1 6 (zp_lt hi) (zS_p hi) rfl fp_P_52 d_P_addPart_66 rfl ?_
      refine g_iconst hC (1) d_P_addPart_69 (by decide) rfl ?_
      exact g_zret hC hr hlk d_P_addPart_70 (Or.inr rfl) ⟨by rw [decide_eq_true hlt]; rfl, (if_pos hlt).symm⟩
    ·
      refine g_iconst hC (1) d_P_addPart_32 (by decide) rfl ?_
      refine g_top hC (zb b) (by rw [h29] <;> rfl) ?_
      refine g_goto hC 37 d_P_addPart_33 rfl ?_
      refine g_iast hC _ _ (n) (zp_lt' hi 3 (by decide)) (zS_pr hi 3 (by decide)) rfl (by omega) (by decide) d_P_addPart_37 rfl ?_
      refine g_aload_n hC d_P_addPart_38 rfl rfl ?_
      refine g_getR hC _ 1 9 _ (zp_lt hi) (zS_p hi) rfl fl_P_31 d_P_addPart_39 rfl ?_
      refine g_aload_n hC d_P_addPart_42 rfl rfl ?_
      refine g_getV hC _ 1 6 (nI n) (by simp [zu, h]) (zp_lt hi) (zS_p hi) rfl fl_P_52 d_P_addPart_43 rfl ?_
      refine g_iload_n hC d_P_addPart_46 rfl rfl ?_
      refine g_iast hC _ _ (n) (zp_lt' hi 4 (by decide)) (zS_pr hi 4 (by decide)) rfl (by omega) (by decide) d_P_addPart_47 rfl ?_
      refine g_aload_n hC d_P_addPart_48 rfl rfl ?_
      refine g_getR hC _ 1 10 _ (zp_lt hi) (zS_p hi) rfl fl_P_34 d_P_addPart_49 rfl ?_
      refine g_aload_n hC d_P_addPart_52 rfl rfl ?_
      refine g_getV hC _ 1 6 (nI n) (by simp [zu, h]) (zp_lt hi) (zS_p hi) rfl fl_P_52 d_P_addPart_53 rfl ?_
      refine g_iload hC d_P_addPart_56 rfl rfl ?_
      refine g_iast hC _ _ (n) (zp_lt' hi 5 (by decide)) (zS_pr hi 5 (by decide)) rfl (by omega) (by decide) d_P_addPart_58 rfl ?_
      refine g_aload_n hC d_P_addPart_59 rfl rfl ?_
      refine g_dup hC d_P_addPart_60 rfl rfl ?_
      refine g_getV hC _ 1 6 (nI n) (by simp [zu, h]) (zp_lt hi) (zS_p hi) rfl fl_P_52 d_P_addPart_61 rfl ?_
      refine g_iconst hC (1) d_P_addPart_64 (by decide) rfl ?_
      refine g_iadd hC d_P_addPart_65 rfl ?_
      refine g_top hC (nI (n + 1)) (nI_1 n) ?_
      refine g_putI hC _ 1 6 (zp_lt hi) (zS_p hi) rfl fp_P_52 d_P_addPart_66 rfl ?_
      refine g_iconst hC (1) d_P_addPart_69 (by decide) rfl ?_
      exact g_zret hC hr hlk d_P_addPart_70 (Or.inr rfl) ⟨by rw [decide_eq_true hlt]; rfl, (if_pos hlt).symm⟩
  ·
    have hlt : ¬ n < 4 := fun z => h5 (nI_lt (a := n) (b := 4) z (by decide))
    refine g_iconst hC (0) d_P_addPart_8 (by decide) rfl ?_
    exact g_zret hC hr hlk d_P_addPart_9 (Or.inl rfl) ⟨by rw [decide_eq_false hlt]; rfl, (if_neg hlt).symm⟩
set_option maxHeartbeats 4000000 in
set_option maxRecDepth 100000 in
theorem c_P_digest (l : Launch) (D : va_G) (K : Nat → ClassId) (q : Nat → Nat) (hq : zI q) (i : Nat) (hi : i < 9) (σ : zm) (pn wn : Nat) (hpn : pn ≤ 4) (hwn : wn ≤ 24) (h6 : σ (zp i) 6 = nI pn) (h11 : σ (zp i) 11 = nI wn) : zMi l y_P_digest b_P_digest 3 (some .int) 2 D K q [.ref (q (zp i))] σ (fun r σ' => r = zdig σ i pn wn ∧ σ' = σ) := by
  refine zMi.of (own := "AppDesk$Pack") (lv := [(0, .ref (q (zp i)))]) (by decide) rfl hq (Nat.le_of_ble_eq_true rfl) rfl ?_
  intro p e s m below meth c hC hr hlk
  have J118 : ∀ (f : Nat) (k : Nat) (hif : k + f = wn), zG p l e (zrm 2) s m ([.ref (q (zp i))] : List Value).toArray below meth c D K q (zA q) 3 0 0 (MQ below (va_Qi (fun r σ' => r = zdig σ i pn wn ∧ σ' = σ) (zO D K q) (zA q)) ([.ref (q (zp i))] : List Value).toArray s 0 0 (zA q)) σ 118 [(0, .ref (q (zp i))), (1, .int (dgW (σ (zp i + 6)) (dgP (σ (zp i + 2)) (σ (zp i + 3)) (σ (zp i + 4)) (σ (zp i + 5)) (dgL (σ (zp i + 1)) (zmix (zmix (zmix 17 (σ (zp i) 0)) (σ (zp i) 1)) (σ (zp i) 4)) 8) pn) k)), (2, .int (nI k))] [] := by
    intro f
    induction f with
    | zero =>
      intro k hif
      have hin : k = wn := by omega
      refine g_iload_n hC d_P_digest_118 rfl rfl ?_
      refine g_aload_n hC d_P_digest_119 rfl rfl ?_
      refine g_getV hC _ 1 11 (nI wn) (h11) (zp_lt hi) (zS_p hi) rfl fl_P_55 d_P_digest_120 rfl ?_
      refine g_icmp_ge hC 143 d_P_digest_123 rfl rfl (fun h123 => ?_) (fun h123 => absurd (nI_le (by omega) (by omega)) h123)
      refine g_iload_n hC d_P_digest_143 rfl rfl ?_
      exact g_iret hC hr hlk d_P_digest_144 ⟨by rw [hin]; rfl, rfl⟩
    | succ f ih =>
      intro k hif
      refine g_iload_n hC d_P_digest_118 rfl rfl ?_
      refine g_aload_n hC d_P_digest_119 rfl rfl ?_
      refine g_getV hC _ 1 11 (nI wn) (h11) (zp_lt hi) (zS_p hi) rfl fl_P_55 d_P_digest_120 rfl ?_
      refine g_icmp_ge hC 143 d_P_digest_123 rfl rfl (fun h123 => absurd h123 (nI_ge (by omega) (by omega))) (fun h123 => ?_)
      refine g_iload_n hC d_P_digest_126 rfl rfl ?_
      refine g_aload_n hC d_P_digest_127 rfl rfl ?_
      refine g_getR hC _ 1 12 _ (zp_lt hi) (zS_p hi) rfl fl_P_37 d_P_digest_128 rfl ?_
      refine g_iload_n hC d_P_digest_131 rfl rfl ?_
      refine g_iald hC _ _ (k) (zp_lt' hi 6 (by decide)) (zS_pr hi 6 (by decide)) rfl (by omega) (by decide) d_P_digest_132 rfl ?_
      refine g_goi hC rfl (z_runS hC (c_P_mix l D K q hq _ _ _) yy_P_mix ys_P_81 ⟨Nat.le_of_ble_eq_true rfl, Nat.le_of_ble_eq_true rfl⟩ ⟨Nat.zero_le _, Nat.zero_le _⟩ rfl (Nat.le_of_ble_eq_true rfl) d_P_digest_133) (fun r0 σ0 q0 => ?_)
      obtain ⟨rfl, w0⟩ := q0
      obtain rfl := w0.symm
      refine g_istore_n hC d_P_digest_136 rfl (by decide) ?_
      refine g_iinc hC (nI (k + 1)) d_P_digest_137 rfl rfl (nI_succ _).symm (by decide) ?_
      refine g_goto hC 118 d_P_digest_140 rfl ?_
      exact zG.to (ih (k + 1) (by omega)) rfl rfl ⟨rfl, rfl, rfl, trivial⟩
  have J64 : ∀ (f : Nat) (k : Nat) (hif : k + f = pn), zG p l e (zrm 2) s m ([.ref (q (zp i))] : List Value).toArray below meth c D K q (zA q) 3 0 0 (MQ below (va_Qi (fun r σ' => r = zdig σ i pn wn ∧ σ' = σ) (zO D K q) (zA q)) ([.ref (q (zp i))] : List Value).toArray s 0 0 (zA q)) σ 64 [(0, .ref (q (zp i))), (1, .int (dgP (σ (zp i + 2)) (σ (zp i + 3)) (σ (zp i + 4)) (σ (zp i + 5)) (dgL (σ (zp i + 1)) (zmix (zmix (zmix 17 (σ (zp i) 0)) (σ (zp i) 1)) (σ (zp i) 4)) 8) k)), (2, .int (nI k))] [] := by
    intro f
    induction f with
    | zero =>
      intro k hif
      have hin : k = pn := by omega
      refine g_iload_n hC d_P_digest_64 rfl rfl ?_
      refine g_aload_n hC d_P_digest_65 rfl rfl ?_
      refine g_getV hC _ 1 6 (nI pn) (h6) (zp_lt hi) (zS_p hi) rfl fl_P_52 d_P_digest_66 rfl ?_
      refine g_icmp_ge hC 116 d_P_digest_69 rfl rfl (fun h69 => ?_) (fun h69 => absurd (nI_le (by omega) (by omega)) h69)
      refine g_iconst hC (0) d_P_digest_116 (by decide) rfl ?_
      refine g_istore_n hC d_P_digest_117 rfl (by decide) ?_
      exact zG.to (J118 wn 0 (by omega)) rfl rfl ⟨rfl, by rw [hin]; rfl, rfl, trivial⟩
    | succ f ih =>
      intro k hif
      refine g_iload_n hC d_P_digest_64 rfl rfl ?_
      refine g_aload_n hC d_P_digest_65 rfl rfl ?_
      refine g_getV hC _ 1 6 (nI pn) (h6) (zp_lt hi) (zS_p hi) rfl fl_P_52 d_P_digest_66 rfl ?_
      refine g_icmp_ge hC 116 d_P_digest_69 rfl rfl (fun h69 => absurd h69 (nI_ge (by omega) (by omega))) (fun h69 => ?_)
      refine g_iload_n hC d_P_digest_72 rfl rfl ?_
      refine g_aload_n hC d_P_digest_73 rfl rfl ?_
      refine g_getR hC _ 1 7 _ (zp_lt hi) (zS_p hi) rfl fl_P_25 d_P_digest_74 rfl ?_
      refine g_iload_n hC d_P_digest_77 rfl rfl ?_
      refine g_iald hC _ _ (k) (zp_lt' hi 2 (by decide)) (zS_pr hi 2 (by decide)) rfl (by omega) (by decide) d_P_digest_78 rfl ?_
      refine g_goi hC rfl (z_runS hC (c_P_mix l D K q hq _ _ _) yy_P_mix ys_P_81 ⟨Nat.le_of_ble_eq_true rfl, Nat.le_of_ble_eq_true rfl⟩ ⟨Nat.zero_le _, Nat.zero_le _⟩ rfl (Nat.le_of_ble_eq_true rfl) d_P_digest_79) (fun r1 σ1 q1 => ?_)
      obtain ⟨rfl, w1⟩ := q1
      obtain rfl := w1.symm
      refine g_aload_n hC d_P_digest_82 rfl rfl ?_
      refine g_getR hC _ 1 8 _ (zp_lt hi) (zS_p hi) rfl fl_P_28 d_P_digest_83 rfl ?_
      refine g_iload_n hC d_P_digest_86 rfl rfl ?_
      refine g_iald hC _ _ (k) (zp_lt' hi 3 (by decide)) (zS_pr hi 3 (by decide)) rfl (by omega) (by decide) d_P_digest_87 rfl ?_
      refine g_goi hC rfl (z_runS hC (c_P_mix l D K q hq _ _ _) yy_P_mix ys_P_81 ⟨Nat.le_of_ble_eq_true rfl, Nat.le_of_ble_eq_true rfl⟩ ⟨Nat.zero_le _, Nat.zero_le _⟩ rfl (Nat.le_of_ble_eq_true rfl) d_P_digest_88) (fun r2 σ2 q2 => ?_)
      obtain ⟨rfl, w2⟩ := q2
      obtain rfl := w2.symm
      refine g_aload_n hC d_P_digest_91 rfl rfl ?_
      refine g_getR hC _ 1 9 _ (zp_lt hi) (zS_p hi) rfl fl_P_31 d_P_digest_92 rfl ?_
      refine g_iload_n hC d_P_digest_95 rfl rfl ?_
      refine g_iald hC _ _ (k) (zp_lt' hi 4 (by decide)) (zS_pr hi 4 (by decide)) rfl (by omega) (by decide) d_P_digest_96 rfl ?_
      refine g_goi hC rfl (z_runS hC (c_P_mix l D K q hq _ _ _) yy_P_mix ys_P_81 ⟨Nat.le_of_ble_eq_true rfl, Nat.le_of_ble_eq_true rfl⟩ ⟨Nat.zero_le _, Nat.zero_le _⟩ rfl (Nat.le_of_ble_eq_true rfl) d_P_digest_97) (fun r3 σ3 q3 => ?_)
      obtain ⟨rfl, w3⟩ := q3
      obtain rfl := w3.symm
      refine g_aload_n hC d_P_digest_100 rfl rfl ?_
      refine g_getR hC _ 1 10 _ (zp_lt hi) (zS_p hi) rfl fl_P_34 d_P_digest_101 rfl ?_
      refine g_iload_n hC d_P_digest_104 rfl rfl ?_
      refine g_iald hC _ _ (k) (zp_lt' hi 5 (by decide)) (zS_pr hi 5 (by decide)) rfl (by omega) (by decide) d_P_digest_105 rfl ?_
      refine g_goi hC rfl (z_runS hC (c_P_mix l D K q hq _ _ _) yy_P_mix ys_P_81 ⟨Nat.le_of_ble_eq_true rfl, Nat.le_of_ble_eq_true rfl⟩ ⟨Nat.zero_le _, Nat.zero_le _⟩ rfl (Nat.le_of_ble_eq_true rfl) d_P_digest_106) (fun r4 σ4 q4 => ?_)
      obtain ⟨rfl, w4⟩ := q4
      obtain rfl := w4.symm
      refine g_istore_n hC d_P_digest_109 rfl (by decide) ?_
      refine g_iinc hC (nI (k + 1)) d_P_digest_110 rfl rfl (nI_succ _).symm (by decide) ?_
      refine g_goto hC 64 d_P_digest_113 rfl ?_
      exact zG.to (ih (k + 1) (by omega)) rfl rfl ⟨rfl, rfl, rfl, trivial⟩
  have J26 : ∀ (f : Nat) (k : Nat) (hif : k + f = 8), zG p l e (zrm 2) s m ([.ref (q (zp i))] : List Value).toArray below meth c D K q (zA q) 3 0 0 (MQ below (va_Qi (fun r σ' => r = zdig σ i pn wn ∧ σ' = σ) (zO D K q) (zA q)) ([.ref (q (zp i))] : List Value).toArray s 0 0 (zA q)) σ 26 [(0, .ref (q (zp i))), (1, .int (dgL (σ (zp i + 1)) (zmix (zmix (zmix 17 (σ (zp i) 0)) (σ (zp i) 1)) (σ (zp i) 4)) k)), (2, .int (nI k))] [] := by
    intro f
    induction f with
    | zero =>
      intro k hif
      have hin : k = 8 := by omega
      refine g_iload_n hC d_P_digest_26 rfl rfl ?_
      refine g_bipush hC (8) d_P_digest_27 (by decide) rfl ?_
      refine g_icmp_ge hC 62 d_P_digest_29 rfl rfl (fun h29 => ?_) (fun h29 => absurd (nI_le (a := 8) (b := k) (by omega) (by omega)) h29)
      refine g_iconst hC (0) d_P_digest_62 (by decide) rfl ?_
      refine g_istore_n hC d_P_digest_63 rfl (by decide) ?_
      exact zG.to (J64 pn 0 (by omega)) rfl rfl ⟨rfl, by rw [hin]; rfl, rfl, trivial⟩
    | succ f ih =>
      intro k hif
      have hk8 : k < 8 := by omega
      refine g_iload_n hC d_P_digest_26 rfl rfl ?_
      refine g_bipush hC (8) d_P_digest_27 (by decide) rfl ?_
      refine g_icmp_ge hC 62 d_P_digest_29 rfl rfl (fun h29 => absurd h29 (nI_ge (a := k) (b := 8) (by omega) (by omega))) (fun h29 => ?_)
      refine g_aload_n hC d_P_digest_32 rfl rfl ?_
      refine g_iload_n hC d_P_digest_33 rfl rfl ?_
      refine g_goi hC rfl (z_runV hC (c_P_declares l D K q hq _ hi _ _) yy_P_declares yv_P_85 (zp_lt hi) (zS_p hi) ⟨Nat.le_of_ble_eq_true rfl, Nat.le_of_ble_eq_true rfl⟩ ⟨Nat.zero_le _, Nat.zero_le _⟩ rfl (Nat.le_of_ble_eq_true rfl) d_P_digest_34) (fun r5 σ5 q5 => ?_)
      obtain ⟨rfl, w5⟩ := q5
      obtain rfl := w5.symm
      refine g_ifeq_b hC 56 d_P_digest_37 rfl rfl (fun h37 => ?_) (fun h37 => ?_)
      ·
        refine g_iinc hC (nI (k + 1)) d_P_digest_56 rfl rfl (nI_succ _).symm (by decide) ?_
        refine g_goto hC 26 d_P_digest_59 rfl ?_
        first | exact zG.to (ih (k + 1) (by omega)) rfl rfl ⟨rfl, congrArg (fun z => some (Value.int z)) (dgL_t (zdec_t hk8 h37)).symm, rfl, trivial⟩ | exact zG.to (ih (k + 1) (by omega)) rfl rfl ⟨rfl, congrArg (fun z => some (Value.int z)) (dgL_f (zdec_f hk8 h37)).symm, rfl, trivial⟩
      ·
        refine g_iload_n hC d_P_digest_40 rfl rfl ?_
        refine g_bipush hC (10) d_P_digest_41 (by decide) rfl ?_
        refine g_iload_n hC d_P_digest_43 rfl rfl ?_
        refine g_imul hC d_P_digest_44 rfl ?_
        refine g_aload_n hC d_P_digest_45 rfl rfl ?_
        refine g_getR hC _ 1 5 _ (zp_lt hi) (zS_p hi) rfl fl_P_15 d_P_digest_46 rfl ?_
        refine g_iload_n hC d_P_digest_49 rfl rfl ?_
        refine g_iald hC _ _ (k) (zp_lt' hi 1 (by decide)) (zS_pr hi 1 (by decide)) rfl (by omega) (by decide) d_P_digest_50 rfl ?_
        refine g_iadd hC d_P_digest_51 rfl ?_
        refine g_goi hC rfl (z_runS hC (c_P_mix l D K q hq _ _ _) yy_P_mix ys_P_81 ⟨Nat.le_of_ble_eq_true rfl, Nat.le_of_ble_eq_true rfl⟩ ⟨Nat.zero_le _, Nat.zero_le _⟩ rfl (Nat.le_of_ble_eq_true rfl) d_P_digest_52) (fun r6 σ6 q6 => ?_)
        obtain ⟨rfl, w6⟩ := q6
        obtain rfl := w6.symm
        refine g_istore_n hC d_P_digest_55 rfl (by decide) ?_
        refine g_iinc hC (nI (k + 1)) d_P_digest_56 rfl rfl (nI_succ _).symm (by decide) ?_
        refine g_goto hC 26 d_P_digest_59 rfl ?_
        first | exact zG.to (ih (k + 1) (by omega)) rfl rfl ⟨rfl, congrArg (fun z => some (Value.int z)) (dgL_t (zdec_t hk8 h37)).symm, rfl, trivial⟩ | exact zG.to (ih (k + 1) (by omega)) rfl rfl ⟨rfl, congrArg (fun z => some (Value.int z)) (dgL_f (zdec_f hk8 h37)).symm, rfl, trivial⟩
  refine g_bipush hC (17) d_P_digest_0 (by decide) rfl ?_
  refine g_aload_n hC d_P_digest_2 rfl rfl ?_
  refine g_getI hC _ 1 0 (zp_lt hi) (zS_p hi) rfl fl_P_40 d_P_digest_3 rfl ?_
  refine g_goi hC rfl (z_runS hC (c_P_mix l D K q hq _ _ _) yy_P_mix ys_P_81 ⟨Nat.le_of_ble_eq_true rfl, Nat.le_of_ble_eq_true rfl⟩ ⟨Nat.zero_le _, Nat.zero_le _⟩ rfl (Nat.le_of_ble_eq_true rfl) d_P_digest_6) (fun r7 σ7 q7 => ?_)
  obtain ⟨rfl, w7⟩ := q7
  obtain rfl := w7.symm
  refine g_aload_n hC d_P_digest_9 rfl rfl ?_
  refine g_getI hC _ 1 1 (zp_lt hi) (zS_p hi) rfl fl_P_9 d_P_digest_10 rfl ?_
  refine g_goi hC rfl (z_runS hC (c_P_mix l D K q hq _ _ _) yy_P_mix ys_P_81 ⟨Nat.le_of_ble_eq_true rfl, Nat.le_of_ble_eq_true rfl⟩ ⟨Nat.zero_le _, Nat.zero_le _⟩ rfl (Nat.le_of_ble_eq_true rfl) d_P_digest_13) (fun r8 σ8 q8 => ?_)
  obtain ⟨rfl, w8⟩ := q8
  obtain rfl := w8.symm
  refine g_aload_n hC d_P_digest_16 rfl rfl ?_
  refine g_getI hC _ 1 4 (zp_lt hi) (zS_p hi) rfl fl_P_49 d_P_digest_17 rfl ?_
  refine g_goi hC rfl (z_runS hC (c_P_mix l D K q hq _ _ _) yy_P_mix ys_P_81 ⟨Nat.le_of_ble_eq_true rfl, Nat.le_of_ble_eq_true rfl⟩ ⟨Nat.zero_le _, Nat.zero_le _⟩ rfl (Nat.le_of_ble_eq_true rfl) d_P_digest_20) (fun r9 σ9 q9 => ?_)
  obtain ⟨rfl, w9⟩ := q9
  obtain rfl := w9.symm
  refine g_istore_n hC d_P_digest_23 rfl (by decide) ?_
  refine g_iconst hC (0) d_P_digest_24 (by decide) rfl ?_
  refine g_istore_n hC d_P_digest_25 rfl (by decide) ?_
  exact zG.to (J26 8 0 (by omega)) rfl rfl ⟨rfl, rfl, rfl, trivial⟩
set_option maxHeartbeats 4000000 in
set_option maxRecDepth 100000 in
theorem c_P_sealOfSigner (l : Launch) (D : va_G) (K : Nat → ClassId) (q : Nat → Nat) (hq : zI q) (i : Nat) (hi : i < 9) (σ : zm) (pn wn : Nat) (hpn : pn ≤ 4) (hwn : wn ≤ 24) (h6 : σ (zp i) 6 = nI pn) (h11 : σ (zp i) 11 = nI wn) : zMi l y_P_sealOfSigner b_P_sealOfSigner 1 (some .int) 3 D K q [.ref (q (zp i))] σ (fun r σ' => r = zsea σ i pn wn ∧ σ' = σ) := by
  refine zMi.of (own := "AppDesk$Pack") (lv := [(0, .ref (q (zp i)))]) (by decide) rfl hq (Nat.le_of_ble_eq_true rfl) rfl ?_
  intro p e s m below meth c hC hr hlk
  refine g_aload_n hC d_P_sealOfSigner_0 rfl rfl ?_
  refine g_goi hC rfl (z_runV hC (c_P_digest l D K q hq _ hi _ pn wn hpn hwn h6 h11) yy_P_digest yv_P_76 (zp_lt hi) (zS_p hi) ⟨Nat.le_of_ble_eq_true rfl, Nat.le_of_ble_eq_true rfl⟩ ⟨Nat.zero_le _, Nat.zero_le _⟩ rfl (Nat.le_of_ble_eq_true rfl) d_P_sealOfSigner_1) (fun r0 σ0 q0 => ?_)
  obtain ⟨rfl, w0⟩ := q0
  obtain rfl := w0.symm
  refine g_ldc hC _ d_P_sealOfSigner_4 (by exact kk_P_80) rfl ?_
  refine g_aload_n hC d_P_sealOfSigner_6 rfl rfl ?_
  refine g_getI hC _ 1 2 (zp_lt hi) (zS_p hi) rfl fl_P_43 d_P_sealOfSigner_7 rfl ?_
  refine g_iconst hC (1) d_P_sealOfSigner_10 (by decide) rfl ?_
  refine g_iadd hC d_P_sealOfSigner_11 rfl ?_
  refine g_imul hC d_P_sealOfSigner_12 rfl ?_
  refine g_ixor hC d_P_sealOfSigner_13 rfl ?_
  exact g_iret hC hr hlk d_P_sealOfSigner_14 ⟨rfl, rfl⟩
set_option maxHeartbeats 4000000 in
set_option maxRecDepth 100000 in
theorem c_P_copyFrom (l : Launch) (D : va_G) (K : Nat → ClassId) (q : Nat → Nat) (hq : zI q) (i : Nat) (hi : i < 9) (k : Nat) (hk : k < 9) (hne : i ≠ k) (σ : zm) : zMv l y_P_copyFrom b_P_copyFrom 2 none 2 D K q [.ref (q (zp i)), .ref (q (zp k))] σ (fun σ' => zPk σ σ' i k) := by
  refine zMv.of (own := "AppDesk$Pack") (lv := [(0, .ref (q (zp i))), (1, .ref (q (zp k)))]) (by decide) rfl hq (Nat.le_of_ble_eq_true rfl) rfl ?_
  intro p e s m below meth c hC hr hlk
  have hz : zp i + 7 ≤ zp k ∨ zp k + 7 ≤ zp i := by unfold zp; omega
  refine g_aload_n hC d_P_copyFrom_0 rfl rfl ?_
  refine g_aload_n hC d_P_copyFrom_1 rfl rfl ?_
  refine g_getI hC _ 1 0 (zp_lt hk) (zS_p hk) rfl fl_P_40 d_P_copyFrom_2 rfl ?_
  refine g_aload_n hC d_P_copyFrom_5 rfl rfl ?_
  refine g_getI hC _ 1 1 (zp_lt hk) (zS_p hk) rfl fl_P_9 d_P_copyFrom_6 rfl ?_
  refine g_aload_n hC d_P_copyFrom_9 rfl rfl ?_
  refine g_getI hC _ 1 2 (zp_lt hk) (zS_p hk) rfl fl_P_43 d_P_copyFrom_10 rfl ?_
  refine g_gov hC rfl (z_runV hC (c_P_beginAnew l D K q hq _ hi _ _ _ _) yy_P_beginAnew yv_P_58 (zp_lt hi) (zS_p hi) ⟨Nat.le_of_ble_eq_true rfl, Nat.le_of_ble_eq_true rfl⟩ ⟨Nat.zero_le _, Nat.zero_le _⟩ rfl (Nat.le_of_ble_eq_true rfl) d_P_copyFrom_13) (fun σ0 q0 => ?_)
  obtain rfl := q0.symm
  refine g_aload_n hC d_P_copyFrom_16 rfl rfl ?_
  refine g_aload_n hC d_P_copyFrom_17 rfl rfl ?_
  refine g_getV hC _ 1 3 (σ (zp k) 3) (by simp (disch := omega) only [zu_row, zbeg_off]) (zp_lt hk) (zS_p hk) rfl fl_P_46 d_P_copyFrom_18 rfl ?_
  refine g_putI hC _ 1 3 (zp_lt hi) (zS_p hi) rfl fp_P_46 d_P_copyFrom_21 rfl ?_
  refine g_aload_n hC d_P_copyFrom_24 rfl rfl ?_
  refine g_aload_n hC d_P_copyFrom_25 rfl rfl ?_
  refine g_getV hC _ 1 4 (σ (zp k) 4) (by simp (disch := omega) only [zu_row, zbeg_off]) (zp_lt hk) (zS_p hk) rfl fl_P_49 d_P_copyFrom_26 rfl ?_
  refine g_putI hC _ 1 4 (zp_lt hi) (zS_p hi) rfl fp_P_49 d_P_copyFrom_29 rfl ?_
  refine g_aload_n hC d_P_copyFrom_32 rfl rfl ?_
  refine g_getR hC _ 1 5 _ (zp_lt hk) (zS_p hk) rfl fl_P_15 d_P_copyFrom_33 rfl ?_
  refine g_iconst hC (0) d_P_copyFrom_36 (by decide) rfl ?_
  refine g_aload_n hC d_P_copyFrom_37 rfl rfl ?_
  refine g_getR hC _ 1 5 _ (zp_lt hi) (zS_p hi) rfl fl_P_15 d_P_copyFrom_38 rfl ?_
  refine g_iconst hC (0) d_P_copyFrom_41 (by decide) rfl ?_
  refine g_bipush hC (8) d_P_copyFrom_42 (by decide) rfl ?_
  refine g_copyR hC _ _ _ _ 8 kcp_l (zp_lt' hk 1 (by decide)) (zS_pr hk 1 (by decide)) (zp_lt' hi 1 (by decide)) (zS_pr hi 1 (by decide)) (by decide) (by decide) (by decide) (by decide) ⟨Nat.le_of_ble_eq_true rfl, Nat.le_of_ble_eq_true rfl⟩ (Nat.le_of_ble_eq_true rfl) d_P_copyFrom_44 rfl (fun τ1 o1 e1 => ?_)
  refine g_aload_n hC d_P_copyFrom_47 rfl rfl ?_
  refine g_aload_n hC d_P_copyFrom_48 rfl rfl ?_
  refine g_getV hC _ 1 6 (σ (zp k) 6) (by simp (disch := omega) only [zu_row, zbeg_off, o1]) (zp_lt hk) (zS_p hk) rfl fl_P_52 d_P_copyFrom_49 rfl ?_
  refine g_putI hC _ 1 6 (zp_lt hi) (zS_p hi) rfl fp_P_52 d_P_copyFrom_52 rfl ?_
  refine g_aload_n hC d_P_copyFrom_55 rfl rfl ?_
  refine g_getR hC _ 1 7 _ (zp_lt hk) (zS_p hk) rfl fl_P_25 d_P_copyFrom_56 rfl ?_
  refine g_iconst hC (0) d_P_copyFrom_59 (by decide) rfl ?_
  refine g_aload_n hC d_P_copyFrom_60 rfl rfl ?_
  refine g_getR hC _ 1 7 _ (zp_lt hi) (zS_p hi) rfl fl_P_25 d_P_copyFrom_61 rfl ?_
  refine g_iconst hC (0) d_P_copyFrom_64 (by decide) rfl ?_
  refine g_iconst hC (4) d_P_copyFrom_65 (by decide) rfl ?_
  refine g_copyR hC _ _ _ _ 4 kcp_l (zp_lt' hk 2 (by decide)) (zS_pr hk 2 (by decide)) (zp_lt' hi 2 (by decide)) (zS_pr hi 2 (by decide)) (by decide) (by decide) (by decide) (by decide) ⟨Nat.le_of_ble_eq_true rfl, Nat.le_of_ble_eq_true rfl⟩ (Nat.le_of_ble_eq_true rfl) d_P_copyFrom_66 rfl (fun τ2 o2 e2 => ?_)
  refine g_aload_n hC d_P_copyFrom_69 rfl rfl ?_
  refine g_getR hC _ 1 8 _ (zp_lt hk) (zS_p hk) rfl fl_P_28 d_P_copyFrom_70 rfl ?_
  refine g_iconst hC (0) d_P_copyFrom_73 (by decide) rfl ?_
  refine g_aload_n hC d_P_copyFrom_74 rfl rfl ?_
  refine g_getR hC _ 1 8 _ (zp_lt hi) (zS_p hi) rfl fl_P_28 d_P_copyFrom_75 rfl ?_
  refine g_iconst hC (0) d_P_copyFrom_78 (by decide) rfl ?_
  refine g_iconst hC (4) d_P_copyFrom_79 (by decide) rfl ?_
  refine g_copyR hC _ _ _ _ 4 kcp_l (zp_lt' hk 3 (by decide)) (zS_pr hk 3 (by decide)) (zp_lt' hi 3 (by decide)) (zS_pr hi 3 (by decide)) (by decide) (by decide) (by decide) (by decide) ⟨Nat.le_of_ble_eq_true rfl, Nat.le_of_ble_eq_true rfl⟩ (Nat.le_of_ble_eq_true rfl) d_P_copyFrom_80 rfl (fun τ3 o3 e3 => ?_)
  refine g_aload_n hC d_P_copyFrom_83 rfl rfl ?_
  refine g_getR hC _ 1 9 _ (zp_lt hk) (zS_p hk) rfl fl_P_31 d_P_copyFrom_84 rfl ?_
  refine g_iconst hC (0) d_P_copyFrom_87 (by decide) rfl ?_
  refine g_aload_n hC d_P_copyFrom_88 rfl rfl ?_
  refine g_getR hC _ 1 9 _ (zp_lt hi) (zS_p hi) rfl fl_P_31 d_P_copyFrom_89 rfl ?_
  refine g_iconst hC (0) d_P_copyFrom_92 (by decide) rfl ?_
  refine g_iconst hC (4) d_P_copyFrom_93 (by decide) rfl ?_
  refine g_copyR hC _ _ _ _ 4 kcp_l (zp_lt' hk 4 (by decide)) (zS_pr hk 4 (by decide)) (zp_lt' hi 4 (by decide)) (zS_pr hi 4 (by decide)) (by decide) (by decide) (by decide) (by decide) ⟨Nat.le_of_ble_eq_true rfl, Nat.le_of_ble_eq_true rfl⟩ (Nat.le_of_ble_eq_true rfl) d_P_copyFrom_94 rfl (fun τ4 o4 e4 => ?_)
  refine g_aload_n hC d_P_copyFrom_97 rfl rfl ?_
  refine g_getR hC _ 1 10 _ (zp_lt hk) (zS_p hk) rfl fl_P_34 d_P_copyFrom_98 rfl ?_
  refine g_iconst hC (0) d_P_copyFrom_101 (by decide) rfl ?_
  refine g_aload_n hC d_P_copyFrom_102 rfl rfl ?_
  refine g_getR hC _ 1 10 _ (zp_lt hi) (zS_p hi) rfl fl_P_34 d_P_copyFrom_103 rfl ?_
  refine g_iconst hC (0) d_P_copyFrom_106 (by decide) rfl ?_
  refine g_iconst hC (4) d_P_copyFrom_107 (by decide) rfl ?_
  refine g_copyR hC _ _ _ _ 4 kcp_l (zp_lt' hk 5 (by decide)) (zS_pr hk 5 (by decide)) (zp_lt' hi 5 (by decide)) (zS_pr hi 5 (by decide)) (by decide) (by decide) (by decide) (by decide) ⟨Nat.le_of_ble_eq_true rfl, Nat.le_of_ble_eq_true rfl⟩ (Nat.le_of_ble_eq_true rfl) d_P_copyFrom_108 rfl (fun τ5 o5 e5 => ?_)
  refine g_aload_n hC d_P_copyFrom_111 rfl rfl ?_
  refine g_aload_n hC d_P_copyFrom_112 rfl rfl ?_
  refine g_getV hC _ 1 11 (σ (zp k) 11) (by simp (disch := omega) only [zu_row, zbeg_off, o1, o2, o3, o4, o5]) (zp_lt hk) (zS_p hk) rfl fl_P_55 d_P_copyFrom_113 rfl ?_
  refine g_putI hC _ 1 11 (zp_lt hi) (zS_p hi) rfl fp_P_55 d_P_copyFrom_116 rfl ?_
  refine g_aload_n hC d_P_copyFrom_119 rfl rfl ?_
  refine g_getR hC _ 1 12 _ (zp_lt hk) (zS_p hk) rfl fl_P_37 d_P_copyFrom_120 rfl ?_
  refine g_iconst hC (0) d_P_copyFrom_123 (by decide) rfl ?_
  refine g_aload_n hC d_P_copyFrom_124 rfl rfl ?_
  refine g_getR hC _ 1 12 _ (zp_lt hi) (zS_p hi) rfl fl_P_37 d_P_copyFrom_125 rfl ?_
  refine g_iconst hC (0) d_P_copyFrom_128 (by decide) rfl ?_
  refine g_bipush hC (24) d_P_copyFrom_129 (by decide) rfl ?_
  refine g_copyR hC _ _ _ _ 24 kcp_l (zp_lt' hk 6 (by decide)) (zS_pr hk 6 (by decide)) (zp_lt' hi 6 (by decide)) (zS_pr hi 6 (by decide)) (by decide) (by decide) (by decide) (by decide) ⟨Nat.le_of_ble_eq_true rfl, Nat.le_of_ble_eq_true rfl⟩ (Nat.le_of_ble_eq_true rfl) d_P_copyFrom_131 rfl (fun τ6 o6 e6 => ?_)
  exact g_vret hC hr hlk d_P_copyFrom_134 (by
    refine ⟨fun a b ha => ?_, ⟨?_, ?_, ?_, ?_, ?_, ?_, ?_⟩, fun b hb => ?_, fun b hb => ⟨?_, ?_, ?_, ?_⟩, fun b hb => ?_⟩
    · simp (disch := omega) only [zu_row, zu_col, zu_eq, zbeg_off, zbeg_0, zbeg_1, zbeg_2, o1, o2, o3, o4, o5, o6]
    · simp (disch := omega) only [zu_row, zu_col, zu_eq, zbeg_off, zbeg_0, zbeg_1, zbeg_2, o1, o2, o3, o4, o5, o6]
    · simp (disch := omega) only [zu_row, zu_col, zu_eq, zbeg_off, zbeg_0, zbeg_1, zbeg_2, o1, o2, o3, o4, o5, o6]
    · simp (disch := omega) only [zu_row, zu_col, zu_eq, zbeg_off, zbeg_0, zbeg_1, zbeg_2, o1, o2, o3, o4, o5, o6]
    · simp (disch := omega) only [zu_row, zu_col, zu_eq, zbeg_off, zbeg_0, zbeg_1, zbeg_2, o1, o2, o3, o4, o5, o6]
    · simp (disch := omega) only [zu_row, zu_col, zu_eq, zbeg_off, zbeg_0, zbeg_1, zbeg_2, o1, o2, o3, o4, o5, o6]
    · simp (disch := omega) only [zu_row, zu_col, zu_eq, zbeg_off, zbeg_0, zbeg_1, zbeg_2, o1, o2, o3, o4, o5, o6]
    · simp (disch := omega) only [zu_row, zu_col, zu_eq, zbeg_off, zbeg_0, zbeg_1, zbeg_2, o1, o2, o3, o4, o5, o6]
    · simp (disch := omega) only [zu_row, zu_col, zu_eq, zbeg_off, zbeg_0, zbeg_1, zbeg_2, o1, o2, o3, o4, o5, o6, e1]
    · simp (disch := omega) only [zu_row, zu_col, zu_eq, zbeg_off, zbeg_0, zbeg_1, zbeg_2, o1, o2, o3, o4, o5, o6, e2]
    · simp (disch := omega) only [zu_row, zu_col, zu_eq, zbeg_off, zbeg_0, zbeg_1, zbeg_2, o1, o2, o3, o4, o5, o6, e3]
    · simp (disch := omega) only [zu_row, zu_col, zu_eq, zbeg_off, zbeg_0, zbeg_1, zbeg_2, o1, o2, o3, o4, o5, o6, e4]
    · simp (disch := omega) only [zu_row, zu_col, zu_eq, zbeg_off, zbeg_0, zbeg_1, zbeg_2, o1, o2, o3, o4, o5, o6, e5]
    · simp (disch := omega) only [zu_row, zu_col, zu_eq, zbeg_off, zbeg_0, zbeg_1, zbeg_2, o1, o2, o3, o4, o5, o6, e6])
