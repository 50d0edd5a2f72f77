/-! the desk's methods, second half -/
theorem zclr_off (σ : zm) {n a : Nat} (h : a ≠ za n) : zclr σ n a = σ a := by
  unfold zclr
  rw [zu_row _ _ h, zu_row _ _ h, zu_row _ _ h, zu_row _ _ h]
theorem zpop_off (σ : zm) {n a : Nat} (h : a ≠ za n) : zpop σ n a = σ a := zu_row _ _ h
def zgrok (σ : zm) (n x : Int32) : Bool := zinst σ n && zhas (σ (zp n.toNatClampNeg) 4) x 8 && !zhas (σ (za n.toNatClampNeg) 2) x 8
def zrvok (σ : zm) (n x : Int32) : Bool := zinst σ n && zhas (σ (za n.toNatClampNeg) 2) x 8
def zsnok (σ : zm) (n x : Int32) (z : Nat) : Bool := zinst σ n && zin x 10 && decide (z < 8)
def zap1 (σ : zm) (k : Nat) (x : Int32) : Int32 := if x = 0 then σ (zp k) 1 else if x = 1 then σ (zp k) 2 else if x = 2 then (if σ (za k) 5 = 0 then 0 else 1) else if x = 3 then (if σ (za k) 5 = 0 then 0 else σ (za k) 6) else if x = 4 then (if σ (za k) 5 = 0 then 0 else σ (za k) 7) else if x = 5 then (if σ (za k) 5 = 0 then 0 else zup σ k) else if x = 6 then zbc (σ (za k) 3) else -1
def zapp (σ : zm) (n x : Int32) : Int32 := if zinst σ n then zap1 σ n.toNatClampNeg x else -1
theorem zapp_t {σ : zm} {n x : Int32} {k : Nat} (h : zinst σ n = true) (hc : n.toNatClampNeg = k) : zapp σ n x = zap1 σ k x := by
  unfold zapp
  rw [if_pos h, hc]
def zkpt (σ : zm) (n x : Int32) : Int32 := if zinst σ n then zvu σ n.toNatClampNeg x else 0
def zSnd (σ : zm) (i pn wn : Nat) : Prop := 0 < pn ∧ 0 < wn ∧ σ (zp i) 3 = zsea σ i pn wn ∧ ∃ H, zCons (σ (zp i + 6)) wn (σ (zp i + 5)) pn H
def zall (P : Nat → Bool) : Nat → Nat → Bool
  | 0, _ => true
  | f + 1, i => P i && zall P f (i + 1)
theorem zall_t {P : Nat → Bool} {f i : Nat} (h : P i = true) : zall P (f + 1) i = zall P f (i + 1) := by
  show (P i && _) = _
  rw [h, Bool.true_and]
theorem zall_f {P : Nat → Bool} {f i : Nat} (h : P i = false) : zall P (f + 1) i = false := by
  show (P i && _) = _
  rw [h, Bool.false_and]
def zenp (σ : zm) (i nm p : Nat) : Bool := !(zdec σ i (nI p) && zoth σ (nI p) (nI nm))
def zent (σ : zm) (i nm : Nat) : Bool := !(!decide (σ (za nm) 0 = 0) && (!decide (σ (zp nm) 2 = σ (zp i) 2) || decide (σ (zp i) 1 ≤ σ (zp nm) 1))) && zall (zenp σ i nm) 8 0
def zmat (σ : zm) (a : Nat) (g ac : Int32) (k : Nat) : Bool := decide (σ (zp a + 2) k = ac) && (decide (σ (zp a + 3) k = 1) || decide (nI a = g)) && zgua σ g (σ (zp a + 4) k)
def zptl (σ : zm) (a : Nat) (g ac : Int32) : Nat → Nat → Int32
  | 0, _ => -1
  | f + 1, i => if zmat σ a g ac i then σ (zp a + 5) i else zptl σ a g ac f (i + 1)
theorem zptl_t {σ : zm} {a f i : Nat} {g ac : Int32} (h : zmat σ a g ac i = true) : zptl σ a g ac (f + 1) i = σ (zp a + 5) i := if_pos h
theorem zptl_f {σ : zm} {a f i : Nat} {g ac : Int32} (h : zmat σ a g ac i = false) : zptl σ a g ac (f + 1) i = zptl σ a g ac f (i + 1) := if_neg (zif_f h)
def zptb (σ : zm) (a : Nat) (g ac : Int32) (pn : Nat) : Int32 := if σ (za a) 0 = 0 ∨ ¬ σ (za a) 5 = 0 then -1 else zptl σ a g ac pn 0
def zdf (σ : zm) (z : Nat) : zm := zu (zsh σ (z - 1)) 2 0 (nI (z - 1))
theorem zdf_off (σ : zm) (z : Nat) {a : Nat} (h : a ≠ 2 ∧ a ≠ 3 ∧ a ≠ 4 ∧ a ≠ 5) : zdf σ z a = σ a := by
  unfold zdf
  rw [zu_row _ _ h.1, zsh_off _ _ h.2]
def zdlv (τ : zm) (g ac v : Int32) (pf : Nat → Nat) : Nat → Nat → Int32 × zm
  | 0, _ => (-1, τ)
  | f + 1, i => if zptb τ i g ac (pf i) = -1 then zdlv τ g ac v pf f (i + 1) else (nI i, zrun τ i (zptb τ i g ac (pf i)) v g)
theorem zdlv_t {τ : zm} {g ac v : Int32} {pf : Nat → Nat} {f i : Nat} (h : ¬ zptb τ i g ac (pf i) = -1) : zdlv τ g ac v pf (f + 1) i = (nI i, zrun τ i (zptb τ i g ac (pf i)) v g) := if_neg h
theorem zdlv_f {τ : zm} {g ac v : Int32} {pf : Nat → Nat} {f i : Nat} (h : zptb τ i g ac (pf i) = -1) : zdlv τ g ac v pf (f + 1) i = zdlv τ g ac v pf f (i + 1) := if_pos h
def zdel (σ : zm) (z : Nat) (pf : Nat → Nat) : Int32 × zm := if z = 0 then (-1, σ) else zdlv (zdf σ z) (σ 3 0) (σ 4 0) (σ 5 0) pf 8 0
def zqad (σ : zm) (z : Nat) (g1 g2 g3 : Int32) : zm := if z < 8 then zu (zrow σ z g1 g2 g3) 2 0 (nI (z + 1)) else σ
def zsfs (σ : zm) (a z : Nat) : zm := zu (zqad (zpop (zpop σ a) a) z (nI a) (zup2 σ a) (zup σ a)) (za a) 6 (zqad (zpop (zpop σ a) a) z (nI a) (zup2 σ a) (zup σ a) (za a) 6 + 1)
def zpsp (σ : zm) (a : Nat) (v : Int32) : zm := zu (zpsh σ a v) (za a) 6 (zpsh σ a v (za a) 6 + 1)
def zdo (σ : zm) (a wn z : Nat) : Bool × zm :=
  if zwip σ a wn &&& 15 = 12 then (zin (zup2 σ a) 10, if zin (zup2 σ a) 10 then zsfs σ a z else σ)
  else if zwip σ a wn &&& 15 = 13 then (true, zpsp σ a (zb (zhold σ (nI a) (zwip σ a wn >>> ((4 : Int32) &&& 31)))))
  else if zwip σ a wn &&& 15 = 10 then (zin (zup σ a) 8, if zin (zup σ a) 8 then zgot σ a else σ)
  else if zwip σ a wn &&& 15 = 11 then (zkok σ a, if zkok σ a then zkep σ a else σ)
  else if zwip σ a wn &&& 15 = 0 ∨ zwip σ a wn &&& 15 = 8 ∨ zwip σ a wn &&& 15 = 9 then (true, zturn σ a (zwip σ a wn &&& 15) (zwip σ a wn >>> ((4 : Int32) &&& 31)))
  else (true, zu (zpl σ a (zwip σ a wn &&& 15) (zwip σ a wn >>> ((4 : Int32) &&& 31))) (za a) 6 (zpl σ a (zwip σ a wn &&& 15) (zwip σ a wn >>> ((4 : Int32) &&& 31)) (za a) 6 + 1))
theorem zdo_12 {σ : zm} {a wn z : Nat} (h : zwip σ a wn &&& 15 = 12) : zdo σ a wn z = (zin (zup2 σ a) 10, if zin (zup2 σ a) 10 then zsfs σ a z else σ) := if_pos h
theorem zdo_13 {σ : zm} {a wn z : Nat} (h : zwip σ a wn &&& 15 = 13) : zdo σ a wn z = (true, zpsp σ a (zb (zhold σ (nI a) (zwip σ a wn >>> ((4 : Int32) &&& 31))))) := by
  unfold zdo
  rw [if_neg (by rw [h]; decide), if_pos h]
theorem zdo_10 {σ : zm} {a wn z : Nat} (h : zwip σ a wn &&& 15 = 10) : zdo σ a wn z = (zin (zup σ a) 8, if zin (zup σ a) 8 then zgot σ a else σ) := by
  unfold zdo
  rw [if_neg (by rw [h]; decide), if_neg (by rw [h]; decide), if_pos h]
theorem zdo_11 {σ : zm} {a wn z : Nat} (h : zwip σ a wn &&& 15 = 11) : zdo σ a wn z = (zkok σ a, if zkok σ a then zkep σ a else σ) := by
  unfold zdo
  rw [if_neg (by rw [h]; decide), if_neg (by rw [h]; decide), if_neg (by rw [h]; decide), if_pos h]
theorem zdo_j {σ : zm} {a wn z : Nat} (h : zwip σ a wn &&& 15 = 0 ∨ zwip σ a wn &&& 15 = 8 ∨ zwip σ a wn &&& 15 = 9) : zdo σ a wn z = (true, zturn σ a (zwip σ a wn &&& 15) (zwip σ a wn >>> ((4 : Int32) &&& 31))) := by
  have hn : ∀ v : Int32, (v = 12 ∨ v = 13 ∨ v = 10 ∨ v = 11) → ¬ zwip σ a wn &&& 15 = v := by
    intro v hv e
    rw [e] at h
    rcases hv with rfl | rfl | rfl | rfl <;> exact absurd h (by decide)
  unfold zdo
  rw [if_neg (hn _ (by decide)), if_neg (hn _ (by decide)), if_neg (hn _ (by decide)), if_neg (hn _ (by decide)), if_pos h]
theorem zdo_p {σ : zm} {a wn z : Nat} (h : ¬ zwip σ a wn &&& 15 = 12 ∧ ¬ zwip σ a wn &&& 15 = 13 ∧ ¬ zwip σ a wn &&& 15 = 10 ∧ ¬ zwip σ a wn &&& 15 = 11 ∧ ¬ zwip σ a wn &&& 15 = 0 ∧ ¬ zwip σ a wn &&& 15 = 8 ∧ ¬ zwip σ a wn &&& 15 = 9) : zdo σ a wn z = (true, zu (zpl σ a (zwip σ a wn &&& 15) (zwip σ a wn >>> ((4 : Int32) &&& 31))) (za a) 6 (zpl σ a (zwip σ a wn &&& 15) (zwip σ a wn >>> ((4 : Int32) &&& 31)) (za a) 6 + 1)) := by
  obtain ⟨h1, h2, h3, h4, h5, h6, h7⟩ := h
  unfold zdo
  rw [if_neg h1, if_neg h2, if_neg h3, if_neg h4, if_neg (fun q => q.elim h5 (fun q => q.elim h6 h7))]
/-- whose turn it is: the first that runs, of f names from the one behind the last on -/
def znx (σ : zm) (L : Nat) : Nat → Nat → Int32
  | 0, _ => -1
  | f + 1, i => if σ (za ((L + i - 1) % 8)) 5 = 0 then znx σ L f (i + 1) else nI ((L + i - 1) % 8)
theorem znx_t {σ : zm} {L f i : Nat} (h : ¬ σ (za ((L + i - 1) % 8)) 5 = 0) : znx σ L (f + 1) i = nI ((L + i - 1) % 8) := if_neg h
theorem znx_f {σ : zm} {L f i : Nat} (h : σ (za ((L + i - 1) % 8)) 5 = 0) : znx σ L (f + 1) i = znx σ L f (i + 1) := if_pos h
theorem znx_i {L k : Nat} (h : 1 ≤ k) : nI L - 1 + nI k = nI (L + k - 1) := by
  obtain ⟨j, rfl⟩ : ∃ j, k = j + 1 := ⟨k - 1, by omega⟩
  rw [← nI_1 j, show L + (j + 1) - 1 = L + j by omega, ← nI_add]
  generalize nI L = x
  generalize nI j = y
  rw [Int32.sub_eq_add_neg, Int32.add_assoc]
  congr 1
  rw [Int32.add_comm y 1, ← Int32.add_assoc, show (-1 : Int32) + 1 = 0 by decide, Int32.zero_add]
set_option maxHeartbeats 4000000 in
set_option maxRecDepth 100000 in
theorem c_D_grant (l : Launch) (D : va_G) (K : Nat → ClassId) (q : Nat → Nat) (hq : zI q) (n x : Int32) (σ : zm) : zMi l y_D_grant b_D_grant 3 (some .boolean) 3 D K q [.ref (q (0)), .int (n), .int (x)] σ (fun r σ' => r = zb (zgrok σ n x) ∧ σ' = if zgrok σ n x then zu σ (za n.toNatClampNeg) 2 (σ (za n.toNatClampNeg) 2 ||| (1 <<< (x &&& 31))) else σ) := by
  refine zMi.of (own := "AppDesk") (lv := [(0, .ref (q (0))), (1, .int (n)), (2, .int (x))]) (by decide) rfl hq (Nat.le_of_ble_eq_true rfl) rfl ?_
  intro p e s m below meth c hC hr hlk
  refine g_aload_n hC d_D_grant_0 rfl rfl ?_
  refine g_iload_n hC d_D_grant_1 rfl rfl ?_
  refine g_goi hC rfl (z_runV hC (c_D_isInstalled l D K q hq _ _ ) yy_D_isInstalled yv_D_97 (by decide) rfl ⟨Nat.le_of_ble_eq_true rfl, Nat.le_of_ble_eq_true rfl⟩ ⟨Nat.zero_le _, Nat.zero_le _⟩ rfl (Nat.le_of_ble_eq_true rfl) d_D_grant_2) (fun r0 σ0 q0 => ?_)
  obtain ⟨rfl, w0⟩ := q0
  obtain rfl := w0.symm
  refine g_ifeq_b hC 37 d_D_grant_5 rfl rfl (fun h5 => ?_) (fun h5 => ?_)
  ·
    have hok : zgrok σ n x = false := by first | (simp [zgrok, h5]; done) | (simp [zgrok, h5, hc, h21]; done) | (simp [zgrok, h5, hc, h21, h34]; done)
    refine g_iconst hC (0) d_D_grant_37 (by decide) rfl ?_
    exact g_zret hC hr hlk d_D_grant_38 (Or.inl rfl) ⟨by rw [hok]; rfl, (if_neg (zif_f hok)).symm⟩
  ·
    obtain ⟨k, hk, hx⟩ := zin_of (n := 8) (by decide) (zinst_in h5)
    have hc : (n).toNatClampNeg = k := by rw [hx]; exact nI_clamp (by omega)
    refine g_aload_n hC d_D_grant_8 rfl rfl ?_
    refine g_getR hC _ 0 1 _ (by decide) rfl rfl fl_D_18 d_D_grant_9 rfl ?_
    refine g_iload_n hC d_D_grant_12 rfl rfl ?_
    refine g_aald hC _ _ k _ (by decide) rfl hx hk (by decide) (zS_app hk) d_D_grant_13 rfl ?_
    refine g_getR hC _ 2 1 _ (za_lt hk) (zS_a hk) rfl fl_D_107 d_D_grant_14 rfl ?_
    refine g_iload_n hC d_D_grant_17 rfl rfl ?_
    refine g_goi hC rfl (z_runV hC (c_P_asksFor l D K q hq _ (Nat.lt_succ_of_lt hk) _ _) yy_P_asksFor yv_D_57 (zp_lt (Nat.lt_succ_of_lt hk)) (zS_p (Nat.lt_succ_of_lt hk)) ⟨Nat.le_of_ble_eq_true rfl, Nat.le_of_ble_eq_true rfl⟩ ⟨Nat.zero_le _, Nat.zero_le _⟩ rfl (Nat.le_of_ble_eq_true rfl) d_D_grant_18) (fun r1 σ1 q1 => ?_)
    obtain ⟨rfl, w1⟩ := q1
    obtain rfl := w1.symm
    refine g_ifeq_b hC 37 d_D_grant_21 rfl rfl (fun h21 => ?_) (fun h21 => ?_)
    ·
      have hok : zgrok σ n x = false := by first | (simp [zgrok, h5]; done) | (simp [zgrok, h5, hc, h21]; done) | (simp [zgrok, h5, hc, h21, h34]; done)
      refine g_iconst hC (0) d_D_grant_37 (by decide) rfl ?_
      exact g_zret hC hr hlk d_D_grant_38 (Or.inl rfl) ⟨by rw [hok]; rfl, (if_neg (zif_f hok)).symm⟩
    ·
      refine g_aload_n hC d_D_grant_24 rfl rfl ?_
      refine g_getR hC _ 0 1 _ (by decide) rfl rfl fl_D_18 d_D_grant_25 rfl ?_
      refine g_iload_n hC d_D_grant_28 rfl rfl ?_
      refine g_aald hC _ _ k _ (by decide) rfl hx hk (by decide) (zS_app hk) d_D_grant_29 rfl ?_
      refine g_iload_n hC d_D_grant_30 rfl rfl ?_
      refine g_goi hC rfl (z_runV hC (c_A_wasGranted l D K q hq _ hk _ _ ) yy_A_wasGranted yv_D_110 (za_lt hk) (zS_a hk) ⟨Nat.le_of_ble_eq_true rfl, Nat.le_of_ble_eq_true rfl⟩ ⟨Nat.zero_le _, Nat.zero_le _⟩ rfl (Nat.le_of_ble_eq_true rfl) d_D_grant_31) (fun r2 σ2 q2 => ?_)
      obtain ⟨rfl, w2⟩ := q2
      obtain rfl := w2.symm
      refine g_ifeq_b hC 39 d_D_grant_34 rfl rfl (fun h34 => ?_) (fun h34 => ?_)
      ·
        have hok : zgrok σ n x = true := by simp [zgrok, h5, hc, h21, h34]
        refine g_aload_n hC d_D_grant_39 rfl rfl ?_
        refine g_getR hC _ 0 1 _ (by decide) rfl rfl fl_D_18 d_D_grant_40 rfl ?_
        refine g_iload_n hC d_D_grant_43 rfl rfl ?_
        refine g_aald hC _ _ k _ (by decide) rfl hx hk (by decide) (zS_app hk) d_D_grant_44 rfl ?_
        refine g_dup hC d_D_grant_45 rfl rfl ?_
        refine g_getI hC _ 2 2 (za_lt hk) (zS_a hk) rfl fl_D_113 d_D_grant_46 rfl ?_
        refine g_iconst hC (1) d_D_grant_49 (by decide) rfl ?_
        refine g_iload_n hC d_D_grant_50 rfl rfl ?_
        refine g_ishl hC d_D_grant_51 rfl ?_
        refine g_ior hC d_D_grant_52 rfl ?_
        refine g_putI hC _ 2 2 (za_lt hk) (zS_a hk) rfl fp_D_113 d_D_grant_53 rfl ?_
        refine g_iconst hC (1) d_D_grant_56 (by decide) rfl ?_
        exact g_zret hC hr hlk d_D_grant_57 (Or.inr rfl) ⟨by rw [hok]; rfl, by rw [if_pos hok, hc]⟩
      ·
        have hok : zgrok σ n x = false := by first | (simp [zgrok, h5]; done) | (simp [zgrok, h5, hc, h21]; done) | (simp [zgrok, h5, hc, h21, h34]; done)
        refine g_iconst hC (0) d_D_grant_37 (by decide) rfl ?_
        exact g_zret hC hr hlk d_D_grant_38 (Or.inl rfl) ⟨by rw [hok]; rfl, (if_neg (zif_f hok)).symm⟩
set_option maxHeartbeats 4000000 in
set_option maxRecDepth 100000 in
theorem c_D_revoke (l : Launch) (D : va_G) (K : Nat → ClassId) (q : Nat → Nat) (hq : zI q) (n x : Int32) (σ : zm) : zMi l y_D_revoke b_D_revoke 3 (some .boolean) 3 D K q [.ref (q (0)), .int (n), .int (x)] σ (fun r σ' => r = zb (zrvok σ n x) ∧ σ' = if zrvok σ n x then zu σ (za n.toNatClampNeg) 2 (σ (za n.toNatClampNeg) 2 &&& ((1 <<< (x &&& 31)) ^^^ (-1))) else σ) := by
  refine zMi.of (own := "AppDesk") (lv := [(0, .ref (q (0))), (1, .int (n)), (2, .int (x))]) (by decide) rfl hq (Nat.le_of_ble_eq_true rfl) rfl ?_
  intro p e s m below meth c hC hr hlk
  refine g_aload_n hC d_D_revoke_0 rfl rfl ?_
  refine g_iload_n hC d_D_revoke_1 rfl rfl ?_
  refine g_goi hC rfl (z_runV hC (c_D_isInstalled l D K q hq _ _ ) yy_D_isInstalled yv_D_97 (by decide) rfl ⟨Nat.le_of_ble_eq_true rfl, Nat.le_of_ble_eq_true rfl⟩ ⟨Nat.zero_le _, Nat.zero_le _⟩ rfl (Nat.le_of_ble_eq_true rfl) d_D_revoke_2) (fun r0 σ0 q0 => ?_)
  obtain ⟨rfl, w0⟩ := q0
  obtain rfl := w0.symm
  refine g_ifeq_b hC 21 d_D_revoke_5 rfl rfl (fun h5 => ?_) (fun h5 => ?_)
  ·
    have hok : zrvok σ n x = false := by first | (simp [zrvok, h5]; done) | (simp [zrvok, h5, hc, h18]; done)
    refine g_iconst hC (0) d_D_revoke_21 (by decide) rfl ?_
    exact g_zret hC hr hlk d_D_revoke_22 (Or.inl rfl) ⟨by rw [hok]; rfl, (if_neg (zif_f hok)).symm⟩
  ·
    obtain ⟨k, hk, hx⟩ := zin_of (n := 8) (by decide) (zinst_in h5)
    have hc : (n).toNatClampNeg = k := by rw [hx]; exact nI_clamp (by omega)
    refine g_aload_n hC d_D_revoke_8 rfl rfl ?_
    refine g_getR hC _ 0 1 _ (by decide) rfl rfl fl_D_18 d_D_revoke_9 rfl ?_
    refine g_iload_n hC d_D_revoke_12 rfl rfl ?_
    refine g_aald hC _ _ k _ (by decide) rfl hx hk (by decide) (zS_app hk) d_D_revoke_13 rfl ?_
    refine g_iload_n hC d_D_revoke_14 rfl rfl ?_
    refine g_goi hC rfl (z_runV hC (c_A_wasGranted l D K q hq _ hk _ _ ) yy_A_wasGranted yv_D_110 (za_lt hk) (zS_a hk) ⟨Nat.le_of_ble_eq_true rfl, Nat.le_of_ble_eq_true rfl⟩ ⟨Nat.zero_le _, Nat.zero_le _⟩ rfl (Nat.le_of_ble_eq_true rfl) d_D_revoke_15) (fun r1 σ1 q1 => ?_)
    obtain ⟨rfl, w1⟩ := q1
    obtain rfl := w1.symm
    refine g_ifne_b hC 23 d_D_revoke_18 rfl rfl (fun h18 => ?_) (fun h18 => ?_)
    ·
      have hok : zrvok σ n x = true := by simp [zrvok, h5, hc, h18]
      refine g_aload_n hC d_D_revoke_23 rfl rfl ?_
      refine g_getR hC _ 0 1 _ (by decide) rfl rfl fl_D_18 d_D_revoke_24 rfl ?_
      refine g_iload_n hC d_D_revoke_27 rfl rfl ?_
      refine g_aald hC _ _ k _ (by decide) rfl hx hk (by decide) (zS_app hk) d_D_revoke_28 rfl ?_
      refine g_dup hC d_D_revoke_29 rfl rfl ?_
      refine g_getI hC _ 2 2 (za_lt hk) (zS_a hk) rfl fl_D_113 d_D_revoke_30 rfl ?_
      refine g_iconst hC (1) d_D_revoke_33 (by decide) rfl ?_
      refine g_iload_n hC d_D_revoke_34 rfl rfl ?_
      refine g_ishl hC d_D_revoke_35 rfl ?_
      refine g_iconst hC (-1) d_D_revoke_36 (by decide) rfl ?_
      refine g_ixor hC d_D_revoke_37 rfl ?_
      refine g_iand hC d_D_revoke_38 rfl ?_
      refine g_putI hC _ 2 2 (za_lt hk) (zS_a hk) rfl fp_D_113 d_D_revoke_39 rfl ?_
      refine g_iconst hC (1) d_D_revoke_42 (by decide) rfl ?_
      exact g_zret hC hr hlk d_D_revoke_43 (Or.inr rfl) ⟨by rw [hok]; rfl, by rw [if_pos hok, hc]⟩
    ·
      have hok : zrvok σ n x = false := by first | (simp [zrvok, h5]; done) | (simp [zrvok, h5, hc, h18]; done)
      refine g_iconst hC (0) d_D_revoke_21 (by decide) rfl ?_
      exact g_zret hC hr hlk d_D_revoke_22 (Or.inl rfl) ⟨by rw [hok]; rfl, (if_neg (zif_f hok)).symm⟩
set_option maxHeartbeats 4000000 in
set_option maxRecDepth 100000 in
theorem c_D_send (l : Launch) (D : va_G) (K : Nat → ClassId) (q : Nat → Nat) (hq : zI q) (n x v : Int32) (σ : zm) (z : Nat) (hz : z ≤ 8) (h : σ 2 0 = nI z) : zMi l y_D_send b_D_send 4 (some .boolean) 2 D K q [.ref (q (0)), .int (n), .int (x), .int (v)] σ (fun r σ' => r = zb (zsnok σ n x z) ∧ σ' = if zsnok σ n x z then zu (zrow σ z n x v) 2 0 (nI (z + 1)) else σ) := by
  refine zMi.of (own := "AppDesk") (lv := [(0, .ref (q (0))), (1, .int (n)), (2, .int (x)), (3, .int (v))]) (by decide) rfl hq (Nat.le_of_ble_eq_true rfl) rfl ?_
  intro p e s m below meth c hC hr hlk
  refine g_aload_n hC d_D_send_0 rfl rfl ?_
  refine g_iload_n hC d_D_send_1 rfl rfl ?_
  refine g_goi hC rfl (z_runV hC (c_D_isInstalled l D K q hq _ _ ) yy_D_isInstalled yv_D_97 (by decide) rfl ⟨Nat.le_of_ble_eq_true rfl, Nat.le_of_ble_eq_true rfl⟩ ⟨Nat.zero_le _, Nat.zero_le _⟩ rfl (Nat.le_of_ble_eq_true rfl) d_D_send_2) (fun r0 σ0 q0 => ?_)
  obtain ⟨rfl, w0⟩ := q0
  obtain rfl := w0.symm
  refine g_ifeq_b hC 17 d_D_send_5 rfl rfl (fun h5 => ?_) (fun h5 => ?_)
  ·
    have hok : zsnok σ n x z = false := by first | (simp [zsnok, h5]; done) | (simp [zsnok, h5, h14]; done)
    refine g_iconst hC (0) d_D_send_17 (by decide) rfl ?_
    exact g_zret hC hr hlk d_D_send_18 (Or.inl rfl) ⟨by rw [hok]; rfl, (if_neg (zif_f hok)).symm⟩
  ·
    refine g_iload_n hC d_D_send_8 rfl rfl ?_
    refine g_bipush hC (10) d_D_send_9 (by decide) rfl ?_
    refine g_goi hC rfl (z_runS hC (c_D_isBelow l D K q hq _ _ _) yy_D_isBelow ys_D_41 ⟨Nat.le_of_ble_eq_true rfl, Nat.le_of_ble_eq_true rfl⟩ ⟨Nat.zero_le _, Nat.zero_le _⟩ rfl (Nat.le_of_ble_eq_true rfl) d_D_send_11) (fun r1 σ1 q1 => ?_)
    obtain ⟨rfl, w1⟩ := q1
    obtain rfl := w1.symm
    refine g_ifne_b hC 19 d_D_send_14 rfl rfl (fun h14 => ?_) (fun h14 => ?_)
    ·
      have hok : zsnok σ n x z = decide (z < 8) := by simp [zsnok, h5, h14]
      refine g_aload_n hC d_D_send_19 rfl rfl ?_
      refine g_getR hC _ 0 2 _ (by decide) rfl rfl fl_D_26 d_D_send_20 rfl ?_
      refine g_iload_n hC d_D_send_23 rfl rfl ?_
      refine g_iload_n hC d_D_send_24 rfl rfl ?_
      refine g_iload_n hC d_D_send_25 rfl rfl ?_
      refine g_goi hC rfl (z_runV hC (c_Q_add l D K q hq _ hz _ _ _ _ h) yy_Q_add yv_D_116 (by decide) rfl ⟨Nat.le_of_ble_eq_true rfl, Nat.le_of_ble_eq_true rfl⟩ ⟨Nat.zero_le _, Nat.zero_le _⟩ rfl (Nat.le_of_ble_eq_true rfl) d_D_send_26) (fun r2 σ2 q2 => ?_)
      obtain ⟨rfl, w2⟩ := q2
      obtain rfl := w2.symm
      exact g_zret hC hr hlk d_D_send_29 (zb01 _) ⟨by rw [hok], by rw [hok]; by_cases z8 : z < 8 <;> simp [z8]⟩
    ·
      have hok : zsnok σ n x z = false := by first | (simp [zsnok, h5]; done) | (simp [zsnok, h5, h14]; done)
      refine g_iconst hC (0) d_D_send_17 (by decide) rfl ?_
      exact g_zret hC hr hlk d_D_send_18 (Or.inl rfl) ⟨by rw [hok]; rfl, (if_neg (zif_f hok)).symm⟩
set_option maxHeartbeats 4000000 in
set_option maxRecDepth 100000 in
theorem c_D_remove (l : Launch) (D : va_G) (K : Nat → ClassId) (q : Nat → Nat) (hq : zI q) (n : Int32) (σ : zm) (z : Nat) (hz : z ≤ 8) (h : σ 2 0 = nI z) : zMi l y_D_remove b_D_remove 2 (some .boolean) 2 D K q [.ref (q (0)), .int (n)] σ (fun r σ' => r = zb (zinst σ n) ∧ σ' = if zinst σ n then zu (zdr (zclr σ n.toNatClampNeg) n z).1 2 0 (nI (zdr (zclr σ n.toNatClampNeg) n z).2) else σ) := by
  refine zMi.of (own := "AppDesk") (lv := [(0, .ref (q (0))), (1, .int (n))]) (by decide) rfl hq (Nat.le_of_ble_eq_true rfl) rfl ?_
  intro p e s m below meth c hC hr hlk
  refine g_aload_n hC d_D_remove_0 rfl rfl ?_
  refine g_iload_n hC d_D_remove_1 rfl rfl ?_
  refine g_goi hC rfl (z_runV hC (c_D_isInstalled l D K q hq _ _ ) yy_D_isInstalled yv_D_97 (by decide) rfl ⟨Nat.le_of_ble_eq_true rfl, Nat.le_of_ble_eq_true rfl⟩ ⟨Nat.zero_le _, Nat.zero_le _⟩ rfl (Nat.le_of_ble_eq_true rfl) d_D_remove_2) (fun r0 σ0 q0 => ?_)
  obtain ⟨rfl, w0⟩ := q0
  obtain rfl := w0.symm
  refine g_ifne_b hC 10 d_D_remove_5 rfl rfl (fun h5 => ?_) (fun h5 => ?_)
  ·
    obtain ⟨k, hk, hx⟩ := zin_of (n := 8) (by decide) (zinst_in h5)
    have hc : (n).toNatClampNeg = k := by rw [hx]; exact nI_clamp (by omega)
    refine g_aload_n hC d_D_remove_10 rfl rfl ?_
    refine g_getR hC _ 0 1 _ (by decide) rfl rfl fl_D_18 d_D_remove_11 rfl ?_
    refine g_iload_n hC d_D_remove_14 rfl rfl ?_
    refine g_aald hC _ _ k _ (by decide) rfl hx hk (by decide) (zS_app hk) d_D_remove_15 rfl ?_
    refine g_gov hC rfl (z_runV hC (c_A_clearAway l D K q hq _ hk _ ) yy_A_clearAway yv_D_100 (za_lt hk) (zS_a hk) ⟨Nat.le_of_ble_eq_true rfl, Nat.le_of_ble_eq_true rfl⟩ ⟨Nat.zero_le _, Nat.zero_le _⟩ rfl (Nat.le_of_ble_eq_true rfl) d_D_remove_16) (fun σ1 q1 => ?_)
    obtain rfl := q1.symm
    refine g_aload_n hC d_D_remove_19 rfl rfl ?_
    refine g_getR hC _ 0 2 _ (by decide) rfl rfl fl_D_26 d_D_remove_20 rfl ?_
    refine g_iload_n hC d_D_remove_23 rfl rfl ?_
    refine g_gov hC rfl (z_runV hC (c_Q_dropAllOf l D K q hq _ hz _ _ (by rw [zclr_off _ (by unfold za; omega)]; exact h)) yy_Q_dropAllOf yv_D_103 (by decide) rfl ⟨Nat.le_of_ble_eq_true rfl, Nat.le_of_ble_eq_true rfl⟩ ⟨Nat.zero_le _, Nat.zero_le _⟩ rfl (Nat.le_of_ble_eq_true rfl) d_D_remove_24) (fun σ2 q2 => ?_)
    obtain rfl := q2.symm
    refine g_iconst hC (1) d_D_remove_27 (by decide) rfl ?_
    exact g_zret hC hr hlk d_D_remove_28 (Or.inr rfl) ⟨by rw [h5]; rfl, by rw [if_pos h5, hc]⟩
  ·
    refine g_iconst hC (0) d_D_remove_8 (by decide) rfl ?_
    exact g_zret hC hr hlk d_D_remove_9 (Or.inl rfl) ⟨by rw [h5]; rfl, (if_neg (zif_f h5)).symm⟩
set_option maxHeartbeats 4000000 in
set_option maxRecDepth 100000 in
theorem c_D_app (l : Launch) (D : va_G) (K : Nat → ClassId) (q : Nat → Nat) (hq : zI q) (n x : Int32) (σ : zm) : zMi l y_D_app b_D_app 4 (some .int) 2 D K q [.ref (q (0)), .int (n), .int (x)] σ (fun r σ' => r = zapp σ n x ∧ σ' = σ) := by
  refine zMi.of (own := "AppDesk") (lv := [(0, .ref (q (0))), (1, .int (n)), (2, .int (x))]) (by decide) rfl hq (Nat.le_of_ble_eq_true rfl) rfl ?_
  intro p e s m below meth c hC hr hlk
  refine g_aload_n hC d_D_app_0 rfl rfl ?_
  refine g_iload_n hC d_D_app_1 rfl rfl ?_
  refine g_goi hC rfl (z_runV hC (c_D_isInstalled l D K q hq _ _ ) yy_D_isInstalled yv_D_97 (by decide) rfl ⟨Nat.le_of_ble_eq_true rfl, Nat.le_of_ble_eq_true rfl⟩ ⟨Nat.zero_le _, Nat.zero_le _⟩ rfl (Nat.le_of_ble_eq_true rfl) d_D_app_2) (fun r0 σ0 q0 => ?_)
  obtain ⟨rfl, w0⟩ := q0
  obtain rfl := w0.symm
  refine g_ifne_b hC 10 d_D_app_5 rfl rfl (fun h5 => ?_) (fun h5 => ?_)
  ·
    obtain ⟨k, hk, hx⟩ := zin_of (n := 8) (by decide) (zinst_in h5)
    have hc : (n).toNatClampNeg = k := by rw [hx]; exact nI_clamp (by omega)
    refine g_aload_n hC d_D_app_10 rfl rfl ?_
    refine g_getR hC _ 0 1 _ (by decide) rfl rfl fl_D_18 d_D_app_11 rfl ?_
    refine g_iload_n hC d_D_app_14 rfl rfl ?_
    refine g_aald hC _ _ k _ (by decide) rfl hx hk (by decide) (zS_app hk) d_D_app_15 rfl ?_
    refine g_astore_n hC d_D_app_16 rfl (by decide) ?_
    refine g_iload_n hC d_D_app_17 rfl rfl ?_
    by_cases t18_0 : x = 0
    ·
      refine g_tableIn hC 60 d_D_app_18 (by rw [t18_0]; decide) (by rw [t18_0]; decide) (by rw [t18_0]; rfl) rfl ?_
      refine g_aload_n hC d_D_app_60 rfl rfl ?_
      refine g_getR hC _ 2 1 _ (za_lt hk) (zS_a hk) rfl fl_D_107 d_D_app_61 rfl ?_
      refine g_getI hC _ 1 1 (zp_lt (Nat.lt_succ_of_lt hk)) (zS_p (Nat.lt_succ_of_lt hk)) rfl fl_D_152 d_D_app_64 rfl ?_
      exact g_iret hC hr hlk d_D_app_67 ⟨by rw [zapp_t h5 hc, t18_0]; rfl, rfl⟩
    by_cases t18_1 : x = 1
    ·
      refine g_tableIn hC 68 d_D_app_18 (by rw [t18_1]; decide) (by rw [t18_1]; decide) (by rw [t18_1]; rfl) rfl ?_
      refine g_aload_n hC d_D_app_68 rfl rfl ?_
      refine g_getR hC _ 2 1 _ (za_lt hk) (zS_a hk) rfl fl_D_107 d_D_app_69 rfl ?_
      refine g_getI hC _ 1 2 (zp_lt (Nat.lt_succ_of_lt hk)) (zS_p (Nat.lt_succ_of_lt hk)) rfl fl_D_155 d_D_app_72 rfl ?_
      exact g_iret hC hr hlk d_D_app_75 ⟨by rw [zapp_t h5 hc, t18_1]; rfl, rfl⟩
    by_cases t18_2 : x = 2
    ·
      refine g_tableIn hC 76 d_D_app_18 (by rw [t18_2]; decide) (by rw [t18_2]; decide) (by rw [t18_2]; rfl) rfl ?_
      refine g_aload_n hC d_D_app_76 rfl rfl ?_
      refine g_getI hC _ 2 5 (za_lt hk) (zS_a hk) rfl fl_D_148 d_D_app_77 rfl ?_
      refine g_if_eq hC 87 d_D_app_80 rfl rfl (fun h80 => ?_) (fun h80 => ?_)
      ·
        refine g_iconst hC (0) d_D_app_87 (by decide) rfl ?_
        exact g_iret hC hr hlk d_D_app_88 ⟨by rw [zapp_t h5 hc, t18_2]; first | exact (if_pos h80).symm | exact (if_neg h80).symm, rfl⟩
      ·
        refine g_iconst hC (1) d_D_app_83 (by decide) rfl ?_
        refine g_goto hC 88 d_D_app_84 rfl ?_
        exact g_iret hC hr hlk d_D_app_88 ⟨by rw [zapp_t h5 hc, t18_2]; first | exact (if_pos h80).symm | exact (if_neg h80).symm, rfl⟩
    by_cases t18_3 : x = 3
    ·
      refine g_tableIn hC 89 d_D_app_18 (by rw [t18_3]; decide) (by rw [t18_3]; decide) (by rw [t18_3]; rfl) rfl ?_
      refine g_aload_n hC d_D_app_89 rfl rfl ?_
      refine g_getI hC _ 2 5 (za_lt hk) (zS_a hk) rfl fl_D_148 d_D_app_90 rfl ?_
      refine g_if_eq hC 103 d_D_app_93 rfl rfl (fun h93 => ?_) (fun h93 => ?_)
      ·
        refine g_iconst hC (0) d_D_app_103 (by decide) rfl ?_
        exact g_iret hC hr hlk d_D_app_104 ⟨by rw [zapp_t h5 hc, t18_3]; first | exact (if_pos h93).symm | exact (if_neg h93).symm, rfl⟩
      ·
        refine g_aload_n hC d_D_app_96 rfl rfl ?_
        refine g_getI hC _ 2 6 (za_lt hk) (zS_a hk) rfl fl_D_158 d_D_app_97 rfl ?_
        refine g_goto hC 104 d_D_app_100 rfl ?_
        exact g_iret hC hr hlk d_D_app_104 ⟨by rw [zapp_t h5 hc, t18_3]; first | exact (if_pos h93).symm | exact (if_neg h93).symm, rfl⟩
    by_cases t18_4 : x = 4
    ·
      refine g_tableIn hC 105 d_D_app_18 (by rw [t18_4]; decide) (by rw [t18_4]; decide) (by rw [t18_4]; rfl) rfl ?_
      refine g_aload_n hC d_D_app_105 rfl rfl ?_
      refine g_getI hC _ 2 5 (za_lt hk) (zS_a hk) rfl fl_D_148 d_D_app_106 rfl ?_
      refine g_if_eq hC 119 d_D_app_109 rfl rfl (fun h109 => ?_) (fun h109 => ?_)
      ·
        refine g_iconst hC (0) d_D_app_119 (by decide) rfl ?_
        exact g_iret hC hr hlk d_D_app_120 ⟨by rw [zapp_t h5 hc, t18_4]; first | exact (if_pos h109).symm | exact (if_neg h109).symm, rfl⟩
      ·
        refine g_aload_n hC d_D_app_112 rfl rfl ?_
        refine g_getI hC _ 2 7 (za_lt hk) (zS_a hk) rfl fl_D_161 d_D_app_113 rfl ?_
        refine g_goto hC 120 d_D_app_116 rfl ?_
        exact g_iret hC hr hlk d_D_app_120 ⟨by rw [zapp_t h5 hc, t18_4]; first | exact (if_pos h109).symm | exact (if_neg h109).symm, rfl⟩
    by_cases t18_5 : x = 5
    ·
      refine g_tableIn hC 121 d_D_app_18 (by rw [t18_5]; decide) (by rw [t18_5]; decide) (by rw [t18_5]; rfl) rfl ?_
      refine g_aload_n hC d_D_app_121 rfl rfl ?_
      refine g_getI hC _ 2 5 (za_lt hk) (zS_a hk) rfl fl_D_148 d_D_app_122 rfl ?_
      refine g_if_eq hC 135 d_D_app_125 rfl rfl (fun h125 => ?_) (fun h125 => ?_)
      ·
        refine g_iconst hC (0) d_D_app_135 (by decide) rfl ?_
        exact g_iret hC hr hlk d_D_app_136 ⟨by rw [zapp_t h5 hc, t18_5]; first | exact (if_pos h125).symm | exact (if_neg h125).symm, rfl⟩
      ·
        refine g_aload_n hC d_D_app_128 rfl rfl ?_
        refine g_goi hC rfl (z_runV hC (c_A_uppermost l D K q hq _ hk _ ) yy_A_uppermost yv_D_164 (za_lt hk) (zS_a hk) ⟨Nat.le_of_ble_eq_true rfl, Nat.le_of_ble_eq_true rfl⟩ ⟨Nat.zero_le _, Nat.zero_le _⟩ rfl (Nat.le_of_ble_eq_true rfl) d_D_app_129) (fun r1 σ1 q1 => ?_)
        obtain ⟨rfl, w1⟩ := q1
        obtain rfl := w1.symm
        refine g_goto hC 136 d_D_app_132 rfl ?_
        exact g_iret hC hr hlk d_D_app_136 ⟨by rw [zapp_t h5 hc, t18_5]; first | exact (if_pos h125).symm | exact (if_neg h125).symm, rfl⟩
    by_cases t18_6 : x = 6
    ·
      refine g_tableIn hC 137 d_D_app_18 (by rw [t18_6]; decide) (by rw [t18_6]; decide) (by rw [t18_6]; rfl) rfl ?_
      refine g_aload_n hC d_D_app_137 rfl rfl ?_
      refine g_getI hC _ 2 3 (za_lt hk) (zS_a hk) rfl fl_D_167 d_D_app_138 rfl ?_
      refine g_goi hC rfl (z_runS hC (c_J_bitCount l D K q hq _ _) yy_J_bitCount ys_D_170 ⟨Nat.le_of_ble_eq_true rfl, Nat.le_of_ble_eq_true rfl⟩ ⟨Nat.zero_le _, Nat.zero_le _⟩ rfl (Nat.le_of_ble_eq_true rfl) d_D_app_141) (fun r2 σ2 q2 => ?_)
      obtain ⟨rfl, w2⟩ := q2
      obtain rfl := w2.symm
      exact g_iret hC hr hlk d_D_app_144 ⟨by rw [zapp_t h5 hc, t18_6]; rfl, rfl⟩
    refine g_tableOut hC 145 d_D_app_18 (by have u0 := lv_neT t18_0 (a := 0) (by decide); have u1 := lv_neT t18_1 (a := 1) (by decide); have u2 := lv_neT t18_2 (a := 2) (by decide); have u3 := lv_neT t18_3 (a := 3) (by decide); have u4 := lv_neT t18_4 (a := 4) (by decide); have u5 := lv_neT t18_5 (a := 5) (by decide); have u6 := lv_neT t18_6 (a := 6) (by decide); omega) rfl ?_
    refine g_iconst hC (-1) d_D_app_145 (by decide) rfl ?_
    exact g_iret hC hr hlk d_D_app_146 ⟨by rw [zapp_t h5 hc]; unfold zap1; rw [if_neg t18_0, if_neg t18_1, if_neg t18_2, if_neg t18_3, if_neg t18_4, if_neg t18_5, if_neg t18_6], rfl⟩
  ·
    have ho : zapp σ n x = -1 := if_neg (zif_f h5)
    refine g_iconst hC (-1) d_D_app_8 (by decide) rfl ?_
    exact g_iret hC hr hlk d_D_app_9 ⟨ho.symm, rfl⟩
set_option maxHeartbeats 4000000 in
set_option maxRecDepth 100000 in
theorem c_D_kept (l : Launch) (D : va_G) (K : Nat → ClassId) (q : Nat → Nat) (hq : zI q) (n x : Int32) (σ : zm) : zMi l y_D_kept b_D_kept 3 (some .int) 4 D K q [.ref (q (0)), .int (n), .int (x)] σ (fun r σ' => r = zkpt σ n x ∧ σ' = σ) := by
  refine zMi.of (own := "AppDesk") (lv := [(0, .ref (q (0))), (1, .int (n)), (2, .int (x))]) (by decide) rfl hq (Nat.le_of_ble_eq_true rfl) rfl ?_
  intro p e s m below meth c hC hr hlk
  refine g_aload_n hC d_D_kept_0 rfl rfl ?_
  refine g_iload_n hC d_D_kept_1 rfl rfl ?_
  refine g_goi hC rfl (z_runV hC (c_D_isInstalled l D K q hq _ _ ) yy_D_isInstalled yv_D_97 (by decide) rfl ⟨Nat.le_of_ble_eq_true rfl, Nat.le_of_ble_eq_true rfl⟩ ⟨Nat.zero_le _, Nat.zero_le _⟩ rfl (Nat.le_of_ble_eq_true rfl) d_D_kept_2) (fun r0 σ0 q0 => ?_)
  obtain ⟨rfl, w0⟩ := q0
  obtain rfl := w0.symm
  refine g_ifeq_b hC 21 d_D_kept_5 rfl rfl (fun h5 => ?_) (fun h5 => ?_)
  ·
    refine g_iconst hC (0) d_D_kept_21 (by decide) rfl ?_
    exact g_iret hC hr hlk d_D_kept_22 ⟨by first | (unfold zkpt; rw [if_pos h5, hc]; done) | (unfold zkpt; rw [if_neg (zif_f h5)]; done), rfl⟩
  ·
    obtain ⟨k, hk, hx⟩ := zin_of (n := 8) (by decide) (zinst_in h5)
    have hc : (n).toNatClampNeg = k := by rw [hx]; exact nI_clamp (by omega)
    refine g_aload_n hC d_D_kept_8 rfl rfl ?_
    refine g_getR hC _ 0 1 _ (by decide) rfl rfl fl_D_18 d_D_kept_9 rfl ?_
    refine g_iload_n hC d_D_kept_12 rfl rfl ?_
    refine g_aald hC _ _ k _ (by decide) rfl hx hk (by decide) (zS_app hk) d_D_kept_13 rfl ?_
    refine g_iload_n hC d_D_kept_14 rfl rfl ?_
    refine g_goi hC rfl (z_runV hC (c_A_valueUnder l D K q hq _ hk _ _ ) yy_A_valueUnder yv_D_179 (za_lt hk) (zS_a hk) ⟨Nat.le_of_ble_eq_true rfl, Nat.le_of_ble_eq_true rfl⟩ ⟨Nat.zero_le _, Nat.zero_le _⟩ rfl (Nat.le_of_ble_eq_true rfl) d_D_kept_15) (fun r1 σ1 q1 => ?_)
    obtain ⟨rfl, w1⟩ := q1
    obtain rfl := w1.symm
    refine g_goto hC 22 d_D_kept_18 rfl ?_
    exact g_iret hC hr hlk d_D_kept_22 ⟨by first | (unfold zkpt; rw [if_pos h5, hc]; done) | (unfold zkpt; rw [if_neg (zif_f h5)]; done), rfl⟩
set_option maxHeartbeats 4000000 in
set_option maxRecDepth 100000 in
theorem c_D_queued (l : Launch) (D : va_G) (K : Nat → ClassId) (q : Nat → Nat) (hq : zI q) (σ : zm) : zMi l y_D_queued b_D_queued 1 (some .int) 0 D K q [.ref (q (0))] σ (fun r σ' => r = σ 2 0 ∧ σ' = σ) := by
  refine zMi.of (own := "AppDesk") (lv := [(0, .ref (q (0)))]) (by decide) rfl hq (Nat.le_of_ble_eq_true rfl) rfl ?_
  intro p e s m below meth c hC hr hlk
  refine g_aload_n hC d_D_queued_0 rfl rfl ?_
  refine g_getR hC _ 0 2 _ (by decide) rfl rfl fl_D_26 d_D_queued_1 rfl ?_
  refine g_getI hC _ 3 0 (by decide) rfl rfl fl_D_120 d_D_queued_4 rfl ?_
  exact g_iret hC hr hlk d_D_queued_7 ⟨rfl, rfl⟩
set_option maxHeartbeats 4000000 in
set_option maxRecDepth 100000 in
theorem c_D_isSound (l : Launch) (D : va_G) (K : Nat → ClassId) (q : Nat → Nat) (hq : zI q) (i : Nat) (hi : i < 9) (pn wn : Nat) (hpn : pn ≤ 4) (hwn : wn ≤ 24) (σ : zm) (hpc : σ (zp i) 6 = nI pn) (hwc : σ (zp i) 11 = nI wn) : zMi l y_D_isSound b_D_isSound 2 (some .boolean) 4 D K q [.ref (q (0)), .ref (q (zp i))] σ (fun r σ' => (∃ b : Bool, r = zb b ∧ (b = true ↔ zSnd σ i pn wn)) ∧ zOf σ σ') := by
  refine zMi.of (own := "AppDesk") (lv := [(0, .ref (q (0))), (1, .ref (q (zp i)))]) (by decide) rfl hq (Nat.le_of_ble_eq_true rfl) rfl ?_
  intro p e s m below meth c hC hr hlk
  refine g_aload_n hC d_D_isSound_0 rfl rfl ?_
  refine g_getV hC _ 1 6 (nI pn) (hpc) (zp_lt hi) (zS_p hi) rfl fl_D_185 d_D_isSound_1 rfl ?_
  refine g_if_le hC 40 d_D_isSound_4 rfl rfl (fun h4 => ?_) (fun h4 => ?_)
  ·
    have hn : ¬ zSnd σ i pn wn := by first | exact (fun z => nI_nle z.1 (by omega) h4) | exact (fun z => nI_nle z.2.1 (by omega) h11) | exact (fun z => h22 z.2.2.1) | exact (fun z => absurd (hb1.mpr z.2.2.2) (by rw [h33]; decide))
    refine g_iconst hC (0) d_D_isSound_40 (by decide) rfl ?_
    exact g_zret hC hr hlk d_D_isSound_41 (Or.inl rfl) (by first | exact ⟨⟨true, rfl, ⟨fun _ => hn, fun _ => rfl⟩⟩, ho1⟩ | exact ⟨⟨false, rfl, ⟨(fun z => by cases z), fun z => absurd z hn⟩⟩, ho1⟩ | exact ⟨⟨false, rfl, ⟨(fun z => by cases z), fun z => absurd z hn⟩⟩, fun a ha => rfl⟩)
  ·
    have hp0 : 0 < pn := Nat.pos_of_ne_zero (fun z => h4 (by rw [z]; decide))
    refine g_aload_n hC d_D_isSound_7 rfl rfl ?_
    refine g_getV hC _ 1 11 (nI wn) (hwc) (zp_lt hi) (zS_p hi) rfl fl_D_188 d_D_isSound_8 rfl ?_
    refine g_if_le hC 40 d_D_isSound_11 rfl rfl (fun h11 => ?_) (fun h11 => ?_)
    ·
      have hn : ¬ zSnd σ i pn wn := by first | exact (fun z => nI_nle z.1 (by omega) h4) | exact (fun z => nI_nle z.2.1 (by omega) h11) | exact (fun z => h22 z.2.2.1) | exact (fun z => absurd (hb1.mpr z.2.2.2) (by rw [h33]; decide))
      refine g_iconst hC (0) d_D_isSound_40 (by decide) rfl ?_
      exact g_zret hC hr hlk d_D_isSound_41 (Or.inl rfl) (by first | exact ⟨⟨true, rfl, ⟨fun _ => hn, fun _ => rfl⟩⟩, ho1⟩ | exact ⟨⟨false, rfl, ⟨(fun z => by cases z), fun z => absurd z hn⟩⟩, ho1⟩ | exact ⟨⟨false, rfl, ⟨(fun z => by cases z), fun z => absurd z hn⟩⟩, fun a ha => rfl⟩)
    ·
      have hw0 : 0 < wn := Nat.pos_of_ne_zero (fun z => h11 (by rw [z]; decide))
      refine g_aload_n hC d_D_isSound_14 rfl rfl ?_
      refine g_getI hC _ 1 3 (zp_lt hi) (zS_p hi) rfl fl_D_74 d_D_isSound_15 rfl ?_
      refine g_aload_n hC d_D_isSound_18 rfl rfl ?_
      refine g_goi hC rfl (z_runV hC (c_P_sealOfSigner l D K q hq _ hi _ pn wn hpn hwn hpc hwc) yy_P_sealOfSigner yv_D_70 (zp_lt hi) (zS_p hi) ⟨Nat.le_of_ble_eq_true rfl, Nat.le_of_ble_eq_true rfl⟩ ⟨Nat.zero_le _, Nat.zero_le _⟩ rfl (Nat.le_of_ble_eq_true rfl) d_D_isSound_19) (fun r0 σ0 q0 => ?_)
      obtain ⟨rfl, w0⟩ := q0
      obtain rfl := w0.symm
      refine g_icmp_ne hC 40 d_D_isSound_22 rfl rfl (fun h22 => ?_) (fun h22 => ?_)
      ·
        have hn : ¬ zSnd σ i pn wn := by first | exact (fun z => nI_nle z.1 (by omega) h4) | exact (fun z => nI_nle z.2.1 (by omega) h11) | exact (fun z => h22 z.2.2.1) | exact (fun z => absurd (hb1.mpr z.2.2.2) (by rw [h33]; decide))
        refine g_iconst hC (0) d_D_isSound_40 (by decide) rfl ?_
        exact g_zret hC hr hlk d_D_isSound_41 (Or.inl rfl) (by first | exact ⟨⟨true, rfl, ⟨fun _ => hn, fun _ => rfl⟩⟩, ho1⟩ | exact ⟨⟨false, rfl, ⟨(fun z => by cases z), fun z => absurd z hn⟩⟩, ho1⟩ | exact ⟨⟨false, rfl, ⟨(fun z => by cases z), fun z => absurd z hn⟩⟩, fun a ha => rfl⟩)
      ·
        refine g_aload_n hC d_D_isSound_25 rfl rfl ?_
        refine g_getR hC _ 0 3 _ (by decide) rfl rfl fl_D_33 d_D_isSound_26 rfl ?_
        refine g_aload_n hC d_D_isSound_29 rfl rfl ?_
        refine g_goi hC rfl (z_runV hC (c_V_isGood l D K q hq _ hi pn wn hpn hwn _ hpc hwc) yy_V_isGood yv_D_191 (by decide) rfl ⟨Nat.le_of_ble_eq_true rfl, Nat.le_of_ble_eq_true rfl⟩ ⟨Nat.zero_le _, Nat.zero_le _⟩ rfl (Nat.le_of_ble_eq_true rfl) d_D_isSound_30) (fun r1 σ1 q1 => ?_)
        obtain ⟨⟨b1, rfl, hb1⟩, ho1⟩ := q1
        refine g_ifeq_b hC 40 d_D_isSound_33 rfl rfl (fun h33 => ?_) (fun h33 => ?_)
        ·
          have hn : ¬ zSnd σ i pn wn := by first | exact (fun z => nI_nle z.1 (by omega) h4) | exact (fun z => nI_nle z.2.1 (by omega) h11) | exact (fun z => h22 z.2.2.1) | exact (fun z => absurd (hb1.mpr z.2.2.2) (by rw [h33]; decide))
          refine g_iconst hC (0) d_D_isSound_40 (by decide) rfl ?_
          exact g_zret hC hr hlk d_D_isSound_41 (Or.inl rfl) (by first | exact ⟨⟨true, rfl, ⟨fun _ => hn, fun _ => rfl⟩⟩, ho1⟩ | exact ⟨⟨false, rfl, ⟨(fun z => by cases z), fun z => absurd z hn⟩⟩, ho1⟩ | exact ⟨⟨false, rfl, ⟨(fun z => by cases z), fun z => absurd z hn⟩⟩, fun a ha => rfl⟩)
        ·
          have hn : zSnd σ i pn wn := ⟨hp0, hw0, h22, hb1.mp h33⟩
          refine g_iconst hC (1) d_D_isSound_36 (by decide) rfl ?_
          refine g_goto hC 41 d_D_isSound_37 rfl ?_
          exact g_zret hC hr hlk d_D_isSound_41 (Or.inr rfl) (by first | exact ⟨⟨true, rfl, ⟨fun _ => hn, fun _ => rfl⟩⟩, ho1⟩ | exact ⟨⟨false, rfl, ⟨(fun z => by cases z), fun z => absurd z hn⟩⟩, ho1⟩ | exact ⟨⟨false, rfl, ⟨(fun z => by cases z), fun z => absurd z hn⟩⟩, fun a ha => rfl⟩)
set_option maxHeartbeats 4000000 in
set_option maxRecDepth 100000 in
theorem c_D_mayEnter (l : Launch) (D : va_G) (K : Nat → ClassId) (q : Nat → Nat) (hq : zI q) (i : Nat) (hi : i < 9) (nm : Nat) (hnm : nm < 8) (σ : zm) (h : σ (zp i) 0 = nI nm) : zMi l y_D_mayEnter b_D_mayEnter 4 (some .boolean) 4 D K q [.ref (q (0)), .ref (q (zp i))] σ (fun r σ' => r = zb (zent σ i nm) ∧ σ' = σ) := by
  refine zMi.of (own := "AppDesk") (lv := [(0, .ref (q (0))), (1, .ref (q (zp i)))]) (by decide) rfl hq (Nat.le_of_ble_eq_true rfl) rfl ?_
  intro p e s m below meth c hC hr hlk
  have J49 : ∀ (f : Nat) (k : Nat) (hif : k + f = 8) (he : zent σ i nm = zall (zenp σ i nm) f k), zG p l e (zrm 4) s m ([.ref (q (0)), .ref (q (zp i))] : List Value).toArray below meth c D K q (zA q) 4 0 0 (MQ below (va_Qi (fun r σ' => r = zb (zent σ i nm) ∧ σ' = σ) (zO D K q) (zA q)) ([.ref (q (0)), .ref (q (zp i))] : List Value).toArray s 0 0 (zA q)) σ 49 [(0, .ref (q (0))), (1, .ref (q (zp i))), (3, .int (nI k))] [] := by
    intro f
    induction f with
    | zero =>
      intro k hif he
      refine g_iload_n hC d_D_mayEnter_49 rfl rfl ?_
      refine g_bipush hC (8) d_D_mayEnter_50 (by decide) rfl ?_
      refine g_icmp_ge hC 83 d_D_mayEnter_52 rfl rfl (fun h52 => ?_) (fun h52 => absurd (nI_le (a := 8) (b := k) (by omega) (by omega)) h52)
      refine g_iconst hC (1) d_D_mayEnter_83 (by decide) rfl ?_
      exact g_zret hC hr hlk d_D_mayEnter_84 (Or.inr rfl) ⟨by rw [he]; rfl, rfl⟩
    | succ f ih =>
      intro k hif he
      refine g_iload_n hC d_D_mayEnter_49 rfl rfl ?_
      refine g_bipush hC (8) d_D_mayEnter_50 (by decide) rfl ?_
      refine g_icmp_ge hC 83 d_D_mayEnter_52 rfl rfl (fun h52 => absurd h52 (nI_ge (a := k) (b := 8) (by omega) (by omega))) (fun h52 => ?_)
      refine g_aload_n hC d_D_mayEnter_55 rfl rfl ?_
      refine g_iload_n hC d_D_mayEnter_56 rfl rfl ?_
      refine g_goi hC rfl (z_runV hC (c_P_declares l D K q hq _ hi _ _) yy_P_declares yv_D_63 (zp_lt hi) (zS_p hi) ⟨Nat.le_of_ble_eq_true rfl, Nat.le_of_ble_eq_true rfl⟩ ⟨Nat.zero_le _, Nat.zero_le _⟩ rfl (Nat.le_of_ble_eq_true rfl) d_D_mayEnter_57) (fun r0 σ0 q0 => ?_)
      obtain ⟨rfl, w0⟩ := q0
      obtain rfl := w0.symm
      refine g_ifeq_b hC 77 d_D_mayEnter_60 rfl rfl (fun h60 => ?_) (fun h60 => ?_)
      ·
        refine g_iinc hC (nI (k + 1)) d_D_mayEnter_77 rfl rfl (nI_succ _).symm (by decide) ?_
        refine g_goto hC 49 d_D_mayEnter_80 rfl ?_
        exact zG.to (ih (k + 1) (by omega) (he.trans (zall_t (by first | (simp [zenp, h60]; done) | (simp [zenp, h60, h72]; done))))) rfl rfl ⟨rfl, rfl, rfl, trivial⟩
      ·
        refine g_aload_n hC d_D_mayEnter_63 rfl rfl ?_
        refine g_iload_n hC d_D_mayEnter_64 rfl rfl ?_
        refine g_aload_n hC d_D_mayEnter_65 rfl rfl ?_
        refine g_getV hC _ 1 0 (nI nm) (h) (zp_lt hi) (zS_p hi) rfl fl_D_90 d_D_mayEnter_66 rfl ?_
        refine g_goi hC rfl (z_runV hC (c_D_isDeclaredByOther l D K q hq _ _ _ ) yy_D_isDeclaredByOther yv_D_194 (by decide) rfl ⟨Nat.le_of_ble_eq_true rfl, Nat.le_of_ble_eq_true rfl⟩ ⟨Nat.zero_le _, Nat.zero_le _⟩ rfl (Nat.le_of_ble_eq_true rfl) d_D_mayEnter_69) (fun r1 σ1 q1 => ?_)
        obtain ⟨rfl, w1⟩ := q1
        obtain rfl := w1.symm
        refine g_ifeq_b hC 77 d_D_mayEnter_72 rfl rfl (fun h72 => ?_) (fun h72 => ?_)
        ·
          refine g_iinc hC (nI (k + 1)) d_D_mayEnter_77 rfl rfl (nI_succ _).symm (by decide) ?_
          refine g_goto hC 49 d_D_mayEnter_80 rfl ?_
          exact zG.to (ih (k + 1) (by omega) (he.trans (zall_t (by first | (simp [zenp, h60]; done) | (simp [zenp, h60, h72]; done))))) rfl rfl ⟨rfl, rfl, rfl, trivial⟩
        ·
          refine g_iconst hC (0) d_D_mayEnter_75 (by decide) rfl ?_
          exact g_zret hC hr hlk d_D_mayEnter_76 (Or.inl rfl) ⟨by rw [he, zall_f (by simp [zenp, h60, h72])]; rfl, rfl⟩
  refine g_aload_n hC d_D_mayEnter_0 rfl rfl ?_
  refine g_getR hC _ 0 1 _ (by decide) rfl rfl fl_D_18 d_D_mayEnter_1 rfl ?_
  refine g_aload_n hC d_D_mayEnter_4 rfl rfl ?_
  refine g_getV hC _ 1 0 (nI nm) (h) (zp_lt hi) (zS_p hi) rfl fl_D_90 d_D_mayEnter_5 rfl ?_
  refine g_aald hC _ _ nm _ (by decide) rfl rfl hnm (by decide) (zS_app hnm) d_D_mayEnter_8 rfl ?_
  refine g_astore_n hC d_D_mayEnter_9 rfl (by decide) ?_
  refine g_aload_n hC d_D_mayEnter_10 rfl rfl ?_
  refine g_getI hC _ 2 0 (za_lt hnm) (zS_a hnm) rfl fl_D_182 d_D_mayEnter_11 rfl ?_
  refine g_if_eq hC 47 d_D_mayEnter_14 rfl rfl (fun h14 => ?_) (fun h14 => ?_)
  ·
    have ho : zent σ i nm = zall (zenp σ i nm) 8 0 := by first | (simp [zent, h14]; done) | (simp [zent, h14, h28, Int32.not_le.mpr h42]; done)
    refine g_iconst hC (0) d_D_mayEnter_47 (by decide) rfl ?_
    refine g_istore_n hC d_D_mayEnter_48 rfl (by decide) ?_
    exact zG.to (J49 8 0 (by omega) ho) rfl rfl ⟨rfl, rfl, rfl, trivial⟩
  ·
    refine g_aload_n hC d_D_mayEnter_17 rfl rfl ?_
    refine g_getR hC _ 2 1 _ (za_lt hnm) (zS_a hnm) rfl fl_D_107 d_D_mayEnter_18 rfl ?_
    refine g_getI hC _ 1 2 (zp_lt (Nat.lt_succ_of_lt hnm)) (zS_p (Nat.lt_succ_of_lt hnm)) rfl fl_D_155 d_D_mayEnter_21 rfl ?_
    refine g_aload_n hC d_D_mayEnter_24 rfl rfl ?_
    refine g_getI hC _ 1 2 (zp_lt hi) (zS_p hi) rfl fl_D_155 d_D_mayEnter_25 rfl ?_
    refine g_icmp_ne hC 45 d_D_mayEnter_28 rfl rfl (fun h28 => ?_) (fun h28 => ?_)
    ·
      have ho : zent σ i nm = false := by first | (simp [zent, h14, h28]; done) | (simp [zent, h14, h28, Int32.not_lt.mp h42]; done)
      refine g_iconst hC (0) d_D_mayEnter_45 (by decide) rfl ?_
      exact g_zret hC hr hlk d_D_mayEnter_46 (Or.inl rfl) ⟨by rw [ho]; rfl, rfl⟩
    ·
      refine g_aload_n hC d_D_mayEnter_31 rfl rfl ?_
      refine g_getR hC _ 2 1 _ (za_lt hnm) (zS_a hnm) rfl fl_D_107 d_D_mayEnter_32 rfl ?_
      refine g_getI hC _ 1 1 (zp_lt (Nat.lt_succ_of_lt hnm)) (zS_p (Nat.lt_succ_of_lt hnm)) rfl fl_D_152 d_D_mayEnter_35 rfl ?_
      refine g_aload_n hC d_D_mayEnter_38 rfl rfl ?_
      refine g_getI hC _ 1 1 (zp_lt hi) (zS_p hi) rfl fl_D_152 d_D_mayEnter_39 rfl ?_
      refine g_icmp_lt hC 47 d_D_mayEnter_42 rfl rfl (fun h42 => ?_) (fun h42 => ?_)
      ·
        have ho : zent σ i nm = zall (zenp σ i nm) 8 0 := by first | (simp [zent, h14]; done) | (simp [zent, h14, h28, Int32.not_le.mpr h42]; done)
        refine g_iconst hC (0) d_D_mayEnter_47 (by decide) rfl ?_
        refine g_istore_n hC d_D_mayEnter_48 rfl (by decide) ?_
        exact zG.to (J49 8 0 (by omega) ho) rfl rfl ⟨rfl, rfl, rfl, trivial⟩
      ·
        have ho : zent σ i nm = false := by first | (simp [zent, h14, h28]; done) | (simp [zent, h14, h28, Int32.not_lt.mp h42]; done)
        refine g_iconst hC (0) d_D_mayEnter_45 (by decide) rfl ?_
        exact g_zret hC hr hlk d_D_mayEnter_46 (Or.inl rfl) ⟨by rw [ho]; rfl, rfl⟩
set_option maxHeartbeats 4000000 in
set_option maxRecDepth 100000 in
theorem c_D_placeToBegin (l : Launch) (D : va_G) (K : Nat → ClassId) (q : Nat → Nat) (hq : zI q) (a : Nat) (ha : a < 8) (g ac : Int32) (pn : Nat) (hpn : pn ≤ 4) (σ : zm) (h : σ (zp a) 6 = nI pn) : zMi l y_D_placeToBegin b_D_placeToBegin 8 (some .int) 5 D K q [.ref (q (0)), .int (nI a), .int (g), .int (ac)] σ (fun r σ' => r = zptb σ a g ac pn ∧ σ' = σ) := by
  refine zMi.of (own := "AppDesk") (lv := [(0, .ref (q (0))), (1, .int (nI a)), (2, .int (g)), (3, .int (ac))]) (by decide) rfl hq (Nat.le_of_ble_eq_true rfl) rfl ?_
  intro p e s m below meth c hC hr hlk
  have J36 : ∀ (f : Nat) (k : Nat) (hif : k + f = pn) (he : zptb σ a g ac pn = zptl σ a g ac f k), zG p l e (zrm 5) s m ([.ref (q (0)), .int (nI a), .int (g), .int (ac)] : List Value).toArray below meth c D K q (zA q) 8 0 0 (MQ below (va_Qi (fun r σ' => r = zptb σ a g ac pn ∧ σ' = σ) (zO D K q) (zA q)) ([.ref (q (0)), .int (nI a), .int (g), .int (ac)] : List Value).toArray s 0 0 (zA q)) σ 36 [(0, .ref (q (0))), (1, .int (nI a)), (2, .int (g)), (3, .int (ac)), (5, .ref (q (zp a))), (6, .int (nI k))] [] := by
    intro f
    induction f with
    | zero =>
      intro k hif he
      refine g_iload hC d_D_placeToBegin_36 rfl rfl ?_
      refine g_aload hC d_D_placeToBegin_38 rfl rfl ?_
      refine g_getV hC _ 1 6 (nI pn) (h) (zp_lt (Nat.lt_succ_of_lt ha)) (zS_p (Nat.lt_succ_of_lt ha)) rfl fl_D_185 d_D_placeToBegin_40 rfl ?_
      refine g_icmp_ge hC 118 d_D_placeToBegin_43 rfl rfl (fun h43 => ?_) (fun h43 => absurd (nI_le (a := pn) (b := k) (by omega) (by omega)) h43)
      refine g_iconst hC (-1) d_D_placeToBegin_118 (by decide) rfl ?_
      exact g_iret hC hr hlk d_D_placeToBegin_119 ⟨he.symm, rfl⟩
    | succ f ih =>
      intro k hif he
      refine g_iload hC d_D_placeToBegin_36 rfl rfl ?_
      refine g_aload hC d_D_placeToBegin_38 rfl rfl ?_
      refine g_getV hC _ 1 6 (nI pn) (h) (zp_lt (Nat.lt_succ_of_lt ha)) (zS_p (Nat.lt_succ_of_lt ha)) rfl fl_D_185 d_D_placeToBegin_40 rfl ?_
      refine g_icmp_ge hC 118 d_D_placeToBegin_43 rfl rfl (fun h43 => absurd h43 (nI_ge (a := k) (b := pn) (by omega) (by omega))) (fun h43 => ?_)
      refine g_aload hC d_D_placeToBegin_46 rfl rfl ?_
      refine g_getR hC _ 1 8 _ (zp_lt (Nat.lt_succ_of_lt ha)) (zS_p (Nat.lt_succ_of_lt ha)) rfl fl_D_197 d_D_placeToBegin_48 rfl ?_
      refine g_iload hC d_D_placeToBegin_51 rfl rfl ?_
      refine g_iald hC _ _ (k) (zp_lt' (Nat.lt_succ_of_lt ha) 3 (by decide)) (zS_pr (Nat.lt_succ_of_lt ha) 3 (by decide)) rfl (by omega) (by decide) d_D_placeToBegin_53 rfl ?_
      refine g_iconst hC (1) d_D_placeToBegin_54 (by decide) rfl ?_
      refine g_icmp_eq hC 63 d_D_placeToBegin_55 rfl rfl (fun h55 => ?_) (fun h55 => ?_)
      ·
        refine g_iconst hC (1) d_D_placeToBegin_63 (by decide) rfl ?_
        refine g_goto hC 68 d_D_placeToBegin_64 rfl ?_
        refine g_istore hC d_D_placeToBegin_68 rfl (by decide) ?_
        refine g_aload hC d_D_placeToBegin_70 rfl rfl ?_
        refine g_getR hC _ 1 7 _ (zp_lt (Nat.lt_succ_of_lt ha)) (zS_p (Nat.lt_succ_of_lt ha)) rfl fl_D_200 d_D_placeToBegin_72 rfl ?_
        refine g_iload hC d_D_placeToBegin_75 rfl rfl ?_
        refine g_iald hC _ _ (k) (zp_lt' (Nat.lt_succ_of_lt ha) 2 (by decide)) (zS_pr (Nat.lt_succ_of_lt ha) 2 (by decide)) rfl (by omega) (by decide) d_D_placeToBegin_77 rfl ?_
        refine g_iload_n hC d_D_placeToBegin_78 rfl rfl ?_
        refine g_icmp_ne hC 112 d_D_placeToBegin_79 rfl rfl (fun h79 => ?_) (fun h79 => ?_)
        ·
          refine g_iinc hC (nI (k + 1)) d_D_placeToBegin_112 rfl rfl (nI_succ _).symm (by decide) ?_
          refine g_goto hC 36 d_D_placeToBegin_115 rfl ?_
          exact zG.to (ih (k + 1) (by omega) (he.trans (zptl_f (by first | (simp [zmat, h79]; done) | (simp [zmat, h55, h60]; done) | (simp [zmat, h100]; done))))) rfl rfl ⟨rfl, rfl, rfl, rfl, rfl, rfl, trivial⟩
        ·
          refine g_iload hC d_D_placeToBegin_82 rfl rfl ?_
          refine g_if_eq hC 112 d_D_placeToBegin_84 rfl rfl (fun h84 => absurd h84 (by decide)) (fun h84 => ?_)
          refine g_aload_n hC d_D_placeToBegin_87 rfl rfl ?_
          refine g_iload_n hC d_D_placeToBegin_88 rfl rfl ?_
          refine g_aload hC d_D_placeToBegin_89 rfl rfl ?_
          refine g_getR hC _ 1 9 _ (zp_lt (Nat.lt_succ_of_lt ha)) (zS_p (Nat.lt_succ_of_lt ha)) rfl fl_D_201 d_D_placeToBegin_91 rfl ?_
          refine g_iload hC d_D_placeToBegin_94 rfl rfl ?_
          refine g_iald hC _ _ (k) (zp_lt' (Nat.lt_succ_of_lt ha) 4 (by decide)) (zS_pr (Nat.lt_succ_of_lt ha) 4 (by decide)) rfl (by omega) (by decide) d_D_placeToBegin_96 rfl ?_
          refine g_goi hC rfl (z_runV hC (c_D_passesGuard l D K q hq _ _ _ ) yy_D_passesGuard yv_D_204 (by decide) rfl ⟨Nat.le_of_ble_eq_true rfl, Nat.le_of_ble_eq_true rfl⟩ ⟨Nat.zero_le _, Nat.zero_le _⟩ rfl (Nat.le_of_ble_eq_true rfl) d_D_placeToBegin_97) (fun r0 σ0 q0 => ?_)
          obtain ⟨rfl, w0⟩ := q0
          obtain rfl := w0.symm
          refine g_ifeq_b hC 112 d_D_placeToBegin_100 rfl rfl (fun h100 => ?_) (fun h100 => ?_)
          ·
            refine g_iinc hC (nI (k + 1)) d_D_placeToBegin_112 rfl rfl (nI_succ _).symm (by decide) ?_
            refine g_goto hC 36 d_D_placeToBegin_115 rfl ?_
            exact zG.to (ih (k + 1) (by omega) (he.trans (zptl_f (by first | (simp [zmat, h79]; done) | (simp [zmat, h55, h60]; done) | (simp [zmat, h100]; done))))) rfl rfl ⟨rfl, rfl, rfl, rfl, rfl, rfl, trivial⟩
          ·
            refine g_aload hC d_D_placeToBegin_103 rfl rfl ?_
            refine g_getR hC _ 1 10 _ (zp_lt (Nat.lt_succ_of_lt ha)) (zS_p (Nat.lt_succ_of_lt ha)) rfl fl_D_207 d_D_placeToBegin_105 rfl ?_
            refine g_iload hC d_D_placeToBegin_108 rfl rfl ?_
            refine g_iald hC _ _ (k) (zp_lt' (Nat.lt_succ_of_lt ha) 5 (by decide)) (zS_pr (Nat.lt_succ_of_lt ha) 5 (by decide)) rfl (by omega) (by decide) d_D_placeToBegin_110 rfl ?_
            exact g_iret hC hr hlk d_D_placeToBegin_111 ⟨by rw [he, zptl_t (by first | (simp [zmat, h79, h55, h100]; done) | (simp [zmat, h79, h60, h100]; done))], rfl⟩
      ·
        refine g_iload_n hC d_D_placeToBegin_58 rfl rfl ?_
        refine g_iload_n hC d_D_placeToBegin_59 rfl rfl ?_
        refine g_icmp_ne hC 67 d_D_placeToBegin_60 rfl rfl (fun h60 => ?_) (fun h60 => ?_)
        ·
          refine g_iconst hC (0) d_D_placeToBegin_67 (by decide) rfl ?_
          refine g_istore hC d_D_placeToBegin_68 rfl (by decide) ?_
          refine g_aload hC d_D_placeToBegin_70 rfl rfl ?_
          refine g_getR hC _ 1 7 _ (zp_lt (Nat.lt_succ_of_lt ha)) (zS_p (Nat.lt_succ_of_lt ha)) rfl fl_D_200 d_D_placeToBegin_72 rfl ?_
          refine g_iload hC d_D_placeToBegin_75 rfl rfl ?_
          refine g_iald hC _ _ (k) (zp_lt' (Nat.lt_succ_of_lt ha) 2 (by decide)) (zS_pr (Nat.lt_succ_of_lt ha) 2 (by decide)) rfl (by omega) (by decide) d_D_placeToBegin_77 rfl ?_
          refine g_iload_n hC d_D_placeToBegin_78 rfl rfl ?_
          refine g_icmp_ne hC 112 d_D_placeToBegin_79 rfl rfl (fun h79 => ?_) (fun h79 => ?_)
          ·
            refine g_iinc hC (nI (k + 1)) d_D_placeToBegin_112 rfl rfl (nI_succ _).symm (by decide) ?_
            refine g_goto hC 36 d_D_placeToBegin_115 rfl ?_
            exact zG.to (ih (k + 1) (by omega) (he.trans (zptl_f (by first | (simp [zmat, h79]; done) | (simp [zmat, h55, h60]; done) | (simp [zmat, h100]; done))))) rfl rfl ⟨rfl, rfl, rfl, rfl, rfl, rfl, trivial⟩
          ·
            refine g_iload hC d_D_placeToBegin_82 rfl rfl ?_
            refine g_if_eq hC 112 d_D_placeToBegin_84 rfl rfl (fun h84 => ?_) (fun h84 => absurd (by decide) h84)
            refine g_iinc hC (nI (k + 1)) d_D_placeToBegin_112 rfl rfl (nI_succ _).symm (by decide) ?_
            refine g_goto hC 36 d_D_placeToBegin_115 rfl ?_
            exact zG.to (ih (k + 1) (by omega) (he.trans (zptl_f (by first | (simp [zmat, h79]; done) | (simp [zmat, h55, h60]; done) | (simp [zmat, h100]; done))))) rfl rfl ⟨rfl, rfl, rfl, rfl, rfl, rfl, trivial⟩
        ·
          refine g_iconst hC (1) d_D_placeToBegin_63 (by decide) rfl ?_
          refine g_goto hC 68 d_D_placeToBegin_64 rfl ?_
          refine g_istore hC d_D_placeToBegin_68 rfl (by decide) ?_
          refine g_aload hC d_D_placeToBegin_70 rfl rfl ?_
          refine g_getR hC _ 1 7 _ (zp_lt (Nat.lt_succ_of_lt ha)) (zS_p (Nat.lt_succ_of_lt ha)) rfl fl_D_200 d_D_placeToBegin_72 rfl ?_
          refine g_iload hC d_D_placeToBegin_75 rfl rfl ?_
          refine g_iald hC _ _ (k) (zp_lt' (Nat.lt_succ_of_lt ha) 2 (by decide)) (zS_pr (Nat.lt_succ_of_lt ha) 2 (by decide)) rfl (by omega) (by decide) d_D_placeToBegin_77 rfl ?_
          refine g_iload_n hC d_D_placeToBegin_78 rfl rfl ?_
          refine g_icmp_ne hC 112 d_D_placeToBegin_79 rfl rfl (fun h79 => ?_) (fun h79 => ?_)
          ·
            refine g_iinc hC (nI (k + 1)) d_D_placeToBegin_112 rfl rfl (nI_succ _).symm (by decide) ?_
            refine g_goto hC 36 d_D_placeToBegin_115 rfl ?_
            exact zG.to (ih (k + 1) (by omega) (he.trans (zptl_f (by first | (simp [zmat, h79]; done) | (simp [zmat, h55, h60]; done) | (simp [zmat, h100]; done))))) rfl rfl ⟨rfl, rfl, rfl, rfl, rfl, rfl, trivial⟩
          ·
            refine g_iload hC d_D_placeToBegin_82 rfl rfl ?_
            refine g_if_eq hC 112 d_D_placeToBegin_84 rfl rfl (fun h84 => absurd h84 (by decide)) (fun h84 => ?_)
            refine g_aload_n hC d_D_placeToBegin_87 rfl rfl ?_
            refine g_iload_n hC d_D_placeToBegin_88 rfl rfl ?_
            refine g_aload hC d_D_placeToBegin_89 rfl rfl ?_
            refine g_getR hC _ 1 9 _ (zp_lt (Nat.lt_succ_of_lt ha)) (zS_p (Nat.lt_succ_of_lt ha)) rfl fl_D_201 d_D_placeToBegin_91 rfl ?_
            refine g_iload hC d_D_placeToBegin_94 rfl rfl ?_
            refine g_iald hC _ _ (k) (zp_lt' (Nat.lt_succ_of_lt ha) 4 (by decide)) (zS_pr (Nat.lt_succ_of_lt ha) 4 (by decide)) rfl (by omega) (by decide) d_D_placeToBegin_96 rfl ?_
            refine g_goi hC rfl (z_runV hC (c_D_passesGuard l D K q hq _ _ _ ) yy_D_passesGuard yv_D_204 (by decide) rfl ⟨Nat.le_of_ble_eq_true rfl, Nat.le_of_ble_eq_true rfl⟩ ⟨Nat.zero_le _, Nat.zero_le _⟩ rfl (Nat.le_of_ble_eq_true rfl) d_D_placeToBegin_97) (fun r1 σ1 q1 => ?_)
            obtain ⟨rfl, w1⟩ := q1
            obtain rfl := w1.symm
            refine g_ifeq_b hC 112 d_D_placeToBegin_100 rfl rfl (fun h100 => ?_) (fun h100 => ?_)
            ·
              refine g_iinc hC (nI (k + 1)) d_D_placeToBegin_112 rfl rfl (nI_succ _).symm (by decide) ?_
              refine g_goto hC 36 d_D_placeToBegin_115 rfl ?_
              exact zG.to (ih (k + 1) (by omega) (he.trans (zptl_f (by first | (simp [zmat, h79]; done) | (simp [zmat, h55, h60]; done) | (simp [zmat, h100]; done))))) rfl rfl ⟨rfl, rfl, rfl, rfl, rfl, rfl, trivial⟩
            ·
              refine g_aload hC d_D_placeToBegin_103 rfl rfl ?_
              refine g_getR hC _ 1 10 _ (zp_lt (Nat.lt_succ_of_lt ha)) (zS_p (Nat.lt_succ_of_lt ha)) rfl fl_D_207 d_D_placeToBegin_105 rfl ?_
              refine g_iload hC d_D_placeToBegin_108 rfl rfl ?_
              refine g_iald hC _ _ (k) (zp_lt' (Nat.lt_succ_of_lt ha) 5 (by decide)) (zS_pr (Nat.lt_succ_of_lt ha) 5 (by decide)) rfl (by omega) (by decide) d_D_placeToBegin_110 rfl ?_
              exact g_iret hC hr hlk d_D_placeToBegin_111 ⟨by rw [he, zptl_t (by first | (simp [zmat, h79, h55, h100]; done) | (simp [zmat, h79, h60, h100]; done))], rfl⟩
  refine g_aload_n hC d_D_placeToBegin_0 rfl rfl ?_
  refine g_getR hC _ 0 1 _ (by decide) rfl rfl fl_D_18 d_D_placeToBegin_1 rfl ?_
  refine g_iload_n hC d_D_placeToBegin_4 rfl rfl ?_
  refine g_aald hC _ _ a _ (by decide) rfl rfl ha (by decide) (zS_app ha) d_D_placeToBegin_5 rfl ?_
  refine g_astore hC d_D_placeToBegin_6 rfl (by decide) ?_
  refine g_aload hC d_D_placeToBegin_8 rfl rfl ?_
  refine g_getI hC _ 2 0 (za_lt ha) (zS_a ha) rfl fl_D_182 d_D_placeToBegin_10 rfl ?_
  refine g_if_eq hC 24 d_D_placeToBegin_13 rfl rfl (fun h13 => ?_) (fun h13 => ?_)
  ·
    have ho : zptb σ a g ac pn = -1 := by first | exact if_pos (Or.inl h13) | exact if_pos (Or.inr h21)
    refine g_iconst hC (-1) d_D_placeToBegin_24 (by decide) rfl ?_
    exact g_iret hC hr hlk d_D_placeToBegin_25 ⟨ho.symm, rfl⟩
  ·
    refine g_aload hC d_D_placeToBegin_16 rfl rfl ?_
    refine g_getI hC _ 2 5 (za_lt ha) (zS_a ha) rfl fl_D_148 d_D_placeToBegin_18 rfl ?_
    refine g_if_eq hC 26 d_D_placeToBegin_21 rfl rfl (fun h21 => ?_) (fun h21 => ?_)
    ·
      have ho : zptb σ a g ac pn = zptl σ a g ac pn 0 := if_neg (fun z => z.elim h13 (fun y => y h21))
      refine g_aload hC d_D_placeToBegin_26 rfl rfl ?_
      refine g_getR hC _ 2 1 _ (za_lt ha) (zS_a ha) rfl fl_D_107 d_D_placeToBegin_28 rfl ?_
      refine g_astore hC d_D_placeToBegin_31 rfl (by decide) ?_
      refine g_iconst hC (0) d_D_placeToBegin_33 (by decide) rfl ?_
      refine g_istore hC d_D_placeToBegin_34 rfl (by decide) ?_
      exact zG.to (J36 pn 0 (by omega) ho) rfl rfl ⟨rfl, rfl, rfl, rfl, rfl, rfl, trivial⟩
    ·
      have ho : zptb σ a g ac pn = -1 := by first | exact if_pos (Or.inl h13) | exact if_pos (Or.inr h21)
      refine g_iconst hC (-1) d_D_placeToBegin_24 (by decide) rfl ?_
      exact g_iret hC hr hlk d_D_placeToBegin_25 ⟨ho.symm, rfl⟩
set_option maxHeartbeats 4000000 in
set_option maxRecDepth 100000 in
theorem c_D_deliver (l : Launch) (D : va_G) (K : Nat → ClassId) (q : Nat → Nat) (hq : zI q) (σ : zm) (z : Nat) (hz : z ≤ 8) (h : σ 2 0 = nI z) (pf : Nat → Nat) (hpf : ∀ a, a < 8 → pf a ≤ 4 ∧ σ (zp a) 6 = nI (pf a)) : zMi l y_D_deliver b_D_deliver 6 (some .int) 6 D K q [.ref (q (0))] σ (fun r σ' => r = (zdel σ z pf).1 ∧ σ' = (zdel σ z pf).2) := by
  refine zMi.of (own := "AppDesk") (lv := [(0, .ref (q (0)))]) (by decide) rfl hq (Nat.le_of_ble_eq_true rfl) rfl ?_
  intro p e s m below meth c hC hr hlk
  have J52 : ∀ (f : Nat) (k : Nat) (hif : k + f = 8) (he : zdel σ z pf = zdlv (zdf σ z) (σ 3 0) (σ 4 0) (σ 5 0) pf f k), zG p l e (zrm 6) s m ([.ref (q (0))] : List Value).toArray below meth c D K q (zA q) 6 0 0 (MQ below (va_Qi (fun r σ' => r = (zdel σ z pf).1 ∧ σ' = (zdel σ z pf).2) (zO D K q) (zA q)) ([.ref (q (0))] : List Value).toArray s 0 0 (zA q)) (zdf σ z) 52 [(0, .ref (q (0))), (1, .int (σ 3 0)), (2, .int (σ 4 0)), (3, .int (σ 5 0)), (4, .int (nI k))] [] := by
    intro f
    induction f with
    | zero =>
      intro k hif he
      refine g_iload hC d_D_deliver_52 rfl rfl ?_
      refine g_bipush hC (8) d_D_deliver_54 (by decide) rfl ?_
      refine g_icmp_ge hC 98 d_D_deliver_56 rfl rfl (fun h56 => ?_) (fun h56 => absurd (nI_le (a := 8) (b := k) (by omega) (by omega)) h56)
      refine g_iconst hC (-1) d_D_deliver_98 (by decide) rfl ?_
      exact g_iret hC hr hlk d_D_deliver_99 ⟨by rw [he]; rfl, by rw [he]; rfl⟩
    | succ f ih =>
      intro k hif he
      have hk8 : k < 8 := by omega
      refine g_iload hC d_D_deliver_52 rfl rfl ?_
      refine g_bipush hC (8) d_D_deliver_54 (by decide) rfl ?_
      refine g_icmp_ge hC 98 d_D_deliver_56 rfl rfl (fun h56 => absurd h56 (nI_ge (a := k) (b := 8) (by omega) (by omega))) (fun h56 => ?_)
      refine g_aload_n hC d_D_deliver_59 rfl rfl ?_
      refine g_iload hC d_D_deliver_60 rfl rfl ?_
      refine g_iload_n hC d_D_deliver_62 rfl rfl ?_
      refine g_iload_n hC d_D_deliver_63 rfl rfl ?_
      refine g_goi hC rfl (z_runV hC (c_D_placeToBegin l D K q hq k hk8 (σ 3 0) (σ 4 0) (pf k) (hpf k hk8).1 _ (by rw [zdf_off _ _ (by unfold zp; omega)]; exact (hpf k hk8).2)) yy_D_placeToBegin yv_D_135 (by decide) rfl ⟨Nat.le_of_ble_eq_true rfl, Nat.le_of_ble_eq_true rfl⟩ ⟨Nat.zero_le _, Nat.zero_le _⟩ rfl (Nat.le_of_ble_eq_true rfl) d_D_deliver_64) (fun r0 σ0 q0 => ?_)
      obtain ⟨rfl, w0⟩ := q0
      obtain rfl := w0.symm
      refine g_istore hC d_D_deliver_67 rfl (by decide) ?_
      refine g_iload hC d_D_deliver_69 rfl rfl ?_
      refine g_iconst hC (-1) d_D_deliver_71 (by decide) rfl ?_
      refine g_icmp_eq hC 92 d_D_deliver_72 rfl rfl (fun h72 => ?_) (fun h72 => ?_)
      ·
        refine g_iinc hC (nI (k + 1)) d_D_deliver_92 rfl rfl (nI_succ _).symm (by decide) ?_
        refine g_goto hC 52 d_D_deliver_95 rfl ?_
        exact zG.to (ih (k + 1) (by omega) (he.trans (zdlv_f h72))) rfl rfl ⟨rfl, rfl, rfl, rfl, rfl, trivial⟩
      ·
        refine g_aload_n hC d_D_deliver_75 rfl rfl ?_
        refine g_getR hC _ 0 1 _ (by decide) rfl rfl fl_D_18 d_D_deliver_76 rfl ?_
        refine g_iload hC d_D_deliver_79 rfl rfl ?_
        refine g_aald hC _ _ k _ (by decide) rfl rfl hk8 (by decide) (zS_app hk8) d_D_deliver_81 rfl ?_
        refine g_iload hC d_D_deliver_82 rfl rfl ?_
        refine g_iload_n hC d_D_deliver_84 rfl rfl ?_
        refine g_iload_n hC d_D_deliver_85 rfl rfl ?_
        refine g_gov hC rfl (z_runV hC (c_A_begin l D K q hq _ hk8 _ _ _ _ ) yy_A_begin yv_D_139 (za_lt hk8) (zS_a hk8) ⟨Nat.le_of_ble_eq_true rfl, Nat.le_of_ble_eq_true rfl⟩ ⟨Nat.zero_le _, Nat.zero_le _⟩ rfl (Nat.le_of_ble_eq_true rfl) d_D_deliver_86) (fun σ1 q1 => ?_)
        obtain rfl := q1.symm
        refine g_iload hC d_D_deliver_89 rfl rfl ?_
        exact g_iret hC hr hlk d_D_deliver_91 ⟨by rw [he, zdlv_t h72], by rw [he, zdlv_t h72]⟩
  refine g_aload_n hC d_D_deliver_0 rfl rfl ?_
  refine g_getR hC _ 0 2 _ (by decide) rfl rfl fl_D_26 d_D_deliver_1 rfl ?_
  refine g_getV hC _ 3 0 (nI z) (h) (by decide) rfl rfl fl_D_120 d_D_deliver_4 rfl ?_
  refine g_if_ne hC 12 d_D_deliver_7 rfl rfl (fun h7 => ?_) (fun h7 => ?_)
  ·
    have hz0 : ¬ z = 0 := fun y => h7 (by rw [y]; rfl)
    refine g_aload_n hC d_D_deliver_12 rfl rfl ?_
    refine g_getR hC _ 0 2 _ (by decide) rfl rfl fl_D_26 d_D_deliver_13 rfl ?_
    refine g_getR hC _ 3 1 _ (by decide) rfl rfl fl_D_123 d_D_deliver_16 rfl ?_
    refine g_iconst hC (0) d_D_deliver_19 (by decide) rfl ?_
    refine g_iald hC _ _ 0 (by decide) rfl (by decide) (by decide) (by decide) d_D_deliver_20 rfl ?_
    refine g_istore_n hC d_D_deliver_21 rfl (by decide) ?_
    refine g_aload_n hC d_D_deliver_22 rfl rfl ?_
    refine g_getR hC _ 0 2 _ (by decide) rfl rfl fl_D_26 d_D_deliver_23 rfl ?_
    refine g_getR hC _ 3 2 _ (by decide) rfl rfl fl_D_126 d_D_deliver_26 rfl ?_
    refine g_iconst hC (0) d_D_deliver_29 (by decide) rfl ?_
    refine g_iald hC _ _ 0 (by decide) rfl (by decide) (by decide) (by decide) d_D_deliver_30 rfl ?_
    refine g_istore_n hC d_D_deliver_31 rfl (by decide) ?_
    refine g_aload_n hC d_D_deliver_32 rfl rfl ?_
    refine g_getR hC _ 0 2 _ (by decide) rfl rfl fl_D_26 d_D_deliver_33 rfl ?_
    refine g_getR hC _ 3 3 _ (by decide) rfl rfl fl_D_129 d_D_deliver_36 rfl ?_
    refine g_iconst hC (0) d_D_deliver_39 (by decide) rfl ?_
    refine g_iald hC _ _ 0 (by decide) rfl (by decide) (by decide) (by decide) d_D_deliver_40 rfl ?_
    refine g_istore_n hC d_D_deliver_41 rfl (by decide) ?_
    refine g_aload_n hC d_D_deliver_42 rfl rfl ?_
    refine g_getR hC _ 0 2 _ (by decide) rfl rfl fl_D_26 d_D_deliver_43 rfl ?_
    refine g_gov hC rfl (z_runV hC (c_Q_dropFirst l D K q hq _ (by omega) hz _ h) yy_Q_dropFirst yv_D_132 (by decide) rfl ⟨Nat.le_of_ble_eq_true rfl, Nat.le_of_ble_eq_true rfl⟩ ⟨Nat.zero_le _, Nat.zero_le _⟩ rfl (Nat.le_of_ble_eq_true rfl) d_D_deliver_46) (fun σ2 q2 => ?_)
    obtain rfl := q2.symm
    refine g_iconst hC (0) d_D_deliver_49 (by decide) rfl ?_
    refine g_istore hC d_D_deliver_50 rfl (by decide) ?_
    exact zG.to (J52 8 0 (by omega) (if_neg hz0)) rfl rfl ⟨rfl, rfl, rfl, rfl, rfl, trivial⟩
  ·
    have hz0 : z = 0 := by first | exact (nI_eq (a := z) (b := 0) (by omega) (by decide)).mp h7 | exact (nI_eq (a := z) (b := 0) (by omega) (by decide)).mp (Decidable.not_not.mp h7)
    refine g_iconst hC (-1) d_D_deliver_10 (by decide) rfl ?_
    exact g_iret hC hr hlk d_D_deliver_11 ⟨by rw [hz0]; rfl, by rw [hz0]; rfl⟩
set_option maxHeartbeats 4000000 in
set_option maxRecDepth 100000 in
theorem c_D_sendFromStack (l : Launch) (D : va_G) (K : Nat → ClassId) (q : Nat → Nat) (hq : zI q) (a : Nat) (ha : a < 8) (σ : zm) (z : Nat) (hz : z ≤ 8) (h : σ 2 0 = nI z) : zMi l y_D_sendFromStack b_D_sendFromStack 5 (some .boolean) 3 D K q [.ref (q (0)), .int (nI a)] σ (fun r σ' => r = zb (zin (zup2 σ a) 10) ∧ σ' = if zin (zup2 σ a) 10 then zsfs σ a z else σ) := by
  refine zMi.of (own := "AppDesk") (lv := [(0, .ref (q (0))), (1, .int (nI a))]) (by decide) rfl hq (Nat.le_of_ble_eq_true rfl) rfl ?_
  intro p e s m below meth c hC hr hlk
  refine g_aload_n hC d_D_sendFromStack_0 rfl rfl ?_
  refine g_getR hC _ 0 1 _ (by decide) rfl rfl fl_D_18 d_D_sendFromStack_1 rfl ?_
  refine g_iload_n hC d_D_sendFromStack_4 rfl rfl ?_
  refine g_aald hC _ _ a _ (by decide) rfl rfl ha (by decide) (zS_app ha) d_D_sendFromStack_5 rfl ?_
  refine g_astore_n hC d_D_sendFromStack_6 rfl (by decide) ?_
  refine g_aload_n hC d_D_sendFromStack_7 rfl rfl ?_
  refine g_goi hC rfl (z_runV hC (c_A_secondUppermost l D K q hq _ ha _ ) yy_A_secondUppermost yv_D_242 (za_lt ha) (zS_a ha) ⟨Nat.le_of_ble_eq_true rfl, Nat.le_of_ble_eq_true rfl⟩ ⟨Nat.zero_le _, Nat.zero_le _⟩ rfl (Nat.le_of_ble_eq_true rfl) d_D_sendFromStack_8) (fun r0 σ0 q0 => ?_)
  obtain ⟨rfl, w0⟩ := q0
  obtain rfl := w0.symm
  refine g_istore_n hC d_D_sendFromStack_11 rfl (by decide) ?_
  refine g_iload_n hC d_D_sendFromStack_12 rfl rfl ?_
  refine g_bipush hC (10) d_D_sendFromStack_13 (by decide) rfl ?_
  refine g_goi hC rfl (z_runS hC (c_D_isBelow l D K q hq _ _ _) yy_D_isBelow ys_D_41 ⟨Nat.le_of_ble_eq_true rfl, Nat.le_of_ble_eq_true rfl⟩ ⟨Nat.zero_le _, Nat.zero_le _⟩ rfl (Nat.le_of_ble_eq_true rfl) d_D_sendFromStack_15) (fun r1 σ1 q1 => ?_)
  obtain ⟨rfl, w1⟩ := q1
  obtain rfl := w1.symm
  refine g_ifne_b hC 23 d_D_sendFromStack_18 rfl rfl (fun h18 => ?_) (fun h18 => ?_)
  ·
    refine g_aload_n hC d_D_sendFromStack_23 rfl rfl ?_
    refine g_goi hC rfl (z_runV hC (c_A_pop l D K q hq _ ha _ ) yy_A_pop yv_D_245 (za_lt ha) (zS_a ha) ⟨Nat.le_of_ble_eq_true rfl, Nat.le_of_ble_eq_true rfl⟩ ⟨Nat.zero_le _, Nat.zero_le _⟩ rfl (Nat.le_of_ble_eq_true rfl) d_D_sendFromStack_24) (fun r2 σ2 q2 => ?_)
    obtain ⟨rfl, w2⟩ := q2
    obtain rfl := w2.symm
    refine g_istore hC d_D_sendFromStack_27 rfl (by decide) ?_
    refine g_aload_n hC d_D_sendFromStack_29 rfl rfl ?_
    refine g_goi hC rfl (z_runV hC (c_A_pop l D K q hq _ ha _ ) yy_A_pop yv_D_245 (za_lt ha) (zS_a ha) ⟨Nat.le_of_ble_eq_true rfl, Nat.le_of_ble_eq_true rfl⟩ ⟨Nat.zero_le _, Nat.zero_le _⟩ rfl (Nat.le_of_ble_eq_true rfl) d_D_sendFromStack_30) (fun r3 σ3 q3 => ?_)
    obtain ⟨rfl, w3⟩ := q3
    obtain rfl := w3.symm
    refine g_pop hC d_D_sendFromStack_33 rfl rfl ?_
    refine g_aload_n hC d_D_sendFromStack_34 rfl rfl ?_
    refine g_getR hC _ 0 2 _ (by decide) rfl rfl fl_D_26 d_D_sendFromStack_35 rfl ?_
    refine g_iload_n hC d_D_sendFromStack_38 rfl rfl ?_
    refine g_iload_n hC d_D_sendFromStack_39 rfl rfl ?_
    refine g_iload hC d_D_sendFromStack_40 rfl rfl ?_
    refine g_goi hC rfl (z_runV hC (c_Q_add l D K q hq _ hz _ _ _ _ (by rw [zpop_off _ (by unfold za; omega), zpop_off _ (by unfold za; omega)]; exact h)) yy_Q_add yv_D_116 (by decide) rfl ⟨Nat.le_of_ble_eq_true rfl, Nat.le_of_ble_eq_true rfl⟩ ⟨Nat.zero_le _, Nat.zero_le _⟩ rfl (Nat.le_of_ble_eq_true rfl) d_D_sendFromStack_42) (fun r4 σ4 q4 => ?_)
    obtain ⟨rfl, w4⟩ := q4
    obtain rfl := w4.symm
    refine g_pop hC d_D_sendFromStack_45 rfl rfl ?_
    refine g_aload_n hC d_D_sendFromStack_46 rfl rfl ?_
    refine g_dup hC d_D_sendFromStack_47 rfl rfl ?_
    refine g_getI hC _ 2 6 (za_lt ha) (zS_a ha) rfl fl_D_158 d_D_sendFromStack_48 rfl ?_
    refine g_iconst hC (1) d_D_sendFromStack_51 (by decide) rfl ?_
    refine g_iadd hC d_D_sendFromStack_52 rfl ?_
    refine g_putI hC _ 2 6 (za_lt ha) (zS_a ha) rfl fp_D_158 d_D_sendFromStack_53 rfl ?_
    refine g_iconst hC (1) d_D_sendFromStack_56 (by decide) rfl ?_
    exact g_zret hC hr hlk d_D_sendFromStack_57 (Or.inr rfl) ⟨by rw [h18]; rfl, (if_pos h18).symm⟩
  ·
    refine g_iconst hC (0) d_D_sendFromStack_21 (by decide) rfl ?_
    exact g_zret hC hr hlk d_D_sendFromStack_22 (Or.inl rfl) ⟨by rw [h18]; rfl, (if_neg (zif_f h18)).symm⟩
set_option maxHeartbeats 4000000 in
set_option maxRecDepth 100000 in
theorem c_D_doWord (l : Launch) (D : va_G) (K : Nat → ClassId) (q : Nat → Nat) (hq : zI q) (a : Nat) (ha : a < 8) (σ : zm) (wn z : Nat) (hwn : wn ≤ 24) (hz : z ≤ 8) (h11 : σ (zp a) 11 = nI wn) (h : σ 2 0 = nI z) : zMi l y_D_doWord b_D_doWord 4 (some .boolean) 5 D K q [.ref (q (0)), .int (nI a)] σ (fun r σ' => r = zb (zdo σ a wn z).1 ∧ σ' = (zdo σ a wn z).2) := by
  refine zMi.of (own := "AppDesk") (lv := [(0, .ref (q (0))), (1, .int (nI a))]) (by decide) rfl hq (Nat.le_of_ble_eq_true rfl) rfl ?_
  intro p e s m below meth c hC hr hlk
  refine g_aload_n hC d_D_doWord_0 rfl rfl ?_
  refine g_getR hC _ 0 1 _ (by decide) rfl rfl fl_D_18 d_D_doWord_1 rfl ?_
  refine g_iload_n hC d_D_doWord_4 rfl rfl ?_
  refine g_aald hC _ _ a _ (by decide) rfl rfl ha (by decide) (zS_app ha) d_D_doWord_5 rfl ?_
  refine g_astore_n hC d_D_doWord_6 rfl (by decide) ?_
  refine g_aload_n hC d_D_doWord_7 rfl rfl ?_
  refine g_goi hC rfl (z_runV hC (c_A_wordInPlace l D K q hq _ ha _ wn hwn h11) yy_A_wordInPlace yv_D_213 (za_lt ha) (zS_a ha) ⟨Nat.le_of_ble_eq_true rfl, Nat.le_of_ble_eq_true rfl⟩ ⟨Nat.zero_le _, Nat.zero_le _⟩ rfl (Nat.le_of_ble_eq_true rfl) d_D_doWord_8) (fun r0 σ0 q0 => ?_)
  obtain ⟨rfl, w0⟩ := q0
  obtain rfl := w0.symm
  refine g_istore_n hC d_D_doWord_11 rfl (by decide) ?_
  refine g_iload_n hC d_D_doWord_12 rfl rfl ?_
  refine g_goi hC rfl (z_runS hC (c_D_operationOf l D K q hq _ _) yy_D_operationOf ys_D_216 ⟨Nat.le_of_ble_eq_true rfl, Nat.le_of_ble_eq_true rfl⟩ ⟨Nat.zero_le _, Nat.zero_le _⟩ rfl (Nat.le_of_ble_eq_true rfl) d_D_doWord_13) (fun r1 σ1 q1 => ?_)
  obtain ⟨rfl, w1⟩ := q1
  obtain rfl := w1.symm
  by_cases t16_0 : (zwip σ a wn &&& 15) = 0
  ·
    refine g_tableIn hC 137 d_D_doWord_16 (by rw [t16_0]; decide) (by rw [t16_0]; decide) (by rw [t16_0]; rfl) rfl ?_
    refine g_aload_n hC d_D_doWord_137 rfl rfl ?_
    refine g_iload_n hC d_D_doWord_138 rfl rfl ?_
    refine g_goi hC rfl (z_runS hC (c_D_operationOf l D K q hq _ _) yy_D_operationOf ys_D_216 ⟨Nat.le_of_ble_eq_true rfl, Nat.le_of_ble_eq_true rfl⟩ ⟨Nat.zero_le _, Nat.zero_le _⟩ rfl (Nat.le_of_ble_eq_true rfl) d_D_doWord_139) (fun r2 σ2 q2 => ?_)
    obtain ⟨rfl, w2⟩ := q2
    obtain rfl := w2.symm
    refine g_iload_n hC d_D_doWord_142 rfl rfl ?_
    refine g_goi hC rfl (z_runS hC (c_D_argumentOf l D K q hq _ _) yy_D_argumentOf ys_D_222 ⟨Nat.le_of_ble_eq_true rfl, Nat.le_of_ble_eq_true rfl⟩ ⟨Nat.zero_le _, Nat.zero_le _⟩ rfl (Nat.le_of_ble_eq_true rfl) d_D_doWord_143) (fun r3 σ3 q3 => ?_)
    obtain ⟨rfl, w3⟩ := q3
    obtain rfl := w3.symm
    refine g_gov hC rfl (z_runV hC (c_A_doTurn l D K q hq _ ha _ _ _ ) yy_A_doTurn yv_D_235 (za_lt ha) (zS_a ha) ⟨Nat.le_of_ble_eq_true rfl, Nat.le_of_ble_eq_true rfl⟩ ⟨Nat.zero_le _, Nat.zero_le _⟩ rfl (Nat.le_of_ble_eq_true rfl) d_D_doWord_146) (fun σ4 q4 => ?_)
    obtain rfl := q4.symm
    refine g_iconst hC (1) d_D_doWord_149 (by decide) rfl ?_
    exact g_zret hC hr hlk d_D_doWord_150 (Or.inr rfl) (by first | exact ⟨by rw [zdo_j (Or.inl t16_0)]; rfl, by rw [zdo_j (Or.inl t16_0)]⟩ | exact ⟨by rw [zdo_j (Or.inr (Or.inl t16_8))]; rfl, by rw [zdo_j (Or.inr (Or.inl t16_8))]⟩ | exact ⟨by rw [zdo_j (Or.inr (Or.inr t16_9))]; rfl, by rw [zdo_j (Or.inr (Or.inr t16_9))]⟩)
  by_cases t16_1 : (zwip σ a wn &&& 15) = 1
  ·
    refine g_tableIn hC 151 d_D_doWord_16 (by rw [t16_1]; decide) (by rw [t16_1]; decide) (by rw [t16_1]; rfl) rfl ?_
    refine g_aload_n hC d_D_doWord_151 rfl rfl ?_
    refine g_iload_n hC d_D_doWord_152 rfl rfl ?_
    refine g_goi hC rfl (z_runS hC (c_D_operationOf l D K q hq _ _) yy_D_operationOf ys_D_216 ⟨Nat.le_of_ble_eq_true rfl, Nat.le_of_ble_eq_true rfl⟩ ⟨Nat.zero_le _, Nat.zero_le _⟩ rfl (Nat.le_of_ble_eq_true rfl) d_D_doWord_153) (fun r5 σ5 q5 => ?_)
    obtain ⟨rfl, w5⟩ := q5
    obtain rfl := w5.symm
    refine g_iload_n hC d_D_doWord_156 rfl rfl ?_
    refine g_goi hC rfl (z_runS hC (c_D_argumentOf l D K q hq _ _) yy_D_argumentOf ys_D_222 ⟨Nat.le_of_ble_eq_true rfl, Nat.le_of_ble_eq_true rfl⟩ ⟨Nat.zero_le _, Nat.zero_le _⟩ rfl (Nat.le_of_ble_eq_true rfl) d_D_doWord_157) (fun r6 σ6 q6 => ?_)
    obtain ⟨rfl, w6⟩ := q6
    obtain rfl := w6.symm
    refine g_gov hC rfl (z_runV hC (c_A_doPlainWord l D K q hq _ ha _ _ _ ) yy_A_doPlainWord yv_D_239 (za_lt ha) (zS_a ha) ⟨Nat.le_of_ble_eq_true rfl, Nat.le_of_ble_eq_true rfl⟩ ⟨Nat.zero_le _, Nat.zero_le _⟩ rfl (Nat.le_of_ble_eq_true rfl) d_D_doWord_160) (fun σ7 q7 => ?_)
    obtain rfl := q7.symm
    refine g_iconst hC (1) d_D_doWord_163 (by decide) rfl ?_
    exact g_zret hC hr hlk d_D_doWord_164 (Or.inr rfl) (by first | exact ⟨by rw [zdo_p (by rw [t16_1]; decide)]; rfl, by rw [zdo_p (by rw [t16_1]; decide)]⟩ | exact ⟨by rw [zdo_p (by rw [t16_2]; decide)]; rfl, by rw [zdo_p (by rw [t16_2]; decide)]⟩ | exact ⟨by rw [zdo_p (by rw [t16_3]; decide)]; rfl, by rw [zdo_p (by rw [t16_3]; decide)]⟩ | exact ⟨by rw [zdo_p (by rw [t16_4]; decide)]; rfl, by rw [zdo_p (by rw [t16_4]; decide)]⟩ | exact ⟨by rw [zdo_p (by rw [t16_5]; decide)]; rfl, by rw [zdo_p (by rw [t16_5]; decide)]⟩ | exact ⟨by rw [zdo_p (by rw [t16_6]; decide)]; rfl, by rw [zdo_p (by rw [t16_6]; decide)]⟩ | exact ⟨by rw [zdo_p (by rw [t16_7]; decide)]; rfl, by rw [zdo_p (by rw [t16_7]; decide)]⟩ | exact ⟨by rw [zdo_p ⟨t16_12, t16_13, t16_10, t16_11, t16_0, t16_8, t16_9⟩]; rfl, by rw [zdo_p ⟨t16_12, t16_13, t16_10, t16_11, t16_0, t16_8, t16_9⟩]⟩)
  by_cases t16_2 : (zwip σ a wn &&& 15) = 2
  ·
    refine g_tableIn hC 151 d_D_doWord_16 (by rw [t16_2]; decide) (by rw [t16_2]; decide) (by rw [t16_2]; rfl) rfl ?_
    refine g_aload_n hC d_D_doWord_151 rfl rfl ?_
    refine g_iload_n hC d_D_doWord_152 rfl rfl ?_
    refine g_goi hC rfl (z_runS hC (c_D_operationOf l D K q hq _ _) yy_D_operationOf ys_D_216 ⟨Nat.le_of_ble_eq_true rfl, Nat.le_of_ble_eq_true rfl⟩ ⟨Nat.zero_le _, Nat.zero_le _⟩ rfl (Nat.le_of_ble_eq_true rfl) d_D_doWord_153) (fun r8 σ8 q8 => ?_)
    obtain ⟨rfl, w8⟩ := q8
    obtain rfl := w8.symm
    refine g_iload_n hC d_D_doWord_156 rfl rfl ?_
    refine g_goi hC rfl (z_runS hC (c_D_argumentOf l D K q hq _ _) yy_D_argumentOf ys_D_222 ⟨Nat.le_of_ble_eq_true rfl, Nat.le_of_ble_eq_true rfl⟩ ⟨Nat.zero_le _, Nat.zero_le _⟩ rfl (Nat.le_of_ble_eq_true rfl) d_D_doWord_157) (fun r9 σ9 q9 => ?_)
    obtain ⟨rfl, w9⟩ := q9
    obtain rfl := w9.symm
    refine g_gov hC rfl (z_runV hC (c_A_doPlainWord l D K q hq _ ha _ _ _ ) yy_A_doPlainWord yv_D_239 (za_lt ha) (zS_a ha) ⟨Nat.le_of_ble_eq_true rfl, Nat.le_of_ble_eq_true rfl⟩ ⟨Nat.zero_le _, Nat.zero_le _⟩ rfl (Nat.le_of_ble_eq_true rfl) d_D_doWord_160) (fun σ10 q10 => ?_)
    obtain rfl := q10.symm
    refine g_iconst hC (1) d_D_doWord_163 (by decide) rfl ?_
    exact g_zret hC hr hlk d_D_doWord_164 (Or.inr rfl) (by first | exact ⟨by rw [zdo_p (by rw [t16_1]; decide)]; rfl, by rw [zdo_p (by rw [t16_1]; decide)]⟩ | exact ⟨by rw [zdo_p (by rw [t16_2]; decide)]; rfl, by rw [zdo_p (by rw [t16_2]; decide)]⟩ | exact ⟨by rw [zdo_p (by rw [t16_3]; decide)]; rfl, by rw [zdo_p (by rw [t16_3]; decide)]⟩ | exact ⟨by rw [zdo_p (by rw [t16_4]; decide)]; rfl, by rw [zdo_p (by rw [t16_4]; decide)]⟩ | exact ⟨by rw [zdo_p (by rw [t16_5]; decide)]; rfl, by rw [zdo_p (by rw [t16_5]; decide)]⟩ | exact ⟨by rw [zdo_p (by rw [t16_6]; decide)]; rfl, by rw [zdo_p (by rw [t16_6]; decide)]⟩ | exact ⟨by rw [zdo_p (by rw [t16_7]; decide)]; rfl, by rw [zdo_p (by rw [t16_7]; decide)]⟩ | exact ⟨by rw [zdo_p ⟨t16_12, t16_13, t16_10, t16_11, t16_0, t16_8, t16_9⟩]; rfl, by rw [zdo_p ⟨t16_12, t16_13, t16_10, t16_11, t16_0, t16_8, t16_9⟩]⟩)
  by_cases t16_3 : (zwip σ a wn &&& 15) = 3
  ·
    refine g_tableIn hC 151 d_D_doWord_16 (by rw [t16_3]; decide) (by rw [t16_3]; decide) (by rw [t16_3]; rfl) rfl ?_
    refine g_aload_n hC d_D_doWord_151 rfl rfl ?_
    refine g_iload_n hC d_D_doWord_152 rfl rfl ?_
    refine g_goi hC rfl (z_runS hC (c_D_operationOf l D K q hq _ _) yy_D_operationOf ys_D_216 ⟨Nat.le_of_ble_eq_true rfl, Nat.le_of_ble_eq_true rfl⟩ ⟨Nat.zero_le _, Nat.zero_le _⟩ rfl (Nat.le_of_ble_eq_true rfl) d_D_doWord_153) (fun r11 σ11 q11 => ?_)
    obtain ⟨rfl, w11⟩ := q11
    obtain rfl := w11.symm
    refine g_iload_n hC d_D_doWord_156 rfl rfl ?_
    refine g_goi hC rfl (z_runS hC (c_D_argumentOf l D K q hq _ _) yy_D_argumentOf ys_D_222 ⟨Nat.le_of_ble_eq_true rfl, Nat.le_of_ble_eq_true rfl⟩ ⟨Nat.zero_le _, Nat.zero_le _⟩ rfl (Nat.le_of_ble_eq_true rfl) d_D_doWord_157) (fun r12 σ12 q12 => ?_)
    obtain ⟨rfl, w12⟩ := q12
    obtain rfl := w12.symm
    refine g_gov hC rfl (z_runV hC (c_A_doPlainWord l D K q hq _ ha _ _ _ ) yy_A_doPlainWord yv_D_239 (za_lt ha) (zS_a ha) ⟨Nat.le_of_ble_eq_true rfl, Nat.le_of_ble_eq_true rfl⟩ ⟨Nat.zero_le _, Nat.zero_le _⟩ rfl (Nat.le_of_ble_eq_true rfl) d_D_doWord_160) (fun σ13 q13 => ?_)
    obtain rfl := q13.symm
    refine g_iconst hC (1) d_D_doWord_163 (by decide) rfl ?_
    exact g_zret hC hr hlk d_D_doWord_164 (Or.inr rfl) (by first | exact ⟨by rw [zdo_p (by rw [t16_1]; decide)]; rfl, by rw [zdo_p (by rw [t16_1]; decide)]⟩ | exact ⟨by rw [zdo_p (by rw [t16_2]; decide)]; rfl, by rw [zdo_p (by rw [t16_2]; decide)]⟩ | exact ⟨by rw [zdo_p (by rw [t16_3]; decide)]; rfl, by rw [zdo_p (by rw [t16_3]; decide)]⟩ | exact ⟨by rw [zdo_p (by rw [t16_4]; decide)]; rfl, by rw [zdo_p (by rw [t16_4]; decide)]⟩ | exact ⟨by rw [zdo_p (by rw [t16_5]; decide)]; rfl, by rw [zdo_p (by rw [t16_5]; decide)]⟩ | exact ⟨by rw [zdo_p (by rw [t16_6]; decide)]; rfl, by rw [zdo_p (by rw [t16_6]; decide)]⟩ | exact ⟨by rw [zdo_p (by rw [t16_7]; decide)]; rfl, by rw [zdo_p (by rw [t16_7]; decide)]⟩ | exact ⟨by rw [zdo_p ⟨t16_12, t16_13, t16_10, t16_11, t16_0, t16_8, t16_9⟩]; rfl, by rw [zdo_p ⟨t16_12, t16_13, t16_10, t16_11, t16_0, t16_8, t16_9⟩]⟩)
  by_cases t16_4 : (zwip σ a wn &&& 15) = 4
  ·
    refine g_tableIn hC 151 d_D_doWord_16 (by rw [t16_4]; decide) (by rw [t16_4]; decide) (by rw [t16_4]; rfl) rfl ?_
    refine g_aload_n hC d_D_doWord_151 rfl rfl ?_
    refine g_iload_n hC d_D_doWord_152 rfl rfl ?_
    refine g_goi hC rfl (z_runS hC (c_D_operationOf l D K q hq _ _) yy_D_operationOf ys_D_216 ⟨Nat.le_of_ble_eq_true rfl, Nat.le_of_ble_eq_true rfl⟩ ⟨Nat.zero_le _, Nat.zero_le _⟩ rfl (Nat.le_of_ble_eq_true rfl) d_D_doWord_153) (fun r14 σ14 q14 => ?_)
    obtain ⟨rfl, w14⟩ := q14
    obtain rfl := w14.symm
    refine g_iload_n hC d_D_doWord_156 rfl rfl ?_
    refine g_goi hC rfl (z_runS hC (c_D_argumentOf l D K q hq _ _) yy_D_argumentOf ys_D_222 ⟨Nat.le_of_ble_eq_true rfl, Nat.le_of_ble_eq_true rfl⟩ ⟨Nat.zero_le _, Nat.zero_le _⟩ rfl (Nat.le_of_ble_eq_true rfl) d_D_doWord_157) (fun r15 σ15 q15 => ?_)
    obtain ⟨rfl, w15⟩ := q15
    obtain rfl := w15.symm
    refine g_gov hC rfl (z_runV hC (c_A_doPlainWord l D K q hq _ ha _ _ _ ) yy_A_doPlainWord yv_D_239 (za_lt ha) (zS_a ha) ⟨Nat.le_of_ble_eq_true rfl, Nat.le_of_ble_eq_true rfl⟩ ⟨Nat.zero_le _, Nat.zero_le _⟩ rfl (Nat.le_of_ble_eq_true rfl) d_D_doWord_160) (fun σ16 q16 => ?_)
    obtain rfl := q16.symm
    refine g_iconst hC (1) d_D_doWord_163 (by decide) rfl ?_
    exact g_zret hC hr hlk d_D_doWord_164 (Or.inr rfl) (by first | exact ⟨by rw [zdo_p (by rw [t16_1]; decide)]; rfl, by rw [zdo_p (by rw [t16_1]; decide)]⟩ | exact ⟨by rw [zdo_p (by rw [t16_2]; decide)]; rfl, by rw [zdo_p (by rw [t16_2]; decide)]⟩ | exact ⟨by rw [zdo_p (by rw [t16_3]; decide)]; rfl, by rw [zdo_p (by rw [t16_3]; decide)]⟩ | exact ⟨by rw [zdo_p (by rw [t16_4]; decide)]; rfl, by rw [zdo_p (by rw [t16_4]; decide)]⟩ | exact ⟨by rw [zdo_p (by rw [t16_5]; decide)]; rfl, by rw [zdo_p (by rw [t16_5]; decide)]⟩ | exact ⟨by rw [zdo_p (by rw [t16_6]; decide)]; rfl, by rw [zdo_p (by rw [t16_6]; decide)]⟩ | exact ⟨by rw [zdo_p (by rw [t16_7]; decide)]; rfl, by rw [zdo_p (by rw [t16_7]; decide)]⟩ | exact ⟨by rw [zdo_p ⟨t16_12, t16_13, t16_10, t16_11, t16_0, t16_8, t16_9⟩]; rfl, by rw [zdo_p ⟨t16_12, t16_13, t16_10, t16_11, t16_0, t16_8, t16_9⟩]⟩)
  by_cases t16_5 : (zwip σ a wn &&& 15) = 5
  ·
    refine g_tableIn hC 151 d_D_doWord_16 (by rw [t16_5]; decide) (by rw [t16_5]; decide) (by rw [t16_5]; rfl) rfl ?_
    refine g_aload_n hC d_D_doWord_151 rfl rfl ?_
    refine g_iload_n hC d_D_doWord_152 rfl rfl ?_
    refine g_goi hC rfl (z_runS hC (c_D_operationOf l D K q hq _ _) yy_D_operationOf ys_D_216 ⟨Nat.le_of_ble_eq_true rfl, Nat.le_of_ble_eq_true rfl⟩ ⟨Nat.zero_le _, Nat.zero_le _⟩ rfl (Nat.le_of_ble_eq_true rfl) d_D_doWord_153) (fun r17 σ17 q17 => ?_)
    obtain ⟨rfl, w17⟩ := q17
    obtain rfl := w17.symm
    refine g_iload_n hC d_D_doWord_156 rfl rfl ?_
    refine g_goi hC rfl (z_runS hC (c_D_argumentOf l D K q hq _ _) yy_D_argumentOf ys_D_222 ⟨Nat.le_of_ble_eq_true rfl, Nat.le_of_ble_eq_true rfl⟩ ⟨Nat.zero_le _, Nat.zero_le _⟩ rfl (Nat.le_of_ble_eq_true rfl) d_D_doWord_157) (fun r18 σ18 q18 => ?_)
    obtain ⟨rfl, w18⟩ := q18
    obtain rfl := w18.symm
    refine g_gov hC rfl (z_runV hC (c_A_doPlainWord l D K q hq _ ha _ _ _ ) yy_A_doPlainWord yv_D_239 (za_lt ha) (zS_a ha) ⟨Nat.le_of_ble_eq_true rfl, Nat.le_of_ble_eq_true rfl⟩ ⟨Nat.zero_le _, Nat.zero_le _⟩ rfl (Nat.le_of_ble_eq_true rfl) d_D_doWord_160) (fun σ19 q19 => ?_)
    obtain rfl := q19.symm
    refine g_iconst hC (1) d_D_doWord_163 (by decide) rfl ?_
    exact g_zret hC hr hlk d_D_doWord_164 (Or.inr rfl) (by first | exact ⟨by rw [zdo_p (by rw [t16_1]; decide)]; rfl, by rw [zdo_p (by rw [t16_1]; decide)]⟩ | exact ⟨by rw [zdo_p (by rw [t16_2]; decide)]; rfl, by rw [zdo_p (by rw [t16_2]; decide)]⟩ | exact ⟨by rw [zdo_p (by rw [t16_3]; decide)]; rfl, by rw [zdo_p (by rw [t16_3]; decide)]⟩ | exact ⟨by rw [zdo_p (by rw [t16_4]; decide)]; rfl, by rw [zdo_p (by rw [t16_4]; decide)]⟩ | exact ⟨by rw [zdo_p (by rw [t16_5]; decide)]; rfl, by rw [zdo_p (by rw [t16_5]; decide)]⟩ | exact ⟨by rw [zdo_p (by rw [t16_6]; decide)]; rfl, by rw [zdo_p (by rw [t16_6]; decide)]⟩ | exact ⟨by rw [zdo_p (by rw [t16_7]; decide)]; rfl, by rw [zdo_p (by rw [t16_7]; decide)]⟩ | exact ⟨by rw [zdo_p ⟨t16_12, t16_13, t16_10, t16_11, t16_0, t16_8, t16_9⟩]; rfl, by rw [zdo_p ⟨t16_12, t16_13, t16_10, t16_11, t16_0, t16_8, t16_9⟩]⟩)
  by_cases t16_6 : (zwip σ a wn &&& 15) = 6
  ·
    refine g_tableIn hC 151 d_D_doWord_16 (by rw [t16_6]; decide) (by rw [t16_6]; decide) (by rw [t16_6]; rfl) rfl ?_
    refine g_aload_n hC d_D_doWord_151 rfl rfl ?_
    refine g_iload_n hC d_D_doWord_152 rfl rfl ?_
    refine g_goi hC rfl (z_runS hC (c_D_operationOf l D K q hq _ _) yy_D_operationOf ys_D_216 ⟨Nat.le_of_ble_eq_true rfl, Nat.le_of_ble_eq_true rfl⟩ ⟨Nat.zero_le _, Nat.zero_le _⟩ rfl (Nat.le_of_ble_eq_true rfl) d_D_doWord_153) (fun r20 σ20 q20 => ?_)
    obtain ⟨rfl, w20⟩ := q20
    obtain rfl := w20.symm
    refine g_iload_n hC d_D_doWord_156 rfl rfl ?_
    refine g_goi hC rfl (z_runS hC (c_D_argumentOf l D K q hq _ _) yy_D_argumentOf ys_D_222 ⟨Nat.le_of_ble_eq_true rfl, Nat.le_of_ble_eq_true rfl⟩ ⟨Nat.zero_le _, Nat.zero_le _⟩ rfl (Nat.le_of_ble_eq_true rfl) d_D_doWord_157) (fun r21 σ21 q21 => ?_)
    obtain ⟨rfl, w21⟩ := q21
    obtain rfl := w21.symm
    refine g_gov hC rfl (z_runV hC (c_A_doPlainWord l D K q hq _ ha _ _ _ ) yy_A_doPlainWord yv_D_239 (za_lt ha) (zS_a ha) ⟨Nat.le_of_ble_eq_true rfl, Nat.le_of_ble_eq_true rfl⟩ ⟨Nat.zero_le _, Nat.zero_le _⟩ rfl (Nat.le_of_ble_eq_true rfl) d_D_doWord_160) (fun σ22 q22 => ?_)
    obtain rfl := q22.symm
    refine g_iconst hC (1) d_D_doWord_163 (by decide) rfl ?_
    exact g_zret hC hr hlk d_D_doWord_164 (Or.inr rfl) (by first | exact ⟨by rw [zdo_p (by rw [t16_1]; decide)]; rfl, by rw [zdo_p (by rw [t16_1]; decide)]⟩ | exact ⟨by rw [zdo_p (by rw [t16_2]; decide)]; rfl, by rw [zdo_p (by rw [t16_2]; decide)]⟩ | exact ⟨by rw [zdo_p (by rw [t16_3]; decide)]; rfl, by rw [zdo_p (by rw [t16_3]; decide)]⟩ | exact ⟨by rw [zdo_p (by rw [t16_4]; decide)]; rfl, by rw [zdo_p (by rw [t16_4]; decide)]⟩ | exact ⟨by rw [zdo_p (by rw [t16_5]; decide)]; rfl, by rw [zdo_p (by rw [t16_5]; decide)]⟩ | exact ⟨by rw [zdo_p (by rw [t16_6]; decide)]; rfl, by rw [zdo_p (by rw [t16_6]; decide)]⟩ | exact ⟨by rw [zdo_p (by rw [t16_7]; decide)]; rfl, by rw [zdo_p (by rw [t16_7]; decide)]⟩ | exact ⟨by rw [zdo_p ⟨t16_12, t16_13, t16_10, t16_11, t16_0, t16_8, t16_9⟩]; rfl, by rw [zdo_p ⟨t16_12, t16_13, t16_10, t16_11, t16_0, t16_8, t16_9⟩]⟩)
  by_cases t16_7 : (zwip σ a wn &&& 15) = 7
  ·
    refine g_tableIn hC 151 d_D_doWord_16 (by rw [t16_7]; decide) (by rw [t16_7]; decide) (by rw [t16_7]; rfl) rfl ?_
    refine g_aload_n hC d_D_doWord_151 rfl rfl ?_
    refine g_iload_n hC d_D_doWord_152 rfl rfl ?_
    refine g_goi hC rfl (z_runS hC (c_D_operationOf l D K q hq _ _) yy_D_operationOf ys_D_216 ⟨Nat.le_of_ble_eq_true rfl, Nat.le_of_ble_eq_true rfl⟩ ⟨Nat.zero_le _, Nat.zero_le _⟩ rfl (Nat.le_of_ble_eq_true rfl) d_D_doWord_153) (fun r23 σ23 q23 => ?_)
    obtain ⟨rfl, w23⟩ := q23
    obtain rfl := w23.symm
    refine g_iload_n hC d_D_doWord_156 rfl rfl ?_
    refine g_goi hC rfl (z_runS hC (c_D_argumentOf l D K q hq _ _) yy_D_argumentOf ys_D_222 ⟨Nat.le_of_ble_eq_true rfl, Nat.le_of_ble_eq_true rfl⟩ ⟨Nat.zero_le _, Nat.zero_le _⟩ rfl (Nat.le_of_ble_eq_true rfl) d_D_doWord_157) (fun r24 σ24 q24 => ?_)
    obtain ⟨rfl, w24⟩ := q24
    obtain rfl := w24.symm
    refine g_gov hC rfl (z_runV hC (c_A_doPlainWord l D K q hq _ ha _ _ _ ) yy_A_doPlainWord yv_D_239 (za_lt ha) (zS_a ha) ⟨Nat.le_of_ble_eq_true rfl, Nat.le_of_ble_eq_true rfl⟩ ⟨Nat.zero_le _, Nat.zero_le _⟩ rfl (Nat.le_of_ble_eq_true rfl) d_D_doWord_160) (fun σ25 q25 => ?_)
    obtain rfl := q25.symm
    refine g_iconst hC (1) d_D_doWord_163 (by decide) rfl ?_
    exact g_zret hC hr hlk d_D_doWord_164 (Or.inr rfl) (by first | exact ⟨by rw [zdo_p (by rw [t16_1]; decide)]; rfl, by rw [zdo_p (by rw [t16_1]; decide)]⟩ | exact ⟨by rw [zdo_p (by rw [t16_2]; decide)]; rfl, by rw [zdo_p (by rw [t16_2]; decide)]⟩ | exact ⟨by rw [zdo_p (by rw [t16_3]; decide)]; rfl, by rw [zdo_p (by rw [t16_3]; decide)]⟩ | exact ⟨by rw [zdo_p (by rw [t16_4]; decide)]; rfl, by rw [zdo_p (by rw [t16_4]; decide)]⟩ | exact ⟨by rw [zdo_p (by rw [t16_5]; decide)]; rfl, by rw [zdo_p (by rw [t16_5]; decide)]⟩ | exact ⟨by rw [zdo_p (by rw [t16_6]; decide)]; rfl, by rw [zdo_p (by rw [t16_6]; decide)]⟩ | exact ⟨by rw [zdo_p (by rw [t16_7]; decide)]; rfl, by rw [zdo_p (by rw [t16_7]; decide)]⟩ | exact ⟨by rw [zdo_p ⟨t16_12, t16_13, t16_10, t16_11, t16_0, t16_8, t16_9⟩]; rfl, by rw [zdo_p ⟨t16_12, t16_13, t16_10, t16_11, t16_0, t16_8, t16_9⟩]⟩)
  by_cases t16_8 : (zwip σ a wn &&& 15) = 8
  ·
    refine g_tableIn hC 137 d_D_doWord_16 (by rw [t16_8]; decide) (by rw [t16_8]; decide) (by rw [t16_8]; rfl) rfl ?_
    refine g_aload_n hC d_D_doWord_137 rfl rfl ?_
    refine g_iload_n hC d_D_doWord_138 rfl rfl ?_
    refine g_goi hC rfl (z_runS hC (c_D_operationOf l D K q hq _ _) yy_D_operationOf ys_D_216 ⟨Nat.le_of_ble_eq_true rfl, Nat.le_of_ble_eq_true rfl⟩ ⟨Nat.zero_le _, Nat.zero_le _⟩ rfl (Nat.le_of_ble_eq_true rfl) d_D_doWord_139) (fun r26 σ26 q26 => ?_)
    obtain ⟨rfl, w26⟩ := q26
    obtain rfl := w26.symm
    refine g_iload_n hC d_D_doWord_142 rfl rfl ?_
    refine g_goi hC rfl (z_runS hC (c_D_argumentOf l D K q hq _ _) yy_D_argumentOf ys_D_222 ⟨Nat.le_of_ble_eq_true rfl, Nat.le_of_ble_eq_true rfl⟩ ⟨Nat.zero_le _, Nat.zero_le _⟩ rfl (Nat.le_of_ble_eq_true rfl) d_D_doWord_143) (fun r27 σ27 q27 => ?_)
    obtain ⟨rfl, w27⟩ := q27
    obtain rfl := w27.symm
    refine g_gov hC rfl (z_runV hC (c_A_doTurn l D K q hq _ ha _ _ _ ) yy_A_doTurn yv_D_235 (za_lt ha) (zS_a ha) ⟨Nat.le_of_ble_eq_true rfl, Nat.le_of_ble_eq_true rfl⟩ ⟨Nat.zero_le _, Nat.zero_le _⟩ rfl (Nat.le_of_ble_eq_true rfl) d_D_doWord_146) (fun σ28 q28 => ?_)
    obtain rfl := q28.symm
    refine g_iconst hC (1) d_D_doWord_149 (by decide) rfl ?_
    exact g_zret hC hr hlk d_D_doWord_150 (Or.inr rfl) (by first | exact ⟨by rw [zdo_j (Or.inl t16_0)]; rfl, by rw [zdo_j (Or.inl t16_0)]⟩ | exact ⟨by rw [zdo_j (Or.inr (Or.inl t16_8))]; rfl, by rw [zdo_j (Or.inr (Or.inl t16_8))]⟩ | exact ⟨by rw [zdo_j (Or.inr (Or.inr t16_9))]; rfl, by rw [zdo_j (Or.inr (Or.inr t16_9))]⟩)
  by_cases t16_9 : (zwip σ a wn &&& 15) = 9
  ·
    refine g_tableIn hC 137 d_D_doWord_16 (by rw [t16_9]; decide) (by rw [t16_9]; decide) (by rw [t16_9]; rfl) rfl ?_
    refine g_aload_n hC d_D_doWord_137 rfl rfl ?_
    refine g_iload_n hC d_D_doWord_138 rfl rfl ?_
    refine g_goi hC rfl (z_runS hC (c_D_operationOf l D K q hq _ _) yy_D_operationOf ys_D_216 ⟨Nat.le_of_ble_eq_true rfl, Nat.le_of_ble_eq_true rfl⟩ ⟨Nat.zero_le _, Nat.zero_le _⟩ rfl (Nat.le_of_ble_eq_true rfl) d_D_doWord_139) (fun r29 σ29 q29 => ?_)
    obtain ⟨rfl, w29⟩ := q29
    obtain rfl := w29.symm
    refine g_iload_n hC d_D_doWord_142 rfl rfl ?_
    refine g_goi hC rfl (z_runS hC (c_D_argumentOf l D K q hq _ _) yy_D_argumentOf ys_D_222 ⟨Nat.le_of_ble_eq_true rfl, Nat.le_of_ble_eq_true rfl⟩ ⟨Nat.zero_le _, Nat.zero_le _⟩ rfl (Nat.le_of_ble_eq_true rfl) d_D_doWord_143) (fun r30 σ30 q30 => ?_)
    obtain ⟨rfl, w30⟩ := q30
    obtain rfl := w30.symm
    refine g_gov hC rfl (z_runV hC (c_A_doTurn l D K q hq _ ha _ _ _ ) yy_A_doTurn yv_D_235 (za_lt ha) (zS_a ha) ⟨Nat.le_of_ble_eq_true rfl, Nat.le_of_ble_eq_true rfl⟩ ⟨Nat.zero_le _, Nat.zero_le _⟩ rfl (Nat.le_of_ble_eq_true rfl) d_D_doWord_146) (fun σ31 q31 => ?_)
    obtain rfl := q31.symm
    refine g_iconst hC (1) d_D_doWord_149 (by decide) rfl ?_
    exact g_zret hC hr hlk d_D_doWord_150 (Or.inr rfl) (by first | exact ⟨by rw [zdo_j (Or.inl t16_0)]; rfl, by rw [zdo_j (Or.inl t16_0)]⟩ | exact ⟨by rw [zdo_j (Or.inr (Or.inl t16_8))]; rfl, by rw [zdo_j (Or.inr (Or.inl t16_8))]⟩ | exact ⟨by rw [zdo_j (Or.inr (Or.inr t16_9))]; rfl, by rw [zdo_j (Or.inr (Or.inr t16_9))]⟩)
  by_cases t16_10 : (zwip σ a wn &&& 15) = 10
  ·
    refine g_tableIn hC 127 d_D_doWord_16 (by rw [t16_10]; decide) (by rw [t16_10]; decide) (by rw [t16_10]; rfl) rfl ?_
    refine g_aload_n hC d_D_doWord_127 rfl rfl ?_
    refine g_goi hC rfl (z_runV hC (c_A_getKept l D K q hq _ ha _ ) yy_A_getKept yv_D_228 (za_lt ha) (zS_a ha) ⟨Nat.le_of_ble_eq_true rfl, Nat.le_of_ble_eq_true rfl⟩ ⟨Nat.zero_le _, Nat.zero_le _⟩ rfl (Nat.le_of_ble_eq_true rfl) d_D_doWord_128) (fun r32 σ32 q32 => ?_)
    obtain ⟨rfl, w32⟩ := q32
    obtain rfl := w32.symm
    exact g_zret hC hr hlk d_D_doWord_131 (zb01 _) ⟨by rw [zdo_10 t16_10], by rw [zdo_10 t16_10]⟩
  by_cases t16_11 : (zwip σ a wn &&& 15) = 11
  ·
    refine g_tableIn hC 132 d_D_doWord_16 (by rw [t16_11]; decide) (by rw [t16_11]; decide) (by rw [t16_11]; rfl) rfl ?_
    refine g_aload_n hC d_D_doWord_132 rfl rfl ?_
    refine g_goi hC rfl (z_runV hC (c_A_keepUppermost l D K q hq _ ha _ ) yy_A_keepUppermost yv_D_232 (za_lt ha) (zS_a ha) ⟨Nat.le_of_ble_eq_true rfl, Nat.le_of_ble_eq_true rfl⟩ ⟨Nat.zero_le _, Nat.zero_le _⟩ rfl (Nat.le_of_ble_eq_true rfl) d_D_doWord_133) (fun r33 σ33 q33 => ?_)
    obtain ⟨rfl, w33⟩ := q33
    obtain rfl := w33.symm
    exact g_zret hC hr hlk d_D_doWord_136 (zb01 _) ⟨by rw [zdo_11 t16_11], by rw [zdo_11 t16_11]⟩
  by_cases t16_12 : (zwip σ a wn &&& 15) = 12
  ·
    refine g_tableIn hC 88 d_D_doWord_16 (by rw [t16_12]; decide) (by rw [t16_12]; decide) (by rw [t16_12]; rfl) rfl ?_
    refine g_aload_n hC d_D_doWord_88 rfl rfl ?_
    refine g_iload_n hC d_D_doWord_89 rfl rfl ?_
    refine g_goi hC rfl (z_runV hC (c_D_sendFromStack l D K q hq _ ha _ _ hz h) yy_D_sendFromStack yv_D_219 (by decide) rfl ⟨Nat.le_of_ble_eq_true rfl, Nat.le_of_ble_eq_true rfl⟩ ⟨Nat.zero_le _, Nat.zero_le _⟩ rfl (Nat.le_of_ble_eq_true rfl) d_D_doWord_90) (fun r34 σ34 q34 => ?_)
    obtain ⟨rfl, w34⟩ := q34
    obtain rfl := w34.symm
    exact g_zret hC hr hlk d_D_doWord_93 (zb01 _) ⟨by rw [zdo_12 t16_12], by rw [zdo_12 t16_12]⟩
  by_cases t16_13 : (zwip σ a wn &&& 15) = 13
  ·
    refine g_tableIn hC 94 d_D_doWord_16 (by rw [t16_13]; decide) (by rw [t16_13]; decide) (by rw [t16_13]; rfl) rfl ?_
    refine g_aload_n hC d_D_doWord_94 rfl rfl ?_
    refine g_aload_n hC d_D_doWord_95 rfl rfl ?_
    refine g_iload_n hC d_D_doWord_96 rfl rfl ?_
    refine g_iload_n hC d_D_doWord_97 rfl rfl ?_
    refine g_goi hC rfl (z_runS hC (c_D_argumentOf l D K q hq _ _) yy_D_argumentOf ys_D_222 ⟨Nat.le_of_ble_eq_true rfl, Nat.le_of_ble_eq_true rfl⟩ ⟨Nat.zero_le _, Nat.zero_le _⟩ rfl (Nat.le_of_ble_eq_true rfl) d_D_doWord_98) (fun r35 σ35 q35 => ?_)
    obtain ⟨rfl, w35⟩ := q35
    obtain rfl := w35.symm
    refine g_goi hC rfl (z_runV hC (c_D_holds l D K q hq _ _ _ ) yy_D_holds yv_D_210 (by decide) rfl ⟨Nat.le_of_ble_eq_true rfl, Nat.le_of_ble_eq_true rfl⟩ ⟨Nat.zero_le _, Nat.zero_le _⟩ rfl (Nat.le_of_ble_eq_true rfl) d_D_doWord_101) (fun r36 σ36 q36 => ?_)
    obtain ⟨rfl, w36⟩ := q36
    obtain rfl := w36.symm
    refine g_ifeq_b hC 111 d_D_doWord_104 rfl rfl (fun h104 => ?_) (fun h104 => ?_)
    ·
      refine g_iconst hC (0) d_D_doWord_111 (by decide) rfl ?_
      refine g_top hC (zb (zhold σ (nI a) (zwip σ a wn >>> ((4 : Int32) &&& 31)))) (by rw [h104]; rfl) ?_
      refine g_gov hC rfl (z_runV hC (c_A_push l D K q hq _ ha _ _ ) yy_A_push yv_D_225 (za_lt ha) (zS_a ha) ⟨Nat.le_of_ble_eq_true rfl, Nat.le_of_ble_eq_true rfl⟩ ⟨Nat.zero_le _, Nat.zero_le _⟩ rfl (Nat.le_of_ble_eq_true rfl) d_D_doWord_112) (fun σ37 q37 => ?_)
      obtain rfl := q37.symm
      refine g_aload_n hC d_D_doWord_115 rfl rfl ?_
      refine g_dup hC d_D_doWord_116 rfl rfl ?_
      refine g_getI hC _ 2 6 (za_lt ha) (zS_a ha) rfl fl_D_158 d_D_doWord_117 rfl ?_
      refine g_iconst hC (1) d_D_doWord_120 (by decide) rfl ?_
      refine g_iadd hC d_D_doWord_121 rfl ?_
      refine g_putI hC _ 2 6 (za_lt ha) (zS_a ha) rfl fp_D_158 d_D_doWord_122 rfl ?_
      refine g_iconst hC (1) d_D_doWord_125 (by decide) rfl ?_
      exact g_zret hC hr hlk d_D_doWord_126 (Or.inr rfl) ⟨by rw [zdo_13 t16_13]; rfl, by rw [zdo_13 t16_13]; rfl⟩
    ·
      refine g_iconst hC (1) d_D_doWord_107 (by decide) rfl ?_
      refine g_top hC (zb (zhold σ (nI a) (zwip σ a wn >>> ((4 : Int32) &&& 31)))) (by rw [h104]; rfl) ?_
      refine g_goto hC 112 d_D_doWord_108 rfl ?_
      refine g_gov hC rfl (z_runV hC (c_A_push l D K q hq _ ha _ _ ) yy_A_push yv_D_225 (za_lt ha) (zS_a ha) ⟨Nat.le_of_ble_eq_true rfl, Nat.le_of_ble_eq_true rfl⟩ ⟨Nat.zero_le _, Nat.zero_le _⟩ rfl (Nat.le_of_ble_eq_true rfl) d_D_doWord_112) (fun σ38 q38 => ?_)
      obtain rfl := q38.symm
      refine g_aload_n hC d_D_doWord_115 rfl rfl ?_
      refine g_dup hC d_D_doWord_116 rfl rfl ?_
      refine g_getI hC _ 2 6 (za_lt ha) (zS_a ha) rfl fl_D_158 d_D_doWord_117 rfl ?_
      refine g_iconst hC (1) d_D_doWord_120 (by decide) rfl ?_
      refine g_iadd hC d_D_doWord_121 rfl ?_
      refine g_putI hC _ 2 6 (za_lt ha) (zS_a ha) rfl fp_D_158 d_D_doWord_122 rfl ?_
      refine g_iconst hC (1) d_D_doWord_125 (by decide) rfl ?_
      exact g_zret hC hr hlk d_D_doWord_126 (Or.inr rfl) ⟨by rw [zdo_13 t16_13]; rfl, by rw [zdo_13 t16_13]; rfl⟩
  refine g_tableOut hC 151 d_D_doWord_16 (by have u0 := lv_neT t16_0 (a := 0) (by decide); have u1 := lv_neT t16_1 (a := 1) (by decide); have u2 := lv_neT t16_2 (a := 2) (by decide); have u3 := lv_neT t16_3 (a := 3) (by decide); have u4 := lv_neT t16_4 (a := 4) (by decide); have u5 := lv_neT t16_5 (a := 5) (by decide); have u6 := lv_neT t16_6 (a := 6) (by decide); have u7 := lv_neT t16_7 (a := 7) (by decide); have u8 := lv_neT t16_8 (a := 8) (by decide); have u9 := lv_neT t16_9 (a := 9) (by decide); have u10 := lv_neT t16_10 (a := 10) (by decide); have u11 := lv_neT t16_11 (a := 11) (by decide); have u12 := lv_neT t16_12 (a := 12) (by decide); have u13 := lv_neT t16_13 (a := 13) (by decide); omega) rfl ?_
  refine g_aload_n hC d_D_doWord_151 rfl rfl ?_
  refine g_iload_n hC d_D_doWord_152 rfl rfl ?_
  refine g_goi hC rfl (z_runS hC (c_D_operationOf l D K q hq _ _) yy_D_operationOf ys_D_216 ⟨Nat.le_of_ble_eq_true rfl, Nat.le_of_ble_eq_true rfl⟩ ⟨Nat.zero_le _, Nat.zero_le _⟩ rfl (Nat.le_of_ble_eq_true rfl) d_D_doWord_153) (fun r39 σ39 q39 => ?_)
  obtain ⟨rfl, w39⟩ := q39
  obtain rfl := w39.symm
  refine g_iload_n hC d_D_doWord_156 rfl rfl ?_
  refine g_goi hC rfl (z_runS hC (c_D_argumentOf l D K q hq _ _) yy_D_argumentOf ys_D_222 ⟨Nat.le_of_ble_eq_true rfl, Nat.le_of_ble_eq_true rfl⟩ ⟨Nat.zero_le _, Nat.zero_le _⟩ rfl (Nat.le_of_ble_eq_true rfl) d_D_doWord_157) (fun r40 σ40 q40 => ?_)
  obtain ⟨rfl, w40⟩ := q40
  obtain rfl := w40.symm
  refine g_gov hC rfl (z_runV hC (c_A_doPlainWord l D K q hq _ ha _ _ _ ) yy_A_doPlainWord yv_D_239 (za_lt ha) (zS_a ha) ⟨Nat.le_of_ble_eq_true rfl, Nat.le_of_ble_eq_true rfl⟩ ⟨Nat.zero_le _, Nat.zero_le _⟩ rfl (Nat.le_of_ble_eq_true rfl) d_D_doWord_160) (fun σ41 q41 => ?_)
  obtain rfl := q41.symm
  refine g_iconst hC (1) d_D_doWord_163 (by decide) rfl ?_
  exact g_zret hC hr hlk d_D_doWord_164 (Or.inr rfl) (by first | exact ⟨by rw [zdo_p (by rw [t16_1]; decide)]; rfl, by rw [zdo_p (by rw [t16_1]; decide)]⟩ | exact ⟨by rw [zdo_p (by rw [t16_2]; decide)]; rfl, by rw [zdo_p (by rw [t16_2]; decide)]⟩ | exact ⟨by rw [zdo_p (by rw [t16_3]; decide)]; rfl, by rw [zdo_p (by rw [t16_3]; decide)]⟩ | exact ⟨by rw [zdo_p (by rw [t16_4]; decide)]; rfl, by rw [zdo_p (by rw [t16_4]; decide)]⟩ | exact ⟨by rw [zdo_p (by rw [t16_5]; decide)]; rfl, by rw [zdo_p (by rw [t16_5]; decide)]⟩ | exact ⟨by rw [zdo_p (by rw [t16_6]; decide)]; rfl, by rw [zdo_p (by rw [t16_6]; decide)]⟩ | exact ⟨by rw [zdo_p (by rw [t16_7]; decide)]; rfl, by rw [zdo_p (by rw [t16_7]; decide)]⟩ | exact ⟨by rw [zdo_p ⟨t16_12, t16_13, t16_10, t16_11, t16_0, t16_8, t16_9⟩]; rfl, by rw [zdo_p ⟨t16_12, t16_13, t16_10, t16_11, t16_0, t16_8, t16_9⟩]⟩)
set_option maxHeartbeats 4000000 in
set_option maxRecDepth 100000 in
theorem c_D_nextInTurn (l : Launch) (D : va_G) (K : Nat → ClassId) (q : Nat → Nat) (hq : zI q) (σ : zm) (L : Nat) (hL : L ≤ 8) (h : σ 0 4 = nI L - 1) : zMi l y_D_nextInTurn b_D_nextInTurn 3 (some .int) 0 D K q [.ref (q (0))] σ (fun r σ' => r = znx σ L 8 1 ∧ σ' = σ) := by
  refine zMi.of (own := "AppDesk") (lv := [(0, .ref (q (0)))]) (by decide) rfl hq (Nat.le_of_ble_eq_true rfl) rfl ?_
  intro p e s m below meth c hC hr hlk
  have J2 : ∀ (f : Nat) (k : Nat) (hif : k + f = 9) (hk1 : 1 ≤ k) (he : znx σ L 8 1 = znx σ L f k), zG p l e (zrm 0) s m ([.ref (q (0))] : List Value).toArray below meth c D K q (zA q) 3 0 0 (MQ below (va_Qi (fun r σ' => r = znx σ L 8 1 ∧ σ' = σ) (zO D K q) (zA q)) ([.ref (q (0))] : List Value).toArray s 0 0 (zA q)) σ 2 [(0, .ref (q (0))), (1, .int (nI k))] [] := by
    intro f
    induction f with
    | zero =>
      intro k hif hk1 he
      refine g_iload_n hC d_D_nextInTurn_2 rfl rfl ?_
      refine g_bipush hC (8) d_D_nextInTurn_3 (by decide) rfl ?_
      refine g_icmp_gt hC 38 d_D_nextInTurn_5 rfl rfl (fun h5 => ?_) (fun h5 => absurd (nI_lt (a := 8) (b := k) (by omega) (by omega)) h5)
      refine g_iconst hC (-1) d_D_nextInTurn_38 (by decide) rfl ?_
      exact g_iret hC hr hlk d_D_nextInTurn_39 ⟨he.symm, rfl⟩
    | succ f ih =>
      intro k hif hk1 he
      refine g_iload_n hC d_D_nextInTurn_2 rfl rfl ?_
      refine g_bipush hC (8) d_D_nextInTurn_3 (by decide) rfl ?_
      refine g_icmp_gt hC 38 d_D_nextInTurn_5 rfl rfl (fun h5 => absurd h5 (nI_nlt (a := 8) (b := k) (by omega) (by omega))) (fun h5 => ?_)
      refine g_aload_n hC d_D_nextInTurn_8 rfl rfl ?_
      refine g_getV hC _ 0 4 (nI L - 1) (h) (by decide) rfl rfl fl_D_37 d_D_nextInTurn_9 rfl ?_
      refine g_iload_n hC d_D_nextInTurn_12 rfl rfl ?_
      refine g_iadd hC d_D_nextInTurn_13 rfl ?_
      refine g_top hC (nI (L + k - 1)) (znx_i (by omega)) ?_
      refine g_bipush hC (8) d_D_nextInTurn_14 (by decide) rfl ?_
      refine g_irem hC d_D_nextInTurn_16 rfl (by decide) ?_
      refine g_top hC (nI ((L + k - 1) % 8)) (pk_rem (a := L + k - 1) (d := 8) (by omega) (by decide) (by decide)) ?_
      refine g_istore_n hC d_D_nextInTurn_17 rfl (by decide) ?_
      refine g_aload_n hC d_D_nextInTurn_18 rfl rfl ?_
      refine g_getR hC _ 0 1 _ (by decide) rfl rfl fl_D_18 d_D_nextInTurn_19 rfl ?_
      refine g_iload_n hC d_D_nextInTurn_22 rfl rfl ?_
      refine g_aald hC _ _ ((L + k - 1) % 8) _ (by decide) rfl rfl (Nat.mod_lt _ (by decide)) (by decide) (zS_app (Nat.mod_lt _ (by decide))) d_D_nextInTurn_23 rfl ?_
      refine g_getI hC _ 2 5 (za_lt (Nat.mod_lt _ (by decide))) (zS_a (Nat.mod_lt _ (by decide))) rfl fl_D_148 d_D_nextInTurn_24 rfl ?_
      refine g_if_eq hC 32 d_D_nextInTurn_27 rfl rfl (fun h27 => ?_) (fun h27 => ?_)
      ·
        refine g_iinc hC (nI (k + 1)) d_D_nextInTurn_32 rfl rfl (nI_succ _).symm (by decide) ?_
        refine g_goto hC 2 d_D_nextInTurn_35 rfl ?_
        exact zG.to (ih (k + 1) (by omega) (by omega) (he.trans (znx_f h27))) rfl rfl ⟨rfl, rfl, trivial⟩
      ·
        refine g_iload_n hC d_D_nextInTurn_30 rfl rfl ?_
        exact g_iret hC hr hlk d_D_nextInTurn_31 ⟨by rw [he, znx_t h27], rfl⟩
  refine g_iconst hC (1) d_D_nextInTurn_0 (by decide) rfl ?_
  refine g_istore_n hC d_D_nextInTurn_1 rfl (by decide) ?_
  exact zG.to (J2 8 1 (by omega) (by omega) rfl) rfl rfl ⟨rfl, rfl, trivial⟩
