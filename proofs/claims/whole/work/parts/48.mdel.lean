/-! the reference's deliver -/
def wsf (τ : zm) : Nat → zm
  | 0 => τ
  | n + 1 => wrow (wsf τ n) n (wsf τ n 126 (n + 1)) (wsf τ n 127 (n + 1)) (wsf τ n 128 (n + 1))
theorem wsf_off (τ : zm) (n : Nat) {a : Nat} (h : a ≠ 126 ∧ a ≠ 127 ∧ a ≠ 128) : wsf τ n a = τ a := by
  induction n with
  | zero => rfl
  | succ n ih => exact (wrow_off _ _ _ _ _ h).trans ih
def wdf (σ : zm) (z : Nat) : zm := wsf (zu (wz σ) 104 24 (nI (z - 1))) (z - 1)
theorem wdf_off (σ : zm) (z : Nat) {a : Nat} (h : a ≠ 104 ∧ a ≠ 126 ∧ a ≠ 127 ∧ a ≠ 128) : wdf σ z a = σ a := by
  unfold wdf
  rw [wsf_off _ _ h.2, zu_row _ _ h.1, wz_row _ h.1]
def wdQ (τ : zm) (g ac : Int32) (pf : Nat → Nat) (n : Nat) : Bool := !decide (τ 105 (n / 4) = 0) && decide (τ 121 (n / 4) = 0) && wtak τ (n / 4) (n % 4) g ac (pf (n / 4))
section WDQ
variable {τ : zm} {g ac : Int32} {pf : Nat → Nat} {a t : Nat}
theorem wdQ_1 (ha : a < 8) (ht : t < 4) (h : τ 105 a = 0) : wdQ τ g ac pf (4 * a + t) = false := by
  unfold wdQ
  rw [show (4 * a + t) / 4 = a by omega, decide_eq_true h]
  rfl
theorem wdQ_2 (ha : a < 8) (ht : t < 4) (h : ¬ τ 121 a = 0) : wdQ τ g ac pf (4 * a + t) = false := by
  unfold wdQ
  rw [show (4 * a + t) / 4 = a by omega, decide_eq_false h, Bool.and_false, Bool.false_and]
theorem wdQ_3 (ha : a < 8) (ht : t < 4) (h : wtak τ a t g ac (pf a) = false) : wdQ τ g ac pf (4 * a + t) = false := by
  unfold wdQ
  rw [show (4 * a + t) / 4 = a by omega, show (4 * a + t) % 4 = t by omega, h, Bool.and_false]
theorem wdQ_t (ha : a < 8) (ht : t < 4) (h1 : ¬ τ 105 a = 0) (h2 : τ 121 a = 0) (h : wtak τ a t g ac (pf a) = true) : wdQ τ g ac pf (4 * a + t) = true := by
  unfold wdQ
  rw [show (4 * a + t) / 4 = a by omega, show (4 * a + t) % 4 = t by omega, h, decide_eq_false h1, decide_eq_true h2]
  rfl
end WDQ
theorem wdQ_n {P : Nat → Bool} {n : Nat} (hn : n < 32) (h : P n = false) : zfst P (32 - n) n = zfst P (32 - (n + 1)) (n + 1) := by
  rw [show 32 - n = (32 - (n + 1)) + 1 by omega, zfst_f h]
def wbeg (τ : zm) (n : Nat) (v g : Int32) : zm := zu (zu (zu (zu (zu (zu (zu τ 121 (n / 4) 1) 122 (n / 4) (τ 115 n)) 123 (n / 4) 0) 125 (4 * (n / 4)) v) 125 (4 * (n / 4) + 1) g) 125 (4 * (n / 4) + 2) 0) 125 (4 * (n / 4) + 3) 0
def wdel (σ : zm) (z : Nat) (pf : Nat → Nat) : Int32 × zm := if z = 0 then (-1, wz σ) else if zfst (wdQ (wdf σ z) (σ 126 0) (σ 127 0) pf) 32 0 = -1 then (-1, wdf σ z) else (nI ((zfst (wdQ (wdf σ z) (σ 126 0) (σ 127 0) pf) 32 0).toNatClampNeg / 4), wbeg (wdf σ z) (zfst (wdQ (wdf σ z) (σ 126 0) (σ 127 0) pf) 32 0).toNatClampNeg (σ 128 0) (σ 126 0))
theorem nI_m1' {n : Nat} (h : n < 2 ^ 31) : ¬ nI n = -1 := fun z => by
  have := nI_toInt h
  rw [z] at this
  have e : (-1 : Int32).toInt = -1 := by decide
  omega
theorem wdel_t {σ : zm} {z n : Nat} {pf : Nat → Nat} (hz : ¬ z = 0) (he : zfst (wdQ (wdf σ z) (σ 126 0) (σ 127 0) pf) 32 0 = zfst (wdQ (wdf σ z) (σ 126 0) (σ 127 0) pf) (32 - n) n) (h : wdQ (wdf σ z) (σ 126 0) (σ 127 0) pf n = true) (hn : n < 32) : wdel σ z pf = (nI (n / 4), wbeg (wdf σ z) n (σ 128 0) (σ 126 0)) := by
  have e : zfst (wdQ (wdf σ z) (σ 126 0) (σ 127 0) pf) 32 0 = nI n := by rw [he, show 32 - n = (32 - (n + 1)) + 1 by omega, zfst_t h]
  unfold wdel
  rw [if_neg hz, e, if_neg (nI_m1' (by omega)), nI_clamp (by omega)]
theorem wdel_f {σ : zm} {z : Nat} {pf : Nat → Nat} (hz : ¬ z = 0) (he : zfst (wdQ (wdf σ z) (σ 126 0) (σ 127 0) pf) 32 0 = -1) : wdel σ z pf = (-1, wdf σ z) := by
  unfold wdel
  rw [if_neg hz, if_pos he]
theorem wdr_eq {τ : zm} {a t : Nat} {v g : Int32} (ha : a < 8) (ht : t < 4) : zu (zu (zu (zu (zu (zu (zu τ 121 a 1) 122 a (zu τ 121 a 1 115 (4 * a + t))) 123 a 0) 125 (4 * a) v) 125 (4 * a + 1) g) 125 (4 * a + 2) 0) 125 (4 * a + 3) 0 = wbeg τ (4 * a + t) v g := by
  unfold wbeg
  rw [show (4 * a + t) / 4 = a by omega, zu_row τ (k := a) (1 : Int32) (show 115 ≠ 121 by decide)]
set_option maxHeartbeats 4000000 in
set_option maxRecDepth 100000 in
theorem c_M_deliver (l : Launch) (D : va_G) (K : Nat → ClassId) (q : Nat → Nat) (hq : zI q) (σ : zm) (z : Nat) (hz : z ≤ 8) (h : σ 104 24 = nI z) (pf : Nat → Nat) (hpf : ∀ a, a < 8 → pf a ≤ 4 ∧ σ 111 a = nI (pf a)) : zMi l y_M_deliver b_M_deliver 6 (some .int) 4 D K q [.ref (q (104))] σ (fun r σ' => r = (wdel σ z pf).1 ∧ σ' = (wdel σ z pf).2) := by
  refine zMi.of (own := "AppDeskModel") (lv := [(0, .ref (q (104)))]) (by decide) rfl hq (Nat.le_of_ble_eq_true rfl) rfl ?_
  intro p e s m below meth c hC hr hlk
  have J86 : ∀ (f : Nat) (a : Nat) (ha8 : a < 8) (hz0 : ¬ z = 0) (K215 : zfst (wdQ (wdf σ z) (σ 126 0) (σ 127 0) pf) 32 0 = zfst (wdQ (wdf σ z) (σ 126 0) (σ 127 0) pf) (32 - 4 * (a + 1)) (4 * (a + 1)) → zG p l e (zrm 4) s m ([.ref (q (104))] : List Value).toArray below meth c D K q (zA q) 6 0 0 (MQ below (va_Qi (fun r σ' => r = (wdel σ z pf).1 ∧ σ' = (wdel σ z pf).2) (zO D K q) (zA q)) ([.ref (q (104))] : List Value).toArray s 0 0 (zA q)) (wdf σ z) 215 [(0, .ref (q (104))), (1, .int (σ 126 0)), (2, .int (σ 127 0)), (3, .int (σ 128 0)), (4, .int (nI a))] []) (t : Nat) (hif : t + f = 4) (he : zfst (wdQ (wdf σ z) (σ 126 0) (σ 127 0) pf) 32 0 = zfst (wdQ (wdf σ z) (σ 126 0) (σ 127 0) pf) (32 - (4 * a + t)) (4 * a + t)), zG p l e (zrm 4) s m ([.ref (q (104))] : List Value).toArray below meth c D K q (zA q) 6 0 0 (MQ below (va_Qi (fun r σ' => r = (wdel σ z pf).1 ∧ σ' = (wdel σ z pf).2) (zO D K q) (zA q)) ([.ref (q (104))] : List Value).toArray s 0 0 (zA q)) (wdf σ z) 86 [(0, .ref (q (104))), (1, .int (σ 126 0)), (2, .int (σ 127 0)), (3, .int (σ 128 0)), (4, .int (nI a)), (5, .int (nI t))] [] := by
    intro f
    induction f with
    | zero =>
      intro a ha8 hz0 K215 t hif he
      refine g_iload hC d_M_deliver_86 rfl rfl ?_
      refine g_iconst hC (4) d_M_deliver_88 (by decide) rfl ?_
      refine g_icmp_ge hC 215 d_M_deliver_89 rfl rfl (fun h89 => ?_) (fun h89 => absurd (nI_le (a := 4) (b := t) (by omega) (by omega)) h89)
      exact zG.to (K215 (he.trans (by rw [show 4 * a + t = 4 * (a + 1) by omega]))) rfl rfl ⟨rfl, rfl, rfl, rfl, rfl, trivial⟩
    | succ f ih =>
      intro a ha8 hz0 K215 t hif he
      have ht4 : t < 4 := by omega
      refine g_iload hC d_M_deliver_86 rfl rfl ?_
      refine g_iconst hC (4) d_M_deliver_88 (by decide) rfl ?_
      refine g_icmp_ge hC 215 d_M_deliver_89 rfl rfl (fun h89 => absurd h89 (nI_ge (a := t) (b := 4) (by omega) (by omega))) (fun h89 => ?_)
      refine g_aload_n hC d_M_deliver_92 rfl rfl ?_
      refine g_getR hC _ 5 1 _ (by decide) rfl rfl fl_M_7 d_M_deliver_93 rfl ?_
      refine g_iload hC d_M_deliver_96 rfl rfl ?_
      refine g_zald hC _ _ a (by decide) rfl rfl (by show a < 9; omega) (by decide) d_M_deliver_98 rfl ?_
      refine g_if_eq hC 209 d_M_deliver_99 rfl rfl (fun h99 => ?_) (fun h99 => ?_)
      ·
        refine g_iinc hC (nI (t + 1)) d_M_deliver_209 rfl rfl (nI_succ _).symm (by decide) ?_
        refine g_goto hC 86 d_M_deliver_212 rfl ?_
        exact zG.to (ih a ha8 hz0 K215 (t + 1) (by omega) (he.trans (wdQ_n (by omega) (by first | exact wdQ_1 ha8 ht4 h99 | exact wdQ_2 ha8 ht4 h109 | exact wdQ_3 ha8 ht4 h122)))) rfl rfl ⟨rfl, rfl, rfl, rfl, rfl, rfl, trivial⟩
      ·
        refine g_aload_n hC d_M_deliver_102 rfl rfl ?_
        refine g_getR hC _ 5 18 _ (by decide) rfl rfl fl_M_59 d_M_deliver_103 rfl ?_
        refine g_iload hC d_M_deliver_106 rfl rfl ?_
        refine g_zald hC _ _ a (by decide) rfl rfl (by show a < 8; omega) (by decide) d_M_deliver_108 rfl ?_
        refine g_if_ne hC 209 d_M_deliver_109 rfl rfl (fun h109 => ?_) (fun h109 => ?_)
        ·
          refine g_iinc hC (nI (t + 1)) d_M_deliver_209 rfl rfl (nI_succ _).symm (by decide) ?_
          refine g_goto hC 86 d_M_deliver_212 rfl ?_
          exact zG.to (ih a ha8 hz0 K215 (t + 1) (by omega) (he.trans (wdQ_n (by omega) (by first | exact wdQ_1 ha8 ht4 h99 | exact wdQ_2 ha8 ht4 h109 | exact wdQ_3 ha8 ht4 h122)))) rfl rfl ⟨rfl, rfl, rfl, rfl, rfl, rfl, trivial⟩
        ·
          refine g_aload_n hC d_M_deliver_112 rfl rfl ?_
          refine g_iload hC d_M_deliver_113 rfl rfl ?_
          refine g_iload hC d_M_deliver_115 rfl rfl ?_
          refine g_iload_n hC d_M_deliver_117 rfl rfl ?_
          refine g_iload_n hC d_M_deliver_118 rfl rfl ?_
          refine g_goi hC rfl (z_runV hC (c_M_takes l D K q hq a t ha8 ht4 (σ 126 0) (σ 127 0) (pf a) (hpf a ha8).1 _ (by rw [wdf_off _ _ (by decide)]; exact (hpf a ha8).2)) yy_M_takes yv_M_150 (by decide) rfl ⟨Nat.le_of_ble_eq_true rfl, Nat.le_of_ble_eq_true rfl⟩ ⟨Nat.zero_le _, Nat.zero_le _⟩ rfl (Nat.le_of_ble_eq_true rfl) d_M_deliver_119) (fun r0 σ0 q0 => ?_)
          obtain ⟨rfl, w0⟩ := q0
          obtain rfl := w0.symm
          refine g_ifeq_b hC 209 d_M_deliver_122 rfl rfl (fun h122 => ?_) (fun h122 => ?_)
          ·
            refine g_iinc hC (nI (t + 1)) d_M_deliver_209 rfl rfl (nI_succ _).symm (by decide) ?_
            refine g_goto hC 86 d_M_deliver_212 rfl ?_
            exact zG.to (ih a ha8 hz0 K215 (t + 1) (by omega) (he.trans (wdQ_n (by omega) (by first | exact wdQ_1 ha8 ht4 h99 | exact wdQ_2 ha8 ht4 h109 | exact wdQ_3 ha8 ht4 h122)))) rfl rfl ⟨rfl, rfl, rfl, rfl, rfl, rfl, trivial⟩
          ·
            have hQ : (wdQ (wdf σ z) (σ 126 0) (σ 127 0) pf) (4 * a + t) = true := wdQ_t ha8 ht4 h99 h109 h122
            refine g_aload_n hC d_M_deliver_125 rfl rfl ?_
            refine g_getR hC _ 5 18 _ (by decide) rfl rfl fl_M_59 d_M_deliver_126 rfl ?_
            refine g_iload hC d_M_deliver_129 rfl rfl ?_
            refine g_iconst hC (1) d_M_deliver_131 (by decide) rfl ?_
            refine g_zast hC _ _ a (by decide) rfl rfl (by show a < 8; omega) (by decide) (Or.inr rfl) d_M_deliver_132 rfl ?_
            refine g_aload_n hC d_M_deliver_133 rfl rfl ?_
            refine g_getR hC _ 5 19 _ (by decide) rfl rfl fl_M_62 d_M_deliver_134 rfl ?_
            refine g_iload hC d_M_deliver_137 rfl rfl ?_
            refine g_aload_n hC d_M_deliver_139 rfl rfl ?_
            refine g_getR hC _ 5 11 _ (by decide) rfl rfl fl_M_41 d_M_deliver_140 rfl ?_
            refine g_iconst hC (4) d_M_deliver_143 (by decide) rfl ?_
            refine g_iload hC d_M_deliver_144 rfl rfl ?_
            refine g_imul hC d_M_deliver_146 rfl ?_
            refine g_top hC (nI (4 * a)) (pk_mul 4 a) ?_
            refine g_iload hC d_M_deliver_147 rfl rfl ?_
            refine g_iadd hC d_M_deliver_149 rfl ?_
            refine g_top hC (nI (4 * a + t)) (nI_add (4 * a) t) ?_
            refine g_iald hC _ _ (4 * a + t) (by decide) rfl rfl (by show 4 * a + t < 36; omega) (by decide) d_M_deliver_150 rfl ?_
            refine g_iast hC _ _ a (by decide) rfl rfl (by show a < 8; omega) (by decide) d_M_deliver_151 rfl ?_
            refine g_aload_n hC d_M_deliver_152 rfl rfl ?_
            refine g_getR hC _ 5 20 _ (by decide) rfl rfl fl_M_65 d_M_deliver_153 rfl ?_
            refine g_iload hC d_M_deliver_156 rfl rfl ?_
            refine g_iconst hC (0) d_M_deliver_158 (by decide) rfl ?_
            refine g_iast hC _ _ a (by decide) rfl rfl (by show a < 8; omega) (by decide) d_M_deliver_159 rfl ?_
            refine g_aload_n hC d_M_deliver_160 rfl rfl ?_
            refine g_getR hC _ 5 22 _ (by decide) rfl rfl fl_M_71 d_M_deliver_161 rfl ?_
            refine g_iconst hC (4) d_M_deliver_164 (by decide) rfl ?_
            refine g_iload hC d_M_deliver_165 rfl rfl ?_
            refine g_imul hC d_M_deliver_167 rfl ?_
            refine g_top hC (nI (4 * a)) (pk_mul 4 a) ?_
            refine g_iload_n hC d_M_deliver_168 rfl rfl ?_
            refine g_iast hC _ _ (4 * a) (by decide) rfl rfl (by show 4 * a + 0 < 32; omega) (by decide) d_M_deliver_169 rfl ?_
            refine g_aload_n hC d_M_deliver_170 rfl rfl ?_
            refine g_getR hC _ 5 22 _ (by decide) rfl rfl fl_M_71 d_M_deliver_171 rfl ?_
            refine g_iconst hC (4) d_M_deliver_174 (by decide) rfl ?_
            refine g_iload hC d_M_deliver_175 rfl rfl ?_
            refine g_imul hC d_M_deliver_177 rfl ?_
            refine g_top hC (nI (4 * a)) (pk_mul 4 a) ?_
            refine g_iconst hC (1) d_M_deliver_178 (by decide) rfl ?_
            refine g_iadd hC d_M_deliver_179 rfl ?_
            refine g_top hC (nI (4 * a + 1)) (nI_add (4 * a) 1) ?_
            refine g_iload_n hC d_M_deliver_180 rfl rfl ?_
            refine g_iast hC _ _ (4 * a + 1) (by decide) rfl rfl (by show 4 * a + 1 < 32; omega) (by decide) d_M_deliver_181 rfl ?_
            refine g_aload_n hC d_M_deliver_182 rfl rfl ?_
            refine g_getR hC _ 5 22 _ (by decide) rfl rfl fl_M_71 d_M_deliver_183 rfl ?_
            refine g_iconst hC (4) d_M_deliver_186 (by decide) rfl ?_
            refine g_iload hC d_M_deliver_187 rfl rfl ?_
            refine g_imul hC d_M_deliver_189 rfl ?_
            refine g_top hC (nI (4 * a)) (pk_mul 4 a) ?_
            refine g_iconst hC (2) d_M_deliver_190 (by decide) rfl ?_
            refine g_iadd hC d_M_deliver_191 rfl ?_
            refine g_top hC (nI (4 * a + 2)) (nI_add (4 * a) 2) ?_
            refine g_iconst hC (0) d_M_deliver_192 (by decide) rfl ?_
            refine g_iast hC _ _ (4 * a + 2) (by decide) rfl rfl (by show 4 * a + 2 < 32; omega) (by decide) d_M_deliver_193 rfl ?_
            refine g_aload_n hC d_M_deliver_194 rfl rfl ?_
            refine g_getR hC _ 5 22 _ (by decide) rfl rfl fl_M_71 d_M_deliver_195 rfl ?_
            refine g_iconst hC (4) d_M_deliver_198 (by decide) rfl ?_
            refine g_iload hC d_M_deliver_199 rfl rfl ?_
            refine g_imul hC d_M_deliver_201 rfl ?_
            refine g_top hC (nI (4 * a)) (pk_mul 4 a) ?_
            refine g_iconst hC (3) d_M_deliver_202 (by decide) rfl ?_
            refine g_iadd hC d_M_deliver_203 rfl ?_
            refine g_top hC (nI (4 * a + 3)) (nI_add (4 * a) 3) ?_
            refine g_iconst hC (0) d_M_deliver_204 (by decide) rfl ?_
            refine g_iast hC _ _ (4 * a + 3) (by decide) rfl rfl (by show 4 * a + 3 < 32; omega) (by decide) d_M_deliver_205 rfl ?_
            refine g_iload hC d_M_deliver_206 rfl rfl ?_
            exact g_iret hC hr hlk d_M_deliver_208 ⟨by rw [wdel_t hz0 he hQ (by omega)]; exact congrArg nI (by omega), by rw [wdel_t hz0 he hQ (by omega)]; exact wdr_eq (by omega) (by omega)⟩
  have J76 : ∀ (f : Nat) (hz0 : ¬ z = 0) (a : Nat) (hif : a + f = 8) (he : zfst (wdQ (wdf σ z) (σ 126 0) (σ 127 0) pf) 32 0 = zfst (wdQ (wdf σ z) (σ 126 0) (σ 127 0) pf) (32 - 4 * a) (4 * a)), zG p l e (zrm 4) s m ([.ref (q (104))] : List Value).toArray below meth c D K q (zA q) 6 0 0 (MQ below (va_Qi (fun r σ' => r = (wdel σ z pf).1 ∧ σ' = (wdel σ z pf).2) (zO D K q) (zA q)) ([.ref (q (104))] : List Value).toArray s 0 0 (zA q)) (wdf σ z) 76 [(0, .ref (q (104))), (1, .int (σ 126 0)), (2, .int (σ 127 0)), (3, .int (σ 128 0)), (4, .int (nI a))] [] := by
    intro f
    induction f with
    | zero =>
      intro hz0 a hif he
      refine g_iload hC d_M_deliver_76 rfl rfl ?_
      refine g_bipush hC (8) d_M_deliver_78 (by decide) rfl ?_
      refine g_icmp_ge hC 221 d_M_deliver_80 rfl rfl (fun h80 => ?_) (fun h80 => absurd (nI_le (a := 8) (b := a) (by omega) (by omega)) h80)
      refine g_iconst hC (-1) d_M_deliver_221 (by decide) rfl ?_
      exact g_iret hC hr hlk d_M_deliver_222 ⟨by rw [wdel_f hz0 (he.trans (by rw [show 32 - 4 * a = 0 by omega]; rfl))], by rw [wdel_f hz0 (he.trans (by rw [show 32 - 4 * a = 0 by omega]; rfl))]⟩
    | succ f ih =>
      intro hz0 a hif he
      refine g_iload hC d_M_deliver_76 rfl rfl ?_
      refine g_bipush hC (8) d_M_deliver_78 (by decide) rfl ?_
      refine g_icmp_ge hC 221 d_M_deliver_80 rfl rfl (fun h80 => absurd h80 (nI_ge (a := a) (b := 8) (by omega) (by omega))) (fun h80 => ?_)
      refine g_iconst hC (0) d_M_deliver_83 (by decide) rfl ?_
      refine g_istore hC d_M_deliver_84 rfl (by decide) ?_
      refine zG.to (J86 4 a (by omega) hz0 (fun he => ?_) 0 (by omega) he) rfl rfl ⟨rfl, rfl, rfl, rfl, rfl, rfl, trivial⟩
      refine g_iinc hC (nI (a + 1)) d_M_deliver_215 rfl rfl (nI_succ _).symm (by decide) ?_
      refine g_goto hC 76 d_M_deliver_218 rfl ?_
      exact zG.to (ih hz0 (a + 1) (by omega) he) rfl rfl ⟨rfl, rfl, rfl, rfl, rfl, trivial⟩
  have J48 : ∀ (f : Nat) (hz0 : ¬ z = 0) (t : Nat) (hif : t + f = z - 1), zG p l e (zrm 4) s m ([.ref (q (104))] : List Value).toArray below meth c D K q (zA q) 6 0 0 (MQ below (va_Qi (fun r σ' => r = (wdel σ z pf).1 ∧ σ' = (wdel σ z pf).2) (zO D K q) (zA q)) ([.ref (q (104))] : List Value).toArray s 0 0 (zA q)) (wsf (zu (wz σ) 104 24 (nI (z - 1))) t) 48 [(0, .ref (q (104))), (1, .int (σ 126 0)), (2, .int (σ 127 0)), (3, .int (σ 128 0)), (4, .int (nI t))] [] := by
    intro f
    induction f with
    | zero =>
      intro hz0 t hif
      refine g_iload hC d_M_deliver_48 rfl rfl ?_
      refine g_aload_n hC d_M_deliver_50 rfl rfl ?_
      refine g_getV hC _ 5 24 (nI (z - 1)) (by rw [wsf_off _ _ (by decide)]; exact zu_eq _ _ _ _) (by decide) rfl rfl fl_M_136 d_M_deliver_51 rfl ?_
      refine g_icmp_ge hC 73 d_M_deliver_54 rfl rfl (fun h54 => ?_) (fun h54 => absurd (nI_le (a := z - 1) (b := t) (by omega) (by omega)) h54)
      refine g_iconst hC (0) d_M_deliver_73 (by decide) rfl ?_
      refine g_istore hC d_M_deliver_74 rfl (by decide) ?_
      exact zG.to (J76 8 hz0 0 (by omega) rfl) (by rw [show t = z - 1 by omega]; rfl) rfl ⟨rfl, rfl, rfl, rfl, rfl, trivial⟩
    | succ f ih =>
      intro hz0 t hif
      refine g_iload hC d_M_deliver_48 rfl rfl ?_
      refine g_aload_n hC d_M_deliver_50 rfl rfl ?_
      refine g_getV hC _ 5 24 (nI (z - 1)) (by rw [wsf_off _ _ (by decide)]; exact zu_eq _ _ _ _) (by decide) rfl rfl fl_M_136 d_M_deliver_51 rfl ?_
      refine g_icmp_ge hC 73 d_M_deliver_54 rfl rfl (fun h54 => absurd h54 (nI_ge (a := t) (b := z - 1) (by omega) (by omega))) (fun h54 => ?_)
      refine g_aload_n hC d_M_deliver_57 rfl rfl ?_
      refine g_iload hC d_M_deliver_58 rfl rfl ?_
      refine g_iconst hC (1) d_M_deliver_60 (by decide) rfl ?_
      refine g_iadd hC d_M_deliver_61 rfl ?_
      refine g_top hC (nI (t + 1)) (nI_1 t) ?_
      refine g_iload hC d_M_deliver_62 rfl rfl ?_
      refine g_gov hC rfl (z_runV hC (c_M_move l D K q hq (t + 1) t (by omega) (by omega) _) yy_M_move yv_M_139 (by decide) rfl ⟨Nat.le_of_ble_eq_true rfl, Nat.le_of_ble_eq_true rfl⟩ ⟨Nat.zero_le _, Nat.zero_le _⟩ rfl (Nat.le_of_ble_eq_true rfl) d_M_deliver_64) (fun σ1 q1 => ?_)
      obtain rfl := q1.symm
      refine g_iinc hC (nI (t + 1)) d_M_deliver_67 rfl rfl (nI_succ _).symm (by decide) ?_
      refine g_goto hC 48 d_M_deliver_70 rfl ?_
      exact zG.to (ih hz0 (t + 1) (by omega)) rfl rfl ⟨rfl, rfl, rfl, rfl, rfl, trivial⟩
  refine g_aload_n hC d_M_deliver_0 rfl rfl ?_
  refine g_iconst hC (0) d_M_deliver_1 (by decide) rfl ?_
  refine g_putI hC _ 5 0 (by decide) rfl rfl fp_M_90 d_M_deliver_2 rfl ?_
  refine g_aload_n hC d_M_deliver_5 rfl rfl ?_
  refine g_getV hC _ 5 24 (nI z) (by rw [zu_ne _ _ (Or.inr (by decide))]; exact h) (by decide) rfl rfl fl_M_136 d_M_deliver_6 rfl ?_
  refine g_if_ne hC 14 d_M_deliver_9 rfl rfl (fun h9 => ?_) (fun h9 => ?_)
  ·
    have hz0 : ¬ z = 0 := fun y => h9 (by rw [y]; rfl)
    refine g_aload_n hC d_M_deliver_14 rfl rfl ?_
    refine g_getR hC _ 5 25 _ (by decide) rfl rfl fl_M_78 d_M_deliver_15 rfl ?_
    refine g_iconst hC (0) d_M_deliver_18 (by decide) rfl ?_
    refine g_ialdV hC _ _ 0 (σ 126 0) (by simp (disch := omega) only [zu_row]) (by decide) rfl (by decide) (by decide) (by decide) d_M_deliver_19 rfl ?_
    refine g_istore_n hC d_M_deliver_20 rfl (by decide) ?_
    refine g_aload_n hC d_M_deliver_21 rfl rfl ?_
    refine g_getR hC _ 5 26 _ (by decide) rfl rfl fl_M_81 d_M_deliver_22 rfl ?_
    refine g_iconst hC (0) d_M_deliver_25 (by decide) rfl ?_
    refine g_ialdV hC _ _ 0 (σ 127 0) (by simp (disch := omega) only [zu_row]) (by decide) rfl (by decide) (by decide) (by decide) d_M_deliver_26 rfl ?_
    refine g_istore_n hC d_M_deliver_27 rfl (by decide) ?_
    refine g_aload_n hC d_M_deliver_28 rfl rfl ?_
    refine g_getR hC _ 5 27 _ (by decide) rfl rfl fl_M_84 d_M_deliver_29 rfl ?_
    refine g_iconst hC (0) d_M_deliver_32 (by decide) rfl ?_
    refine g_ialdV hC _ _ 0 (σ 128 0) (by simp (disch := omega) only [zu_row]) (by decide) rfl (by decide) (by decide) (by decide) d_M_deliver_33 rfl ?_
    refine g_istore_n hC d_M_deliver_34 rfl (by decide) ?_
    refine g_aload_n hC d_M_deliver_35 rfl rfl ?_
    refine g_dup hC d_M_deliver_36 rfl rfl ?_
    refine g_getV hC _ 5 24 (nI z) (by rw [zu_ne _ _ (Or.inr (by decide))]; exact h) (by decide) rfl rfl fl_M_136 d_M_deliver_37 rfl ?_
    refine g_iconst hC (1) d_M_deliver_40 (by decide) rfl ?_
    refine g_isub hC d_M_deliver_41 rfl ?_
    refine g_top hC (nI (z - 1)) (pk_sub (a := z) (b := 1) (by omega)) ?_
    refine g_putI hC _ 5 24 (by decide) rfl rfl fp_M_136 d_M_deliver_42 rfl ?_
    refine g_iconst hC (0) d_M_deliver_45 (by decide) rfl ?_
    refine g_istore hC d_M_deliver_46 rfl (by decide) ?_
    exact zG.to (J48 (z - 1) hz0 0 (by omega)) rfl rfl ⟨rfl, rfl, rfl, rfl, rfl, trivial⟩
  ·
    have hz0 : z = 0 := (nI_eq (a := z) (b := 0) (by omega) (by decide)).mp h9
    refine g_iconst hC (-1) d_M_deliver_12 (by decide) rfl ?_
    exact g_iret hC hr hlk d_M_deliver_13 ⟨by rw [hz0]; rfl, by rw [hz0]; rfl⟩
