/-! rows for constants, Math.max, System.arraycopy, the verifier's two static rows -/
theorem km_Q_29 : Cond.methodLink "AppDesk$IntentQueue" 29 Lib.Math.max.name ∈ zT := zk2 72 rfl rfl
theorem km_A_83 : Cond.methodLink "AppDesk$App" 83 Lib.Math.max.name ∈ zT := zk3 58 rfl rfl
theorem kmx_s : Cond.static Lib.Math.max.name ∈ zT := zk2 73 rfl rfl
theorem kmx_c : Cond.code Lib.Math.max.name Lib.Math.max.code 2 (some .int) ∈ zT := zk2 74 rfl rfl
theorem kcp_l : Cond.methodLink "AppDesk$Pack" 62 arraycopyName ∈ zT := zk3 22 rfl rfl
theorem kcp_s : Cond.static arraycopyName ∈ zT := zk3 23 rfl rfl
theorem kcp_n : Cond.native arraycopyName ∈ zT := zk3 24 rfl rfl
section ZJ
variable {p : Program} {l : Launch} {e : Env} {R : Room} {s : State} {m : MethodId} {args : Array Value} {below : List Frame} {meth : Method} {c : Code} {cc : ByteArray} {nL ce sl : Nat} {own : String} {D : va_G} {K : Nat → ClassId} {q : Nat → Nat} {A : Nat → Prop} {Q : State → Prop} {σ : zm} {pc pc' : Nat} {lv lv' : List (Nat × Value)} {st rest : List Value}
theorem g_ldc (hC : zX p s m args c cc nL own D K q A) {index : Nat} (v : Int32) (hdg : decode cc pc = .ok (.ldc index, 2)) (hw : Cond.constant own index v ∈ zT) (hp : pc + 2 = pc') (k : zG p l e R s m args below meth c D K q A nL ce sl Q σ pc' lv (.int v :: st)) : zG p l e R s m args below meth c D K q A nL ce sl Q σ pc lv st := by
  subst hp
  exact fun H locs ls hP hS hl => lv_ldc hC.1 hC.2.1 hC.o (hC.t _ hw) hdg (k H locs ls hP hS hl)
theorem g_ldcw (hC : zX p s m args c cc nL own D K q A) {index : Nat} (v : Int32) (hdg : decode cc pc = .ok (.ldc_w index, 3)) (hw : Cond.constant own index v ∈ zT) (hp : pc + 3 = pc') (k : zG p l e R s m args below meth c D K q A nL ce sl Q σ pc' lv (.int v :: st)) : zG p l e R s m args below meth c D K q A nL ce sl Q σ pc lv st := by
  subst hp
  exact fun H locs ls hP hS hl => lv_ldcw hC.1 hC.2.1 hC.o (hC.t _ hw) hdg (k H locs ls hP hS hl)
def zmax (x y : Int32) : Int32 := if x < y then y else x
theorem g_max (hC : zX p s m args c cc nL own D K q A) {index : Nat} {x y : Int32} (hw : Cond.methodLink own index Lib.Math.max.name ∈ zT) (hdg : decode cc pc = .ok (.invokestatic index, 3)) (hp : pc + 3 = pc') (hR : 1 ≤ R.frames ∧ 30 ≤ R.locals ∧ ce ≤ R.cells ∧ sl ≤ R.slots) (hW : (st.map fun v => v.category).sum ≤ 8) (k : zG p l e R s m args below meth c D K q A nL ce sl Q σ pc' lv (.int (zmax x y) :: st)) : zG p l e R s m args below meth c D K q A nL ce sl Q σ pc lv (.int y :: .int x :: st) := by
  subst hp
  exact fun H locs ls hP hS hl => va_mmax hC.1 hC.2.1 (hC.2.2.1.trans hl.1.symm) hC.o (hC.t _ hw) (hC.t _ kmx_s) (hC.t _ ki_Math) (hC.t _ kmx_c) hR.1 (by omega) hR.2.2.1 hR.2.2.2 hdg (k H locs ls hP hS hl)
theorem g_copy (hC : zX p s m args c cc nL own D K q A) {index : Nat} (j0 j1 n0 n1 k : Nat) {fl0 fl1 : List (Option Nat)} {n : Int32} (hw : Cond.methodLink own index arraycopyName ∈ zT) (hj0 : j0 < zN) (hs0 : zS j0 = (1, n0, fl0)) (hj1 : j1 < zN) (hs1 : zS j1 = (1, n1, fl1)) (hn : n = nI k) (hk : k < 2 ^ 31) (h0 : k ≤ n0) (h1 : k ≤ n1) (hR : 1 ≤ R.frames ∧ 30 ≤ R.locals) (hW : (st.map fun v => v.category).sum ≤ 8) (hdg : decode cc pc = .ok (.invokestatic index, 3)) (hp : pc + 3 = pc') (kk : zG p l e R s m args below meth c D K q A nL ce sl Q (zr σ j1 (va_cpy (σ j0) (σ j1) 0 0 k)) pc' lv st) : zG p l e R s m args below meth c D K q A nL ce sl Q σ pc lv (.int n :: .int 0 :: .ref (q j1) :: .int 0 :: .ref (q j0) :: st) := by
  subst hp
  subst hn
  have hnw : nativeFrameWords "java/lang/System" "arraycopy" 5 = 7 := by decide +kernel
  have e0 : (0 : Int32).toNatClampNeg = 0 := by decide
  refine fun H locs ls hP hS hl => va_copyi (sp := 0) (dp := 0) (n := nI k) hC.1 hC.2.1 (hC.2.2.1.trans hl.1.symm) hC.o (hC.t _ hw) (hC.t _ kcp_n) (hC.t _ kcp_s) (hC.t _ ki_System) hC.k hP hC.dd hS j0 j1 0 0 (zS_int hj0 hs0) (zS_int hj1 hs1) rfl rfl rfl (by decide) (by decide) (nI_pos hk) (by rw [nI_clamp hk, e0]; omega) (by rw [nI_clamp hk, e0]; omega) (fun _ _ => rfl) hR.1 (by rw [hnw]; omega) hdg (fun H1 locs1 hP1 _ hS1 => ?_)
  rw [nI_clamp hk] at hP1
  rw [e0, zset_row hj1 hs1] at hP1
  exact kk H1 locs1 ls hP1 hS1 hl
theorem g_need (hC : zX p s m args c cc nL own D K q A) (hown : own = "AppDesk$Verifier") (hdg : decode cc pc = .ok (.getstatic 64, 3)) (hp : pc + 3 = pc') (k : ∀ t : Nat, va_T .int t 14 (fun k => .int (zNeed k)) A s s.heap → zG p l e R s m args below meth c D K q A nL ce sl Q σ pc' lv (.ref t :: st)) : zG p l e R s m args below meth c D K q A nL ce sl Q σ pc lv st := by
  subst hp
  subst hown
  obtain ⟨t1, t2, h1, h2, h3, h4⟩ := hC.ee.2.1
  exact fun H locs ls hP hS hl => va_gets hC.1 hC.2.1 h1 hS hC.o (hC.t _ kf_V_64) (fun _ h => h) hdg (k t1 h2 H locs ls hP hS hl)
theorem g_leav (hC : zX p s m args c cc nL own D K q A) (hown : own = "AppDesk$Verifier") (hdg : decode cc pc = .ok (.getstatic 67, 3)) (hp : pc + 3 = pc') (k : ∀ t : Nat, va_T .int t 14 (fun k => .int (zLeav k)) A s s.heap → zG p l e R s m args below meth c D K q A nL ce sl Q σ pc' lv (.ref t :: st)) : zG p l e R s m args below meth c D K q A nL ce sl Q σ pc lv st := by
  subst hp
  subst hown
  obtain ⟨t1, t2, h1, h2, h3, h4⟩ := hC.ee.2.1
  exact fun H locs ls hP hS hl => va_gets hC.1 hC.2.1 h3 hS hC.o (hC.t _ kf_V_67) (fun _ h => h) hdg (k t2 h4 H locs ls hP hS hl)
theorem g_tab (hC : zX p s m args c cc nL own D K q A) {t : Nat} {f : Nat → Int32} {i : Int32} (k : Nat) (hT : va_T .int t 14 (fun k => .int (f k)) A s s.heap) (hi : i = nI k) (hk : k < 14) (hdg : decode cc pc = .ok (.iaload, 1)) (hp : pc + 1 = pc') (kk : zG p l e R s m args below meth c D K q A nL ce sl Q σ pc' lv (.int (f k) :: st)) : zG p l e R s m args below meth c D K q A nL ce sl Q σ pc lv (.int i :: .ref t :: st) := by
  subst hp
  exact fun H locs ls hP hS hl => va_ti hC.1 hC.2.1 hT hS (z_nI hi hk (by decide)) (by rw [z_cl hi hk (by decide)]) hdg (kk H locs ls hP hS hl)
end ZJ
-- the words of what the methods say
def zin (x n : Int32) : Bool := decide (0 ≤ x) && decide (x < n)
def zbit (b x : Int32) : Bool := decide ((b >>> (x &&& 31)) &&& 1 = 1)
def zhas (b x n : Int32) : Bool := zin x n && zbit b x
def zmix (h x : Int32) : Int32 := (h * 31 + x) ^^^ ((h * 31 + x).toUInt32 >>> ((13 : Int32).toUInt32 &&& Int32.toUInt32 31)).toInt32
theorem zin_t {x n : Int32} (h1 : ¬ x < 0) (h2 : ¬ n ≤ x) : zin x n = true := by
  unfold zin
  rw [decide_eq_true (Int32.not_lt.mp h1), decide_eq_true (Int32.not_le.mp h2)]
  rfl
theorem zin_f1 {x n : Int32} (h1 : x < 0) : zin x n = false := by
  unfold zin
  rw [decide_eq_false (fun h => absurd h1 (Int32.not_lt.mpr h))]
  rfl
theorem zin_f2 {x n : Int32} (h2 : n ≤ x) : zin x n = false := by
  unfold zin
  rw [decide_eq_false (fun h => absurd h2 (Int32.not_le.mpr h)), Bool.and_false]
theorem zin_of {x : Int32} {n : Nat} (hn : n < 2 ^ 31) (h : zin x (nI n) = true) : ∃ k : Nat, k < n ∧ x = nI k := by
  unfold zin at h
  simp only [Bool.and_eq_true, decide_eq_true_eq] at h
  rcases pk_ix x hn with h1 | h1 | h1
  · exact absurd h1 (Int32.not_lt.mpr h.1)
  · exact absurd h1 (Int32.not_le.mpr h.2)
  · exact h1
theorem zin_nI {k n : Nat} (h : k < n) (hn : n < 2 ^ 31) : zin (nI k) (nI n) = true := zin_t (nI_pos (Nat.lt_trans h hn)) (nI_ge h hn)
