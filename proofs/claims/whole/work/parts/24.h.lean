/-! HEAP ROWS over flat worlds -/
section ZH
variable {p : Program} {l : Launch} {e : Env} {R : Room} {s : State} {m : MethodId} {args : Array Value} {below : List Frame} {meth : Method} {c : Code} {cc : ByteArray} {nL ce sl : Nat} {own : String} {D : va_G} {K : Nat → ClassId} {q : Nat → Nat} {A : Nat → Prop} {Q : State → Prop} {σ : zm} {pc pc' : Nat} {lv lv' : List (Nat × Value)} {st : List Value}
/-- a field of a class of ours, as an instruction names it -/
def zFl (own : String) (index ci k : Nat) : Prop := ∃ (C : String) (T : u_T) (N : Nat), zcl[ci]? = some (C, T, N) ∧ k < N ∧ (∀ w ∈ u_ws C T N, w ∈ zT) ∧ Cond.fieldLink own index C (T k).2.1 (T k).2.2.1 ∈ zT ∧ (T k).1 = C
def zFp (own : String) (index ci k : Nat) (ty : FieldType) : Prop := ∃ (C : String) (T : u_T) (N : Nat) (t0 : Nat → FieldType), zcl[ci]? = some (C, T, N) ∧ k < N ∧ (∀ w ∈ u_ws C T N, w ∈ zT) ∧ Cond.fieldLink own index C (T k).2.1 (T k).2.2.1 ∈ zT ∧ (T k).1 = C ∧ (∀ k, k < N → parseFieldDescriptor (T k).2.2.1 = some (t0 k)) ∧ (∀ a, a < N → ∀ b, b < N → a ≠ b → (T a).2.1 ≠ (T b).2.1) ∧ (T k).2.2.2 = false ∧ parseFieldDescriptor (T k).2.2.1 = some ty
theorem zS_obj {j ci : Nat} {fl : List (Option Nat)} (hj : j < zN) (hs : zS j = (0, ci, fl)) : (zw K q σ)[j]? = some (q j, .inr (ci, zfv q σ j fl)) := by rw [zw_get hj, hs]; rfl
theorem zS_int {j n : Nat} {fl : List (Option Nat)} (hj : j < zN) (hs : zS j = (1, n, fl)) : (zw K q σ)[j]? = some (q j, .inl (K 0, n, .inl (σ j))) := by rw [zw_get hj, hs]; rfl
theorem zS_boo {j n : Nat} {fl : List (Option Nat)} (hj : j < zN) (hs : zS j = (2, n, fl)) : (zw K q σ)[j]? = some (q j, .inl (K 1, n, .inl (σ j))) := by rw [zw_get hj, hs]; rfl
theorem zS_lon {j n : Nat} {fl : List (Option Nat)} (hj : j < zN) (hs : zS j = (3, n, fl)) : (zw K q σ)[j]? = some (q j, .inl (K 2, n, .inr (.inl (fun k => (σ j k).toInt64)))) := by rw [zw_get hj, hs]; rfl
theorem zS_ref {j n : Nat} {fl : List (Option Nat)} (hj : j < zN) (hs : zS j = (4, n, fl)) : (zw K q σ)[j]? = some (q j, .inl (K 3, n, .inr (.inr (.inr (.inr (fun k => (fl.getD k none).map q)))))) := by rw [zw_get hj, hs]; rfl
theorem zset_obj {j ci k : Nat} {fl : List (Option Nat)} (hj : j < zN) (hs : zS j = (0, ci, fl)) (hf : fl[k]? = some none) (v : Int32) : (zw K q σ).set j (q j, .inr (ci, (zfv q σ j fl).set k (.int v))) = zw K q (zu σ j k v) := by
  refine zw_set hj (fun i hi => zu_row σ v hi) ?_
  rw [hs, zfv_set hf]
  rfl
theorem zset_int {j n k : Nat} {fl : List (Option Nat)} (hj : j < zN) (hs : zS j = (1, n, fl)) (v : Int32) : (zw K q σ).set j (q j, .inl (K 0, n, .inl (upd (σ j) k v))) = zw K q (zu σ j k v) := by
  refine zw_set hj (fun i hi => zu_row σ v hi) ?_
  rw [hs, ← zu_own]
  rfl
theorem zset_boo {j n k : Nat} {fl : List (Option Nat)} (hj : j < zN) (hs : zS j = (2, n, fl)) (v : Int32) : (zw K q σ).set j (q j, .inl (K 1, n, .inl (upd (σ j) k v))) = zw K q (zu σ j k v) := by
  refine zw_set hj (fun i hi => zu_row σ v hi) ?_
  rw [hs, ← zu_own]
  rfl
theorem zset_lon {j n k : Nat} {fl : List (Option Nat)} (hj : j < zN) (hs : zS j = (3, n, fl)) (v : Int32) : (zw K q σ).set j (q j, .inl (K 2, n, .inr (.inl (vp_updL (fun k => (σ j k).toInt64) k v.toInt64)))) = zw K q (zu σ j k v) := by
  refine zw_set hj (fun i hi => zu_row σ v hi) ?_
  rw [hs]
  show Sum.inl _ = Sum.inl _
  congr 5
  funext i
  by_cases hi : i = k
  · subst hi; simp [zu, vp_updL]
  · simp [zu, vp_updL, hi]
theorem zset_row {j n : Nat} {fl : List (Option Nat)} (hj : j < zN) (hs : zS j = (1, n, fl)) (f : Nat → Int32) : (zw K q σ).set j (q j, .inl (K 0, n, .inl f)) = zw K q (zr σ j f) := by
  refine zw_set hj (fun i hi => zr_ne σ f hi) ?_
  rw [hs]
  show Sum.inl _ = Sum.inl _
  rw [zr_eq]
theorem zX.dd (hC : zX p s m args c cc nL own D K q A) : va_D A (zw K q σ) := zw_D hC.2.2.2.2.2.2.1 hC.2.2.2.2.2.2.2.1
theorem zX.t (hC : zX p s m args c cc nL own D K q A) : ∀ w ∈ zT, w.before args s = true := hC.2.2.2.2.1
theorem zX.o (hC : zX p s m args c cc nL own D K q A) : s.vm.findClass own = some m.cls := hC.2.2.2.1
theorem zX.k (hC : zX p s m args c cc nL own D K q A) : va_K D zcl (zty K) s := hC.2.2.2.2.2.1
theorem zX.ee (hC : zX p s m args c cc nL own D K q A) : zE A s s.heap := hC.2.2.2.2.2.2.2.2
theorem z_nI {i : Int32} {k n : Nat} (hi : i = nI k) (hk : k < n) (hn : n < 2 ^ 31) : vp_in i n := by subst hi; exact vp_in_nI hk hn
theorem z_cl {i : Int32} {k n : Nat} (hi : i = nI k) (hk : k < n) (hn : n < 2 ^ 31) : i.toNatClampNeg = k := by subst hi; exact nI_clamp (Nat.lt_trans hk hn)
theorem z_zn {v : Int32} (h : v = 0 ∨ v = 1) : narrow .boolean (.int v) = .int v ∧ fits .boolean (.int v) = true ∧ vp_nar .boolean v = v := by rcases h with rfl | rfl <;> decide +kernel
theorem g_getI (hC : zX p s m args c cc nL own D K q A) (j ci k : Nat) {fl : List (Option Nat)} {index : Nat} (hj : j < zN) (hs : zS j = (0, ci, fl)) (hf : fl[k]? = some none) (hw : zFl own index ci k) (hdg : decode cc pc = .ok (.getfield index, 3)) (hp : pc + 3 = pc') (kk : zG p l e R s m args below meth c D K q A nL ce sl Q σ pc' lv (.int (σ j k) :: st)) : zG p l e R s m args below meth c D K q A nL ce sl Q σ pc lv (.ref (q j) :: st) := by
  subst hp
  obtain ⟨C, T, N, h1, h2, h3, h4, h5⟩ := hw
  exact fun H locs ls hP hS hl => va_get hC.1 hC.2.1 hC.t h3 hC.o hC.k hP j (zS_obj hj hs) h1 k h2 (hC.t _ h4) (fun x h => by rw [← h5]; exact h) (zfv_int hf) hdg (kk H locs ls hP hS hl)
theorem g_getR (hC : zX p s m args c cc nL own D K q A) (j ci k t : Nat) {fl : List (Option Nat)} {index : Nat} (hj : j < zN) (hs : zS j = (0, ci, fl)) (hf : fl[k]? = some (some t)) (hw : zFl own index ci k) (hdg : decode cc pc = .ok (.getfield index, 3)) (hp : pc + 3 = pc') (kk : zG p l e R s m args below meth c D K q A nL ce sl Q σ pc' lv (.ref (q t) :: st)) : zG p l e R s m args below meth c D K q A nL ce sl Q σ pc lv (.ref (q j) :: st) := by
  subst hp
  obtain ⟨C, T, N, h1, h2, h3, h4, h5⟩ := hw
  exact fun H locs ls hP hS hl => va_get hC.1 hC.2.1 hC.t h3 hC.o hC.k hP j (zS_obj hj hs) h1 k h2 (hC.t _ h4) (fun x h => by rw [← h5]; exact h) (zfv_ref hf) hdg (kk H locs ls hP hS hl)
theorem g_putI (hC : zX p s m args c cc nL own D K q A) (j ci k : Nat) {v : Int32} {fl : List (Option Nat)} {index : Nat} (hj : j < zN) (hs : zS j = (0, ci, fl)) (hf : fl[k]? = some none) (hw : zFp own index ci k .int) (hdg : decode cc pc = .ok (.putfield index, 3)) (hp : pc + 3 = pc') (kk : zG p l e R s m args below meth c D K q A nL ce sl Q (zu σ j k v) pc' lv st) : zG p l e R s m args below meth c D K q A nL ce sl Q σ pc lv (.int v :: .ref (q j) :: st) := by
  subst hp
  obtain ⟨C, T, N, t0, h1, h2, h3, h4, h5, h6, h7, h8, h9⟩ := hw
  exact fun H locs ls hP hS hl => va_put hC.1 hC.2.1 hC.t h3 t0 h6 h7 hC.o hC.k hP hC.dd hS j (zS_obj hj hs) h1 k h2 (hC.t _ h4) (fun x h => by rw [← h5]; exact h) h8 h9 rfl rfl (by rw [zfv_len]; exact (List.getElem?_eq_some_iff.mp hf).1) hdg (fun H1 locs1 hP1 _ hS1 => kk H1 locs1 ls (by rw [← zset_obj hj hs hf v]; exact hP1) hS1 hl)
theorem g_putZ (hC : zX p s m args c cc nL own D K q A) (j ci k : Nat) {v : Int32} {fl : List (Option Nat)} {index : Nat} (hj : j < zN) (hs : zS j = (0, ci, fl)) (hf : fl[k]? = some none) (hw : zFp own index ci k .boolean) (hv : v = 0 ∨ v = 1) (hdg : decode cc pc = .ok (.putfield index, 3)) (hp : pc + 3 = pc') (kk : zG p l e R s m args below meth c D K q A nL ce sl Q (zu σ j k v) pc' lv st) : zG p l e R s m args below meth c D K q A nL ce sl Q σ pc lv (.int v :: .ref (q j) :: st) := by
  subst hp
  obtain ⟨C, T, N, t0, h1, h2, h3, h4, h5, h6, h7, h8, h9⟩ := hw
  exact fun H locs ls hP hS hl => va_put hC.1 hC.2.1 hC.t h3 t0 h6 h7 hC.o hC.k hP hC.dd hS j (zS_obj hj hs) h1 k h2 (hC.t _ h4) (fun x h => by rw [← h5]; exact h) h8 h9 (z_zn hv).1 (z_zn hv).2.1 (by rw [zfv_len]; exact (List.getElem?_eq_some_iff.mp hf).1) hdg (fun H1 locs1 hP1 _ hS1 => kk H1 locs1 ls (by rw [← zset_obj hj hs hf v]; exact hP1) hS1 hl)
theorem g_iald (hC : zX p s m args c cc nL own D K q A) (j n k : Nat) {i : Int32} {fl : List (Option Nat)} (hj : j < zN) (hs : zS j = (1, n, fl)) (hi : i = nI k) (hk : k < n) (hn : n < 2 ^ 31) (hdg : decode cc pc = .ok (.iaload, 1)) (hp : pc + 1 = pc') (kk : zG p l e R s m args below meth c D K q A nL ce sl Q σ pc' lv (.int (σ j k) :: st)) : zG p l e R s m args below meth c D K q A nL ce sl Q σ pc lv (.int i :: .ref (q j) :: st) := by
  subst hp
  refine fun H locs ls hP hS hl => va_iald hC.1 hC.2.1 hC.k hP j 0 (zS_int hj hs) rfl (z_nI hi hk hn) hdg ?_
  rw [z_cl hi hk hn]
  exact kk H locs ls hP hS hl
theorem g_zald (hC : zX p s m args c cc nL own D K q A) (j n k : Nat) {i : Int32} {fl : List (Option Nat)} (hj : j < zN) (hs : zS j = (2, n, fl)) (hi : i = nI k) (hk : k < n) (hn : n < 2 ^ 31) (hdg : decode cc pc = .ok (.baload, 1)) (hp : pc + 1 = pc') (kk : zG p l e R s m args below meth c D K q A nL ce sl Q σ pc' lv (.int (σ j k) :: st)) : zG p l e R s m args below meth c D K q A nL ce sl Q σ pc lv (.int i :: .ref (q j) :: st) := by
  subst hp
  refine fun H locs ls hP hS hl => va_zald hC.1 hC.2.1 hC.k hP j 1 (zS_boo hj hs) rfl (z_nI hi hk hn) hdg ?_
  rw [z_cl hi hk hn]
  exact kk H locs ls hP hS hl
theorem g_iast (hC : zX p s m args c cc nL own D K q A) (j n k : Nat) {i v : Int32} {fl : List (Option Nat)} (hj : j < zN) (hs : zS j = (1, n, fl)) (hi : i = nI k) (hk : k < n) (hn : n < 2 ^ 31) (hdg : decode cc pc = .ok (.iastore, 1)) (hp : pc + 1 = pc') (kk : zG p l e R s m args below meth c D K q A nL ce sl Q (zu σ j k v) pc' lv st) : zG p l e R s m args below meth c D K q A nL ce sl Q σ pc lv (.int v :: .int i :: .ref (q j) :: st) := by
  subst hp
  refine fun H locs ls hP hS hl => va_iast hC.1 hC.2.1 hC.k hP hC.dd hS j 0 (zS_int hj hs) rfl (z_nI hi hk hn) hdg (fun H1 locs1 hP1 _ hS1 => ?_)
  rw [z_cl hi hk hn, zset_int hj hs] at hP1
  exact kk H1 locs1 ls hP1 hS1 hl
theorem g_zast (hC : zX p s m args c cc nL own D K q A) (j n k : Nat) {i v : Int32} {fl : List (Option Nat)} (hj : j < zN) (hs : zS j = (2, n, fl)) (hi : i = nI k) (hk : k < n) (hn : n < 2 ^ 31) (hv : v = 0 ∨ v = 1) (hdg : decode cc pc = .ok (.bastore, 1)) (hp : pc + 1 = pc') (kk : zG p l e R s m args below meth c D K q A nL ce sl Q (zu σ j k v) pc' lv st) : zG p l e R s m args below meth c D K q A nL ce sl Q σ pc lv (.int v :: .int i :: .ref (q j) :: st) := by
  subst hp
  refine fun H locs ls hP hS hl => va_zast hC.1 hC.2.1 hC.k hP hC.dd hS j 1 (zS_boo hj hs) rfl (z_nI hi hk hn) hdg (fun H1 locs1 hP1 _ hS1 => ?_)
  rw [z_cl hi hk hn, (z_zn hv).2.2, zset_boo hj hs] at hP1
  exact kk H1 locs1 ls hP1 hS1 hl
theorem g_last (hC : zX p s m args c cc nL own D K q A) (j n k : Nat) {i v : Int32} {fl : List (Option Nat)} (hj : j < zN) (hs : zS j = (3, n, fl)) (hi : i = nI k) (hk : k < n) (hn : n < 2 ^ 31) (hdg : decode cc pc = .ok (.lastore, 1)) (hp : pc + 1 = pc') (kk : zG p l e R s m args below meth c D K q A nL ce sl Q (zu σ j k v) pc' lv st) : zG p l e R s m args below meth c D K q A nL ce sl Q σ pc lv (.long v.toInt64 :: .int i :: .ref (q j) :: st) := by
  subst hp
  refine fun H locs ls hP hS hl => va_last hC.1 hC.2.1 hC.k hP hC.dd hS j 2 (zS_lon hj hs) rfl (z_nI hi hk hn) hdg (fun H1 locs1 hP1 _ hS1 => ?_)
  rw [z_cl hi hk hn, zset_lon hj hs] at hP1
  exact kk H1 locs1 ls hP1 hS1 hl
theorem g_lald (hC : zX p s m args c cc nL own D K q A) (j n k : Nat) {i : Int32} {fl : List (Option Nat)} (hj : j < zN) (hs : zS j = (3, n, fl)) (hi : i = nI k) (hk : k < n) (hn : n < 2 ^ 31) (hdg : decode cc pc = .ok (.laload, 1)) (hp : pc + 1 = pc') (kk : zG p l e R s m args below meth c D K q A nL ce sl Q σ pc' lv (.long (σ j k).toInt64 :: st)) : zG p l e R s m args below meth c D K q A nL ce sl Q σ pc lv (.int i :: .ref (q j) :: st) := by
  subst hp
  refine fun H locs ls hP hS hl => va_lald hC.1 hC.2.1 hC.k hP j 2 (zS_lon hj hs) rfl (z_nI hi hk hn) hdg ?_
  rw [z_cl hi hk hn]
  exact kk H locs ls hP hS hl
theorem g_aald (hC : zX p s m args c cc nL own D K q A) (j n k t : Nat) {i : Int32} {fl : List (Option Nat)} (hj : j < zN) (hs : zS j = (4, n, fl)) (hi : i = nI k) (hk : k < n) (hn : n < 2 ^ 31) (hf : fl.getD k none = some t) (hdg : decode cc pc = .ok (.aaload, 1)) (hp : pc + 1 = pc') (kk : zG p l e R s m args below meth c D K q A nL ce sl Q σ pc' lv (.ref (q t) :: st)) : zG p l e R s m args below meth c D K q A nL ce sl Q σ pc lv (.int i :: .ref (q j) :: st) := by
  subst hp
  refine fun H locs ls hP hS hl => va_aldq hC.1 hC.2.1 hC.k hP j 3 (zS_ref hj hs) rfl (z_nI hi hk hn) hdg ?_
  rw [z_cl hi hk hn, hf]
  exact kk H locs ls hP hS hl
theorem g_alenI (hC : zX p s m args c cc nL own D K q A) (j n : Nat) {fl : List (Option Nat)} (hj : j < zN) (hs : zS j = (1, n, fl)) (hn : n < 2 ^ 31) (hdg : decode cc pc = .ok (.arraylength, 1)) (hp : pc + 1 = pc') (kk : zG p l e R s m args below meth c D K q A nL ce sl Q σ pc' lv (.int (nI n) :: st)) : zG p l e R s m args below meth c D K q A nL ce sl Q σ pc lv (.ref (q j) :: st) := by
  subst hp
  exact fun H locs ls hP hS hl => va_alen hC.1 hC.2.1 hC.k hP j 0 (zS_int hj hs) rfl rfl hdg (kk H locs ls hP hS hl)
end ZH
