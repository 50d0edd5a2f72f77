/-! FLAT WORLDS: all cells of the class, the reference and the law's own array, by their numbers; their ints are one memory. -/
abbrev zm : Type := Nat → Nat → Int32
/-- one int is written -/
def zu (σ : zm) (j k : Nat) (v : Int32) : zm := fun a b => if a = j ∧ b = k then v else σ a b
/-- a whole row is written -/
def zr (σ : zm) (j : Nat) (f : Nat → Int32) : zm := fun a => if a = j then f else σ a
theorem zu_eq (σ : zm) (j k : Nat) (v : Int32) : zu σ j k v j k = v := by simp [zu]
theorem zu_ne (σ : zm) {j k a b : Nat} (v : Int32) (h : a ≠ j ∨ b ≠ k) : zu σ j k v a b = σ a b := by
  unfold zu
  rw [if_neg]
  intro q
  rcases h with h | h
  · exact h q.1
  · exact h q.2
theorem zu_row (σ : zm) {j k a : Nat} (v : Int32) (h : a ≠ j) : zu σ j k v a = σ a := by
  funext b
  exact zu_ne σ v (Or.inl h)
theorem zu_own (σ : zm) (j k : Nat) (v : Int32) : zu σ j k v j = upd (σ j) k v := by
  funext b
  by_cases h : b = k
  · subst h; simp [zu, upd]
  · simp [zu, upd, h]
theorem zr_eq (σ : zm) (j : Nat) (f : Nat → Int32) : zr σ j f j = f := by simp [zr]
theorem zr_ne (σ : zm) {j a : Nat} (f : Nat → Int32) (h : a ≠ j) : zr σ j f a = σ a := by simp [zr, h]
/-- the fields of an object: an int of the memory, or the address of another cell -/
def zfv (q : Nat → Nat) (σ : zm) (j : Nat) (fl : List (Option Nat)) : List Value := (List.range fl.length).map (fun k => match fl[k]? with
  | some (some t) => Value.ref (q t)
  | _ => Value.int (σ j k))
theorem zfv_len (q : Nat → Nat) (σ : zm) (j : Nat) (fl : List (Option Nat)) : (zfv q σ j fl).length = fl.length := by simp [zfv]
theorem zfv_int {q : Nat → Nat} {σ : zm} {j k : Nat} {fl : List (Option Nat)} (h : fl[k]? = some none) : (zfv q σ j fl)[k]? = some (Value.int (σ j k)) := by
  have hk : k < fl.length := (List.getElem?_eq_some_iff.mp h).1
  unfold zfv
  rw [List.getElem?_map, List.getElem?_range hk]
  simp only [Option.map_some, h]
theorem zfv_ref {q : Nat → Nat} {σ : zm} {j k t : Nat} {fl : List (Option Nat)} (h : fl[k]? = some (some t)) : (zfv q σ j fl)[k]? = some (Value.ref (q t)) := by
  have hk : k < fl.length := (List.getElem?_eq_some_iff.mp h).1
  unfold zfv
  rw [List.getElem?_map, List.getElem?_range hk]
  simp only [Option.map_some, h]
theorem zfv_off {q : Nat → Nat} {σ τ : zm} {j : Nat} {fl : List (Option Nat)} (h : τ j = σ j) : zfv q τ j fl = zfv q σ j fl := by
  unfold zfv
  rw [h]
theorem zfv_set {q : Nat → Nat} {σ : zm} {j k : Nat} {fl : List (Option Nat)} (h : fl[k]? = some none) (v : Int32) : (zfv q σ j fl).set k (.int v) = zfv q (zu σ j k v) j fl := by
  apply List.ext_getElem?
  intro i
  by_cases hi : i = k
  · subst hi
    rw [zfv_int h, zu_eq, List.getElem?_set_self]
    rw [zfv_len]; exact (List.getElem?_eq_some_iff.mp h).1
  · rw [List.getElem?_set_ne (Ne.symm hi)]
    by_cases hl : i < fl.length
    · cases hf : fl[i]? with
      | none => rw [List.getElem?_eq_none_iff] at hf; omega
      | some o =>
        cases o with
        | none => rw [zfv_int hf, zfv_int hf, zu_ne σ v (Or.inr hi)]
        | some t => rw [zfv_ref hf, zfv_ref hf]
    · rw [List.getElem?_eq_none (by rw [zfv_len]; omega), List.getElem?_eq_none (by rw [zfv_len]; omega)]
/-- a cell: its kind (0 an object of class n, 1 an int array of length n, 2 a boolean array, 3 a long array, 4 an array of references), n, and its references -/
def zc (K : Nat → ClassId) (q : Nat → Nat) (σ : zm) (j : Nat) (h : Nat × Nat × List (Option Nat)) : va_E :=
  if h.1 = 0 then .inr (h.2.1, zfv q σ j h.2.2)
  else if h.1 = 1 then .inl (K 0, h.2.1, .inl (σ j))
  else if h.1 = 2 then .inl (K 1, h.2.1, .inl (σ j))
  else if h.1 = 3 then .inl (K 2, h.2.1, .inr (.inl (fun k => (σ j k).toInt64)))
  else .inl (K 3, h.2.1, .inr (.inr (.inr (.inr (fun k => (h.2.2.getD k none).map q)))))
theorem zc_off {K : Nat → ClassId} {q : Nat → Nat} {σ τ : zm} {j : Nat} (e : τ j = σ j) (h : Nat × Nat × List (Option Nat)) : zc K q τ j h = zc K q σ j h := by
  unfold zc
  rw [zfv_off e, e]
/-- all cells -/
def zw (K : Nat → ClassId) (q : Nat → Nat) (σ : zm) : va_W := (List.range zN).map (fun j => (q j, zc K q σ j (zS j)))
theorem zw_len (K : Nat → ClassId) (q : Nat → Nat) (σ : zm) : (zw K q σ).length = zN := by simp [zw]
theorem zw_get {K : Nat → ClassId} {q : Nat → Nat} {σ : zm} {j : Nat} (h : j < zN) : (zw K q σ)[j]? = some (q j, zc K q σ j (zS j)) := by
  unfold zw
  rw [List.getElem?_map, List.getElem?_range h]
  rfl
theorem zw_at {K : Nat → ClassId} {q : Nat → Nat} {σ : zm} {j : Nat} {c : va_W} {e : Nat × va_E} (h : (zw K q σ)[j]? = some e) : j < zN ∧ e = (q j, zc K q σ j (zS j)) := by
  have hj : j < zN := by
    have := (List.getElem?_eq_some_iff.mp h).1
    rw [zw_len] at this
    exact this
  rw [zw_get hj] at h
  exact ⟨hj, (Option.some.inj h).symm⟩
theorem zw_set {K : Nat → ClassId} {q : Nat → Nat} {σ τ : zm} {j : Nat} {e : va_E} (hj : j < zN) (ho : ∀ i, i ≠ j → τ i = σ i) (he : zc K q τ j (zS j) = e) : (zw K q σ).set j (q j, e) = zw K q τ := by
  apply List.ext_getElem?
  intro i
  by_cases hi : i = j
  · subst hi
    rw [List.getElem?_set_self (by rw [zw_len]; exact hj), zw_get hj, he]
  · rw [List.getElem?_set_ne (Ne.symm hi)]
    by_cases hl : i < zN
    · rw [zw_get hl, zw_get hl, zc_off (ho i hi)]
    · rw [List.getElem?_eq_none (by rw [zw_len]; omega), List.getElem?_eq_none (by rw [zw_len]; omega)]
def zI (q : Nat → Nat) : Prop := ∀ i j, i < zN → j < zN → q i = q j → i = j
def zA (q : Nat → Nat) : Nat → Prop := fun a => ∃ j, j < zN ∧ a = q j
theorem zw_D {K : Nat → ClassId} {q : Nat → Nat} {σ : zm} {A : Nat → Prop} (hq : zI q) (hA : ∀ j, j < zN → A (q j)) : va_D A (zw K q σ) := by
  refine ⟨fun i j x y hx hy hxy => ?_, fun k x hx => ?_⟩
  · obtain ⟨h1, rfl⟩ := zw_at (c := []) hx
    obtain ⟨h2, rfl⟩ := zw_at (c := []) hy
    exact hq i j h1 h2 hxy
  · obtain ⟨h1, rfl⟩ := zw_at (c := []) hx
    exact hA k h1
