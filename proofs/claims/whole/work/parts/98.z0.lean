/-! the memory at the start, and that it is in the relation -/
def z0 : zm := fun j => if j = 0 then (fun k => if k = 4 then -1 else 0) else if j < 9 then (fun _ => 0) else if j < 72 then (if (j - 9) % 7 = 0 then (fun k => if k = 1 then 1 else 0) else if (j - 9) % 7 = 1 then zfl 8 (-1) (fun _ => 0) else (fun _ => 0)) else if j < 104 then (fun _ => 0) else if j = 104 then (fun k => if k = 23 then -1 else 0) else if j = 106 then upd (fun _ => 0) 8 1 else (fun _ => 0)
theorem z0_p {i k : Nat} (hi : i < 9) (hk : k ≠ 1) : z0 (zp i) k = 0 := by
  unfold z0 zp
  rw [if_neg (by omega), if_neg (by omega), if_pos (by omega), if_pos (by omega)]
  exact if_neg hk
theorem z0_p1 {i : Nat} (hi : i < 9) : z0 (zp i) 1 = 1 := by
  unfold z0 zp
  rw [if_neg (by omega), if_neg (by omega), if_pos (by omega), if_pos (by omega)]
  rfl
theorem z0_lv {i t : Nat} (hi : i < 9) (ht : t < 8) : z0 (zp i + 1) t = -1 := by
  unfold z0 zp
  rw [if_neg (by omega), if_neg (by omega), if_pos (by omega), if_neg (by omega), if_pos (by omega)]
  exact if_pos ht
theorem z0_pr {i r t : Nat} (hi : i < 9) (h1 : 2 ≤ r) (h2 : r ≤ 6) : z0 (zp i + r) t = 0 := by
  unfold z0 zp
  rw [if_neg (by omega), if_neg (by omega), if_pos (by omega), if_neg (by omega), if_neg (by omega)]
theorem z0_a {n r t : Nat} (hn : n < 8) (hr : r < 4) : z0 (za n + r) t = 0 := by
  unfold z0 za
  rw [if_neg (by omega), if_neg (by omega), if_neg (by omega), if_pos (by omega)]
theorem z0_m {j t : Nat} (h1 : 105 ≤ j) (h2 : j ≠ 106) : z0 j t = 0 := by
  unfold z0
  rw [if_neg (by omega), if_neg (by omega), if_neg (by omega), if_neg (by omega), if_neg (by omega), if_neg h2]
theorem z0_d {j t : Nat} (h1 : 1 ≤ j) (h2 : j < 9) : z0 j t = 0 := by
  unfold z0
  rw [if_neg (by omega), if_pos (by omega)]
theorem zwc0 {σ : zm} {a : Nat} : ∀ {n : Nat}, (∀ t, t < n → σ 118 (8 * a + t) = 0) → wcnt σ a n = 0
  | 0, _ => rfl
  | n + 1, h => by rw [wcnt_f (h n (by omega)), zwc0 (fun t ht => h t (by omega))]
theorem zbt0 : ∀ t, t < 8 → zbit (0 : Int32) (nI t) = false := by decide +kernel
theorem rPk_0 {i : Nat} (hi : i < 9) : rPk z0 i := by
  refine ⟨?_, ?_, ⟨0, by omega, ?_, ?_⟩, ⟨0, by omega, ?_, ?_⟩, fun t ht => ⟨0, by omega, ?_, ?_⟩, fun t ht => ⟨?_, ⟨?_, ?_⟩, ?_, ?_, ?_⟩, fun t ht => ?_⟩
  · rw [z0_p hi (by decide), z0_m (by decide) (by decide)]
  · rw [z0_p hi (by decide), z0_m (by decide) (by decide)]
  · rw [z0_p hi (by decide)]; rfl
  · rw [z0_m (by decide) (by decide)]; rfl
  · rw [z0_p hi (by decide)]; rfl
  · rw [z0_m (by decide) (by decide)]; rfl
  · rw [z0_m (by decide) (by decide)]; rfl
  · rw [z0_lv hi ht]; rfl
  · rw [z0_pr hi (by decide) (by decide), z0_m (by decide) (by decide)]
  · rw [z0_pr hi (by decide) (by decide), z0_m (by decide) (by decide)]
  · rw [z0_pr hi (by decide) (by decide)]; exact Or.inl rfl
  · rw [z0_pr hi (by decide) (by decide), z0_m (by decide) (by decide)]
  · rw [z0_m (by decide) (by decide)]; exact Or.inr ⟨0, by decide, rfl⟩
  · rw [z0_pr hi (by decide) (by decide), z0_m (by decide) (by decide)]
  · rw [z0_pr hi (by decide) (by decide), z0_m (by decide) (by decide)]
theorem Rl_0 : Rl z0 := by
  have a0 : ∀ {n k : Nat}, n < 8 → z0 (za n) k = 0 := fun {n k} hn => z0_a (r := 0) hn (by decide)
  refine ⟨rPk_0 (by decide), ⟨⟨0, by decide, ?_, ?_⟩, ?_, ?_⟩, fun n hn => ⟨rPk_0 (by omega), ⟨?_, ?_⟩, ⟨?_, ?_⟩, fun h => ?_, ?_, fun _ => ⟨?_, ?_⟩, ⟨⟨0, by decide, ?_⟩, ?_⟩, fun t ht => ⟨?_, ?_⟩, fun t ht => ?_, fun h => ?_⟩, ⟨0, by decide, ?_, ?_, fun t ht => absurd ht (Nat.not_lt_zero _)⟩, ⟨0, by decide, ?_, ?_⟩, fun a b t ha hb ht h => ?_⟩
  · rw [z0_p (by decide) (by decide)]; rfl
  · rfl
  · rw [z0_p1 (by decide)]; rfl
  · rw [z0_p (by decide) (by decide), z0_m (by decide) (by decide)]
  · rw [a0 hn, z0_m (by decide) (by decide)]
  · rw [a0 hn]; exact Or.inl rfl
  · rw [a0 hn, z0_m (by decide) (by decide)]
  · rw [a0 hn]; exact Or.inl rfl
  · exact absurd (z0_m (by decide) (by decide)) h
  · rw [a0 hn, z0_m (by decide) (by decide)]
  · exact z0_m (by decide) (by decide)
  · exact z0_m (by decide) (by decide)
  · rw [a0 hn]; rfl
  · rw [zwc0 (fun t ht => z0_m (by decide) (by decide))]; exact Nat.zero_le _
  · rw [a0 hn, z0_m (by decide) (by decide), zbt0 t ht]; rfl
  · exact Or.inl (z0_m (by decide) (by decide))
  · rw [z0_a hn (by decide), z0_m (by decide) (by decide)]
  · exact absurd (z0_m (by decide) (by decide)) h
  · rw [z0_d (by decide) (by decide)]; rfl
  · rfl
  · rfl
  · rfl
  · exact absurd (z0_m (by decide) (by decide)) h
