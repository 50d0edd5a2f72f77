/-! the desk's constructor -/
section ZDI
variable {p : Program} {l : Launch} {e : Env} {R : Room} {s : State} {m : MethodId} {args : Array Value} {below : List Frame} {meth : Method} {c : Code} {cc : ByteArray} {nL ce sl : Nat} {own : String} {D : va_G} {K : Nat → ClassId} {A : Nat → Prop} {Q : State → Prop} {ws : va_W} {pc pc' : Nat} {lv lv' : List (Nat × Value)} {st : List Value}
abbrev rfs (f : Nat → Option Nat) : (Nat → Int32) ⊕ (Nat → Int64) ⊕ (Nat → UInt32) ⊕ (Nat → UInt64) ⊕ (Nat → Option Nat) := .inr (.inr (.inr (.inr f)))
theorem b_newq (hC : bX p s m args c cc nL own D K A) {x : Int32} (n : Nat) {index : Nat} (hx : x = nI n) (hn : n < 1000) (hcl : Cond.classLink own index "AppDesk$App" ∈ zT) (hao : va_AO "AppDesk$App" s) (hcs : ce + 1 ≤ R.cells ∧ sl + n ≤ R.slots) (hdg : decode cc pc = .ok (.anewarray index, 3)) (hp : pc + 3 = pc')
    (kk : ∀ a : Nat, bG p l e R s m args below meth c D A nL (ce + 1) (sl + n) Q (ws ++ [(a, .inl (K 3, n, rfs (fun _ => none)))]) pc' lv (.ref a :: st)) : bG p l e R s m args below meth c D A nL ce sl Q ws pc lv (.int x :: st) := by
  subst hp
  subst hx
  refine fun H locs ls hP hD hS hl => va_newq hC.1 hC.2.1 hC.o (hC.t _ hcl) hao hC.k hP hD hS hC.a (nI_pos (by omega)) (nI_clamp (by omega)) (by omega) hcs.1 hcs.2 hdg (fun a cA H1 hK1 hP1 hD1 hS1 => ?_)
  obtain ⟨_, _, -, -, -, f1⟩ := (hK1.2 4 _ rfl).2
  obtain ⟨_, _, -, -, -, f2⟩ := (hC.k.2 3 _ rfl).2
  have e1 : cA = K 3 := Option.some.inj (f1.symm.trans f2)
  subst e1
  exact kk a H1 locs ls hP1 hD1 hS1 hl
theorem b_astq (hC : bX p s m args c cc nL own D K A) (q0 qk n k : Nat) {a v : Nat} {vs : List Value} {f : Nat → Option Nat} {i : Int32} (ha : ws[q0]? = some (a, .inl (K 3, n, rfs f))) (hv : ws[qk]? = some (v, .inr (2, vs))) (hi : i = nI k) (hk : k < n) (hn : n < 2 ^ 31) (hdg : decode cc pc = .ok (.aastore, 1)) (hp : pc + 1 = pc') (kk : bG p l e R s m args below meth c D A nL ce sl Q (ws.set q0 (a, .inl (K 3, n, rfs (va_up f k (some v))))) pc' lv st) : bG p l e R s m args below meth c D A nL ce sl Q ws pc lv (.ref v :: .int i :: .ref a :: st) := by
  subst hp
  refine fun H locs ls hP hD hS hl => va_astq (r := ("AppDesk$App", TA, 10)) hC.1 hC.2.1 hC.k hP hD hS q0 3 qk 2 ha rfl hv rfl (z_nI hi hk hn) hdg (fun H1 locs1 hP1 hD1 hS1 => ?_)
  rw [z_cl hi hk hn] at hP1 hD1
  exact kk H1 locs1 ls hP1 hD1 hS1 hl
end ZDI
def gA (b : Nat → Nat → Nat) (k : Nat) : Nat → Option Nat := fun i => if i < k then some (b i 0) else none
def aps (K : Nat → ClassId) (b : Nat → Nat → Nat) (k : Nat) : va_W := (List.range k).flatMap (fun n => cA K (b n))
theorem aps_s (K : Nat → ClassId) (b : Nat → Nat → Nat) (k : Nat) : aps K b (k + 1) = aps K b k ++ cA K (b k) := by
  unfold aps
  rw [List.range_succ, List.flatMap_append]
  simp
theorem aps_c {K : Nat → ClassId} {b b' : Nat → Nat → Nat} : ∀ {k : Nat}, (∀ n, n < k → cA K (b n) = cA K (b' n)) → aps K b k = aps K b' k
  | 0, _ => rfl
  | k + 1, h => by rw [aps_s, aps_s, aps_c (fun n hn => h n (by omega)), h k (by omega)]
theorem cA_len (K : Nat → ClassId) (b : Nat → Nat) : (cA K b).length = 11 := rfl
theorem aps_len (K : Nat → ClassId) (b : Nat → Nat → Nat) : ∀ k, (aps K b k).length = 11 * k
  | 0 => rfl
  | k + 1 => by rw [aps_s, List.length_append, aps_len K b k, cA_len]; omega
def wD (K : Nat → ClassId) (a : Nat) (fs : List Value) (b1 : Nat → Nat) (q : Nat) (bA : Nat → Nat → Nat) (k : Nat) : va_W := ((a, .inr (0, fs)) : Nat × va_E) :: (cP K b1 ++ ((q, .inl (K 3, 8, rfs (gA bA k))) : Nat × va_E) :: aps K bA k)
def cD (K : Nat → ClassId) (b : Nat → Nat) : va_W := wD K (b 0) [.ref (b 1), .ref (b 8), .ref (b 97), .ref (b 101), .int (-1)] (fun i => b (i + 1)) (b 8) (fun n i => b (9 + 11 * n + i)) 8 ++ cQ K (fun i => b (97 + i)) ++ cV K (fun i => b (101 + i))
theorem wD_8 (K : Nat → ClassId) (a : Nat) (fs : List Value) (b1 : Nat → Nat) (q : Nat) (bA : Nat → Nat → Nat) (k : Nat) (r : va_W) : (wD K a fs b1 q bA k ++ r)[8]? = some (q, .inl (K 3, 8, rfs (gA bA k))) := rfl
theorem wD_app (K : Nat → ClassId) (a : Nat) (fs : List Value) (b1 : Nat → Nat) (q : Nat) (bA : Nat → Nat → Nat) (k : Nat) (b : Nat → Nat) : (wD K a fs b1 q bA k ++ cA K b)[9 + 11 * k]? = some (b 0, .inr (2, [.int 0, .ref (b 1), .int 0, .int 0, .ref (b 8), .int 0, .int 0, .int 0, .ref (b 9), .ref (b 10)])) := by
  have hlen : (wD K a fs b1 q bA k).length = 9 + 11 * k := by
    show ((aps K bA k).length + 1 + 1 + 1 + 1 + 1 + 1 + 1 + 1 + 1) = _
    rw [aps_len]; omega
  rw [List.getElem?_append_right (by rw [hlen]; exact Nat.le_refl _), hlen, Nat.sub_self]
  rfl
theorem wD_next (K : Nat → ClassId) (a : Nat) (fs : List Value) (b1 : Nat → Nat) (q : Nat) (bA : Nat → Nat → Nat) (k : Nat) (b : Nat → Nat) : (wD K a fs b1 q bA k ++ cA K b).set 8 (q, .inl (K 3, 8, rfs (va_up (gA bA k) k (some (b 0))))) = wD K a fs b1 q (fun n => if n = k then b else bA n) (k + 1) := by
  have e1 : va_up (gA bA k) k (some (b 0)) = gA (fun n => if n = k then b else bA n) (k + 1) := by
    funext i
    unfold va_up gA
    by_cases h1 : i = k
    · subst h1; simp
    · by_cases h2 : i < k
      · rw [if_neg h1, if_pos h2, if_pos (by omega)]; dsimp only; rw [if_neg h1]
      · rw [if_neg h1, if_neg h2, if_neg (by omega)]
  have e2 : aps K bA k ++ cA K b = aps K (fun n => if n = k then b else bA n) (k + 1) := by
    rw [aps_s, if_pos rfl, aps_c (b := bA) (b' := fun n => if n = k then b else bA n) (fun n hn => by rw [if_neg (by omega)])]
  rw [e1]
  unfold wD
  rw [← e2]
  rfl
set_option maxHeartbeats 4000000 in
set_option maxRecDepth 100000 in
theorem k_D_init (l : Launch) : zCt l y_D_init b_D_init 2 3 103 860 0 frD cD (va_AO "AppDesk$App") := by
  refine zCt.of (own := "AppDesk") (by decide) rfl rfl (by decide) ?_
  intro D K a p e s m below meth c hC hB hr hlk hin
  refine b_aload_n hC d_D_init_0 rfl rfl ?_
  refine b_obj hC ko_D ko_i ko_c d_D_init_1 rfl (Nat.le_of_ble_eq_true rfl) (Nat.le_of_ble_eq_true rfl) ?_
  refine b_aload_n hC d_D_init_4 rfl rfl ?_
  refine b_newC hC (k_P_init l) trivial (fun _ _ _ h => h) nw_D_5 ⟨Nat.le_of_ble_eq_true rfl, Nat.le_of_ble_eq_true rfl⟩ ⟨Nat.le_of_ble_eq_true rfl, Nat.le_of_ble_eq_true rfl⟩ (Nat.le_of_ble_eq_true rfl) d_D_init_5 d_D_init_8 d_D_init_9 rfl (fun b1 => ?_)
  refine b_putF hC hin 0 rfl ff_D_10 rfl rfl (Nat.le_of_ble_eq_true rfl) d_D_init_12 rfl ?_
  refine b_aload_n hC d_D_init_15 rfl rfl ?_
  refine b_bipush hC 8 d_D_init_16 (by decide) rfl ?_
  refine b_newq hC 8 rfl (by decide) kl_D_16 hB ⟨Nat.le_of_ble_eq_true rfl, Nat.le_of_ble_eq_true rfl⟩ d_D_init_18 rfl (fun q => ?_)
  refine b_putF hC hin 0 rfl ff_D_18 rfl rfl (Nat.le_of_ble_eq_true rfl) d_D_init_21 rfl ?_
  refine b_iconst hC 0 d_D_init_24 (by decide) rfl ?_
  refine b_istore_n hC d_D_init_25 rfl (by decide) ?_
  have J26 : ∀ (f k : Nat), k + f = 8 → ∀ bA : Nat → Nat → Nat, bG p l e (zrc2 3 103 860) s m ([.ref a] : List Value).toArray below meth c D (zAa a s.heap.size) 2 (8 + 11 * k) (69 + 89 * k) (MQ below (zQc D K cD a s.heap.size) ([.ref a] : List Value).toArray s 103 860 (zAa a s.heap.size)) (wD K a [.ref (b1 0), .ref q, .null, .null, .int 0] b1 q bA k) 26 [(0, .ref a), (1, .int (nI k))] [] := by
    intro f
    induction f with
    | zero =>
      intro k hk bA
      have hk8 : k = 8 := by omega
      subst hk8
      refine b_iload_n hC d_D_init_26 rfl rfl ?_
      refine b_bipush hC 8 d_D_init_27 (by decide) rfl ?_
      refine b_icmp_ge hC 51 d_D_init_29 rfl rfl (fun _ => ?_) (fun h => absurd (by decide) h)
      refine b_aload_n hC d_D_init_51 rfl rfl ?_
      refine b_newC hC (k_Q_init l) trivial (fun _ _ _ h => h) nw_D_52 ⟨Nat.le_of_ble_eq_true rfl, Nat.le_of_ble_eq_true rfl⟩ ⟨Nat.le_of_ble_eq_true rfl, Nat.le_of_ble_eq_true rfl⟩ (Nat.le_of_ble_eq_true rfl) d_D_init_52 d_D_init_55 d_D_init_56 rfl (fun b2 => ?_)
      refine b_putF hC hin 0 rfl ff_D_26 rfl rfl (Nat.le_of_ble_eq_true rfl) d_D_init_59 rfl ?_
      refine b_aload_n hC d_D_init_62 rfl rfl ?_
      refine b_newC hC (k_V_init l) trivial (fun _ _ _ h => h) nw_D_63 ⟨Nat.le_of_ble_eq_true rfl, Nat.le_of_ble_eq_true rfl⟩ ⟨Nat.le_of_ble_eq_true rfl, Nat.le_of_ble_eq_true rfl⟩ (Nat.le_of_ble_eq_true rfl) d_D_init_63 d_D_init_66 d_D_init_67 rfl (fun b3 => ?_)
      refine b_putF hC hin 0 rfl ff_D_33 rfl rfl (Nat.le_of_ble_eq_true rfl) d_D_init_70 rfl ?_
      refine b_aload_n hC d_D_init_73 rfl rfl ?_
      refine b_iconst hC (-1) d_D_init_74 (by decide) rfl ?_
      refine b_put hC 0 rfl fp_D_37 rfl rfl (Nat.le_of_ble_eq_true rfl) d_D_init_75 rfl ?_
      refine b_cret hC hr hlk d_D_init_78 (fun i => if i = 0 then a else if i < 8 then b1 (i - 1) else if i = 8 then q else if i < 97 then bA ((i - 9) / 11) ((i - 9) % 11) else if i < 101 then b2 (i - 97) else b3 (i - 101)) rfl ?_ (Nat.le_of_ble_eq_true rfl) (Nat.le_of_ble_eq_true rfl)
      have e2 : aps K bA 8 = aps K (fun n i => (fun i => if i = 0 then a else if i < 8 then b1 (i - 1) else if i = 8 then q else if i < 97 then bA ((i - 9) / 11) ((i - 9) % 11) else if i < 101 then b2 (i - 97) else b3 (i - 101)) (9 + 11 * n + i)) 8 := by
        refine aps_c (fun n hn => ?_)
        have hb : ∀ i, i < 11 → (fun i => if i = 0 then a else if i < 8 then b1 (i - 1) else if i = 8 then q else if i < 97 then bA ((i - 9) / 11) ((i - 9) % 11) else if i < 101 then b2 (i - 97) else b3 (i - 101)) (9 + 11 * n + i) = bA n i := fun i hi => by
          show (if 9 + 11 * n + i = 0 then a else if 9 + 11 * n + i < 8 then _ else if 9 + 11 * n + i = 8 then q else if 9 + 11 * n + i < 97 then bA ((9 + 11 * n + i - 9) / 11) ((9 + 11 * n + i - 9) % 11) else _) = _
          rw [if_neg (by omega), if_neg (by omega), if_neg (by omega), if_pos (by omega), show (9 + 11 * n + i - 9) / 11 = n by omega, show (9 + 11 * n + i - 9) % 11 = i by omega]
        unfold cA cP
        simp only [hb 0 (by omega), hb 8 (by omega), hb 9 (by omega), hb 10 (by omega), hb (0 + 1) (by omega), hb (1 + 1) (by omega), hb (2 + 1) (by omega), hb (3 + 1) (by omega), hb (4 + 1) (by omega), hb (5 + 1) (by omega), hb (6 + 1) (by omega), hb 1 (by omega)]
      have e3 : gA bA 8 = gA (fun n i => (fun i => if i = 0 then a else if i < 8 then b1 (i - 1) else if i = 8 then q else if i < 97 then bA ((i - 9) / 11) ((i - 9) % 11) else if i < 101 then b2 (i - 97) else b3 (i - 101)) (9 + 11 * n + i)) 8 := by
        funext n
        unfold gA
        by_cases hn : n < 8
        · rw [if_pos hn, if_pos hn]
          show _ = some (if 9 + 11 * n + 0 = 0 then a else if 9 + 11 * n + 0 < 8 then _ else if 9 + 11 * n + 0 = 8 then q else if 9 + 11 * n + 0 < 97 then bA ((9 + 11 * n + 0 - 9) / 11) ((9 + 11 * n + 0 - 9) % 11) else _)
          rw [if_neg (by omega), if_neg (by omega), if_neg (by omega), if_pos (by omega), show (9 + 11 * n + 0 - 9) / 11 = n by omega, show (9 + 11 * n + 0 - 9) % 11 = 0 by omega]
        · rw [if_neg hn, if_neg hn]
      unfold cD wD
      rw [← e2, ← e3]
      rfl
    | succ f ih =>
      intro k hk bA
      refine b_iload_n hC d_D_init_26 rfl rfl ?_
      refine b_bipush hC (nI 8) d_D_init_27 (by decide) rfl ?_
      refine b_icmp_ge hC 51 d_D_init_29 rfl rfl (fun h => absurd h (nI_ge (a := k) (b := 8) (by omega) (by decide))) (fun _ => ?_)
      refine b_aload_n hC d_D_init_32 rfl rfl ?_
      refine b_get hC 0 rfl fl_D_18 rfl d_D_init_33 rfl ?_
      refine b_iload_n hC d_D_init_36 rfl rfl ?_
      refine b_newC hC (k_A_init l) trivial (fun _ _ _ h => h) nw_D_37 ⟨Nat.le_of_ble_eq_true rfl, Nat.le_of_ble_eq_true rfl⟩ (by
        show 8 + 11 * k + 1 + 10 ≤ 103 ∧ 69 + 89 * k + 10 + 79 ≤ 860
        omega) (Nat.le_of_ble_eq_true rfl) d_D_init_37 d_D_init_40 d_D_init_41 rfl (fun b => ?_)
      refine b_astq hC 8 (9 + 11 * k) 8 k (wD_8 ..) (wD_app ..) rfl (by omega) (by decide) d_D_init_44 rfl ?_
      refine b_iinc hC (nI (k + 1)) d_D_init_45 rfl rfl (nI_succ _).symm (by decide) ?_
      refine b_goto hC 26 d_D_init_48 rfl ?_
      exact bG.widen (bG.to (ih (k + 1) (by omega) (fun n => if n = k then b else bA n)) (wD_next ..) rfl ⟨rfl, rfl, trivial⟩) (by omega) (by omega)
  have hg0 : gA (fun _ _ => 0) 0 = (fun _ => none) := by funext i; simp [gA]
  refine bG.to (J26 8 0 (by omega) (fun _ _ => 0)) ?_ rfl ⟨rfl, rfl, trivial⟩
  unfold wD
  rw [hg0]
  rfl
