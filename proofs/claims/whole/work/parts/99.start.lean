/-! THE LAW: its start -/
theorem zKn {s : State} {args : Array Value} (hts : ∀ w ∈ zT, w.before args s = true) (hao : va_AO "AppDesk$App" s) : ∃ (D : va_G) (K : Nat → ClassId), va_K D zcl (zty K) s := by
  obtain ⟨d0, i0, h0⟩ := u_known (T := TD) (N := 5) hts inD (hts _ kx_D)
  obtain ⟨d1, i1, h1⟩ := u_known (T := TP) (N := 13) hts inP (hts _ kx_P)
  obtain ⟨d2, i2, h2⟩ := u_known (T := TA) (N := 10) hts inA (hts _ kx_A)
  obtain ⟨d3, i3, h3⟩ := u_known (T := TQ) (N := 4) hts inQ (hts _ kx_Q)
  obtain ⟨d4, i4, h4⟩ := u_known (T := TV) (N := 3) hts inV (hts _ kx_V)
  obtain ⟨d5, i5, h5⟩ := u_known (T := TM) (N := 29) hts inM (hts _ kx_M)
  obtain ⟨k0, a0, c0, q1, q2, q3⟩ := Cond.arrayClass_spec (hts _ ko_ai)
  obtain ⟨k1, a1, c1, r1, r2, r3⟩ := Cond.arrayClass_spec (hts _ ko_az)
  obtain ⟨k2, a2, c2, t1, t2, t3⟩ := Cond.arrayClass_spec (hts _ ko_al)
  obtain ⟨comp, k3, a3, u1, -, u3, u4, u5⟩ := Cond.arrayOver_spec (va_AO.use (A := args) hao)
  refine ⟨(fun c => [d0, d1, d2, d3, d4, d5].getD c 0, fun c => [i0, i1, i2, i3, i4, i5].getD c (fun _ => 0)), fun k => [k0, k1, k2, k3].getD k 0, fun c q hq => ?_, fun k q hq => ?_⟩
  · have hc : c < 6 := (List.getElem?_eq_some_iff.mp hq).1
    have h6 : c = 0 ∨ c = 1 ∨ c = 2 ∨ c = 3 ∨ c = 4 ∨ c = 5 := by omega
    rcases h6 with rfl | rfl | rfl | rfl | rfl | rfl <;> cases hq <;> assumption
  · have hc : k < 4 := (List.getElem?_eq_some_iff.mp hq).1
    have h6 : k = 0 ∨ k = 1 ∨ k = 2 ∨ k = 3 := by omega
    rcases h6 with rfl | rfl | rfl | rfl <;> cases hq
    · exact ⟨fun n z => ⟨(fun k h => by cases h), a0, q2, c0, q3⟩, q1⟩
    · exact ⟨fun n z => ⟨(fun k h => by cases h), a1, r2, c1, r3⟩, r1⟩
    · exact ⟨fun n z => ⟨(fun k h => by cases h), a2, t2, c2, t3⟩, t1⟩
    · exact ⟨fun n z => ⟨(fun k h => by cases h), a3, u3, comp, u4⟩, a3, comp, u3, u4, u1, u5⟩
theorem zTab {s : State} {args : Array Value} {n : String} {f : Nat → Int32} (hl : (Cond.laysStatic "AppDesk$Verifier" n "[I").before args s = true) (hini : (Cond.initialized "AppDesk$Verifier").before args s = true) (h1 : (Cond.arrayOf (.static "AppDesk$Verifier" n "[I") .int).before args s = true) (h2 : (Cond.eq (.length (.static "AppDesk$Verifier" n "[I")) (.int 14)).before args s = true) (h3 : ∀ j, j < 14 → (Cond.eq (.elem (.static "AppDesk$Verifier" n "[I") (.int (Int32.ofNat j))) (.int (f j))).before args s = true) : ∃ t : Nat, va_Z "AppDesk$Verifier" n "[I" (.ref t) (Aw s) s s.heap ∧ va_T .int t 14 (fun k => .int (f k)) (Aw s) s s.heap := by
  have hA : ∀ a : Nat, a < s.heap.size → ¬ Aw s a := fun a h1 h2 => Nat.lt_irrefl _ (Nat.lt_of_lt_of_le h1 h2)
  obtain ⟨t, ht, hT⟩ := va_Tof (A := Aw s) (N := 14) (f := fun k => .int (f k)) (by decide) h1 (va_eqv h2 rfl) (fun j hj => va_eqv (h3 j hj) rfl) hA
  exact ⟨t, va_Zref hl hini ht hA, hT⟩
theorem zE_of {s : State} {b : Nat} (hts : ∀ w ∈ lw_tbl, w.before #[Value.ref b] s = true) (hgv : (Jvm.Cond.and given_1 narrow_1).before #[Value.ref b] s = true) : zE (Aw s) s s.heap := by
  have hs := flat_of_before _ hgv
  have hA : ∀ a : Nat, a < s.heap.size → ¬ Aw s a := fun a h1 h2 => Nat.lt_irrefl _ (Nat.lt_of_lt_of_le h1 h2)
  have hiV := hts _ (zT_tbl _ ki_V)
  refine ⟨fun w hw => ?_, ?_, zZq.of (hts _ (by decide +kernel)) (hs _ (by decide +kernel)) hA, zZq.of (hts _ (by decide +kernel)) (hs _ (by decide +kernel)) hA, va_Nc.of (hs _ (by decide +kernel)), va_Nc.of (hs _ (by decide +kernel))⟩
  · have h1 := hts w (zNw_tbl w hw)
    obtain ⟨x, -, rfl⟩ := List.mem_map.mp hw
    exact va_Nw.of rfl h1
  · obtain ⟨t1, e1, e2⟩ := zTab (n := "NEEDS") (f := zNeed) (hts _ (by decide +kernel)) hiV (hs _ (by decide +kernel)) (hs _ (by decide +kernel)) (fun j hj => by
      have h14 : j = 0 ∨ j = 1 ∨ j = 2 ∨ j = 3 ∨ j = 4 ∨ j = 5 ∨ j = 6 ∨ j = 7 ∨ j = 8 ∨ j = 9 ∨ j = 10 ∨ j = 11 ∨ j = 12 ∨ j = 13 := by omega
      rcases h14 with rfl | rfl | rfl | rfl | rfl | rfl | rfl | rfl | rfl | rfl | rfl | rfl | rfl | rfl <;> exact hs _ (by decide +kernel))
    obtain ⟨t2, e3, e4⟩ := zTab (n := "LEAVES") (f := zLeav) (hts _ (by decide +kernel)) hiV (hs _ (by decide +kernel)) (hs _ (by decide +kernel)) (fun j hj => by
      have h14 : j = 0 ∨ j = 1 ∨ j = 2 ∨ j = 3 ∨ j = 4 ∨ j = 5 ∨ j = 6 ∨ j = 7 ∨ j = 8 ∨ j = 9 ∨ j = 10 ∨ j = 11 ∨ j = 12 ∨ j = 13 := by omega
      rcases h14 with rfl | rfl | rfl | rfl | rfl | rfl | rfl | rfl | rfl | rfl | rfl | rfl | rfl | rfl <;> exact hs _ (by decide +kernel))
    exact ⟨t1, t2, e1, e2, e3, e4⟩
theorem nw_L_0 : zNw2 "AppDeskLaw" 8 20 "AppDesk" TD 5 0 tD frD y_D_init b_D_init 2 := ⟨⟨inD, tD_ok, kl_L_8, kx_D, ki_D, rfl, frD_ok⟩, kc_D_init, ki_D, km_L_20, kn_D_init, rfl, ⟨by decide, by decide, by decide +kernel⟩, by decide⟩
theorem nw_L_8 : zNw2 "AppDeskLaw" 21 23 "AppDeskModel" TM 29 5 tM frM y_M_init b_M_init 1 := ⟨⟨inM, tM_ok, kl_L_21, kx_M, ki_M, rfl, frM_ok⟩, kc_M_init, ki_M, km_L_23, kn_M_init, rfl, ⟨by decide, by decide, by decide +kernel⟩, by decide⟩
set_option maxHeartbeats 4000000 in
set_option maxRecDepth 100000 in
/-- from the entry, for every script of at most 2560 ints, the law comes to its end with true -/
theorem whole_start {p : Program} {e : Env} {s : State} {m : MethodId} {below : List Frame} {meth : Method} {c : Code} (l : Launch) (htr : l.stackTraces = false) {b L : Nat} {xs : Nat → Int32} (hL : L ≤ 2560) (C0 : lw_At p s m meth c b L xs) : W p l e room_1 s m #[Value.ref b] below meth c s.heap [] 0 0 (lw_Z below #[Value.ref b] s) (entryFrame m ([Value.ref b] : List Value).toArray 7) := by
  obtain ⟨hx, hb, hr, hml, hown, hts, hX, hbl, hlk, hgv⟩ := C0
  have htz : ∀ w ∈ zT, w.before #[Value.ref b] s = true := fun w hw => hts w (zT_tbl w hw)
  have hao : va_AO "AppDesk$App" s := va_AO.of (hts (.arrayOver (.object "AppDesk$App")) (by decide +kernel))
  obtain ⟨D, K, hK⟩ := zKn htz hao
  have hE := zE_of hts hgv
  have hC : bX p s m #[Value.ref b] c code 7 "AppDeskLaw" D K (Aw s) := ⟨hx, hb, hml, hown, htz, hK, fun x h => h⟩
  have hlv2 := lv_entry ([Value.ref b] : List Value) (n := 7) (Nat.le_of_ble_eq_true rfl)
  rw [lg_entry_eq]
  have main : bG p l e room_1 s m #[Value.ref b] below meth c D (Aw s) 7 0 0 (lw_Z below #[Value.ref b] s) [] 0 [(0, .ref b)] [] := by
    refine b_newC hC (k_D_init l) hao (fun u U hvm h => va_AO.moved hvm h) nw_L_0 ⟨Nat.le_of_ble_eq_true rfl, Nat.le_of_ble_eq_true rfl⟩ ⟨Nat.le_of_ble_eq_true rfl, Nat.le_of_ble_eq_true rfl⟩ (Nat.le_of_ble_eq_true rfl) d_W_0 d_W_3 d_W_4 rfl (fun b1 => ?_)
    refine b_astore_n hC d_W_7 rfl (by decide) ?_
    refine b_newC hC (k_M_init l) trivial (fun _ _ _ h => h) nw_L_8 ⟨Nat.le_of_ble_eq_true rfl, Nat.le_of_ble_eq_true rfl⟩ ⟨Nat.le_of_ble_eq_true rfl, Nat.le_of_ble_eq_true rfl⟩ (Nat.le_of_ble_eq_true rfl) d_W_8 d_W_11 d_W_12 rfl (fun b2 => ?_)
    refine b_astore_n hC d_W_15 rfl (by decide) ?_
    refine b_iconst hC 1 d_W_16 (by decide) rfl ?_
    refine b_newl hC 1 rfl (by decide) ko_al ⟨Nat.le_of_ble_eq_true rfl, Nat.le_of_ble_eq_true rfl⟩ d_W_17 rfl (fun o => ?_)
    refine b_astore_n hC d_W_19 rfl (by decide) ?_
    refine b_iconst hC 0 d_W_20 (by decide) rfl ?_
    refine b_istore hC d_W_21 rfl (by decide) ?_
    intro H locs ls hP hD hS hl
    obtain ⟨hP1, hq, hA⟩ := zw_of (b1 := b1) (b2 := b2) (o := o) (D := D) (K := K) (A := Aw s) (H := H) hP hD
    have hZ : zX p s m #[Value.ref b] c code 7 "AppDeskLaw" D K (qq b1 b2 o) (Aw s) := ⟨hx, hb, hml, hown, htz, hK, hq, hA, hE⟩
    have hlv3 : lv_has ls 7 (lvL (qq b1 b2 o) b 0) := zsub_has hl ⟨rfl, rfl, rfl, rfl, rfl, trivial⟩
    exact law_loop htr hZ hX hbl hq hL hr hlk 600 0 z0 (by omega) (by omega) Rl_0 H locs ls hP1 hS hlv3
  exact main s.heap [] _ (fun k x hx => (by cases hx)) ⟨fun i j x y hx => (by cases hx), fun k x hx => (by cases hx)⟩ va_S.rf hlv2
