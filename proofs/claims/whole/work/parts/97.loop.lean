/-! THE LAW: its loop -/
section ZLL
variable {p : Program} {l : Launch} {e : Env} {s : State} {m : MethodId} {below : List Frame} {meth : Method} {c : Code} {D : va_G} {K : Nat → ClassId} {q : Nat → Nat} {b L : Nat} {xs : Nat → Int32}
theorem g_slen {R : Room} {args : Array Value} {cc : ByteArray} {nL ce sl : Nat} {own : String} {Q : State → Prop} {σ : zm} {pc pc' : Nat} {lv : List (Nat × Value)} {st : List Value} (hC : zX p s m args c cc nL own D K q (Aw s)) (hX : va_X b L xs s s.heap) (hbl : b < s.heap.size) (hdg : decode cc pc = .ok (.arraylength, 1)) (hp : pc + 1 = pc') (kk : zG p l e R s m args below meth c D K q (Aw s) nL ce sl Q σ pc' lv (.int (nI L) :: st)) : zG p l e R s m args below meth c D K q (Aw s) nL ce sl Q σ pc lv (.ref b :: st) := by
  subst hp
  exact fun H locs ls hP hS hl => va_slen hC.1 hC.2.1 hX hbl (fun h => Nat.lt_irrefl _ (Nat.lt_of_lt_of_le hbl h)) hS hdg (kk H locs ls hP hS hl)
theorem lw_more {L i : Nat} (hL : L ≤ 2560) (hi : i ≤ 2565) : nI L - 5 < nI i ↔ L < i + 5 := by
  have h5 : (5 : Int32) = nI 5 := rfl
  rw [h5, Int32.lt_iff_toInt_lt, pk_sub_toInt (by omega) (by omega), nI_toInt (by omega)]
  omega
theorem sub_N {i : Nat} : zsub (lvL q b (i + 5)) (zset (lvL q b i) 4 (.int (nI (i + 5)))) := ⟨rfl, rfl, rfl, rfl, rfl, trivial⟩
set_option maxHeartbeats 4000000 in
set_option maxRecDepth 100000 in
theorem law_loop (htr : l.stackTraces = false) (hC : zX p s m #[Value.ref b] c code 7 "AppDeskLaw" D K q (Aw s)) (hX : va_X b L xs s s.heap) (hbl : b < s.heap.size) (hq : zI q) (hL : L ≤ 2560) (hr : meth.sig.returnType = ret) (hlk : meth.locks = false) :
    ∀ (f i : Nat) (σ : zm), i ≤ 2565 → L < i + 5 + 5 * f → Rl σ → zG p l e room_1 s m #[Value.ref b] below meth c D K q (Aw s) 7 (131 + i) (1681 + 6 * i) (lw_Z below #[Value.ref b] s) σ 23 (lvL q b i) [] := by
  intro f
  induction f with
  | zero =>
    intro i σ hi hf hR
    refine g_iload hC d_W_23 rfl rfl ?_
    refine g_aload_n hC d_W_25 rfl rfl ?_
    refine g_slen hC hX hbl d_W_26 rfl ?_
    refine g_iconst hC 5 d_W_27 (by decide) rfl ?_
    refine g_isub hC d_W_28 rfl ?_
    refine g_icmp_gt hC 752 d_W_29 rfl rfl (fun _ => ?_) (fun h => absurd ((lw_more hL hi).mpr (by omega)) h)
    refine g_iconst hC 1 d_W_752 (by decide) rfl ?_
    exact fun H locs ls hP hS hl => va_forget hS.2.2 (W.widen (by omega) (by omega) (lw_ret hC.1 hC.2.1 hr hlk d_W_753))
  | succ f ih =>
    intro i σ hi hf hR
    refine g_iload hC d_W_23 rfl rfl ?_
    refine g_aload_n hC d_W_25 rfl rfl ?_
    refine g_slen hC hX hbl d_W_26 rfl ?_
    refine g_iconst hC 5 d_W_27 (by decide) rfl ?_
    refine g_isub hC d_W_28 rfl ?_
    refine g_icmp_gt hC 752 d_W_29 rfl rfl (fun _ => ?_) (fun h => ?_)
    · refine g_iconst hC 1 d_W_752 (by decide) rfl ?_
      exact fun H locs ls hP hS hl => va_forget hS.2.2 (W.widen (by omega) (by omega) (lw_ret hC.1 hC.2.1 hr hlk d_W_753))
    · have hi5 : i + 5 ≤ L := Nat.not_lt.mp (fun c5 => h ((lw_more hL hi).mpr c5))
      have hcs : 131 + i + 1 ≤ room_1.cells ∧ 1681 + 6 * i + 6 ≤ room_1.slots := by
        show 131 + i + 1 ≤ 604630 ∧ 1681 + 6 * i + 6 ≤ 7282213
        omega
      have kk : ∀ σ2, Rl σ2 → zG p l e room_1 s m #[Value.ref b] below meth c D K q (Aw s) 7 (131 + i + 1) (1681 + 6 * i + 6) (lw_Z below #[Value.ref b] s) σ2 746 (lvL q b i) [] := fun σ2 hR2 => by
        refine g_iinc hC (nI (i + 5)) d_W_746 rfl rfl (nI_add i 5) (by decide) ?_
        refine g_goto hC 23 d_W_749 rfl ?_
        exact zG.widen (zG.sub sub_N (ih (i + 5) σ2 (by omega) (by omega) hR2)) (by omega) (by omega)
      refine g_aload_n hC d_W_32 rfl rfl ?_
      refine g_iload hC d_W_33 rfl rfl ?_
      refine g_sld hC hX hbl i rfl (by omega) (by omega) d_W_35 rfl ?_
      refine g_bipush hC 31 d_W_36 (by decide) rfl ?_
      refine g_iand hC d_W_38 rfl ?_
      obtain ⟨o, ho, hoe⟩ := pk_andE (xs i) (m := 31) 5 (by decide)
      have hdis : o = 0 ∨ o = 1 ∨ o = 2 ∨ o = 3 ∨ o = 4 ∨ o = 5 ∨ o = 6 ∨ o = 7 ∨ o = 8 ∨ o = 9 ∨ o = 10 ∨ o = 11 ∨ o = 12 ∨ o = 13 ∨ o = 14 ∨ o = 15 ∨ o = 16 ∨ o = 17 ∨ 18 ≤ o := by omega
      rcases hdis with rfl | rfl | rfl | rfl | rfl | rfl | rfl | rfl | rfl | rfl | rfl | rfl | rfl | rfl | rfl | rfl | rfl | rfl | hge
      · exact g_tableIn hC 124 d_W_39 (by rw [hoe]; decide) (by rw [hoe]; decide) (by rw [hoe]; rfl) rfl (lw_0 htr hC hX hbl hq hi5 hL hcs hR kk)
      · exact g_tableIn hC 173 d_W_39 (by rw [hoe]; decide) (by rw [hoe]; decide) (by rw [hoe]; rfl) rfl (lw_1 htr hC hX hbl hq hi5 hL hcs hR kk)
      · exact g_tableIn hC 198 d_W_39 (by rw [hoe]; decide) (by rw [hoe]; decide) (by rw [hoe]; rfl) rfl (lw_2 htr hC hX hbl hq hi5 hL hcs hR kk)
      · exact g_tableIn hC 275 d_W_39 (by rw [hoe]; decide) (by rw [hoe]; decide) (by rw [hoe]; rfl) rfl (lw_3 htr hC hX hbl hq hi5 hL hcs hR kk)
      · exact g_tableIn hC 300 d_W_39 (by rw [hoe]; decide) (by rw [hoe]; decide) (by rw [hoe]; rfl) rfl (lw_4 htr hC hX hbl hq hi5 hL hcs hR kk)
      · exact g_tableIn hC 337 d_W_39 (by rw [hoe]; decide) (by rw [hoe]; decide) (by rw [hoe]; rfl) rfl (lw_5 htr hC hX hbl hq hi5 hL hcs hR kk)
      · exact g_tableIn hC 350 d_W_39 (by rw [hoe]; decide) (by rw [hoe]; decide) (by rw [hoe]; rfl) rfl (lw_6 htr hC hX hbl hq hi5 hL hcs hR kk)
      · exact g_tableIn hC 373 d_W_39 (by rw [hoe]; decide) (by rw [hoe]; decide) (by rw [hoe]; rfl) rfl (lw_7 htr hC hX hbl hq hi5 hL hcs hR kk)
      · exact g_tableIn hC 417 d_W_39 (by rw [hoe]; decide) (by rw [hoe]; decide) (by rw [hoe]; rfl) rfl (lw_8 htr hC hX hbl hq hi5 hL hcs hR kk)
      · exact g_tableIn hC 442 d_W_39 (by rw [hoe]; decide) (by rw [hoe]; decide) (by rw [hoe]; rfl) rfl (lw_9 htr hC hX hbl hq hi5 hL hcs hR kk)
      · exact g_tableIn hC 479 d_W_39 (by rw [hoe]; decide) (by rw [hoe]; decide) (by rw [hoe]; rfl) rfl (lw_10 htr hC hX hbl hq hi5 hL hcs hR kk)
      · exact g_tableIn hC 516 d_W_39 (by rw [hoe]; decide) (by rw [hoe]; decide) (by rw [hoe]; rfl) rfl (lw_11 htr hC hX hbl hq hi5 hL hcs hR kk)
      · exact g_tableIn hC 565 d_W_39 (by rw [hoe]; decide) (by rw [hoe]; decide) (by rw [hoe]; rfl) rfl (lw_12 htr hC hX hbl hq hi5 hL hcs hR kk)
      · exact g_tableIn hC 578 d_W_39 (by rw [hoe]; decide) (by rw [hoe]; decide) (by rw [hoe]; rfl) rfl (lw_13 htr hC hX hbl hq hi5 hL hcs hR kk)
      · exact g_tableIn hC 622 d_W_39 (by rw [hoe]; decide) (by rw [hoe]; decide) (by rw [hoe]; rfl) rfl (lw_14 htr hC hX hbl hq hi5 hL hcs hR kk)
      · exact g_tableIn hC 659 d_W_39 (by rw [hoe]; decide) (by rw [hoe]; decide) (by rw [hoe]; rfl) rfl (lw_15 htr hC hX hbl hq hi5 hL hcs hR kk)
      · exact g_tableIn hC 696 d_W_39 (by rw [hoe]; decide) (by rw [hoe]; decide) (by rw [hoe]; rfl) rfl (lw_16 htr hC hX hbl hq hi5 hL hcs hR kk)
      · exact g_tableIn hC 733 d_W_39 (by rw [hoe]; decide) (by rw [hoe]; decide) (by rw [hoe]; rfl) rfl (lw_17 htr hC hX hbl hq hi5 hL hcs hR kk)
      · refine g_tableOut hC 746 d_W_39 (Or.inr ?_) rfl (zG.widen (kk σ hR) (by omega) (by omega))
        rw [hoe, nI_toInt (by omega)]
        omega
end ZLL
