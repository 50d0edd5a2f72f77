section
-- ===== PART A: goes FIRST, ahead of the names: the tables' words, and 'selects' of the private methods out of them =====
/-- a private method of a class that the tables say can be made, by its rows of tables_1 -/
def lw_okq (q : MethodName × Nat) : Prop := (q.1.cls ≠ "java/lang/invoke/MethodHandle" ∧ q.1.cls ≠ "java/lang/invoke/VarHandle") ∧ Cond.instantiable q.1.cls q.2 ∈ tables_1 ∧ Cond.privateMethod q.1 ∈ tables_1 ∧ Cond.instanceMethod q.1 ∈ tables_1
theorem lw_p0 : lw_okq (⟨"AppDesk$Pack", "digest", "()I"⟩, 13) := ⟨⟨by decide +kernel, by decide +kernel⟩, List.mem_of_getElem? (i := 25) (by decide +kernel), List.mem_of_getElem? (i := 251) (by decide +kernel), List.mem_of_getElem? (i := 252) (by decide +kernel)⟩
theorem lw_p1 : lw_okq (⟨"AppDesk", "isInstalled", "(I)Z"⟩, 5) := ⟨⟨by decide +kernel, by decide +kernel⟩, List.mem_of_getElem? (i := 17) (by decide +kernel), List.mem_of_getElem? (i := 268) (by decide +kernel), List.mem_of_getElem? (i := 269) (by decide +kernel)⟩
theorem lw_p2 : lw_okq (⟨"AppDesk$IntentQueue", "setRow", "(IIII)V"⟩, 4) := ⟨⟨by decide +kernel, by decide +kernel⟩, List.mem_of_getElem? (i := 141) (by decide +kernel), List.mem_of_getElem? (i := 280) (by decide +kernel), List.mem_of_getElem? (i := 281) (by decide +kernel)⟩
theorem lw_p3 : lw_okq (⟨"AppDesk", "placeToBegin", "(III)I"⟩, 5) := ⟨⟨by decide +kernel, by decide +kernel⟩, List.mem_of_getElem? (i := 17) (by decide +kernel), List.mem_of_getElem? (i := 316) (by decide +kernel), List.mem_of_getElem? (i := 317) (by decide +kernel)⟩
theorem lw_p4 : lw_okq (⟨"AppDesk", "passesGuard", "(II)Z"⟩, 5) := ⟨⟨by decide +kernel, by decide +kernel⟩, List.mem_of_getElem? (i := 17) (by decide +kernel), List.mem_of_getElem? (i := 320) (by decide +kernel), List.mem_of_getElem? (i := 321) (by decide +kernel)⟩
theorem lw_p5 : lw_okq (⟨"AppDesk", "declarerOf", "(I)I"⟩, 5) := ⟨⟨by decide +kernel, by decide +kernel⟩, List.mem_of_getElem? (i := 17) (by decide +kernel), List.mem_of_getElem? (i := 328) (by decide +kernel), List.mem_of_getElem? (i := 329) (by decide +kernel)⟩
theorem lw_p6 : lw_okq (⟨"AppDesk", "isSound", "(LAppDesk$Pack;)Z"⟩, 5) := ⟨⟨by decide +kernel, by decide +kernel⟩, List.mem_of_getElem? (i := 17) (by decide +kernel), List.mem_of_getElem? (i := 378) (by decide +kernel), List.mem_of_getElem? (i := 379) (by decide +kernel)⟩
theorem lw_p7 : lw_okq (⟨"AppDesk$Verifier", "reach", "(LAppDesk$Pack;II)Z"⟩, 3) := ⟨⟨by decide +kernel, by decide +kernel⟩, List.mem_of_getElem? (i := 164) (by decide +kernel), List.mem_of_getElem? (i := 387) (by decide +kernel), List.mem_of_getElem? (i := 388) (by decide +kernel)⟩
theorem lw_p8 : lw_okq (⟨"AppDesk$Verifier", "goesOnWell", "(LAppDesk$Pack;I)Z"⟩, 3) := ⟨⟨by decide +kernel, by decide +kernel⟩, List.mem_of_getElem? (i := 164) (by decide +kernel), List.mem_of_getElem? (i := 392) (by decide +kernel), List.mem_of_getElem? (i := 393) (by decide +kernel)⟩
theorem lw_p9 : lw_okq (⟨"java/lang/Throwable", "fillInStackTrace", "(I)Ljava/lang/Throwable;"⟩, 6) := ⟨⟨by decide +kernel, by decide +kernel⟩, List.mem_of_getElem? (i := 446) (by decide +kernel), List.mem_of_getElem? (i := 444) (by decide +kernel), List.mem_of_getElem? (i := 445) (by decide +kernel)⟩
theorem lw_p10 : lw_okq (⟨"AppDesk", "mayEnter", "(LAppDesk$Pack;)Z"⟩, 5) := ⟨⟨by decide +kernel, by decide +kernel⟩, List.mem_of_getElem? (i := 17) (by decide +kernel), List.mem_of_getElem? (i := 471) (by decide +kernel), List.mem_of_getElem? (i := 472) (by decide +kernel)⟩
theorem lw_p11 : lw_okq (⟨"AppDesk", "isDeclaredByOther", "(II)Z"⟩, 5) := ⟨⟨by decide +kernel, by decide +kernel⟩, List.mem_of_getElem? (i := 17) (by decide +kernel), List.mem_of_getElem? (i := 475) (by decide +kernel), List.mem_of_getElem? (i := 476) (by decide +kernel)⟩
theorem lw_p12 : lw_okq (⟨"AppDesk", "nextInTurn", "()I"⟩, 5) := ⟨⟨by decide +kernel, by decide +kernel⟩, List.mem_of_getElem? (i := 17) (by decide +kernel), List.mem_of_getElem? (i := 513) (by decide +kernel), List.mem_of_getElem? (i := 514) (by decide +kernel)⟩
theorem lw_p13 : lw_okq (⟨"AppDesk", "doWord", "(I)Z"⟩, 5) := ⟨⟨by decide +kernel, by decide +kernel⟩, List.mem_of_getElem? (i := 17) (by decide +kernel), List.mem_of_getElem? (i := 517) (by decide +kernel), List.mem_of_getElem? (i := 518) (by decide +kernel)⟩
theorem lw_p14 : lw_okq (⟨"AppDesk", "sendFromStack", "(I)Z"⟩, 5) := ⟨⟨by decide +kernel, by decide +kernel⟩, List.mem_of_getElem? (i := 17) (by decide +kernel), List.mem_of_getElem? (i := 526) (by decide +kernel), List.mem_of_getElem? (i := 527) (by decide +kernel)⟩
theorem lw_p15 : lw_okq (⟨"AppDesk$App", "storeInto", "(II)V"⟩, 10) := ⟨⟨by decide +kernel, by decide +kernel⟩, List.mem_of_getElem? (i := 95) (by decide +kernel), List.mem_of_getElem? (i := 566) (by decide +kernel), List.mem_of_getElem? (i := 567) (by decide +kernel)⟩
def lw_privs_1 : List (MethodName × Nat) := [(⟨"AppDesk$Pack", "digest", "()I"⟩, 13), (⟨"AppDesk", "isInstalled", "(I)Z"⟩, 5), (⟨"AppDesk$IntentQueue", "setRow", "(IIII)V"⟩, 4), (⟨"AppDesk", "placeToBegin", "(III)I"⟩, 5), (⟨"AppDesk", "passesGuard", "(II)Z"⟩, 5), (⟨"AppDesk", "declarerOf", "(I)I"⟩, 5), (⟨"AppDesk", "isSound", "(LAppDesk$Pack;)Z"⟩, 5), (⟨"AppDesk$Verifier", "reach", "(LAppDesk$Pack;II)Z"⟩, 3), (⟨"AppDesk$Verifier", "goesOnWell", "(LAppDesk$Pack;I)Z"⟩, 3), (⟨"java/lang/Throwable", "fillInStackTrace", "(I)Ljava/lang/Throwable;"⟩, 6), (⟨"AppDesk", "mayEnter", "(LAppDesk$Pack;)Z"⟩, 5), (⟨"AppDesk", "isDeclaredByOther", "(II)Z"⟩, 5), (⟨"AppDesk", "nextInTurn", "()I"⟩, 5), (⟨"AppDesk", "doWord", "(I)Z"⟩, 5), (⟨"AppDesk", "sendFromStack", "(I)Z"⟩, 5), (⟨"AppDesk$App", "storeInto", "(II)V"⟩, 10)]
theorem lw_r1 : ∀ q ∈ lw_privs_1, lw_okq q := List.forall_mem_cons.mpr ⟨lw_p0, List.forall_mem_cons.mpr ⟨lw_p1, List.forall_mem_cons.mpr ⟨lw_p2, List.forall_mem_cons.mpr ⟨lw_p3, List.forall_mem_cons.mpr ⟨lw_p4, List.forall_mem_cons.mpr ⟨lw_p5, List.forall_mem_cons.mpr ⟨lw_p6, List.forall_mem_cons.mpr ⟨lw_p7, List.forall_mem_cons.mpr ⟨lw_p8, List.forall_mem_cons.mpr ⟨lw_p9, List.forall_mem_cons.mpr ⟨lw_p10, List.forall_mem_cons.mpr ⟨lw_p11, List.forall_mem_cons.mpr ⟨lw_p12, List.forall_mem_cons.mpr ⟨lw_p13, List.forall_mem_cons.mpr ⟨lw_p14, List.forall_mem_cons.mpr ⟨lw_p15, fun _ h => absurd h List.not_mem_nil⟩⟩⟩⟩⟩⟩⟩⟩⟩⟩⟩⟩⟩⟩⟩⟩
theorem lw_p16 : lw_okq (⟨"AppDeskModel", "sealed", "()I"⟩, 29) := ⟨⟨by decide +kernel, by decide +kernel⟩, List.mem_of_getElem? (i := 570) (by decide +kernel), List.mem_of_getElem? (i := 696) (by decide +kernel), List.mem_of_getElem? (i := 697) (by decide +kernel)⟩
theorem lw_p17 : lw_okq (⟨"AppDeskModel", "bad", "()Z"⟩, 29) := ⟨⟨by decide +kernel, by decide +kernel⟩, List.mem_of_getElem? (i := 570) (by decide +kernel), List.mem_of_getElem? (i := 712) (by decide +kernel), List.mem_of_getElem? (i := 713) (by decide +kernel)⟩
theorem lw_p18 : lw_okq (⟨"AppDeskModel", "good", "()Z"⟩, 29) := ⟨⟨by decide +kernel, by decide +kernel⟩, List.mem_of_getElem? (i := 570) (by decide +kernel), List.mem_of_getElem? (i := 716) (by decide +kernel), List.mem_of_getElem? (i := 717) (by decide +kernel)⟩
theorem lw_p19 : lw_okq (⟨"AppDeskModel", "comes", "(II)Z"⟩, 29) := ⟨⟨by decide +kernel, by decide +kernel⟩, List.mem_of_getElem? (i := 570) (by decide +kernel), List.mem_of_getElem? (i := 720) (by decide +kernel), List.mem_of_getElem? (i := 721) (by decide +kernel)⟩
theorem lw_p20 : lw_okq (⟨"AppDeskModel", "goesOn", "(I)Z"⟩, 29) := ⟨⟨by decide +kernel, by decide +kernel⟩, List.mem_of_getElem? (i := 570) (by decide +kernel), List.mem_of_getElem? (i := 724) (by decide +kernel), List.mem_of_getElem? (i := 725) (by decide +kernel)⟩
theorem lw_p21 : lw_okq (⟨"AppDeskModel", "clashes", "()Z"⟩, 29) := ⟨⟨by decide +kernel, by decide +kernel⟩, List.mem_of_getElem? (i := 570) (by decide +kernel), List.mem_of_getElem? (i := 734) (by decide +kernel), List.mem_of_getElem? (i := 735) (by decide +kernel)⟩
theorem lw_p22 : lw_okq (⟨"AppDeskModel", "isApp", "(I)Z"⟩, 29) := ⟨⟨by decide +kernel, by decide +kernel⟩, List.mem_of_getElem? (i := 570) (by decide +kernel), List.mem_of_getElem? (i := 742) (by decide +kernel), List.mem_of_getElem? (i := 743) (by decide +kernel)⟩
theorem lw_p23 : lw_okq (⟨"AppDeskModel", "move", "(II)V"⟩, 29) := ⟨⟨by decide +kernel, by decide +kernel⟩, List.mem_of_getElem? (i := 570) (by decide +kernel), List.mem_of_getElem? (i := 746) (by decide +kernel), List.mem_of_getElem? (i := 747) (by decide +kernel)⟩
theorem lw_p24 : lw_okq (⟨"AppDeskModel", "may", "(II)Z"⟩, 29) := ⟨⟨by decide +kernel, by decide +kernel⟩, List.mem_of_getElem? (i := 570) (by decide +kernel), List.mem_of_getElem? (i := 762) (by decide +kernel), List.mem_of_getElem? (i := 763) (by decide +kernel)⟩
theorem lw_p25 : lw_okq (⟨"AppDeskModel", "post", "(III)V"⟩, 29) := ⟨⟨by decide +kernel, by decide +kernel⟩, List.mem_of_getElem? (i := 570) (by decide +kernel), List.mem_of_getElem? (i := 770) (by decide +kernel), List.mem_of_getElem? (i := 771) (by decide +kernel)⟩
theorem lw_p26 : lw_okq (⟨"AppDeskModel", "takes", "(IIII)Z"⟩, 29) := ⟨⟨by decide +kernel, by decide +kernel⟩, List.mem_of_getElem? (i := 570) (by decide +kernel), List.mem_of_getElem? (i := 778) (by decide +kernel), List.mem_of_getElem? (i := 779) (by decide +kernel)⟩
theorem lw_p27 : lw_okq (⟨"AppDeskModel", "fails", "(II)Z"⟩, 29) := ⟨⟨by decide +kernel, by decide +kernel⟩, List.mem_of_getElem? (i := 570) (by decide +kernel), List.mem_of_getElem? (i := 786) (by decide +kernel), List.mem_of_getElem? (i := 787) (by decide +kernel)⟩
theorem lw_p28 : lw_okq (⟨"AppDeskModel", "top", "(II)I"⟩, 29) := ⟨⟨by decide +kernel, by decide +kernel⟩, List.mem_of_getElem? (i := 570) (by decide +kernel), List.mem_of_getElem? (i := 790) (by decide +kernel), List.mem_of_getElem? (i := 791) (by decide +kernel)⟩
theorem lw_p29 : lw_okq (⟨"AppDeskModel", "keys", "(I)I"⟩, 29) := ⟨⟨by decide +kernel, by decide +kernel⟩, List.mem_of_getElem? (i := 570) (by decide +kernel), List.mem_of_getElem? (i := 794) (by decide +kernel), List.mem_of_getElem? (i := 795) (by decide +kernel)⟩
theorem lw_p30 : lw_okq (⟨"AppDeskModel", "does", "(III)V"⟩, 29) := ⟨⟨by decide +kernel, by decide +kernel⟩, List.mem_of_getElem? (i := 570) (by decide +kernel), List.mem_of_getElem? (i := 798) (by decide +kernel), List.mem_of_getElem? (i := 799) (by decide +kernel)⟩
theorem lw_p31 : lw_okq (⟨"AppDeskModel", "push", "(II)V"⟩, 29) := ⟨⟨by decide +kernel, by decide +kernel⟩, List.mem_of_getElem? (i := 570) (by decide +kernel), List.mem_of_getElem? (i := 802) (by decide +kernel), List.mem_of_getElem? (i := 803) (by decide +kernel)⟩
def lw_privs_2 : List (MethodName × Nat) := [(⟨"AppDeskModel", "sealed", "()I"⟩, 29), (⟨"AppDeskModel", "bad", "()Z"⟩, 29), (⟨"AppDeskModel", "good", "()Z"⟩, 29), (⟨"AppDeskModel", "comes", "(II)Z"⟩, 29), (⟨"AppDeskModel", "goesOn", "(I)Z"⟩, 29), (⟨"AppDeskModel", "clashes", "()Z"⟩, 29), (⟨"AppDeskModel", "isApp", "(I)Z"⟩, 29), (⟨"AppDeskModel", "move", "(II)V"⟩, 29), (⟨"AppDeskModel", "may", "(II)Z"⟩, 29), (⟨"AppDeskModel", "post", "(III)V"⟩, 29), (⟨"AppDeskModel", "takes", "(IIII)Z"⟩, 29), (⟨"AppDeskModel", "fails", "(II)Z"⟩, 29), (⟨"AppDeskModel", "top", "(II)I"⟩, 29), (⟨"AppDeskModel", "keys", "(I)I"⟩, 29), (⟨"AppDeskModel", "does", "(III)V"⟩, 29), (⟨"AppDeskModel", "push", "(II)V"⟩, 29)]
theorem lw_r2 : ∀ q ∈ lw_privs_2, lw_okq q := List.forall_mem_cons.mpr ⟨lw_p16, List.forall_mem_cons.mpr ⟨lw_p17, List.forall_mem_cons.mpr ⟨lw_p18, List.forall_mem_cons.mpr ⟨lw_p19, List.forall_mem_cons.mpr ⟨lw_p20, List.forall_mem_cons.mpr ⟨lw_p21, List.forall_mem_cons.mpr ⟨lw_p22, List.forall_mem_cons.mpr ⟨lw_p23, List.forall_mem_cons.mpr ⟨lw_p24, List.forall_mem_cons.mpr ⟨lw_p25, List.forall_mem_cons.mpr ⟨lw_p26, List.forall_mem_cons.mpr ⟨lw_p27, List.forall_mem_cons.mpr ⟨lw_p28, List.forall_mem_cons.mpr ⟨lw_p29, List.forall_mem_cons.mpr ⟨lw_p30, List.forall_mem_cons.mpr ⟨lw_p31, fun _ h => absurd h List.not_mem_nil⟩⟩⟩⟩⟩⟩⟩⟩⟩⟩⟩⟩⟩⟩⟩⟩
theorem lw_p32 : lw_okq (⟨"AppDeskModel", "acts", "(IIII)V"⟩, 29) := ⟨⟨by decide +kernel, by decide +kernel⟩, List.mem_of_getElem? (i := 570) (by decide +kernel), List.mem_of_getElem? (i := 806) (by decide +kernel), List.mem_of_getElem? (i := 807) (by decide +kernel)⟩
def lw_privs_3 : List (MethodName × Nat) := [(⟨"AppDeskModel", "acts", "(IIII)V"⟩, 29)]
theorem lw_r3 : ∀ q ∈ lw_privs_3, lw_okq q := List.forall_mem_cons.mpr ⟨lw_p32, fun _ h => absurd h List.not_mem_nil⟩
def lw_privs : List (MethodName × Nat) := lw_privs_1 ++ (lw_privs_2 ++ (lw_privs_3))
def lw_tbl : List Cond := k2_sels lw_privs ++ tables_1
theorem lw_privs_ok : ∀ q ∈ lw_privs, lw_okq q := by
  show ∀ q ∈ lw_privs_1 ++ (lw_privs_2 ++ (lw_privs_3)), lw_okq q
  exact List.forall_mem_append.mpr ⟨lw_r1, List.forall_mem_append.mpr ⟨lw_r2, lw_r3⟩⟩

/-- the words that every method of ours may use: those of the tables that stay -/
def zT : List Cond := lw_tbl.filter goodWord
theorem zT_good : ∀ w ∈ zT, goodWord w = true := fun w h => (List.mem_filter.mp h).2
theorem zT_tbl : ∀ w ∈ zT, w ∈ lw_tbl := fun w h => (List.mem_filter.mp h).1
theorem zk1 {w : Cond} (i : Nat) (h : tables_1_1[i]? = some w) (hg : goodWord w = true) : w ∈ zT := List.mem_filter.mpr ⟨List.mem_append_right _ (List.mem_append_left _ (List.mem_of_getElem? h)), hg⟩
theorem zk2 {w : Cond} (i : Nat) (h : tables_1_2[i]? = some w) (hg : goodWord w = true) : w ∈ zT := List.mem_filter.mpr ⟨List.mem_append_right _ (List.mem_append_right _ (List.mem_append_left _ (List.mem_of_getElem? h))), hg⟩
theorem zk3 {w : Cond} (i : Nat) (h : tables_1_3[i]? = some w) (hg : goodWord w = true) : w ∈ zT := List.mem_filter.mpr ⟨List.mem_append_right _ (List.mem_append_right _ (List.mem_append_right _ (List.mem_append_left _ (List.mem_of_getElem? h)))), hg⟩
theorem zk4 {w : Cond} (i : Nat) (h : tables_1_4[i]? = some w) (hg : goodWord w = true) : w ∈ zT := List.mem_filter.mpr ⟨List.mem_append_right _ (List.mem_append_right _ (List.mem_append_right _ (List.mem_append_right _ (List.mem_of_getElem? h)))), hg⟩
theorem zkp {w : Cond} (h : w ∈ k2_sels lw_privs) (hg : goodWord w = true) : w ∈ zT := List.mem_filter.mpr ⟨List.mem_append_left _ h, hg⟩
end
section
/-! methods: names, codes, the words of the tables that they use -/
def y_D_init : MethodName := ⟨"AppDesk", "<init>", "()V"⟩
abbrev b_D_init : ByteArray := prog_1_method_1_code
theorem kc_D_init : Cond.code y_D_init b_D_init 2 none ∈ zT := zk1 20 rfl rfl
def y_D_app : MethodName := ⟨"AppDesk", "app", "(II)I"⟩
abbrev b_D_app : ByteArray := prog_1_method_16_code
theorem kc_D_app : Cond.code y_D_app b_D_app 4 (some .int) ∈ zT := zk2 99 rfl rfl
def y_D_argumentOf : MethodName := ⟨"AppDesk", "argumentOf", "(I)I"⟩
abbrev b_D_argumentOf : ByteArray := prog_1_method_23_code
theorem kc_D_argumentOf : Cond.code y_D_argumentOf b_D_argumentOf 1 (some .int) ∈ zT := zk2 160 rfl rfl
def y_D_ask : MethodName := ⟨"AppDesk", "ask", "(I)Z"⟩
abbrev b_D_ask : ByteArray := prog_1_method_5_code
theorem kc_D_ask : Cond.code y_D_ask b_D_ask 2 (some .boolean) ∈ zT := zk1 225 rfl rfl
def y_D_declare : MethodName := ⟨"AppDesk", "declare", "(II)Z"⟩
abbrev b_D_declare : ByteArray := prog_1_method_6_code
theorem kc_D_declare : Cond.code y_D_declare b_D_declare 3 (some .boolean) ∈ zT := zk1 236 rfl rfl
def y_D_declarerOf : MethodName := ⟨"AppDesk", "declarerOf", "(I)I"⟩
abbrev b_D_declarerOf : ByteArray := prog_1_method_25_code
theorem kc_D_declarerOf : Cond.code y_D_declarerOf b_D_declarerOf 3 (some .int) ∈ zT := zk2 90 rfl rfl
def y_D_deliver : MethodName := ⟨"AppDesk", "deliver", "()I"⟩
abbrev b_D_deliver : ByteArray := prog_1_method_14_code
theorem kc_D_deliver : Cond.code y_D_deliver b_D_deliver 6 (some .int) ∈ zT := zk2 67 rfl rfl
def y_D_doWord : MethodName := ⟨"AppDesk", "doWord", "(I)Z"⟩
abbrev b_D_doWord : ByteArray := prog_1_method_32_code
theorem kc_D_doWord : Cond.code y_D_doWord b_D_doWord 4 (some .boolean) ∈ zT := zk3 39 rfl rfl
def y_D_draft : MethodName := ⟨"AppDesk", "draft", "(III)Z"⟩
abbrev b_D_draft : ByteArray := prog_1_method_2_code
theorem kc_D_draft : Cond.code y_D_draft b_D_draft 4 (some .boolean) ∈ zT := zk1 198 rfl rfl
def y_D_grant : MethodName := ⟨"AppDesk", "grant", "(II)Z"⟩
abbrev b_D_grant : ByteArray := prog_1_method_11_code
theorem kc_D_grant : Cond.code y_D_grant b_D_grant 3 (some .boolean) ∈ zT := zk2 46 rfl rfl
def y_D_hasBit : MethodName := ⟨"AppDesk", "hasBit", "(III)Z"⟩
abbrev b_D_hasBit : ByteArray := prog_1_method_21_code
theorem kc_D_hasBit : Cond.code y_D_hasBit b_D_hasBit 3 (some .boolean) ∈ zT := zk1 232 rfl rfl
def y_D_holds : MethodName := ⟨"AppDesk", "holds", "(II)Z"⟩
abbrev b_D_holds : ByteArray := prog_1_method_17_code
theorem kc_D_holds : Cond.code y_D_holds b_D_holds 5 (some .boolean) ∈ zT := zk2 86 rfl rfl
def y_D_install : MethodName := ⟨"AppDesk", "install", "()I"⟩
abbrev b_D_install : ByteArray := prog_1_method_9_code
theorem kc_D_install : Cond.code y_D_install b_D_install 1 (some .int) ∈ zT := zk2 136 rfl rfl
def y_D_isBelow : MethodName := ⟨"AppDesk", "isBelow", "(II)Z"⟩
abbrev b_D_isBelow : ByteArray := prog_1_method_20_code
theorem kc_D_isBelow : Cond.code y_D_isBelow b_D_isBelow 2 (some .boolean) ∈ zT := zk1 201 rfl rfl
def y_D_isDeclaredByOther : MethodName := ⟨"AppDesk", "isDeclaredByOther", "(II)Z"⟩
abbrev b_D_isDeclaredByOther : ByteArray := prog_1_method_28_code
theorem kc_D_isDeclaredByOther : Cond.code y_D_isDeclaredByOther b_D_isDeclaredByOther 4 (some .boolean) ∈ zT := zk2 237 rfl rfl
def y_D_isInstalled : MethodName := ⟨"AppDesk", "isInstalled", "(I)Z"⟩
abbrev b_D_isInstalled : ByteArray := prog_1_method_24_code
theorem kc_D_isInstalled : Cond.code y_D_isInstalled b_D_isInstalled 2 (some .boolean) ∈ zT := zk2 30 rfl rfl
def y_D_isSound : MethodName := ⟨"AppDesk", "isSound", "(LAppDesk$Pack;)Z"⟩
abbrev b_D_isSound : ByteArray := prog_1_method_26_code
theorem kc_D_isSound : Cond.code y_D_isSound b_D_isSound 2 (some .boolean) ∈ zT := zk2 140 rfl rfl
def y_D_kept : MethodName := ⟨"AppDesk", "kept", "(II)I"⟩
abbrev b_D_kept : ByteArray := prog_1_method_18_code
theorem kc_D_kept : Cond.code y_D_kept b_D_kept 3 (some .int) ∈ zT := zk2 115 rfl rfl
def y_D_mayEnter : MethodName := ⟨"AppDesk", "mayEnter", "(LAppDesk$Pack;)Z"⟩
abbrev b_D_mayEnter : ByteArray := prog_1_method_27_code
theorem kc_D_mayEnter : Cond.code y_D_mayEnter b_D_mayEnter 4 (some .boolean) ∈ zT := zk2 233 rfl rfl
def y_D_nextInTurn : MethodName := ⟨"AppDesk", "nextInTurn", "()I"⟩
abbrev b_D_nextInTurn : ByteArray := prog_1_method_31_code
theorem kc_D_nextInTurn : Cond.code y_D_nextInTurn b_D_nextInTurn 3 (some .int) ∈ zT := zk3 35 rfl rfl
def y_D_operationOf : MethodName := ⟨"AppDesk", "operationOf", "(I)I"⟩
abbrev b_D_operationOf : ByteArray := prog_1_method_22_code
theorem kc_D_operationOf : Cond.code y_D_operationOf b_D_operationOf 1 (some .int) ∈ zT := zk2 157 rfl rfl
def y_D_part : MethodName := ⟨"AppDesk", "part", "(IZII)Z"⟩
abbrev b_D_part : ByteArray := prog_1_method_4_code
theorem kc_D_part : Cond.code y_D_part b_D_part 5 (some .boolean) ∈ zT := zk1 217 rfl rfl
def y_D_passesGuard : MethodName := ⟨"AppDesk", "passesGuard", "(II)Z"⟩
abbrev b_D_passesGuard : ByteArray := prog_1_method_30_code
theorem kc_D_passesGuard : Cond.code y_D_passesGuard b_D_passesGuard 3 (some .boolean) ∈ zT := zk2 82 rfl rfl
def y_D_placeToBegin : MethodName := ⟨"AppDesk", "placeToBegin", "(III)I"⟩
abbrev b_D_placeToBegin : ByteArray := prog_1_method_29_code
theorem kc_D_placeToBegin : Cond.code y_D_placeToBegin b_D_placeToBegin 8 (some .int) ∈ zT := zk2 78 rfl rfl
def y_D_queued : MethodName := ⟨"AppDesk", "queued", "()I"⟩
abbrev b_D_queued : ByteArray := prog_1_method_19_code
theorem kc_D_queued : Cond.code y_D_queued b_D_queued 1 (some .int) ∈ zT := zk2 127 rfl rfl
def y_D_remove : MethodName := ⟨"AppDesk", "remove", "(I)Z"⟩
abbrev b_D_remove : ByteArray := prog_1_method_10_code
theorem kc_D_remove : Cond.code y_D_remove b_D_remove 2 (some .boolean) ∈ zT := zk2 26 rfl rfl
def y_D_revoke : MethodName := ⟨"AppDesk", "revoke", "(II)Z"⟩
abbrev b_D_revoke : ByteArray := prog_1_method_12_code
theorem kc_D_revoke : Cond.code y_D_revoke b_D_revoke 3 (some .boolean) ∈ zT := zk2 55 rfl rfl
def y_D_seal : MethodName := ⟨"AppDesk", "seal", "(I)V"⟩
abbrev b_D_seal : ByteArray := prog_1_method_8_code
theorem kc_D_seal : Cond.code y_D_seal b_D_seal 2 none ∈ zT := zk2 22 rfl rfl
def y_D_send : MethodName := ⟨"AppDesk", "send", "(III)Z"⟩
abbrev b_D_send : ByteArray := prog_1_method_13_code
theorem kc_D_send : Cond.code y_D_send b_D_send 4 (some .boolean) ∈ zT := zk2 59 rfl rfl
def y_D_sendFromStack : MethodName := ⟨"AppDesk", "sendFromStack", "(I)Z"⟩
abbrev b_D_sendFromStack : ByteArray := prog_1_method_33_code
theorem kc_D_sendFromStack : Cond.code y_D_sendFromStack b_D_sendFromStack 5 (some .boolean) ∈ zT := zk3 48 rfl rfl
def y_D_sign : MethodName := ⟨"AppDesk", "sign", "()I"⟩
abbrev b_D_sign : ByteArray := prog_1_method_7_code
theorem kc_D_sign : Cond.code y_D_sign b_D_sign 1 (some .int) ∈ zT := zk2 5 rfl rfl
def y_D_step : MethodName := ⟨"AppDesk", "step", "()I"⟩
abbrev b_D_step : ByteArray := prog_1_method_15_code
theorem kc_D_step : Cond.code y_D_step b_D_step 2 (some .int) ∈ zT := zk3 31 rfl rfl
def y_D_word : MethodName := ⟨"AppDesk", "word", "(I)Z"⟩
abbrev b_D_word : ByteArray := prog_1_method_3_code
theorem kc_D_word : Cond.code y_D_word b_D_word 2 (some .boolean) ∈ zT := zk1 209 rfl rfl
def y_A_init : MethodName := ⟨"AppDesk$App", "<init>", "()V"⟩
abbrev b_A_init : ByteArray := prog_2_method_1_code
theorem kc_A_init : Cond.code y_A_init b_A_init 1 none ∈ zT := zk1 98 rfl rfl
def y_A_begin : MethodName := ⟨"AppDesk$App", "begin", "(III)V"⟩
abbrev b_A_begin : ByteArray := prog_2_method_4_code
theorem kc_A_begin : Cond.code y_A_begin b_A_begin 4 none ∈ zT := zk2 94 rfl rfl
def y_A_clearAway : MethodName := ⟨"AppDesk$App", "clearAway", "()V"⟩
abbrev b_A_clearAway : ByteArray := prog_2_method_3_code
theorem kc_A_clearAway : Cond.code y_A_clearAway b_A_clearAway 1 none ∈ zT := zk2 34 rfl rfl
def y_A_doPlainWord : MethodName := ⟨"AppDesk$App", "doPlainWord", "(II)V"⟩
abbrev b_A_doPlainWord : ByteArray := prog_2_method_14_code
theorem kc_A_doPlainWord : Cond.code y_A_doPlainWord b_A_doPlainWord 4 none ∈ zT := zk3 84 rfl rfl
def y_A_doTurn : MethodName := ⟨"AppDesk$App", "doTurn", "(II)V"⟩
abbrev b_A_doTurn : ByteArray := prog_2_method_13_code
theorem kc_A_doTurn : Cond.code y_A_doTurn b_A_doTurn 4 none ∈ zT := zk3 80 rfl rfl
def y_A_getKept : MethodName := ⟨"AppDesk$App", "getKept", "()Z"⟩
abbrev b_A_getKept : ByteArray := prog_2_method_16_code
theorem kc_A_getKept : Cond.code y_A_getKept b_A_getKept 2 (some .boolean) ∈ zT := zk3 67 rfl rfl
def y_A_keepUppermost : MethodName := ⟨"AppDesk$App", "keepUppermost", "()Z"⟩
abbrev b_A_keepUppermost : ByteArray := prog_2_method_17_code
theorem kc_A_keepUppermost : Cond.code y_A_keepUppermost b_A_keepUppermost 2 (some .boolean) ∈ zT := zk3 74 rfl rfl
def y_A_keepsUnder : MethodName := ⟨"AppDesk$App", "keepsUnder", "(I)Z"⟩
abbrev b_A_keepsUnder : ByteArray := prog_2_method_6_code
theorem kc_A_keepsUnder : Cond.code y_A_keepsUnder b_A_keepsUnder 2 (some .boolean) ∈ zT := zk2 123 rfl rfl
def y_A_pop : MethodName := ⟨"AppDesk$App", "pop", "()I"⟩
abbrev b_A_pop : ByteArray := prog_2_method_12_code
theorem kc_A_pop : Cond.code y_A_pop b_A_pop 2 (some .int) ∈ zT := zk3 56 rfl rfl
def y_A_push : MethodName := ⟨"AppDesk$App", "push", "(I)V"⟩
abbrev b_A_push : ByteArray := prog_2_method_11_code
theorem kc_A_push : Cond.code y_A_push b_A_push 2 none ∈ zT := zk3 63 rfl rfl
def y_A_secondUppermost : MethodName := ⟨"AppDesk$App", "secondUppermost", "()I"⟩
abbrev b_A_secondUppermost : ByteArray := prog_2_method_10_code
theorem kc_A_secondUppermost : Cond.code y_A_secondUppermost b_A_secondUppermost 1 (some .int) ∈ zT := zk3 52 rfl rfl
def y_A_storeInto : MethodName := ⟨"AppDesk$App", "storeInto", "(II)V"⟩
abbrev b_A_storeInto : ByteArray := prog_2_method_15_code
theorem kc_A_storeInto : Cond.code y_A_storeInto b_A_storeInto 3 none ∈ zT := zk3 88 rfl rfl
def y_A_takeIn : MethodName := ⟨"AppDesk$App", "takeIn", "(LAppDesk$Pack;)V"⟩
abbrev b_A_takeIn : ByteArray := prog_2_method_2_code
theorem kc_A_takeIn : Cond.code y_A_takeIn b_A_takeIn 2 none ∈ zT := zk3 16 rfl rfl
def y_A_uppermost : MethodName := ⟨"AppDesk$App", "uppermost", "()I"⟩
abbrev b_A_uppermost : ByteArray := prog_2_method_9_code
theorem kc_A_uppermost : Cond.code y_A_uppermost b_A_uppermost 1 (some .int) ∈ zT := zk2 103 rfl rfl
def y_A_valueUnder : MethodName := ⟨"AppDesk$App", "valueUnder", "(I)I"⟩
abbrev b_A_valueUnder : ByteArray := prog_2_method_7_code
theorem kc_A_valueUnder : Cond.code y_A_valueUnder b_A_valueUnder 2 (some .int) ∈ zT := zk2 119 rfl rfl
def y_A_wasGranted : MethodName := ⟨"AppDesk$App", "wasGranted", "(I)Z"⟩
abbrev b_A_wasGranted : ByteArray := prog_2_method_5_code
theorem kc_A_wasGranted : Cond.code y_A_wasGranted b_A_wasGranted 2 (some .boolean) ∈ zT := zk2 50 rfl rfl
def y_A_wordInPlace : MethodName := ⟨"AppDesk$App", "wordInPlace", "()I"⟩
abbrev b_A_wordInPlace : ByteArray := prog_2_method_8_code
theorem kc_A_wordInPlace : Cond.code y_A_wordInPlace b_A_wordInPlace 1 (some .int) ∈ zT := zk3 43 rfl rfl
def y_Q_init : MethodName := ⟨"AppDesk$IntentQueue", "<init>", "()V"⟩
abbrev b_Q_init : ByteArray := prog_3_method_1_code
theorem kc_Q_init : Cond.code y_Q_init b_Q_init 1 none ∈ zT := zk1 144 rfl rfl
def y_Q_add : MethodName := ⟨"AppDesk$IntentQueue", "add", "(III)Z"⟩
abbrev b_Q_add : ByteArray := prog_3_method_2_code
theorem kc_Q_add : Cond.code y_Q_add b_Q_add 4 (some .boolean) ∈ zT := zk2 63 rfl rfl
def y_Q_dropAllOf : MethodName := ⟨"AppDesk$IntentQueue", "dropAllOf", "(I)V"⟩
abbrev b_Q_dropAllOf : ByteArray := prog_3_method_4_code
theorem kc_Q_dropAllOf : Cond.code y_Q_dropAllOf b_Q_dropAllOf 4 none ∈ zT := zk2 38 rfl rfl
def y_Q_dropFirst : MethodName := ⟨"AppDesk$IntentQueue", "dropFirst", "()V"⟩
abbrev b_Q_dropFirst : ByteArray := prog_3_method_3_code
theorem kc_Q_dropFirst : Cond.code y_Q_dropFirst b_Q_dropFirst 2 none ∈ zT := zk2 71 rfl rfl
def y_Q_setRow : MethodName := ⟨"AppDesk$IntentQueue", "setRow", "(IIII)V"⟩
abbrev b_Q_setRow : ByteArray := prog_3_method_5_code
theorem kc_Q_setRow : Cond.code y_Q_setRow b_Q_setRow 5 none ∈ zT := zk2 42 rfl rfl
def y_P_init : MethodName := ⟨"AppDesk$Pack", "<init>", "()V"⟩
abbrev b_P_init : ByteArray := prog_4_method_1_code
theorem kc_P_init : Cond.code y_P_init b_P_init 1 none ∈ zT := zk1 28 rfl rfl
def y_P_addPart : MethodName := ⟨"AppDesk$Pack", "addPart", "(IZII)Z"⟩
abbrev b_P_addPart : ByteArray := prog_4_method_5_code
theorem kc_P_addPart : Cond.code y_P_addPart b_P_addPart 5 (some .boolean) ∈ zT := zk1 221 rfl rfl
def y_P_addWord : MethodName := ⟨"AppDesk$Pack", "addWord", "(I)Z"⟩
abbrev b_P_addWord : ByteArray := prog_4_method_4_code
theorem kc_P_addWord : Cond.code y_P_addWord b_P_addWord 2 (some .boolean) ∈ zT := zk1 213 rfl rfl
def y_P_asksFor : MethodName := ⟨"AppDesk$Pack", "asksFor", "(I)Z"⟩
abbrev b_P_asksFor : ByteArray := prog_4_method_6_code
theorem kc_P_asksFor : Cond.code y_P_asksFor b_P_asksFor 2 (some .boolean) ∈ zT := zk1 229 rfl rfl
def y_P_beginAnew : MethodName := ⟨"AppDesk$Pack", "beginAnew", "(III)V"⟩
abbrev b_P_beginAnew : ByteArray := prog_4_method_2_code
theorem kc_P_beginAnew : Cond.code y_P_beginAnew b_P_beginAnew 4 none ∈ zT := zk1 205 rfl rfl
def y_P_copyFrom : MethodName := ⟨"AppDesk$Pack", "copyFrom", "(LAppDesk$Pack;)V"⟩
abbrev b_P_copyFrom : ByteArray := prog_4_method_3_code
theorem kc_P_copyFrom : Cond.code y_P_copyFrom b_P_copyFrom 2 none ∈ zT := zk3 20 rfl rfl
def y_P_declares : MethodName := ⟨"AppDesk$Pack", "declares", "(I)Z"⟩
abbrev b_P_declares : ByteArray := prog_4_method_7_code
theorem kc_P_declares : Cond.code y_P_declares b_P_declares 2 (some .boolean) ∈ zT := zk2 0 rfl rfl
def y_P_digest : MethodName := ⟨"AppDesk$Pack", "digest", "()I"⟩
abbrev b_P_digest : ByteArray := prog_4_method_9_code
theorem kc_P_digest : Cond.code y_P_digest b_P_digest 3 (some .int) ∈ zT := zk2 13 rfl rfl
def y_P_mix : MethodName := ⟨"AppDesk$Pack", "mix", "(II)I"⟩
abbrev b_P_mix : ByteArray := prog_4_method_10_code
theorem kc_P_mix : Cond.code y_P_mix b_P_mix 3 (some .int) ∈ zT := zk2 16 rfl rfl
def y_P_sealOfSigner : MethodName := ⟨"AppDesk$Pack", "sealOfSigner", "()I"⟩
abbrev b_P_sealOfSigner : ByteArray := prog_4_method_8_code
theorem kc_P_sealOfSigner : Cond.code y_P_sealOfSigner b_P_sealOfSigner 1 (some .int) ∈ zT := zk2 9 rfl rfl
def y_V_init : MethodName := ⟨"AppDesk$Verifier", "<init>", "()V"⟩
abbrev b_V_init : ByteArray := prog_5_method_1_code
theorem kc_V_init : Cond.code y_V_init b_V_init 1 none ∈ zT := zk1 167 rfl rfl
def y_V_goesOnWell : MethodName := ⟨"AppDesk$Verifier", "goesOnWell", "(LAppDesk$Pack;I)Z"⟩
abbrev b_V_goesOnWell : ByteArray := prog_5_method_4_code
theorem kc_V_goesOnWell : Cond.code y_V_goesOnWell b_V_goesOnWell 8 (some .boolean) ∈ zT := zk2 154 rfl rfl
def y_V_hasGoodArgument : MethodName := ⟨"AppDesk$Verifier", "hasGoodArgument", "(II)Z"⟩
abbrev b_V_hasGoodArgument : ByteArray := prog_5_method_5_code
theorem kc_V_hasGoodArgument : Cond.code y_V_hasGoodArgument b_V_hasGoodArgument 2 (some .boolean) ∈ zT := zk2 163 rfl rfl
def y_V_isGood : MethodName := ⟨"AppDesk$Verifier", "isGood", "(LAppDesk$Pack;)Z"⟩
abbrev b_V_isGood : ByteArray := prog_5_method_2_code
theorem kc_V_isGood : Cond.code y_V_isGood b_V_isGood 3 (some .boolean) ∈ zT := zk2 144 rfl rfl
def y_V_reach : MethodName := ⟨"AppDesk$Verifier", "reach", "(LAppDesk$Pack;II)Z"⟩
abbrev b_V_reach : ByteArray := prog_5_method_3_code
theorem kc_V_reach : Cond.code y_V_reach b_V_reach 4 (some .boolean) ∈ zT := zk2 149 rfl rfl
def y_L_install : MethodName := ⟨"AppDeskLaw", "install", "(LAppDesk;[J)I"⟩
def y_L_step : MethodName := ⟨"AppDeskLaw", "step", "(LAppDesk;[J)I"⟩
def y_M_init : MethodName := ⟨"AppDeskModel", "<init>", "()V"⟩
abbrev b_M_init : ByteArray := prog_7_method_1_code
theorem kc_M_init : Cond.code y_M_init b_M_init 1 none ∈ zT := zk3 93 rfl rfl
def y_M_acts : MethodName := ⟨"AppDeskModel", "acts", "(IIII)V"⟩
abbrev b_M_acts : ByteArray := prog_7_method_38_code
theorem kc_M_acts : Cond.code y_M_acts b_M_acts 7 none ∈ zT := zk4 88 rfl rfl
def y_M_app : MethodName := ⟨"AppDeskModel", "app", "(II)I"⟩
abbrev b_M_app : ByteArray := prog_7_method_39_code
theorem kc_M_app : Cond.code y_M_app b_M_app 3 (some .int) ∈ zT := zk4 92 rfl rfl
def y_M_ask : MethodName := ⟨"AppDeskModel", "ask", "(I)Z"⟩
abbrev b_M_ask : ByteArray := prog_7_method_8_code
theorem kc_M_ask : Cond.code y_M_ask b_M_ask 2 (some .boolean) ∈ zT := zk3 206 rfl rfl
def y_M_bad : MethodName := ⟨"AppDeskModel", "bad", "()Z"⟩
abbrev b_M_bad : ByteArray := prog_7_method_19_code
theorem kc_M_bad : Cond.code y_M_bad b_M_bad 3 (some .boolean) ∈ zT := zk3 234 rfl rfl
def y_M_change : MethodName := ⟨"AppDeskModel", "change", "(I)I"⟩
abbrev b_M_change : ByteArray := prog_7_method_15_code
theorem kc_M_change : Cond.code y_M_change b_M_change 1 (some .int) ∈ zT := zk4 9 rfl rfl
def y_M_clashes : MethodName := ⟨"AppDeskModel", "clashes", "()Z"⟩
abbrev b_M_clashes : ByteArray := prog_7_method_20_code
theorem kc_M_clashes : Cond.code y_M_clashes b_M_clashes 5 (some .boolean) ∈ zT := zk4 16 rfl rfl
def y_M_comes : MethodName := ⟨"AppDeskModel", "comes", "(II)Z"⟩
abbrev b_M_comes : ByteArray := prog_7_method_16_code
theorem kc_M_comes : Cond.code y_M_comes b_M_comes 3 (some .boolean) ∈ zT := zk4 2 rfl rfl
def y_M_declare : MethodName := ⟨"AppDeskModel", "declare", "(II)Z"⟩
abbrev b_M_declare : ByteArray := prog_7_method_9_code
theorem kc_M_declare : Cond.code y_M_declare b_M_declare 3 (some .boolean) ∈ zT := zk3 210 rfl rfl
def y_M_deliver : MethodName := ⟨"AppDeskModel", "deliver", "()I"⟩
abbrev b_M_deliver : ByteArray := prog_7_method_31_code
theorem kc_M_deliver : Cond.code y_M_deliver b_M_deliver 6 (some .int) ∈ zT := zk4 56 rfl rfl
def y_M_does : MethodName := ⟨"AppDeskModel", "does", "(III)V"⟩
abbrev b_M_does : ByteArray := prog_7_method_37_code
theorem kc_M_does : Cond.code y_M_does b_M_does 8 none ∈ zT := zk4 80 rfl rfl
def y_M_draft : MethodName := ⟨"AppDeskModel", "draft", "(III)Z"⟩
abbrev b_M_draft : ByteArray := prog_7_method_5_code
theorem kc_M_draft : Cond.code y_M_draft b_M_draft 5 (some .boolean) ∈ zT := zk3 191 rfl rfl
def y_M_fails : MethodName := ⟨"AppDeskModel", "fails", "(II)Z"⟩
abbrev b_M_fails : ByteArray := prog_7_method_35_code
theorem kc_M_fails : Cond.code y_M_fails b_M_fails 4 (some .boolean) ∈ zT := zk4 68 rfl rfl
def y_M_goesOn : MethodName := ⟨"AppDeskModel", "goesOn", "(I)Z"⟩
abbrev b_M_goesOn : ByteArray := prog_7_method_17_code
theorem kc_M_goesOn : Cond.code y_M_goesOn b_M_goesOn 8 (some .boolean) ∈ zT := zk4 6 rfl rfl
def y_M_good : MethodName := ⟨"AppDeskModel", "good", "()Z"⟩
abbrev b_M_good : ByteArray := prog_7_method_18_code
theorem kc_M_good : Cond.code y_M_good b_M_good 4 (some .boolean) ∈ zT := zk3 238 rfl rfl
def y_M_grant : MethodName := ⟨"AppDeskModel", "grant", "(II)Z"⟩
abbrev b_M_grant : ByteArray := prog_7_method_23_code
theorem kc_M_grant : Cond.code y_M_grant b_M_grant 3 (some .boolean) ∈ zT := zk4 32 rfl rfl
def y_M_holds : MethodName := ⟨"AppDeskModel", "holds", "(II)Z"⟩
abbrev b_M_holds : ByteArray := prog_7_method_26_code
theorem kc_M_holds : Cond.code y_M_holds b_M_holds 3 (some .boolean) ∈ zT := zk4 40 rfl rfl
def y_M_in : MethodName := ⟨"AppDeskModel", "in", "(II)Z"⟩
abbrev b_M_in : ByteArray := prog_7_method_3_code
theorem kc_M_in : Cond.code y_M_in b_M_in 2 (some .boolean) ∈ zT := zk3 194 rfl rfl
def y_M_install : MethodName := ⟨"AppDeskModel", "install", "()I"⟩
abbrev b_M_install : ByteArray := prog_7_method_21_code
theorem kc_M_install : Cond.code y_M_install b_M_install 3 (some .int) ∈ zT := zk3 230 rfl rfl
def y_M_isApp : MethodName := ⟨"AppDeskModel", "isApp", "(I)Z"⟩
abbrev b_M_isApp : ByteArray := prog_7_method_4_code
theorem kc_M_isApp : Cond.code y_M_isApp b_M_isApp 2 (some .boolean) ∈ zT := zk4 24 rfl rfl
def y_M_kept : MethodName := ⟨"AppDeskModel", "kept", "(II)I"⟩
abbrev b_M_kept : ByteArray := prog_7_method_40_code
theorem kc_M_kept : Cond.code y_M_kept b_M_kept 3 (some .int) ∈ zT := zk4 96 rfl rfl
def y_M_keys : MethodName := ⟨"AppDeskModel", "keys", "(I)I"⟩
abbrev b_M_keys : ByteArray := prog_7_method_34_code
theorem kc_M_keys : Cond.code y_M_keys b_M_keys 4 (some .int) ∈ zT := zk4 76 rfl rfl
def y_M_may : MethodName := ⟨"AppDeskModel", "may", "(II)Z"⟩
abbrev b_M_may : ByteArray := prog_7_method_25_code
theorem kc_M_may : Cond.code y_M_may b_M_may 6 (some .boolean) ∈ zT := zk4 44 rfl rfl
def y_M_mixed : MethodName := ⟨"AppDeskModel", "mixed", "(II)I"⟩
abbrev b_M_mixed : ByteArray := prog_7_method_10_code
theorem kc_M_mixed : Cond.code y_M_mixed b_M_mixed 3 (some .int) ∈ zT := zk3 221 rfl rfl
def y_M_move : MethodName := ⟨"AppDeskModel", "move", "(II)V"⟩
abbrev b_M_move : ByteArray := prog_7_method_27_code
theorem kc_M_move : Cond.code y_M_move b_M_move 3 none ∈ zT := zk4 28 rfl rfl
def y_M_needs : MethodName := ⟨"AppDeskModel", "needs", "(I)I"⟩
abbrev b_M_needs : ByteArray := prog_7_method_14_code
theorem kc_M_needs : Cond.code y_M_needs b_M_needs 1 (some .int) ∈ zT := zk4 12 rfl rfl
def y_M_part : MethodName := ⟨"AppDeskModel", "part", "(IZII)Z"⟩
abbrev b_M_part : ByteArray := prog_7_method_7_code
theorem kc_M_part : Cond.code y_M_part b_M_part 6 (some .boolean) ∈ zT := zk3 202 rfl rfl
def y_M_post : MethodName := ⟨"AppDeskModel", "post", "(III)V"⟩
abbrev b_M_post : ByteArray := prog_7_method_28_code
theorem kc_M_post : Cond.code y_M_post b_M_post 4 none ∈ zT := zk4 52 rfl rfl
def y_M_push : MethodName := ⟨"AppDeskModel", "push", "(II)V"⟩
abbrev b_M_push : ByteArray := prog_7_method_33_code
theorem kc_M_push : Cond.code y_M_push b_M_push 3 none ∈ zT := zk4 84 rfl rfl
def y_M_queued : MethodName := ⟨"AppDeskModel", "queued", "()I"⟩
abbrev b_M_queued : ByteArray := prog_7_method_41_code
theorem kc_M_queued : Cond.code y_M_queued b_M_queued 1 (some .int) ∈ zT := zk4 100 rfl rfl
def y_M_remove : MethodName := ⟨"AppDeskModel", "remove", "(I)Z"⟩
abbrev b_M_remove : ByteArray := prog_7_method_22_code
theorem kc_M_remove : Cond.code y_M_remove b_M_remove 4 (some .boolean) ∈ zT := zk4 20 rfl rfl
def y_M_revoke : MethodName := ⟨"AppDeskModel", "revoke", "(II)Z"⟩
abbrev b_M_revoke : ByteArray := prog_7_method_24_code
theorem kc_M_revoke : Cond.code y_M_revoke b_M_revoke 3 (some .boolean) ∈ zT := zk4 36 rfl rfl
def y_M_seal : MethodName := ⟨"AppDeskModel", "seal", "(I)V"⟩
abbrev b_M_seal : ByteArray := prog_7_method_13_code
theorem kc_M_seal : Cond.code y_M_seal b_M_seal 2 none ∈ zT := zk3 226 rfl rfl
def y_M_sealed : MethodName := ⟨"AppDeskModel", "sealed", "()I"⟩
abbrev b_M_sealed : ByteArray := prog_7_method_11_code
theorem kc_M_sealed : Cond.code y_M_sealed b_M_sealed 3 (some .int) ∈ zT := zk3 218 rfl rfl
def y_M_send : MethodName := ⟨"AppDeskModel", "send", "(III)Z"⟩
abbrev b_M_send : ByteArray := prog_7_method_29_code
theorem kc_M_send : Cond.code y_M_send b_M_send 4 (some .boolean) ∈ zT := zk4 48 rfl rfl
def y_M_sign : MethodName := ⟨"AppDeskModel", "sign", "()I"⟩
abbrev b_M_sign : ByteArray := prog_7_method_12_code
theorem kc_M_sign : Cond.code y_M_sign b_M_sign 1 (some .int) ∈ zT := zk3 214 rfl rfl
def y_M_step : MethodName := ⟨"AppDeskModel", "step", "()I"⟩
abbrev b_M_step : ByteArray := prog_7_method_36_code
theorem kc_M_step : Cond.code y_M_step b_M_step 3 (some .int) ∈ zT := zk4 64 rfl rfl
def y_M_takes : MethodName := ⟨"AppDeskModel", "takes", "(IIII)Z"⟩
abbrev b_M_takes : ByteArray := prog_7_method_30_code
theorem kc_M_takes : Cond.code y_M_takes b_M_takes 6 (some .boolean) ∈ zT := zk4 60 rfl rfl
def y_M_thrown : MethodName := ⟨"AppDeskModel", "thrown", "()I"⟩
abbrev b_M_thrown : ByteArray := prog_7_method_2_code
theorem kc_M_thrown : Cond.code y_M_thrown b_M_thrown 1 (some .int) ∈ zT := zk3 187 rfl rfl
def y_M_top : MethodName := ⟨"AppDeskModel", "top", "(II)I"⟩
abbrev b_M_top : ByteArray := prog_7_method_32_code
theorem kc_M_top : Cond.code y_M_top b_M_top 3 (some .int) ∈ zT := zk4 72 rfl rfl
def y_M_word : MethodName := ⟨"AppDeskModel", "word", "(I)Z"⟩
abbrev b_M_word : ByteArray := prog_7_method_6_code
theorem kc_M_word : Cond.code y_M_word b_M_word 2 (some .boolean) ∈ zT := zk3 198 rfl rfl
def y_J_bitCount : MethodName := ⟨"java/lang/Integer", "bitCount", "(I)I"⟩
abbrev b_J_bitCount : ByteArray := prog_11_method_49_code
theorem kc_J_bitCount : Cond.code y_J_bitCount b_J_bitCount 1 (some .int) ∈ zT := zk2 107 rfl rfl
def y_J_fill : MethodName := ⟨"java/util/Arrays", "fill", "([II)V"⟩
abbrev b_J_fill : ByteArray := prog_16_method_103_code
theorem kc_J_fill : Cond.code y_J_fill b_J_fill 4 none ∈ zT := zk1 32 rfl rfl
theorem ki_L : Cond.initialized "AppDeskLaw" ∈ zT := zk1 0 rfl rfl
theorem ki_D : Cond.initialized "AppDesk" ∈ zT := zk1 1 rfl rfl
theorem ki_P : Cond.initialized "AppDesk$Pack" ∈ zT := zk1 2 rfl rfl
theorem ki_Arrays : Cond.initialized "java/util/Arrays" ∈ zT := zk1 3 rfl rfl
theorem ki_A : Cond.initialized "AppDesk$App" ∈ zT := zk1 4 rfl rfl
theorem ki_Q : Cond.initialized "AppDesk$IntentQueue" ∈ zT := zk1 5 rfl rfl
theorem ki_V : Cond.initialized "AppDesk$Verifier" ∈ zT := zk1 6 rfl rfl
theorem ki_M : Cond.initialized "AppDeskModel" ∈ zT := zk1 7 rfl rfl
theorem ki_Throwable : Cond.initialized "java/lang/Throwable" ∈ zT := zk1 8 rfl rfl
theorem ki_Exception : Cond.initialized "java/lang/Exception" ∈ zT := zk1 9 rfl rfl
theorem ki_RuntimeException : Cond.initialized "java/lang/RuntimeException" ∈ zT := zk1 10 rfl rfl
theorem ki_IllegalArgumentException : Cond.initialized "java/lang/IllegalArgumentException" ∈ zT := zk1 11 rfl rfl
theorem ki_IllegalStateException : Cond.initialized "java/lang/IllegalStateException" ∈ zT := zk1 12 rfl rfl
theorem ki_System : Cond.initialized "java/lang/System" ∈ zT := zk1 13 rfl rfl
theorem ki_Math : Cond.initialized "java/lang/Math" ∈ zT := zk1 14 rfl rfl
theorem ki_Integer : Cond.initialized "java/lang/Integer" ∈ zT := zk1 15 rfl rfl
theorem kl_L_8 : Cond.classLink "AppDeskLaw" 8 "AppDesk" ∈ zT := zk1 16 rfl rfl
theorem kx_D : Cond.instantiable "AppDesk" 5 ∈ zT := zk1 17 rfl rfl
theorem km_L_20 : Cond.methodLink "AppDeskLaw" 20 y_D_init ∈ zT := zk1 18 rfl rfl
theorem kn_D_init : Cond.instanceMethod y_D_init ∈ zT := zk1 19 rfl rfl
theorem kl_D_7 : Cond.classLink "AppDesk" 7 "AppDesk$Pack" ∈ zT := zk1 24 rfl rfl
theorem kx_P : Cond.instantiable "AppDesk$Pack" 13 ∈ zT := zk1 25 rfl rfl
theorem km_D_9 : Cond.methodLink "AppDesk" 9 y_P_init ∈ zT := zk1 26 rfl rfl
theorem kn_P_init : Cond.instanceMethod y_P_init ∈ zT := zk1 27 rfl rfl
theorem km_P_19 : Cond.methodLink "AppDesk$Pack" 19 y_J_fill ∈ zT := zk1 30 rfl rfl
theorem kt_J_fill : Cond.static y_J_fill ∈ zT := zk1 31 rfl rfl
theorem kf_P_40 : Cond.fieldLink "AppDesk$Pack" 40 "AppDesk$Pack" "name" "I" ∈ zT := zk1 33 rfl rfl
theorem kf_D_90 : Cond.fieldLink "AppDesk" 90 "AppDesk$Pack" "name" "I" ∈ zT := zk1 34 rfl rfl
theorem kf_P_9 : Cond.fieldLink "AppDesk$Pack" 9 "AppDesk$Pack" "version" "I" ∈ zT := zk1 35 rfl rfl
theorem kf_D_152 : Cond.fieldLink "AppDesk" 152 "AppDesk$Pack" "version" "I" ∈ zT := zk1 36 rfl rfl
theorem kf_P_43 : Cond.fieldLink "AppDesk$Pack" 43 "AppDesk$Pack" "signer" "I" ∈ zT := zk1 37 rfl rfl
theorem kf_D_155 : Cond.fieldLink "AppDesk" 155 "AppDesk$Pack" "signer" "I" ∈ zT := zk1 38 rfl rfl
theorem kf_P_46 : Cond.fieldLink "AppDesk$Pack" 46 "AppDesk$Pack" "sealNow" "I" ∈ zT := zk1 39 rfl rfl
theorem kf_D_74 : Cond.fieldLink "AppDesk" 74 "AppDesk$Pack" "sealNow" "I" ∈ zT := zk1 40 rfl rfl
theorem kf_A_36 : Cond.fieldLink "AppDesk$App" 36 "AppDesk$Pack" "asked" "I" ∈ zT := zk1 41 rfl rfl
theorem kf_P_49 : Cond.fieldLink "AppDesk$Pack" 49 "AppDesk$Pack" "asked" "I" ∈ zT := zk1 42 rfl rfl
theorem kf_D_60 : Cond.fieldLink "AppDesk" 60 "AppDesk$Pack" "asked" "I" ∈ zT := zk1 43 rfl rfl
theorem kf_P_15 : Cond.fieldLink "AppDesk$Pack" 15 "AppDesk$Pack" "levels" "[I" ∈ zT := zk1 44 rfl rfl
theorem kf_D_66 : Cond.fieldLink "AppDesk" 66 "AppDesk$Pack" "levels" "[I" ∈ zT := zk1 45 rfl rfl
theorem kf_V_28 : Cond.fieldLink "AppDesk$Verifier" 28 "AppDesk$Pack" "partCount" "I" ∈ zT := zk1 46 rfl rfl
theorem kf_P_52 : Cond.fieldLink "AppDesk$Pack" 52 "AppDesk$Pack" "partCount" "I" ∈ zT := zk1 47 rfl rfl
theorem kf_D_185 : Cond.fieldLink "AppDesk" 185 "AppDesk$Pack" "partCount" "I" ∈ zT := zk1 48 rfl rfl
theorem kf_P_25 : Cond.fieldLink "AppDesk$Pack" 25 "AppDesk$Pack" "actions" "[I" ∈ zT := zk1 49 rfl rfl
theorem kf_D_200 : Cond.fieldLink "AppDesk" 200 "AppDesk$Pack" "actions" "[I" ∈ zT := zk1 50 rfl rfl
theorem kf_P_28 : Cond.fieldLink "AppDesk$Pack" 28 "AppDesk$Pack" "openings" "[I" ∈ zT := zk1 51 rfl rfl
theorem kf_D_197 : Cond.fieldLink "AppDesk" 197 "AppDesk$Pack" "openings" "[I" ∈ zT := zk1 52 rfl rfl
theorem kf_P_31 : Cond.fieldLink "AppDesk$Pack" 31 "AppDesk$Pack" "guards" "[I" ∈ zT := zk1 53 rfl rfl
theorem kf_D_201 : Cond.fieldLink "AppDesk" 201 "AppDesk$Pack" "guards" "[I" ∈ zT := zk1 54 rfl rfl
theorem kf_P_34 : Cond.fieldLink "AppDesk$Pack" 34 "AppDesk$Pack" "places" "[I" ∈ zT := zk1 55 rfl rfl
theorem kf_V_33 : Cond.fieldLink "AppDesk$Verifier" 33 "AppDesk$Pack" "places" "[I" ∈ zT := zk1 56 rfl rfl
theorem kf_D_207 : Cond.fieldLink "AppDesk" 207 "AppDesk$Pack" "places" "[I" ∈ zT := zk1 57 rfl rfl
theorem kf_P_55 : Cond.fieldLink "AppDesk$Pack" 55 "AppDesk$Pack" "wordCount" "I" ∈ zT := zk1 58 rfl rfl
theorem kf_V_44 : Cond.fieldLink "AppDesk$Verifier" 44 "AppDesk$Pack" "wordCount" "I" ∈ zT := zk1 59 rfl rfl
theorem kf_A_69 : Cond.fieldLink "AppDesk$App" 69 "AppDesk$Pack" "wordCount" "I" ∈ zT := zk1 60 rfl rfl
theorem kf_D_188 : Cond.fieldLink "AppDesk" 188 "AppDesk$Pack" "wordCount" "I" ∈ zT := zk1 61 rfl rfl
theorem kf_P_37 : Cond.fieldLink "AppDesk$Pack" 37 "AppDesk$Pack" "words" "[I" ∈ zT := zk1 62 rfl rfl
theorem kf_V_51 : Cond.fieldLink "AppDesk$Verifier" 51 "AppDesk$Pack" "words" "[I" ∈ zT := zk1 63 rfl rfl
theorem kf_A_76 : Cond.fieldLink "AppDesk$App" 76 "AppDesk$Pack" "words" "[I" ∈ zT := zk1 64 rfl rfl
theorem kl_D_16 : Cond.classLink "AppDesk" 16 "AppDesk$App" ∈ zT := zk1 93 rfl rfl
theorem kx_A : Cond.instantiable "AppDesk$App" 10 ∈ zT := zk1 95 rfl rfl
theorem km_D_22 : Cond.methodLink "AppDesk" 22 y_A_init ∈ zT := zk1 96 rfl rfl
theorem kn_A_init : Cond.instanceMethod y_A_init ∈ zT := zk1 97 rfl rfl
theorem kl_A_9 : Cond.classLink "AppDesk$App" 9 "AppDesk$Pack" ∈ zT := zk1 100 rfl rfl
theorem km_A_11 : Cond.methodLink "AppDesk$App" 11 y_P_init ∈ zT := zk1 101 rfl rfl
theorem kf_A_43 : Cond.fieldLink "AppDesk$App" 43 "AppDesk$App" "installed" "Z" ∈ zT := zk1 102 rfl rfl
theorem kf_D_182 : Cond.fieldLink "AppDesk" 182 "AppDesk$App" "installed" "Z" ∈ zT := zk1 103 rfl rfl
theorem kf_A_12 : Cond.fieldLink "AppDesk$App" 12 "AppDesk$App" "pack" "LAppDesk$Pack;" ∈ zT := zk1 104 rfl rfl
theorem kf_D_107 : Cond.fieldLink "AppDesk" 107 "AppDesk$App" "pack" "LAppDesk$Pack;" ∈ zT := zk1 105 rfl rfl
theorem kf_A_32 : Cond.fieldLink "AppDesk$App" 32 "AppDesk$App" "granted" "I" ∈ zT := zk1 106 rfl rfl
theorem kf_D_113 : Cond.fieldLink "AppDesk" 113 "AppDesk$App" "granted" "I" ∈ zT := zk1 107 rfl rfl
theorem kf_A_46 : Cond.fieldLink "AppDesk$App" 46 "AppDesk$App" "keptKeys" "I" ∈ zT := zk1 108 rfl rfl
theorem kf_D_167 : Cond.fieldLink "AppDesk" 167 "AppDesk$App" "keptKeys" "I" ∈ zT := zk1 109 rfl rfl
theorem kf_A_18 : Cond.fieldLink "AppDesk$App" 18 "AppDesk$App" "keptValues" "[I" ∈ zT := zk1 110 rfl rfl
theorem kf_A_39 : Cond.fieldLink "AppDesk$App" 39 "AppDesk$App" "runs" "Z" ∈ zT := zk1 111 rfl rfl
theorem kf_D_148 : Cond.fieldLink "AppDesk" 148 "AppDesk$App" "runs" "Z" ∈ zT := zk1 112 rfl rfl
theorem kf_A_49 : Cond.fieldLink "AppDesk$App" 49 "AppDesk$App" "place" "I" ∈ zT := zk1 113 rfl rfl
theorem kf_D_158 : Cond.fieldLink "AppDesk" 158 "AppDesk$App" "place" "I" ∈ zT := zk1 114 rfl rfl
theorem kf_A_52 : Cond.fieldLink "AppDesk$App" 52 "AppDesk$App" "height" "I" ∈ zT := zk1 115 rfl rfl
theorem kf_D_161 : Cond.fieldLink "AppDesk" 161 "AppDesk$App" "height" "I" ∈ zT := zk1 116 rfl rfl
theorem kf_A_22 : Cond.fieldLink "AppDesk$App" 22 "AppDesk$App" "stack" "[I" ∈ zT := zk1 117 rfl rfl
theorem kf_A_25 : Cond.fieldLink "AppDesk$App" 25 "AppDesk$App" "locals" "[I" ∈ zT := zk1 118 rfl rfl
theorem kl_D_23 : Cond.classLink "AppDesk" 23 "AppDesk$IntentQueue" ∈ zT := zk1 140 rfl rfl
theorem kx_Q : Cond.instantiable "AppDesk$IntentQueue" 4 ∈ zT := zk1 141 rfl rfl
theorem km_D_25 : Cond.methodLink "AppDesk" 25 y_Q_init ∈ zT := zk1 142 rfl rfl
theorem kn_Q_init : Cond.instanceMethod y_Q_init ∈ zT := zk1 143 rfl rfl
theorem kf_Q_21 : Cond.fieldLink "AppDesk$IntentQueue" 21 "AppDesk$IntentQueue" "size" "I" ∈ zT := zk1 146 rfl rfl
theorem kf_D_120 : Cond.fieldLink "AppDesk" 120 "AppDesk$IntentQueue" "size" "I" ∈ zT := zk1 147 rfl rfl
theorem kf_Q_9 : Cond.fieldLink "AppDesk$IntentQueue" 9 "AppDesk$IntentQueue" "senders" "[I" ∈ zT := zk1 148 rfl rfl
theorem kf_D_123 : Cond.fieldLink "AppDesk" 123 "AppDesk$IntentQueue" "senders" "[I" ∈ zT := zk1 149 rfl rfl
theorem kf_Q_15 : Cond.fieldLink "AppDesk$IntentQueue" 15 "AppDesk$IntentQueue" "actions" "[I" ∈ zT := zk1 150 rfl rfl
theorem kf_D_126 : Cond.fieldLink "AppDesk" 126 "AppDesk$IntentQueue" "actions" "[I" ∈ zT := zk1 151 rfl rfl
theorem kf_Q_18 : Cond.fieldLink "AppDesk$IntentQueue" 18 "AppDesk$IntentQueue" "values" "[I" ∈ zT := zk1 152 rfl rfl
theorem kf_D_129 : Cond.fieldLink "AppDesk" 129 "AppDesk$IntentQueue" "values" "[I" ∈ zT := zk1 153 rfl rfl
theorem kl_D_30 : Cond.classLink "AppDesk" 30 "AppDesk$Verifier" ∈ zT := zk1 163 rfl rfl
theorem kx_V : Cond.instantiable "AppDesk$Verifier" 3 ∈ zT := zk1 164 rfl rfl
theorem km_D_32 : Cond.methodLink "AppDesk" 32 y_V_init ∈ zT := zk1 165 rfl rfl
theorem kn_V_init : Cond.instanceMethod y_V_init ∈ zT := zk1 166 rfl rfl
theorem kf_V_9 : Cond.fieldLink "AppDesk$Verifier" 9 "AppDesk$Verifier" "heights" "[I" ∈ zT := zk1 169 rfl rfl
theorem kf_V_15 : Cond.fieldLink "AppDesk$Verifier" 15 "AppDesk$Verifier" "reached" "[I" ∈ zT := zk1 170 rfl rfl
theorem kf_V_24 : Cond.fieldLink "AppDesk$Verifier" 24 "AppDesk$Verifier" "reachedCount" "I" ∈ zT := zk1 171 rfl rfl
theorem kf_D_10 : Cond.fieldLink "AppDesk" 10 "AppDesk" "draftPack" "LAppDesk$Pack;" ∈ zT := zk1 179 rfl rfl
theorem kf_D_18 : Cond.fieldLink "AppDesk" 18 "AppDesk" "apps" "[LAppDesk$App;" ∈ zT := zk1 180 rfl rfl
theorem kf_D_26 : Cond.fieldLink "AppDesk" 26 "AppDesk" "intents" "LAppDesk$IntentQueue;" ∈ zT := zk1 181 rfl rfl
theorem kf_D_33 : Cond.fieldLink "AppDesk" 33 "AppDesk" "verifier" "LAppDesk$Verifier;" ∈ zT := zk1 182 rfl rfl
theorem kf_D_37 : Cond.fieldLink "AppDesk" 37 "AppDesk" "lastToStep" "I" ∈ zT := zk1 183 rfl rfl
theorem km_L_24 : Cond.methodLink "AppDeskLaw" 24 y_D_draft ∈ zT := zk1 195 rfl rfl
theorem kn_D_draft : Cond.instanceMethod y_D_draft ∈ zT := zk1 196 rfl rfl
theorem ks_D_draft : Cond.selects "AppDesk" y_D_draft y_D_draft ∈ zT := zk1 197 rfl rfl
theorem km_D_41 : Cond.methodLink "AppDesk" 41 y_D_isBelow ∈ zT := zk1 199 rfl rfl
theorem kt_D_isBelow : Cond.static y_D_isBelow ∈ zT := zk1 200 rfl rfl
theorem km_D_45 : Cond.methodLink "AppDesk" 45 y_P_beginAnew ∈ zT := zk1 202 rfl rfl
theorem kn_P_beginAnew : Cond.instanceMethod y_P_beginAnew ∈ zT := zk1 203 rfl rfl
theorem ks_P_beginAnew : Cond.selects "AppDesk$Pack" y_P_beginAnew y_P_beginAnew ∈ zT := zk1 204 rfl rfl
theorem km_L_29 : Cond.methodLink "AppDeskLaw" 29 y_D_word ∈ zT := zk1 206 rfl rfl
theorem kn_D_word : Cond.instanceMethod y_D_word ∈ zT := zk1 207 rfl rfl
theorem ks_D_word : Cond.selects "AppDesk" y_D_word y_D_word ∈ zT := zk1 208 rfl rfl
theorem km_D_49 : Cond.methodLink "AppDesk" 49 y_P_addWord ∈ zT := zk1 210 rfl rfl
theorem kn_P_addWord : Cond.instanceMethod y_P_addWord ∈ zT := zk1 211 rfl rfl
theorem ks_P_addWord : Cond.selects "AppDesk$Pack" y_P_addWord y_P_addWord ∈ zT := zk1 212 rfl rfl
theorem km_L_34 : Cond.methodLink "AppDeskLaw" 34 y_D_part ∈ zT := zk1 214 rfl rfl
theorem kn_D_part : Cond.instanceMethod y_D_part ∈ zT := zk1 215 rfl rfl
theorem ks_D_part : Cond.selects "AppDesk" y_D_part y_D_part ∈ zT := zk1 216 rfl rfl
theorem km_D_53 : Cond.methodLink "AppDesk" 53 y_P_addPart ∈ zT := zk1 218 rfl rfl
theorem kn_P_addPart : Cond.instanceMethod y_P_addPart ∈ zT := zk1 219 rfl rfl
theorem ks_P_addPart : Cond.selects "AppDesk$Pack" y_P_addPart y_P_addPart ∈ zT := zk1 220 rfl rfl
theorem km_L_39 : Cond.methodLink "AppDeskLaw" 39 y_D_ask ∈ zT := zk1 222 rfl rfl
theorem kn_D_ask : Cond.instanceMethod y_D_ask ∈ zT := zk1 223 rfl rfl
theorem ks_D_ask : Cond.selects "AppDesk" y_D_ask y_D_ask ∈ zT := zk1 224 rfl rfl
theorem km_D_57 : Cond.methodLink "AppDesk" 57 y_P_asksFor ∈ zT := zk1 226 rfl rfl
theorem kn_P_asksFor : Cond.instanceMethod y_P_asksFor ∈ zT := zk1 227 rfl rfl
theorem ks_P_asksFor : Cond.selects "AppDesk$Pack" y_P_asksFor y_P_asksFor ∈ zT := zk1 228 rfl rfl
theorem kt_D_hasBit : Cond.static y_D_hasBit ∈ zT := zk1 231 rfl rfl
theorem km_L_43 : Cond.methodLink "AppDeskLaw" 43 y_D_declare ∈ zT := zk1 233 rfl rfl
theorem kn_D_declare : Cond.instanceMethod y_D_declare ∈ zT := zk1 234 rfl rfl
theorem ks_D_declare : Cond.selects "AppDesk" y_D_declare y_D_declare ∈ zT := zk1 235 rfl rfl
theorem km_D_63 : Cond.methodLink "AppDesk" 63 y_P_declares ∈ zT := zk1 237 rfl rfl
theorem kn_P_declares : Cond.instanceMethod y_P_declares ∈ zT := zk1 238 rfl rfl
theorem ks_P_declares : Cond.selects "AppDesk$Pack" y_P_declares y_P_declares ∈ zT := zk1 239 rfl rfl
theorem km_L_48 : Cond.methodLink "AppDeskLaw" 48 y_D_sign ∈ zT := zk2 2 rfl rfl
theorem kn_D_sign : Cond.instanceMethod y_D_sign ∈ zT := zk2 3 rfl rfl
theorem ks_D_sign : Cond.selects "AppDesk" y_D_sign y_D_sign ∈ zT := zk2 4 rfl rfl
theorem km_D_70 : Cond.methodLink "AppDesk" 70 y_P_sealOfSigner ∈ zT := zk2 6 rfl rfl
theorem kn_P_sealOfSigner : Cond.instanceMethod y_P_sealOfSigner ∈ zT := zk2 7 rfl rfl
theorem ks_P_sealOfSigner : Cond.selects "AppDesk$Pack" y_P_sealOfSigner y_P_sealOfSigner ∈ zT := zk2 8 rfl rfl
theorem km_P_76 : Cond.methodLink "AppDesk$Pack" 76 y_P_digest ∈ zT := zk2 10 rfl rfl
theorem kn_P_digest : Cond.instanceMethod y_P_digest ∈ zT := zk2 12 rfl rfl
theorem km_P_81 : Cond.methodLink "AppDesk$Pack" 81 y_P_mix ∈ zT := zk2 14 rfl rfl
theorem kt_P_mix : Cond.static y_P_mix ∈ zT := zk2 15 rfl rfl
theorem km_P_85 : Cond.methodLink "AppDesk$Pack" 85 y_P_declares ∈ zT := zk2 17 rfl rfl
theorem kk_P_80 : Cond.constant "AppDesk$Pack" 80 1000003 ∈ zT := zk2 18 rfl rfl
theorem km_L_52 : Cond.methodLink "AppDeskLaw" 52 y_D_seal ∈ zT := zk2 19 rfl rfl
theorem kn_D_seal : Cond.instanceMethod y_D_seal ∈ zT := zk2 20 rfl rfl
theorem ks_D_seal : Cond.selects "AppDesk" y_D_seal y_D_seal ∈ zT := zk2 21 rfl rfl
theorem km_L_66 : Cond.methodLink "AppDeskLaw" 66 y_D_remove ∈ zT := zk2 23 rfl rfl
theorem kn_D_remove : Cond.instanceMethod y_D_remove ∈ zT := zk2 24 rfl rfl
theorem ks_D_remove : Cond.selects "AppDesk" y_D_remove y_D_remove ∈ zT := zk2 25 rfl rfl
theorem km_D_97 : Cond.methodLink "AppDesk" 97 y_D_isInstalled ∈ zT := zk2 27 rfl rfl
theorem kn_D_isInstalled : Cond.instanceMethod y_D_isInstalled ∈ zT := zk2 29 rfl rfl
theorem km_D_100 : Cond.methodLink "AppDesk" 100 y_A_clearAway ∈ zT := zk2 31 rfl rfl
theorem kn_A_clearAway : Cond.instanceMethod y_A_clearAway ∈ zT := zk2 32 rfl rfl
theorem ks_A_clearAway : Cond.selects "AppDesk$App" y_A_clearAway y_A_clearAway ∈ zT := zk2 33 rfl rfl
theorem km_D_103 : Cond.methodLink "AppDesk" 103 y_Q_dropAllOf ∈ zT := zk2 35 rfl rfl
theorem kn_Q_dropAllOf : Cond.instanceMethod y_Q_dropAllOf ∈ zT := zk2 36 rfl rfl
theorem ks_Q_dropAllOf : Cond.selects "AppDesk$IntentQueue" y_Q_dropAllOf y_Q_dropAllOf ∈ zT := zk2 37 rfl rfl
theorem km_Q_25 : Cond.methodLink "AppDesk$IntentQueue" 25 y_Q_setRow ∈ zT := zk2 39 rfl rfl
theorem kn_Q_setRow : Cond.instanceMethod y_Q_setRow ∈ zT := zk2 41 rfl rfl
theorem km_L_70 : Cond.methodLink "AppDeskLaw" 70 y_D_grant ∈ zT := zk2 43 rfl rfl
theorem kn_D_grant : Cond.instanceMethod y_D_grant ∈ zT := zk2 44 rfl rfl
theorem ks_D_grant : Cond.selects "AppDesk" y_D_grant y_D_grant ∈ zT := zk2 45 rfl rfl
theorem km_D_110 : Cond.methodLink "AppDesk" 110 y_A_wasGranted ∈ zT := zk2 47 rfl rfl
theorem kn_A_wasGranted : Cond.instanceMethod y_A_wasGranted ∈ zT := zk2 48 rfl rfl
theorem ks_A_wasGranted : Cond.selects "AppDesk$App" y_A_wasGranted y_A_wasGranted ∈ zT := zk2 49 rfl rfl
theorem km_L_74 : Cond.methodLink "AppDeskLaw" 74 y_D_revoke ∈ zT := zk2 52 rfl rfl
theorem kn_D_revoke : Cond.instanceMethod y_D_revoke ∈ zT := zk2 53 rfl rfl
theorem ks_D_revoke : Cond.selects "AppDesk" y_D_revoke y_D_revoke ∈ zT := zk2 54 rfl rfl
theorem km_L_78 : Cond.methodLink "AppDeskLaw" 78 y_D_send ∈ zT := zk2 56 rfl rfl
theorem kn_D_send : Cond.instanceMethod y_D_send ∈ zT := zk2 57 rfl rfl
theorem ks_D_send : Cond.selects "AppDesk" y_D_send y_D_send ∈ zT := zk2 58 rfl rfl
theorem km_D_116 : Cond.methodLink "AppDesk" 116 y_Q_add ∈ zT := zk2 60 rfl rfl
theorem kn_Q_add : Cond.instanceMethod y_Q_add ∈ zT := zk2 61 rfl rfl
theorem ks_Q_add : Cond.selects "AppDesk$IntentQueue" y_Q_add y_Q_add ∈ zT := zk2 62 rfl rfl
theorem km_L_82 : Cond.methodLink "AppDeskLaw" 82 y_D_deliver ∈ zT := zk2 64 rfl rfl
theorem kn_D_deliver : Cond.instanceMethod y_D_deliver ∈ zT := zk2 65 rfl rfl
theorem ks_D_deliver : Cond.selects "AppDesk" y_D_deliver y_D_deliver ∈ zT := zk2 66 rfl rfl
theorem km_D_132 : Cond.methodLink "AppDesk" 132 y_Q_dropFirst ∈ zT := zk2 68 rfl rfl
theorem kn_Q_dropFirst : Cond.instanceMethod y_Q_dropFirst ∈ zT := zk2 69 rfl rfl
theorem ks_Q_dropFirst : Cond.selects "AppDesk$IntentQueue" y_Q_dropFirst y_Q_dropFirst ∈ zT := zk2 70 rfl rfl
theorem km_D_135 : Cond.methodLink "AppDesk" 135 y_D_placeToBegin ∈ zT := zk2 75 rfl rfl
theorem kn_D_placeToBegin : Cond.instanceMethod y_D_placeToBegin ∈ zT := zk2 77 rfl rfl
theorem km_D_204 : Cond.methodLink "AppDesk" 204 y_D_passesGuard ∈ zT := zk2 79 rfl rfl
theorem kn_D_passesGuard : Cond.instanceMethod y_D_passesGuard ∈ zT := zk2 81 rfl rfl
theorem km_D_210 : Cond.methodLink "AppDesk" 210 y_D_holds ∈ zT := zk2 83 rfl rfl
theorem kn_D_holds : Cond.instanceMethod y_D_holds ∈ zT := zk2 84 rfl rfl
theorem ks_D_holds : Cond.selects "AppDesk" y_D_holds y_D_holds ∈ zT := zk2 85 rfl rfl
theorem km_D_176 : Cond.methodLink "AppDesk" 176 y_D_declarerOf ∈ zT := zk2 87 rfl rfl
theorem kn_D_declarerOf : Cond.instanceMethod y_D_declarerOf ∈ zT := zk2 89 rfl rfl
theorem km_D_139 : Cond.methodLink "AppDesk" 139 y_A_begin ∈ zT := zk2 91 rfl rfl
theorem kn_A_begin : Cond.instanceMethod y_A_begin ∈ zT := zk2 92 rfl rfl
theorem ks_A_begin : Cond.selects "AppDesk$App" y_A_begin y_A_begin ∈ zT := zk2 93 rfl rfl
theorem km_A_55 : Cond.methodLink "AppDesk$App" 55 y_J_fill ∈ zT := zk2 95 rfl rfl
theorem km_L_89 : Cond.methodLink "AppDeskLaw" 89 y_D_app ∈ zT := zk2 96 rfl rfl
theorem kn_D_app : Cond.instanceMethod y_D_app ∈ zT := zk2 97 rfl rfl
theorem ks_D_app : Cond.selects "AppDesk" y_D_app y_D_app ∈ zT := zk2 98 rfl rfl
theorem km_D_164 : Cond.methodLink "AppDesk" 164 y_A_uppermost ∈ zT := zk2 100 rfl rfl
theorem kn_A_uppermost : Cond.instanceMethod y_A_uppermost ∈ zT := zk2 101 rfl rfl
theorem ks_A_uppermost : Cond.selects "AppDesk$App" y_A_uppermost y_A_uppermost ∈ zT := zk2 102 rfl rfl
theorem km_D_170 : Cond.methodLink "AppDesk" 170 y_J_bitCount ∈ zT := zk2 105 rfl rfl
theorem kt_J_bitCount : Cond.static y_J_bitCount ∈ zT := zk2 106 rfl rfl
theorem kk_J_265 : Cond.constant "java/lang/Integer" 265 1431655765 ∈ zT := zk2 108 rfl rfl
theorem kk_J_266 : Cond.constant "java/lang/Integer" 266 858993459 ∈ zT := zk2 109 rfl rfl
theorem kk_J_267 : Cond.constant "java/lang/Integer" 267 252645135 ∈ zT := zk2 110 rfl rfl
theorem km_L_94 : Cond.methodLink "AppDeskLaw" 94 y_D_holds ∈ zT := zk2 111 rfl rfl
theorem km_L_98 : Cond.methodLink "AppDeskLaw" 98 y_D_kept ∈ zT := zk2 112 rfl rfl
theorem kn_D_kept : Cond.instanceMethod y_D_kept ∈ zT := zk2 113 rfl rfl
theorem ks_D_kept : Cond.selects "AppDesk" y_D_kept y_D_kept ∈ zT := zk2 114 rfl rfl
theorem km_D_179 : Cond.methodLink "AppDesk" 179 y_A_valueUnder ∈ zT := zk2 116 rfl rfl
theorem kn_A_valueUnder : Cond.instanceMethod y_A_valueUnder ∈ zT := zk2 117 rfl rfl
theorem ks_A_valueUnder : Cond.selects "AppDesk$App" y_A_valueUnder y_A_valueUnder ∈ zT := zk2 118 rfl rfl
theorem km_A_65 : Cond.methodLink "AppDesk$App" 65 y_A_keepsUnder ∈ zT := zk2 120 rfl rfl
theorem kn_A_keepsUnder : Cond.instanceMethod y_A_keepsUnder ∈ zT := zk2 121 rfl rfl
theorem ks_A_keepsUnder : Cond.selects "AppDesk$App" y_A_keepsUnder y_A_keepsUnder ∈ zT := zk2 122 rfl rfl
theorem km_L_102 : Cond.methodLink "AppDeskLaw" 102 y_D_queued ∈ zT := zk2 124 rfl rfl
theorem kn_D_queued : Cond.instanceMethod y_D_queued ∈ zT := zk2 125 rfl rfl
theorem ks_D_queued : Cond.selects "AppDesk" y_D_queued y_D_queued ∈ zT := zk2 126 rfl rfl
theorem km_L_57 : Cond.methodLink "AppDeskLaw" 57 y_L_install ∈ zT := zk2 128 rfl rfl
theorem kt_L_install : Cond.static y_L_install ∈ zT := zk2 129 rfl rfl
theorem kl_L_13 : Cond.classLink "AppDeskLaw" 13 "java/lang/IllegalArgumentException" ∈ zT := zk2 131 rfl rfl
theorem kl_L_15 : Cond.classLink "AppDeskLaw" 15 "java/lang/IllegalStateException" ∈ zT := zk2 132 rfl rfl
theorem km_L_7 : Cond.methodLink "AppDeskLaw" 7 y_D_install ∈ zT := zk2 133 rfl rfl
theorem kn_D_install : Cond.instanceMethod y_D_install ∈ zT := zk2 134 rfl rfl
theorem ks_D_install : Cond.selects "AppDesk" y_D_install y_D_install ∈ zT := zk2 135 rfl rfl
theorem km_D_77 : Cond.methodLink "AppDesk" 77 y_D_isSound ∈ zT := zk2 137 rfl rfl
theorem kn_D_isSound : Cond.instanceMethod y_D_isSound ∈ zT := zk2 139 rfl rfl
theorem km_D_191 : Cond.methodLink "AppDesk" 191 y_V_isGood ∈ zT := zk2 141 rfl rfl
theorem kn_V_isGood : Cond.instanceMethod y_V_isGood ∈ zT := zk2 142 rfl rfl
theorem ks_V_isGood : Cond.selects "AppDesk$Verifier" y_V_isGood y_V_isGood ∈ zT := zk2 143 rfl rfl
theorem km_V_18 : Cond.methodLink "AppDesk$Verifier" 18 y_J_fill ∈ zT := zk2 145 rfl rfl
theorem km_V_36 : Cond.methodLink "AppDesk$Verifier" 36 y_V_reach ∈ zT := zk2 146 rfl rfl
theorem kn_V_reach : Cond.instanceMethod y_V_reach ∈ zT := zk2 148 rfl rfl
theorem km_V_40 : Cond.methodLink "AppDesk$Verifier" 40 y_V_goesOnWell ∈ zT := zk2 151 rfl rfl
theorem kn_V_goesOnWell : Cond.instanceMethod y_V_goesOnWell ∈ zT := zk2 153 rfl rfl
theorem kt_D_operationOf : Cond.static y_D_operationOf ∈ zT := zk2 156 rfl rfl
theorem kt_D_argumentOf : Cond.static y_D_argumentOf ∈ zT := zk2 159 rfl rfl
theorem km_V_61 : Cond.methodLink "AppDesk$Verifier" 61 y_V_hasGoodArgument ∈ zT := zk2 161 rfl rfl
theorem kt_V_hasGoodArgument : Cond.static y_V_hasGoodArgument ∈ zT := zk2 162 rfl rfl
theorem kf_V_64 : Cond.fieldLink "AppDesk$Verifier" 64 "AppDesk$Verifier" "NEEDS" "[I" ∈ zT := zk2 164 rfl rfl
theorem kf_V_67 : Cond.fieldLink "AppDesk$Verifier" 67 "AppDesk$Verifier" "LEAVES" "[I" ∈ zT := zk2 166 rfl rfl
theorem kl_D_81 : Cond.classLink "AppDesk" 81 "java/lang/IllegalArgumentException" ∈ zT := zk2 168 rfl rfl
theorem km_D_84 : Cond.methodLink "AppDesk" 84 y_D_mayEnter ∈ zT := zk2 230 rfl rfl
theorem kn_D_mayEnter : Cond.instanceMethod y_D_mayEnter ∈ zT := zk2 232 rfl rfl
theorem km_D_194 : Cond.methodLink "AppDesk" 194 y_D_isDeclaredByOther ∈ zT := zk2 234 rfl rfl
theorem kn_D_isDeclaredByOther : Cond.instanceMethod y_D_isDeclaredByOther ∈ zT := zk2 236 rfl rfl
theorem kl_D_87 : Cond.classLink "AppDesk" 87 "java/lang/IllegalStateException" ∈ zT := zk2 238 rfl rfl
theorem km_D_93 : Cond.methodLink "AppDesk" 93 y_A_takeIn ∈ zT := zk3 13 rfl rfl
theorem kn_A_takeIn : Cond.instanceMethod y_A_takeIn ∈ zT := zk3 14 rfl rfl
theorem ks_A_takeIn : Cond.selects "AppDesk$App" y_A_takeIn y_A_takeIn ∈ zT := zk3 15 rfl rfl
theorem km_A_28 : Cond.methodLink "AppDesk$App" 28 y_P_copyFrom ∈ zT := zk3 17 rfl rfl
theorem kn_P_copyFrom : Cond.instanceMethod y_P_copyFrom ∈ zT := zk3 18 rfl rfl
theorem ks_P_copyFrom : Cond.selects "AppDesk$Pack" y_P_copyFrom y_P_copyFrom ∈ zT := zk3 19 rfl rfl
theorem km_P_58 : Cond.methodLink "AppDesk$Pack" 58 y_P_beginAnew ∈ zT := zk3 21 rfl rfl
theorem km_L_86 : Cond.methodLink "AppDeskLaw" 86 y_L_step ∈ zT := zk3 25 rfl rfl
theorem kt_L_step : Cond.static y_L_step ∈ zT := zk3 26 rfl rfl
theorem km_L_17 : Cond.methodLink "AppDeskLaw" 17 y_D_step ∈ zT := zk3 28 rfl rfl
theorem kn_D_step : Cond.instanceMethod y_D_step ∈ zT := zk3 29 rfl rfl
theorem ks_D_step : Cond.selects "AppDesk" y_D_step y_D_step ∈ zT := zk3 30 rfl rfl
theorem km_D_142 : Cond.methodLink "AppDesk" 142 y_D_nextInTurn ∈ zT := zk3 32 rfl rfl
theorem kn_D_nextInTurn : Cond.instanceMethod y_D_nextInTurn ∈ zT := zk3 34 rfl rfl
theorem km_D_145 : Cond.methodLink "AppDesk" 145 y_D_doWord ∈ zT := zk3 36 rfl rfl
theorem kn_D_doWord : Cond.instanceMethod y_D_doWord ∈ zT := zk3 38 rfl rfl
theorem km_D_213 : Cond.methodLink "AppDesk" 213 y_A_wordInPlace ∈ zT := zk3 40 rfl rfl
theorem kn_A_wordInPlace : Cond.instanceMethod y_A_wordInPlace ∈ zT := zk3 41 rfl rfl
theorem ks_A_wordInPlace : Cond.selects "AppDesk$App" y_A_wordInPlace y_A_wordInPlace ∈ zT := zk3 42 rfl rfl
theorem km_D_216 : Cond.methodLink "AppDesk" 216 y_D_operationOf ∈ zT := zk3 44 rfl rfl
theorem km_D_219 : Cond.methodLink "AppDesk" 219 y_D_sendFromStack ∈ zT := zk3 45 rfl rfl
theorem kn_D_sendFromStack : Cond.instanceMethod y_D_sendFromStack ∈ zT := zk3 47 rfl rfl
theorem km_D_242 : Cond.methodLink "AppDesk" 242 y_A_secondUppermost ∈ zT := zk3 49 rfl rfl
theorem kn_A_secondUppermost : Cond.instanceMethod y_A_secondUppermost ∈ zT := zk3 50 rfl rfl
theorem ks_A_secondUppermost : Cond.selects "AppDesk$App" y_A_secondUppermost y_A_secondUppermost ∈ zT := zk3 51 rfl rfl
theorem km_D_245 : Cond.methodLink "AppDesk" 245 y_A_pop ∈ zT := zk3 53 rfl rfl
theorem kn_A_pop : Cond.instanceMethod y_A_pop ∈ zT := zk3 54 rfl rfl
theorem ks_A_pop : Cond.selects "AppDesk$App" y_A_pop y_A_pop ∈ zT := zk3 55 rfl rfl
theorem km_A_79 : Cond.methodLink "AppDesk$App" 79 y_A_uppermost ∈ zT := zk3 57 rfl rfl
theorem km_D_222 : Cond.methodLink "AppDesk" 222 y_D_argumentOf ∈ zT := zk3 59 rfl rfl
theorem km_D_225 : Cond.methodLink "AppDesk" 225 y_A_push ∈ zT := zk3 60 rfl rfl
theorem kn_A_push : Cond.instanceMethod y_A_push ∈ zT := zk3 61 rfl rfl
theorem ks_A_push : Cond.selects "AppDesk$App" y_A_push y_A_push ∈ zT := zk3 62 rfl rfl
theorem km_D_228 : Cond.methodLink "AppDesk" 228 y_A_getKept ∈ zT := zk3 64 rfl rfl
theorem kn_A_getKept : Cond.instanceMethod y_A_getKept ∈ zT := zk3 65 rfl rfl
theorem ks_A_getKept : Cond.selects "AppDesk$App" y_A_getKept y_A_getKept ∈ zT := zk3 66 rfl rfl
theorem km_A_89 : Cond.methodLink "AppDesk$App" 89 y_A_pop ∈ zT := zk3 68 rfl rfl
theorem km_A_100 : Cond.methodLink "AppDesk$App" 100 y_A_valueUnder ∈ zT := zk3 69 rfl rfl
theorem km_A_92 : Cond.methodLink "AppDesk$App" 92 y_A_push ∈ zT := zk3 70 rfl rfl
theorem km_D_232 : Cond.methodLink "AppDesk" 232 y_A_keepUppermost ∈ zT := zk3 71 rfl rfl
theorem kn_A_keepUppermost : Cond.instanceMethod y_A_keepUppermost ∈ zT := zk3 72 rfl rfl
theorem ks_A_keepUppermost : Cond.selects "AppDesk$App" y_A_keepUppermost y_A_keepUppermost ∈ zT := zk3 73 rfl rfl
theorem km_A_104 : Cond.methodLink "AppDesk$App" 104 y_A_secondUppermost ∈ zT := zk3 75 rfl rfl
theorem km_A_107 : Cond.methodLink "AppDesk$App" 107 y_J_bitCount ∈ zT := zk3 76 rfl rfl
theorem km_D_235 : Cond.methodLink "AppDesk" 235 y_A_doTurn ∈ zT := zk3 77 rfl rfl
theorem kn_A_doTurn : Cond.instanceMethod y_A_doTurn ∈ zT := zk3 78 rfl rfl
theorem ks_A_doTurn : Cond.selects "AppDesk$App" y_A_doTurn y_A_doTurn ∈ zT := zk3 79 rfl rfl
theorem km_D_239 : Cond.methodLink "AppDesk" 239 y_A_doPlainWord ∈ zT := zk3 81 rfl rfl
theorem kn_A_doPlainWord : Cond.instanceMethod y_A_doPlainWord ∈ zT := zk3 82 rfl rfl
theorem ks_A_doPlainWord : Cond.selects "AppDesk$App" y_A_doPlainWord y_A_doPlainWord ∈ zT := zk3 83 rfl rfl
theorem km_A_96 : Cond.methodLink "AppDesk$App" 96 y_A_storeInto ∈ zT := zk3 85 rfl rfl
theorem kn_A_storeInto : Cond.instanceMethod y_A_storeInto ∈ zT := zk3 87 rfl rfl
theorem kl_L_21 : Cond.classLink "AppDeskLaw" 21 "AppDeskModel" ∈ zT := zk3 89 rfl rfl
theorem kx_M : Cond.instantiable "AppDeskModel" 29 ∈ zT := zk3 90 rfl rfl
theorem km_L_23 : Cond.methodLink "AppDeskLaw" 23 y_M_init ∈ zT := zk3 91 rfl rfl
theorem kn_M_init : Cond.instanceMethod y_M_init ∈ zT := zk3 92 rfl rfl
theorem kf_M_90 : Cond.fieldLink "AppDeskModel" 90 "AppDeskModel" "thrown" "I" ∈ zT := zk3 95 rfl rfl
theorem kf_M_7 : Cond.fieldLink "AppDeskModel" 7 "AppDeskModel" "there" "[Z" ∈ zT := zk3 96 rfl rfl
theorem kf_M_13 : Cond.fieldLink "AppDeskModel" 13 "AppDeskModel" "version" "[I" ∈ zT := zk3 97 rfl rfl
theorem kf_M_17 : Cond.fieldLink "AppDeskModel" 17 "AppDeskModel" "signer" "[I" ∈ zT := zk3 98 rfl rfl
theorem kf_M_20 : Cond.fieldLink "AppDeskModel" 20 "AppDeskModel" "seal" "[I" ∈ zT := zk3 99 rfl rfl
theorem kf_M_23 : Cond.fieldLink "AppDeskModel" 23 "AppDeskModel" "asks" "[I" ∈ zT := zk3 100 rfl rfl
theorem kf_M_26 : Cond.fieldLink "AppDeskModel" 26 "AppDeskModel" "declares" "[I" ∈ zT := zk3 101 rfl rfl
theorem kf_M_29 : Cond.fieldLink "AppDeskModel" 29 "AppDeskModel" "parts" "[I" ∈ zT := zk3 102 rfl rfl
theorem kf_M_32 : Cond.fieldLink "AppDeskModel" 32 "AppDeskModel" "action" "[I" ∈ zT := zk3 103 rfl rfl
theorem kf_M_35 : Cond.fieldLink "AppDeskModel" 35 "AppDeskModel" "open" "[Z" ∈ zT := zk3 104 rfl rfl
theorem kf_M_38 : Cond.fieldLink "AppDeskModel" 38 "AppDeskModel" "guard" "[I" ∈ zT := zk3 105 rfl rfl
theorem kf_M_41 : Cond.fieldLink "AppDeskModel" 41 "AppDeskModel" "begin" "[I" ∈ zT := zk3 106 rfl rfl
theorem kf_M_44 : Cond.fieldLink "AppDeskModel" 44 "AppDeskModel" "words" "[I" ∈ zT := zk3 107 rfl rfl
theorem kf_M_47 : Cond.fieldLink "AppDeskModel" 47 "AppDeskModel" "code" "[I" ∈ zT := zk3 108 rfl rfl
theorem kf_M_97 : Cond.fieldLink "AppDeskModel" 97 "AppDeskModel" "draftName" "I" ∈ zT := zk3 109 rfl rfl
theorem kf_M_50 : Cond.fieldLink "AppDeskModel" 50 "AppDeskModel" "has" "[Z" ∈ zT := zk3 110 rfl rfl
theorem kf_M_53 : Cond.fieldLink "AppDeskModel" 53 "AppDeskModel" "value" "[I" ∈ zT := zk3 111 rfl rfl
theorem kf_M_56 : Cond.fieldLink "AppDeskModel" 56 "AppDeskModel" "granted" "[I" ∈ zT := zk3 112 rfl rfl
theorem kf_M_59 : Cond.fieldLink "AppDeskModel" 59 "AppDeskModel" "runs" "[Z" ∈ zT := zk3 113 rfl rfl
theorem kf_M_62 : Cond.fieldLink "AppDeskModel" 62 "AppDeskModel" "place" "[I" ∈ zT := zk3 114 rfl rfl
theorem kf_M_65 : Cond.fieldLink "AppDeskModel" 65 "AppDeskModel" "height" "[I" ∈ zT := zk3 115 rfl rfl
theorem kf_M_68 : Cond.fieldLink "AppDeskModel" 68 "AppDeskModel" "stack" "[I" ∈ zT := zk3 116 rfl rfl
theorem kf_M_71 : Cond.fieldLink "AppDeskModel" 71 "AppDeskModel" "local" "[I" ∈ zT := zk3 117 rfl rfl
theorem kf_M_74 : Cond.fieldLink "AppDeskModel" 74 "AppDeskModel" "latest" "I" ∈ zT := zk3 118 rfl rfl
theorem kf_M_136 : Cond.fieldLink "AppDeskModel" 136 "AppDeskModel" "queue" "I" ∈ zT := zk3 119 rfl rfl
theorem kf_M_78 : Cond.fieldLink "AppDeskModel" 78 "AppDeskModel" "sender" "[I" ∈ zT := zk3 120 rfl rfl
theorem kf_M_81 : Cond.fieldLink "AppDeskModel" 81 "AppDeskModel" "sent" "[I" ∈ zT := zk3 121 rfl rfl
theorem kf_M_84 : Cond.fieldLink "AppDeskModel" 84 "AppDeskModel" "with" "[I" ∈ zT := zk3 122 rfl rfl
theorem kf_M_87 : Cond.fieldLink "AppDeskModel" 87 "AppDeskModel" "high" "[I" ∈ zT := zk3 123 rfl rfl
theorem km_L_63 : Cond.methodLink "AppDeskLaw" 63 y_M_thrown ∈ zT := zk3 184 rfl rfl
theorem kn_M_thrown : Cond.instanceMethod y_M_thrown ∈ zT := zk3 185 rfl rfl
theorem ks_M_thrown : Cond.selects "AppDeskModel" y_M_thrown y_M_thrown ∈ zT := zk3 186 rfl rfl
theorem km_L_28 : Cond.methodLink "AppDeskLaw" 28 y_M_draft ∈ zT := zk3 188 rfl rfl
theorem kn_M_draft : Cond.instanceMethod y_M_draft ∈ zT := zk3 189 rfl rfl
theorem ks_M_draft : Cond.selects "AppDeskModel" y_M_draft y_M_draft ∈ zT := zk3 190 rfl rfl
theorem km_M_93 : Cond.methodLink "AppDeskModel" 93 y_M_in ∈ zT := zk3 192 rfl rfl
theorem kt_M_in : Cond.static y_M_in ∈ zT := zk3 193 rfl rfl
theorem km_L_33 : Cond.methodLink "AppDeskLaw" 33 y_M_word ∈ zT := zk3 195 rfl rfl
theorem kn_M_word : Cond.instanceMethod y_M_word ∈ zT := zk3 196 rfl rfl
theorem ks_M_word : Cond.selects "AppDeskModel" y_M_word y_M_word ∈ zT := zk3 197 rfl rfl
theorem km_L_38 : Cond.methodLink "AppDeskLaw" 38 y_M_part ∈ zT := zk3 199 rfl rfl
theorem kn_M_part : Cond.instanceMethod y_M_part ∈ zT := zk3 200 rfl rfl
theorem ks_M_part : Cond.selects "AppDeskModel" y_M_part y_M_part ∈ zT := zk3 201 rfl rfl
theorem km_L_42 : Cond.methodLink "AppDeskLaw" 42 y_M_ask ∈ zT := zk3 203 rfl rfl
theorem kn_M_ask : Cond.instanceMethod y_M_ask ∈ zT := zk3 204 rfl rfl
theorem ks_M_ask : Cond.selects "AppDeskModel" y_M_ask y_M_ask ∈ zT := zk3 205 rfl rfl
theorem km_L_47 : Cond.methodLink "AppDeskLaw" 47 y_M_declare ∈ zT := zk3 207 rfl rfl
theorem kn_M_declare : Cond.instanceMethod y_M_declare ∈ zT := zk3 208 rfl rfl
theorem ks_M_declare : Cond.selects "AppDeskModel" y_M_declare y_M_declare ∈ zT := zk3 209 rfl rfl
theorem km_L_51 : Cond.methodLink "AppDeskLaw" 51 y_M_sign ∈ zT := zk3 211 rfl rfl
theorem kn_M_sign : Cond.instanceMethod y_M_sign ∈ zT := zk3 212 rfl rfl
theorem ks_M_sign : Cond.selects "AppDeskModel" y_M_sign y_M_sign ∈ zT := zk3 213 rfl rfl
theorem km_M_105 : Cond.methodLink "AppDeskModel" 105 y_M_sealed ∈ zT := zk3 215 rfl rfl
theorem kn_M_sealed : Cond.instanceMethod y_M_sealed ∈ zT := zk3 217 rfl rfl
theorem km_M_100 : Cond.methodLink "AppDeskModel" 100 y_M_mixed ∈ zT := zk3 219 rfl rfl
theorem kt_M_mixed : Cond.static y_M_mixed ∈ zT := zk3 220 rfl rfl
theorem kk_M_104 : Cond.constant "AppDeskModel" 104 1000003 ∈ zT := zk3 222 rfl rfl
theorem km_L_56 : Cond.methodLink "AppDeskLaw" 56 y_M_seal ∈ zT := zk3 223 rfl rfl
theorem kn_M_seal : Cond.instanceMethod y_M_seal ∈ zT := zk3 224 rfl rfl
theorem ks_M_seal : Cond.selects "AppDeskModel" y_M_seal y_M_seal ∈ zT := zk3 225 rfl rfl
theorem km_L_62 : Cond.methodLink "AppDeskLaw" 62 y_M_install ∈ zT := zk3 227 rfl rfl
theorem kn_M_install : Cond.instanceMethod y_M_install ∈ zT := zk3 228 rfl rfl
theorem ks_M_install : Cond.selects "AppDeskModel" y_M_install y_M_install ∈ zT := zk3 229 rfl rfl
theorem km_M_127 : Cond.methodLink "AppDeskModel" 127 y_M_bad ∈ zT := zk3 231 rfl rfl
theorem kn_M_bad : Cond.instanceMethod y_M_bad ∈ zT := zk3 233 rfl rfl
theorem km_M_123 : Cond.methodLink "AppDeskModel" 123 y_M_good ∈ zT := zk3 235 rfl rfl
theorem kn_M_good : Cond.instanceMethod y_M_good ∈ zT := zk3 237 rfl rfl
theorem km_M_116 : Cond.methodLink "AppDeskModel" 116 y_M_comes ∈ zT := zk3 239 rfl rfl
theorem kn_M_comes : Cond.instanceMethod y_M_comes ∈ zT := zk4 1 rfl rfl
theorem km_M_119 : Cond.methodLink "AppDeskModel" 119 y_M_goesOn ∈ zT := zk4 3 rfl rfl
theorem kn_M_goesOn : Cond.instanceMethod y_M_goesOn ∈ zT := zk4 5 rfl rfl
theorem km_M_109 : Cond.methodLink "AppDeskModel" 109 y_M_change ∈ zT := zk4 7 rfl rfl
theorem kt_M_change : Cond.static y_M_change ∈ zT := zk4 8 rfl rfl
theorem km_M_113 : Cond.methodLink "AppDeskModel" 113 y_M_needs ∈ zT := zk4 10 rfl rfl
theorem kt_M_needs : Cond.static y_M_needs ∈ zT := zk4 11 rfl rfl
theorem km_M_130 : Cond.methodLink "AppDeskModel" 130 y_M_clashes ∈ zT := zk4 13 rfl rfl
theorem kn_M_clashes : Cond.instanceMethod y_M_clashes ∈ zT := zk4 15 rfl rfl
theorem km_L_69 : Cond.methodLink "AppDeskLaw" 69 y_M_remove ∈ zT := zk4 17 rfl rfl
theorem kn_M_remove : Cond.instanceMethod y_M_remove ∈ zT := zk4 18 rfl rfl
theorem ks_M_remove : Cond.selects "AppDeskModel" y_M_remove y_M_remove ∈ zT := zk4 19 rfl rfl
theorem km_M_133 : Cond.methodLink "AppDeskModel" 133 y_M_isApp ∈ zT := zk4 21 rfl rfl
theorem kn_M_isApp : Cond.instanceMethod y_M_isApp ∈ zT := zk4 23 rfl rfl
theorem km_M_139 : Cond.methodLink "AppDeskModel" 139 y_M_move ∈ zT := zk4 25 rfl rfl
theorem kn_M_move : Cond.instanceMethod y_M_move ∈ zT := zk4 27 rfl rfl
theorem km_L_73 : Cond.methodLink "AppDeskLaw" 73 y_M_grant ∈ zT := zk4 29 rfl rfl
theorem kn_M_grant : Cond.instanceMethod y_M_grant ∈ zT := zk4 30 rfl rfl
theorem ks_M_grant : Cond.selects "AppDeskModel" y_M_grant y_M_grant ∈ zT := zk4 31 rfl rfl
theorem km_L_77 : Cond.methodLink "AppDeskLaw" 77 y_M_revoke ∈ zT := zk4 33 rfl rfl
theorem kn_M_revoke : Cond.instanceMethod y_M_revoke ∈ zT := zk4 34 rfl rfl
theorem ks_M_revoke : Cond.selects "AppDeskModel" y_M_revoke y_M_revoke ∈ zT := zk4 35 rfl rfl
theorem km_L_97 : Cond.methodLink "AppDeskLaw" 97 y_M_holds ∈ zT := zk4 37 rfl rfl
theorem kn_M_holds : Cond.instanceMethod y_M_holds ∈ zT := zk4 38 rfl rfl
theorem ks_M_holds : Cond.selects "AppDeskModel" y_M_holds y_M_holds ∈ zT := zk4 39 rfl rfl
theorem km_M_143 : Cond.methodLink "AppDeskModel" 143 y_M_may ∈ zT := zk4 41 rfl rfl
theorem kn_M_may : Cond.instanceMethod y_M_may ∈ zT := zk4 43 rfl rfl
theorem km_L_81 : Cond.methodLink "AppDeskLaw" 81 y_M_send ∈ zT := zk4 45 rfl rfl
theorem kn_M_send : Cond.instanceMethod y_M_send ∈ zT := zk4 46 rfl rfl
theorem ks_M_send : Cond.selects "AppDeskModel" y_M_send y_M_send ∈ zT := zk4 47 rfl rfl
theorem km_M_146 : Cond.methodLink "AppDeskModel" 146 y_M_post ∈ zT := zk4 49 rfl rfl
theorem kn_M_post : Cond.instanceMethod y_M_post ∈ zT := zk4 51 rfl rfl
theorem km_L_85 : Cond.methodLink "AppDeskLaw" 85 y_M_deliver ∈ zT := zk4 53 rfl rfl
theorem kn_M_deliver : Cond.instanceMethod y_M_deliver ∈ zT := zk4 54 rfl rfl
theorem ks_M_deliver : Cond.selects "AppDeskModel" y_M_deliver y_M_deliver ∈ zT := zk4 55 rfl rfl
theorem km_M_150 : Cond.methodLink "AppDeskModel" 150 y_M_takes ∈ zT := zk4 57 rfl rfl
theorem kn_M_takes : Cond.instanceMethod y_M_takes ∈ zT := zk4 59 rfl rfl
theorem km_L_88 : Cond.methodLink "AppDeskLaw" 88 y_M_step ∈ zT := zk4 61 rfl rfl
theorem kn_M_step : Cond.instanceMethod y_M_step ∈ zT := zk4 62 rfl rfl
theorem ks_M_step : Cond.selects "AppDeskModel" y_M_step y_M_step ∈ zT := zk4 63 rfl rfl
theorem km_M_160 : Cond.methodLink "AppDeskModel" 160 y_M_fails ∈ zT := zk4 65 rfl rfl
theorem kn_M_fails : Cond.instanceMethod y_M_fails ∈ zT := zk4 67 rfl rfl
theorem km_M_154 : Cond.methodLink "AppDeskModel" 154 y_M_top ∈ zT := zk4 69 rfl rfl
theorem kn_M_top : Cond.instanceMethod y_M_top ∈ zT := zk4 71 rfl rfl
theorem km_M_157 : Cond.methodLink "AppDeskModel" 157 y_M_keys ∈ zT := zk4 73 rfl rfl
theorem kn_M_keys : Cond.instanceMethod y_M_keys ∈ zT := zk4 75 rfl rfl
theorem km_M_163 : Cond.methodLink "AppDeskModel" 163 y_M_does ∈ zT := zk4 77 rfl rfl
theorem kn_M_does : Cond.instanceMethod y_M_does ∈ zT := zk4 79 rfl rfl
theorem km_M_166 : Cond.methodLink "AppDeskModel" 166 y_M_push ∈ zT := zk4 81 rfl rfl
theorem kn_M_push : Cond.instanceMethod y_M_push ∈ zT := zk4 83 rfl rfl
theorem km_M_169 : Cond.methodLink "AppDeskModel" 169 y_M_acts ∈ zT := zk4 85 rfl rfl
theorem kn_M_acts : Cond.instanceMethod y_M_acts ∈ zT := zk4 87 rfl rfl
theorem km_L_93 : Cond.methodLink "AppDeskLaw" 93 y_M_app ∈ zT := zk4 89 rfl rfl
theorem kn_M_app : Cond.instanceMethod y_M_app ∈ zT := zk4 90 rfl rfl
theorem ks_M_app : Cond.selects "AppDeskModel" y_M_app y_M_app ∈ zT := zk4 91 rfl rfl
theorem km_L_101 : Cond.methodLink "AppDeskLaw" 101 y_M_kept ∈ zT := zk4 93 rfl rfl
theorem kn_M_kept : Cond.instanceMethod y_M_kept ∈ zT := zk4 94 rfl rfl
theorem ks_M_kept : Cond.selects "AppDeskModel" y_M_kept y_M_kept ∈ zT := zk4 95 rfl rfl
theorem km_L_105 : Cond.methodLink "AppDeskLaw" 105 y_M_queued ∈ zT := zk4 97 rfl rfl
theorem kn_M_queued : Cond.instanceMethod y_M_queued ∈ zT := zk4 98 rfl rfl
theorem ks_M_queued : Cond.selects "AppDeskModel" y_M_queued y_M_queued ∈ zT := zk4 99 rfl rfl
theorem ks_P_digest : Cond.selects "AppDesk$Pack" y_P_digest y_P_digest ∈ zT := zkp (List.mem_map.mpr ⟨(y_P_digest, 13), by decide +kernel, rfl⟩) rfl
theorem ks_D_isInstalled : Cond.selects "AppDesk" y_D_isInstalled y_D_isInstalled ∈ zT := zkp (List.mem_map.mpr ⟨(y_D_isInstalled, 5), by decide +kernel, rfl⟩) rfl
theorem ks_Q_setRow : Cond.selects "AppDesk$IntentQueue" y_Q_setRow y_Q_setRow ∈ zT := zkp (List.mem_map.mpr ⟨(y_Q_setRow, 4), by decide +kernel, rfl⟩) rfl
theorem ks_D_placeToBegin : Cond.selects "AppDesk" y_D_placeToBegin y_D_placeToBegin ∈ zT := zkp (List.mem_map.mpr ⟨(y_D_placeToBegin, 5), by decide +kernel, rfl⟩) rfl
theorem ks_D_passesGuard : Cond.selects "AppDesk" y_D_passesGuard y_D_passesGuard ∈ zT := zkp (List.mem_map.mpr ⟨(y_D_passesGuard, 5), by decide +kernel, rfl⟩) rfl
theorem ks_D_declarerOf : Cond.selects "AppDesk" y_D_declarerOf y_D_declarerOf ∈ zT := zkp (List.mem_map.mpr ⟨(y_D_declarerOf, 5), by decide +kernel, rfl⟩) rfl
theorem ks_D_isSound : Cond.selects "AppDesk" y_D_isSound y_D_isSound ∈ zT := zkp (List.mem_map.mpr ⟨(y_D_isSound, 5), by decide +kernel, rfl⟩) rfl
theorem ks_V_reach : Cond.selects "AppDesk$Verifier" y_V_reach y_V_reach ∈ zT := zkp (List.mem_map.mpr ⟨(y_V_reach, 3), by decide +kernel, rfl⟩) rfl
theorem ks_V_goesOnWell : Cond.selects "AppDesk$Verifier" y_V_goesOnWell y_V_goesOnWell ∈ zT := zkp (List.mem_map.mpr ⟨(y_V_goesOnWell, 3), by decide +kernel, rfl⟩) rfl
theorem ks_D_mayEnter : Cond.selects "AppDesk" y_D_mayEnter y_D_mayEnter ∈ zT := zkp (List.mem_map.mpr ⟨(y_D_mayEnter, 5), by decide +kernel, rfl⟩) rfl
theorem ks_D_isDeclaredByOther : Cond.selects "AppDesk" y_D_isDeclaredByOther y_D_isDeclaredByOther ∈ zT := zkp (List.mem_map.mpr ⟨(y_D_isDeclaredByOther, 5), by decide +kernel, rfl⟩) rfl
theorem ks_D_nextInTurn : Cond.selects "AppDesk" y_D_nextInTurn y_D_nextInTurn ∈ zT := zkp (List.mem_map.mpr ⟨(y_D_nextInTurn, 5), by decide +kernel, rfl⟩) rfl
theorem ks_D_doWord : Cond.selects "AppDesk" y_D_doWord y_D_doWord ∈ zT := zkp (List.mem_map.mpr ⟨(y_D_doWord, 5), by decide +kernel, rfl⟩) rfl
theorem ks_D_sendFromStack : Cond.selects "AppDesk" y_D_sendFromStack y_D_sendFromStack ∈ zT := zkp (List.mem_map.mpr ⟨(y_D_sendFromStack, 5), by decide +kernel, rfl⟩) rfl
theorem ks_A_storeInto : Cond.selects "AppDesk$App" y_A_storeInto y_A_storeInto ∈ zT := zkp (List.mem_map.mpr ⟨(y_A_storeInto, 10), by decide +kernel, rfl⟩) rfl
theorem ks_M_sealed : Cond.selects "AppDeskModel" y_M_sealed y_M_sealed ∈ zT := zkp (List.mem_map.mpr ⟨(y_M_sealed, 29), by decide +kernel, rfl⟩) rfl
theorem ks_M_bad : Cond.selects "AppDeskModel" y_M_bad y_M_bad ∈ zT := zkp (List.mem_map.mpr ⟨(y_M_bad, 29), by decide +kernel, rfl⟩) rfl
theorem ks_M_good : Cond.selects "AppDeskModel" y_M_good y_M_good ∈ zT := zkp (List.mem_map.mpr ⟨(y_M_good, 29), by decide +kernel, rfl⟩) rfl
theorem ks_M_comes : Cond.selects "AppDeskModel" y_M_comes y_M_comes ∈ zT := zkp (List.mem_map.mpr ⟨(y_M_comes, 29), by decide +kernel, rfl⟩) rfl
theorem ks_M_goesOn : Cond.selects "AppDeskModel" y_M_goesOn y_M_goesOn ∈ zT := zkp (List.mem_map.mpr ⟨(y_M_goesOn, 29), by decide +kernel, rfl⟩) rfl
theorem ks_M_clashes : Cond.selects "AppDeskModel" y_M_clashes y_M_clashes ∈ zT := zkp (List.mem_map.mpr ⟨(y_M_clashes, 29), by decide +kernel, rfl⟩) rfl
theorem ks_M_isApp : Cond.selects "AppDeskModel" y_M_isApp y_M_isApp ∈ zT := zkp (List.mem_map.mpr ⟨(y_M_isApp, 29), by decide +kernel, rfl⟩) rfl
theorem ks_M_move : Cond.selects "AppDeskModel" y_M_move y_M_move ∈ zT := zkp (List.mem_map.mpr ⟨(y_M_move, 29), by decide +kernel, rfl⟩) rfl
theorem ks_M_may : Cond.selects "AppDeskModel" y_M_may y_M_may ∈ zT := zkp (List.mem_map.mpr ⟨(y_M_may, 29), by decide +kernel, rfl⟩) rfl
theorem ks_M_post : Cond.selects "AppDeskModel" y_M_post y_M_post ∈ zT := zkp (List.mem_map.mpr ⟨(y_M_post, 29), by decide +kernel, rfl⟩) rfl
theorem ks_M_takes : Cond.selects "AppDeskModel" y_M_takes y_M_takes ∈ zT := zkp (List.mem_map.mpr ⟨(y_M_takes, 29), by decide +kernel, rfl⟩) rfl
theorem ks_M_fails : Cond.selects "AppDeskModel" y_M_fails y_M_fails ∈ zT := zkp (List.mem_map.mpr ⟨(y_M_fails, 29), by decide +kernel, rfl⟩) rfl
theorem ks_M_top : Cond.selects "AppDeskModel" y_M_top y_M_top ∈ zT := zkp (List.mem_map.mpr ⟨(y_M_top, 29), by decide +kernel, rfl⟩) rfl
theorem ks_M_keys : Cond.selects "AppDeskModel" y_M_keys y_M_keys ∈ zT := zkp (List.mem_map.mpr ⟨(y_M_keys, 29), by decide +kernel, rfl⟩) rfl
theorem ks_M_does : Cond.selects "AppDeskModel" y_M_does y_M_does ∈ zT := zkp (List.mem_map.mpr ⟨(y_M_does, 29), by decide +kernel, rfl⟩) rfl
theorem ks_M_push : Cond.selects "AppDeskModel" y_M_push y_M_push ∈ zT := zkp (List.mem_map.mpr ⟨(y_M_push, 29), by decide +kernel, rfl⟩) rfl
theorem ks_M_acts : Cond.selects "AppDeskModel" y_M_acts y_M_acts ∈ zT := zkp (List.mem_map.mpr ⟨(y_M_acts, 29), by decide +kernel, rfl⟩) rfl
def zNl : List (String × Nat × MethodName × String) := [("AppDesk$Pack", 68, y_D_hasBit, "AppDesk"), ("AppDesk$Pack", 72, y_D_isBelow, "AppDesk"), ("AppDesk$App", 61, y_D_hasBit, "AppDesk"), ("AppDesk$App", 72, y_D_isBelow, "AppDesk"), ("AppDesk$Verifier", 47, y_D_isBelow, "AppDesk"), ("AppDesk$Verifier", 54, y_D_operationOf, "AppDesk"), ("AppDesk$Verifier", 58, y_D_argumentOf, "AppDesk")]
def zNw : List Cond := zNl.map (fun x => Cond.methodLinkNest x.1 x.2.1 x.2.2.1 x.2.2.2)
theorem kw_P_68 : Cond.methodLinkNest "AppDesk$Pack" 68 y_D_hasBit "AppDesk" ∈ zNw := List.mem_of_getElem? (i := 0) rfl
theorem kw_P_72 : Cond.methodLinkNest "AppDesk$Pack" 72 y_D_isBelow "AppDesk" ∈ zNw := List.mem_of_getElem? (i := 1) rfl
theorem kw_A_61 : Cond.methodLinkNest "AppDesk$App" 61 y_D_hasBit "AppDesk" ∈ zNw := List.mem_of_getElem? (i := 2) rfl
theorem kw_A_72 : Cond.methodLinkNest "AppDesk$App" 72 y_D_isBelow "AppDesk" ∈ zNw := List.mem_of_getElem? (i := 3) rfl
theorem kw_V_47 : Cond.methodLinkNest "AppDesk$Verifier" 47 y_D_isBelow "AppDesk" ∈ zNw := List.mem_of_getElem? (i := 4) rfl
theorem kw_V_54 : Cond.methodLinkNest "AppDesk$Verifier" 54 y_D_operationOf "AppDesk" ∈ zNw := List.mem_of_getElem? (i := 5) rfl
theorem kw_V_58 : Cond.methodLinkNest "AppDesk$Verifier" 58 y_D_argumentOf "AppDesk" ∈ zNw := List.mem_of_getElem? (i := 6) rfl
theorem zNw_tbl : ∀ w ∈ zNw, w ∈ lw_tbl := by
  intro w hw
  refine List.mem_append_right _ ?_
  have h : ∀ w ∈ zNw, w ∈ tables_1 := by decide +kernel
  exact h w hw
theorem zNw_on : ∀ w ∈ zNw, w.onTables = true := fun w hw => by
  obtain ⟨x, -, rfl⟩ := List.mem_map.mp hw
  rfl
theorem zNw_warm {s U : State} (hW : s.WarmedH U.vm) : ∀ w ∈ zNw, va_Nw w s → va_Nw w U := fun w hw h => by
  obtain ⟨x, -, rfl⟩ := List.mem_map.mp hw
  exact va_Nw.warmM hW h
end
section
theorem d_D_init_0 : decode b_D_init 0 = .ok (.aload_n 0, 1) := by decide +kernel
theorem d_D_init_1 : decode b_D_init 1 = .ok (.invokespecial 1, 3) := by decide +kernel
theorem d_D_init_4 : decode b_D_init 4 = .ok (.aload_n 0, 1) := by decide +kernel
theorem d_D_init_5 : decode b_D_init 5 = .ok (.new 7, 3) := by decide +kernel
theorem d_D_init_8 : decode b_D_init 8 = .ok (.dup, 1) := by decide +kernel
theorem d_D_init_9 : decode b_D_init 9 = .ok (.invokespecial 9, 3) := by decide +kernel
theorem d_D_init_12 : decode b_D_init 12 = .ok (.putfield 10, 3) := by decide +kernel
theorem d_D_init_15 : decode b_D_init 15 = .ok (.aload_n 0, 1) := by decide +kernel
theorem d_D_init_16 : decode b_D_init 16 = .ok (.bipush 8, 2) := by decide +kernel
theorem d_D_init_18 : decode b_D_init 18 = .ok (.anewarray 16, 3) := by decide +kernel
theorem d_D_init_21 : decode b_D_init 21 = .ok (.putfield 18, 3) := by decide +kernel
theorem d_D_init_24 : decode b_D_init 24 = .ok (.iconst 0, 1) := by decide +kernel
theorem d_D_init_25 : decode b_D_init 25 = .ok (.istore_n 1, 1) := by decide +kernel
theorem d_D_init_26 : decode b_D_init 26 = .ok (.iload_n 1, 1) := by decide +kernel
theorem d_D_init_27 : decode b_D_init 27 = .ok (.bipush 8, 2) := by decide +kernel
theorem d_D_init_29 : decode b_D_init 29 = .ok (.if_icmp .ge 22, 3) := by decide +kernel
theorem d_D_init_32 : decode b_D_init 32 = .ok (.aload_n 0, 1) := by decide +kernel
theorem d_D_init_33 : decode b_D_init 33 = .ok (.getfield 18, 3) := by decide +kernel
theorem d_D_init_36 : decode b_D_init 36 = .ok (.iload_n 1, 1) := by decide +kernel
theorem d_D_init_37 : decode b_D_init 37 = .ok (.new 16, 3) := by decide +kernel
theorem d_D_init_40 : decode b_D_init 40 = .ok (.dup, 1) := by decide +kernel
theorem d_D_init_41 : decode b_D_init 41 = .ok (.invokespecial 22, 3) := by decide +kernel
theorem d_D_init_44 : decode b_D_init 44 = .ok (.aastore, 1) := by decide +kernel
theorem d_D_init_45 : decode b_D_init 45 = .ok (.iinc 1 1, 3) := by decide +kernel
theorem d_D_init_48 : decode b_D_init 48 = .ok (.goto (-22), 3) := by decide +kernel
theorem d_D_init_51 : decode b_D_init 51 = .ok (.aload_n 0, 1) := by decide +kernel
theorem d_D_init_52 : decode b_D_init 52 = .ok (.new 23, 3) := by decide +kernel
theorem d_D_init_55 : decode b_D_init 55 = .ok (.dup, 1) := by decide +kernel
theorem d_D_init_56 : decode b_D_init 56 = .ok (.invokespecial 25, 3) := by decide +kernel
theorem d_D_init_59 : decode b_D_init 59 = .ok (.putfield 26, 3) := by decide +kernel
theorem d_D_init_62 : decode b_D_init 62 = .ok (.aload_n 0, 1) := by decide +kernel
theorem d_D_init_63 : decode b_D_init 63 = .ok (.new 30, 3) := by decide +kernel
theorem d_D_init_66 : decode b_D_init 66 = .ok (.dup, 1) := by decide +kernel
theorem d_D_init_67 : decode b_D_init 67 = .ok (.invokespecial 32, 3) := by decide +kernel
theorem d_D_init_70 : decode b_D_init 70 = .ok (.putfield 33, 3) := by decide +kernel
theorem d_D_init_73 : decode b_D_init 73 = .ok (.aload_n 0, 1) := by decide +kernel
theorem d_D_init_74 : decode b_D_init 74 = .ok (.iconst (-1), 1) := by decide +kernel
theorem d_D_init_75 : decode b_D_init 75 = .ok (.putfield 37, 3) := by decide +kernel
theorem d_D_init_78 : decode b_D_init 78 = .ok (.return_, 1) := by decide +kernel
theorem d_D_draft_0 : decode b_D_draft 0 = .ok (.iload_n 1, 1) := by decide +kernel
theorem d_D_draft_1 : decode b_D_draft 1 = .ok (.bipush 8, 2) := by decide +kernel
theorem d_D_draft_3 : decode b_D_draft 3 = .ok (.invokestatic 41, 3) := by decide +kernel
theorem d_D_draft_6 : decode b_D_draft 6 = .ok (.ifCond .eq 16, 3) := by decide +kernel
theorem d_D_draft_9 : decode b_D_draft 9 = .ok (.iload_n 3, 1) := by decide +kernel
theorem d_D_draft_10 : decode b_D_draft 10 = .ok (.iconst 4, 1) := by decide +kernel
theorem d_D_draft_11 : decode b_D_draft 11 = .ok (.invokestatic 41, 3) := by decide +kernel
theorem d_D_draft_14 : decode b_D_draft 14 = .ok (.ifCond .eq 8, 3) := by decide +kernel
theorem d_D_draft_17 : decode b_D_draft 17 = .ok (.iload_n 2, 1) := by decide +kernel
theorem d_D_draft_18 : decode b_D_draft 18 = .ok (.iconst 1, 1) := by decide +kernel
theorem d_D_draft_19 : decode b_D_draft 19 = .ok (.if_icmp .ge 5, 3) := by decide +kernel
theorem d_D_draft_22 : decode b_D_draft 22 = .ok (.iconst 0, 1) := by decide +kernel
theorem d_D_draft_23 : decode b_D_draft 23 = .ok (.ireturn, 1) := by decide +kernel
theorem d_D_draft_24 : decode b_D_draft 24 = .ok (.aload_n 0, 1) := by decide +kernel
theorem d_D_draft_25 : decode b_D_draft 25 = .ok (.getfield 10, 3) := by decide +kernel
theorem d_D_draft_28 : decode b_D_draft 28 = .ok (.iload_n 1, 1) := by decide +kernel
theorem d_D_draft_29 : decode b_D_draft 29 = .ok (.iload_n 2, 1) := by decide +kernel
theorem d_D_draft_30 : decode b_D_draft 30 = .ok (.iload_n 3, 1) := by decide +kernel
theorem d_D_draft_31 : decode b_D_draft 31 = .ok (.invokevirtual 45, 3) := by decide +kernel
theorem d_D_draft_34 : decode b_D_draft 34 = .ok (.iconst 1, 1) := by decide +kernel
theorem d_D_draft_35 : decode b_D_draft 35 = .ok (.ireturn, 1) := by decide +kernel
theorem d_D_word_0 : decode b_D_word 0 = .ok (.aload_n 0, 1) := by decide +kernel
theorem d_D_word_1 : decode b_D_word 1 = .ok (.getfield 10, 3) := by decide +kernel
theorem d_D_word_4 : decode b_D_word 4 = .ok (.iload_n 1, 1) := by decide +kernel
theorem d_D_word_5 : decode b_D_word 5 = .ok (.invokevirtual 49, 3) := by decide +kernel
theorem d_D_word_8 : decode b_D_word 8 = .ok (.ireturn, 1) := by decide +kernel
theorem d_D_part_0 : decode b_D_part 0 = .ok (.iload_n 1, 1) := by decide +kernel
theorem d_D_part_1 : decode b_D_part 1 = .ok (.bipush 10, 2) := by decide +kernel
theorem d_D_part_3 : decode b_D_part 3 = .ok (.invokestatic 41, 3) := by decide +kernel
theorem d_D_part_6 : decode b_D_part 6 = .ok (.ifCond .eq 17, 3) := by decide +kernel
theorem d_D_part_9 : decode b_D_part 9 = .ok (.iload_n 3, 1) := by decide +kernel
theorem d_D_part_10 : decode b_D_part 10 = .ok (.iconst (-1), 1) := by decide +kernel
theorem d_D_part_11 : decode b_D_part 11 = .ok (.if_icmp .eq 14, 3) := by decide +kernel
theorem d_D_part_14 : decode b_D_part 14 = .ok (.iload_n 3, 1) := by decide +kernel
theorem d_D_part_15 : decode b_D_part 15 = .ok (.bipush 8, 2) := by decide +kernel
theorem d_D_part_17 : decode b_D_part 17 = .ok (.invokestatic 41, 3) := by decide +kernel
theorem d_D_part_20 : decode b_D_part 20 = .ok (.ifCond .ne 5, 3) := by decide +kernel
theorem d_D_part_23 : decode b_D_part 23 = .ok (.iconst 0, 1) := by decide +kernel
theorem d_D_part_24 : decode b_D_part 24 = .ok (.ireturn, 1) := by decide +kernel
theorem d_D_part_25 : decode b_D_part 25 = .ok (.aload_n 0, 1) := by decide +kernel
theorem d_D_part_26 : decode b_D_part 26 = .ok (.getfield 10, 3) := by decide +kernel
theorem d_D_part_29 : decode b_D_part 29 = .ok (.iload_n 1, 1) := by decide +kernel
theorem d_D_part_30 : decode b_D_part 30 = .ok (.iload_n 2, 1) := by decide +kernel
theorem d_D_part_31 : decode b_D_part 31 = .ok (.iload_n 3, 1) := by decide +kernel
theorem d_D_part_32 : decode b_D_part 32 = .ok (.iload 4, 2) := by decide +kernel
theorem d_D_part_34 : decode b_D_part 34 = .ok (.invokevirtual 53, 3) := by decide +kernel
theorem d_D_part_37 : decode b_D_part 37 = .ok (.ireturn, 1) := by decide +kernel
theorem d_D_ask_0 : decode b_D_ask 0 = .ok (.iload_n 1, 1) := by decide +kernel
theorem d_D_ask_1 : decode b_D_ask 1 = .ok (.bipush 8, 2) := by decide +kernel
theorem d_D_ask_3 : decode b_D_ask 3 = .ok (.invokestatic 41, 3) := by decide +kernel
theorem d_D_ask_6 : decode b_D_ask 6 = .ok (.ifCond .eq 14, 3) := by decide +kernel
theorem d_D_ask_9 : decode b_D_ask 9 = .ok (.aload_n 0, 1) := by decide +kernel
theorem d_D_ask_10 : decode b_D_ask 10 = .ok (.getfield 10, 3) := by decide +kernel
theorem d_D_ask_13 : decode b_D_ask 13 = .ok (.iload_n 1, 1) := by decide +kernel
theorem d_D_ask_14 : decode b_D_ask 14 = .ok (.invokevirtual 57, 3) := by decide +kernel
theorem d_D_ask_17 : decode b_D_ask 17 = .ok (.ifCond .eq 5, 3) := by decide +kernel
theorem d_D_ask_20 : decode b_D_ask 20 = .ok (.iconst 0, 1) := by decide +kernel
theorem d_D_ask_21 : decode b_D_ask 21 = .ok (.ireturn, 1) := by decide +kernel
theorem d_D_ask_22 : decode b_D_ask 22 = .ok (.aload_n 0, 1) := by decide +kernel
theorem d_D_ask_23 : decode b_D_ask 23 = .ok (.getfield 10, 3) := by decide +kernel
theorem d_D_ask_26 : decode b_D_ask 26 = .ok (.dup, 1) := by decide +kernel
theorem d_D_ask_27 : decode b_D_ask 27 = .ok (.getfield 60, 3) := by decide +kernel
theorem d_D_ask_30 : decode b_D_ask 30 = .ok (.iconst 1, 1) := by decide +kernel
theorem d_D_ask_31 : decode b_D_ask 31 = .ok (.iload_n 1, 1) := by decide +kernel
theorem d_D_ask_32 : decode b_D_ask 32 = .ok (.ishl, 1) := by decide +kernel
theorem d_D_ask_33 : decode b_D_ask 33 = .ok (.ior, 1) := by decide +kernel
theorem d_D_ask_34 : decode b_D_ask 34 = .ok (.putfield 60, 3) := by decide +kernel
theorem d_D_ask_37 : decode b_D_ask 37 = .ok (.iconst 1, 1) := by decide +kernel
theorem d_D_ask_38 : decode b_D_ask 38 = .ok (.ireturn, 1) := by decide +kernel
theorem d_D_declare_0 : decode b_D_declare 0 = .ok (.iload_n 1, 1) := by decide +kernel
theorem d_D_declare_1 : decode b_D_declare 1 = .ok (.bipush 8, 2) := by decide +kernel
theorem d_D_declare_3 : decode b_D_declare 3 = .ok (.invokestatic 41, 3) := by decide +kernel
theorem d_D_declare_6 : decode b_D_declare 6 = .ok (.ifCond .eq 22, 3) := by decide +kernel
theorem d_D_declare_9 : decode b_D_declare 9 = .ok (.iload_n 2, 1) := by decide +kernel
theorem d_D_declare_10 : decode b_D_declare 10 = .ok (.iconst 3, 1) := by decide +kernel
theorem d_D_declare_11 : decode b_D_declare 11 = .ok (.invokestatic 41, 3) := by decide +kernel
theorem d_D_declare_14 : decode b_D_declare 14 = .ok (.ifCond .eq 14, 3) := by decide +kernel
theorem d_D_declare_17 : decode b_D_declare 17 = .ok (.aload_n 0, 1) := by decide +kernel
theorem d_D_declare_18 : decode b_D_declare 18 = .ok (.getfield 10, 3) := by decide +kernel
theorem d_D_declare_21 : decode b_D_declare 21 = .ok (.iload_n 1, 1) := by decide +kernel
theorem d_D_declare_22 : decode b_D_declare 22 = .ok (.invokevirtual 63, 3) := by decide +kernel
theorem d_D_declare_25 : decode b_D_declare 25 = .ok (.ifCond .eq 5, 3) := by decide +kernel
theorem d_D_declare_28 : decode b_D_declare 28 = .ok (.iconst 0, 1) := by decide +kernel
theorem d_D_declare_29 : decode b_D_declare 29 = .ok (.ireturn, 1) := by decide +kernel
theorem d_D_declare_30 : decode b_D_declare 30 = .ok (.aload_n 0, 1) := by decide +kernel
theorem d_D_declare_31 : decode b_D_declare 31 = .ok (.getfield 10, 3) := by decide +kernel
theorem d_D_declare_34 : decode b_D_declare 34 = .ok (.getfield 66, 3) := by decide +kernel
theorem d_D_declare_37 : decode b_D_declare 37 = .ok (.iload_n 1, 1) := by decide +kernel
theorem d_D_declare_38 : decode b_D_declare 38 = .ok (.iload_n 2, 1) := by decide +kernel
theorem d_D_declare_39 : decode b_D_declare 39 = .ok (.iastore, 1) := by decide +kernel
theorem d_D_declare_40 : decode b_D_declare 40 = .ok (.iconst 1, 1) := by decide +kernel
theorem d_D_declare_41 : decode b_D_declare 41 = .ok (.ireturn, 1) := by decide +kernel
theorem d_D_sign_0 : decode b_D_sign 0 = .ok (.aload_n 0, 1) := by decide +kernel
theorem d_D_sign_1 : decode b_D_sign 1 = .ok (.getfield 10, 3) := by decide +kernel
theorem d_D_sign_4 : decode b_D_sign 4 = .ok (.aload_n 0, 1) := by decide +kernel
theorem d_D_sign_5 : decode b_D_sign 5 = .ok (.getfield 10, 3) := by decide +kernel
theorem d_D_sign_8 : decode b_D_sign 8 = .ok (.invokevirtual 70, 3) := by decide +kernel
theorem d_D_sign_11 : decode b_D_sign 11 = .ok (.putfield 74, 3) := by decide +kernel
theorem d_D_sign_14 : decode b_D_sign 14 = .ok (.aload_n 0, 1) := by decide +kernel
theorem d_D_sign_15 : decode b_D_sign 15 = .ok (.getfield 10, 3) := by decide +kernel
theorem d_D_sign_18 : decode b_D_sign 18 = .ok (.getfield 74, 3) := by decide +kernel
theorem d_D_sign_21 : decode b_D_sign 21 = .ok (.ireturn, 1) := by decide +kernel
theorem d_D_seal_0 : decode b_D_seal 0 = .ok (.aload_n 0, 1) := by decide +kernel
theorem d_D_seal_1 : decode b_D_seal 1 = .ok (.getfield 10, 3) := by decide +kernel
theorem d_D_seal_4 : decode b_D_seal 4 = .ok (.iload_n 1, 1) := by decide +kernel
theorem d_D_seal_5 : decode b_D_seal 5 = .ok (.putfield 74, 3) := by decide +kernel
theorem d_D_seal_8 : decode b_D_seal 8 = .ok (.return_, 1) := by decide +kernel
theorem d_D_install_0 : decode b_D_install 0 = .ok (.aload_n 0, 1) := by decide +kernel
theorem d_D_install_1 : decode b_D_install 1 = .ok (.aload_n 0, 1) := by decide +kernel
theorem d_D_install_2 : decode b_D_install 2 = .ok (.getfield 10, 3) := by decide +kernel
theorem d_D_install_5 : decode b_D_install 5 = .ok (.invokevirtual 77, 3) := by decide +kernel
theorem d_D_install_8 : decode b_D_install 8 = .ok (.ifCond .ne 11, 3) := by decide +kernel
theorem d_D_install_11 : decode b_D_install 11 = .ok (.new 81, 3) := by decide +kernel
theorem d_D_install_14 : decode b_D_install 14 = .ok (.dup, 1) := by decide +kernel
theorem d_D_install_15 : decode b_D_install 15 = .ok (.invokespecial 83, 3) := by decide +kernel
theorem d_D_install_18 : decode b_D_install 18 = .ok (.athrow, 1) := by decide +kernel
theorem d_D_install_19 : decode b_D_install 19 = .ok (.aload_n 0, 1) := by decide +kernel
theorem d_D_install_20 : decode b_D_install 20 = .ok (.aload_n 0, 1) := by decide +kernel
theorem d_D_install_21 : decode b_D_install 21 = .ok (.getfield 10, 3) := by decide +kernel
theorem d_D_install_24 : decode b_D_install 24 = .ok (.invokevirtual 84, 3) := by decide +kernel
theorem d_D_install_27 : decode b_D_install 27 = .ok (.ifCond .ne 11, 3) := by decide +kernel
theorem d_D_install_30 : decode b_D_install 30 = .ok (.new 87, 3) := by decide +kernel
theorem d_D_install_33 : decode b_D_install 33 = .ok (.dup, 1) := by decide +kernel
theorem d_D_install_34 : decode b_D_install 34 = .ok (.invokespecial 89, 3) := by decide +kernel
theorem d_D_install_37 : decode b_D_install 37 = .ok (.athrow, 1) := by decide +kernel
theorem d_D_install_38 : decode b_D_install 38 = .ok (.aload_n 0, 1) := by decide +kernel
theorem d_D_install_39 : decode b_D_install 39 = .ok (.getfield 18, 3) := by decide +kernel
theorem d_D_install_42 : decode b_D_install 42 = .ok (.aload_n 0, 1) := by decide +kernel
theorem d_D_install_43 : decode b_D_install 43 = .ok (.getfield 10, 3) := by decide +kernel
theorem d_D_install_46 : decode b_D_install 46 = .ok (.getfield 90, 3) := by decide +kernel
theorem d_D_install_49 : decode b_D_install 49 = .ok (.aaload, 1) := by decide +kernel
theorem d_D_install_50 : decode b_D_install 50 = .ok (.aload_n 0, 1) := by decide +kernel
theorem d_D_install_51 : decode b_D_install 51 = .ok (.getfield 10, 3) := by decide +kernel
theorem d_D_install_54 : decode b_D_install 54 = .ok (.invokevirtual 93, 3) := by decide +kernel
theorem d_D_install_57 : decode b_D_install 57 = .ok (.aload_n 0, 1) := by decide +kernel
theorem d_D_install_58 : decode b_D_install 58 = .ok (.getfield 10, 3) := by decide +kernel
theorem d_D_install_61 : decode b_D_install 61 = .ok (.getfield 90, 3) := by decide +kernel
theorem d_D_install_64 : decode b_D_install 64 = .ok (.ireturn, 1) := by decide +kernel
theorem d_D_remove_0 : decode b_D_remove 0 = .ok (.aload_n 0, 1) := by decide +kernel
theorem d_D_remove_1 : decode b_D_remove 1 = .ok (.iload_n 1, 1) := by decide +kernel
theorem d_D_remove_2 : decode b_D_remove 2 = .ok (.invokevirtual 97, 3) := by decide +kernel
theorem d_D_remove_5 : decode b_D_remove 5 = .ok (.ifCond .ne 5, 3) := by decide +kernel
theorem d_D_remove_8 : decode b_D_remove 8 = .ok (.iconst 0, 1) := by decide +kernel
theorem d_D_remove_9 : decode b_D_remove 9 = .ok (.ireturn, 1) := by decide +kernel
theorem d_D_remove_10 : decode b_D_remove 10 = .ok (.aload_n 0, 1) := by decide +kernel
theorem d_D_remove_11 : decode b_D_remove 11 = .ok (.getfield 18, 3) := by decide +kernel
theorem d_D_remove_14 : decode b_D_remove 14 = .ok (.iload_n 1, 1) := by decide +kernel
theorem d_D_remove_15 : decode b_D_remove 15 = .ok (.aaload, 1) := by decide +kernel
theorem d_D_remove_16 : decode b_D_remove 16 = .ok (.invokevirtual 100, 3) := by decide +kernel
theorem d_D_remove_19 : decode b_D_remove 19 = .ok (.aload_n 0, 1) := by decide +kernel
theorem d_D_remove_20 : decode b_D_remove 20 = .ok (.getfield 26, 3) := by decide +kernel
theorem d_D_remove_23 : decode b_D_remove 23 = .ok (.iload_n 1, 1) := by decide +kernel
theorem d_D_remove_24 : decode b_D_remove 24 = .ok (.invokevirtual 103, 3) := by decide +kernel
theorem d_D_remove_27 : decode b_D_remove 27 = .ok (.iconst 1, 1) := by decide +kernel
theorem d_D_remove_28 : decode b_D_remove 28 = .ok (.ireturn, 1) := by decide +kernel
theorem d_D_grant_0 : decode b_D_grant 0 = .ok (.aload_n 0, 1) := by decide +kernel
theorem d_D_grant_1 : decode b_D_grant 1 = .ok (.iload_n 1, 1) := by decide +kernel
theorem d_D_grant_2 : decode b_D_grant 2 = .ok (.invokevirtual 97, 3) := by decide +kernel
theorem d_D_grant_5 : decode b_D_grant 5 = .ok (.ifCond .eq 32, 3) := by decide +kernel
theorem d_D_grant_8 : decode b_D_grant 8 = .ok (.aload_n 0, 1) := by decide +kernel
theorem d_D_grant_9 : decode b_D_grant 9 = .ok (.getfield 18, 3) := by decide +kernel
theorem d_D_grant_12 : decode b_D_grant 12 = .ok (.iload_n 1, 1) := by decide +kernel
theorem d_D_grant_13 : decode b_D_grant 13 = .ok (.aaload, 1) := by decide +kernel
theorem d_D_grant_14 : decode b_D_grant 14 = .ok (.getfield 107, 3) := by decide +kernel
theorem d_D_grant_17 : decode b_D_grant 17 = .ok (.iload_n 2, 1) := by decide +kernel
theorem d_D_grant_18 : decode b_D_grant 18 = .ok (.invokevirtual 57, 3) := by decide +kernel
theorem d_D_grant_21 : decode b_D_grant 21 = .ok (.ifCond .eq 16, 3) := by decide +kernel
theorem d_D_grant_24 : decode b_D_grant 24 = .ok (.aload_n 0, 1) := by decide +kernel
theorem d_D_grant_25 : decode b_D_grant 25 = .ok (.getfield 18, 3) := by decide +kernel
theorem d_D_grant_28 : decode b_D_grant 28 = .ok (.iload_n 1, 1) := by decide +kernel
theorem d_D_grant_29 : decode b_D_grant 29 = .ok (.aaload, 1) := by decide +kernel
theorem d_D_grant_30 : decode b_D_grant 30 = .ok (.iload_n 2, 1) := by decide +kernel
theorem d_D_grant_31 : decode b_D_grant 31 = .ok (.invokevirtual 110, 3) := by decide +kernel
theorem d_D_grant_34 : decode b_D_grant 34 = .ok (.ifCond .eq 5, 3) := by decide +kernel
theorem d_D_grant_37 : decode b_D_grant 37 = .ok (.iconst 0, 1) := by decide +kernel
theorem d_D_grant_38 : decode b_D_grant 38 = .ok (.ireturn, 1) := by decide +kernel
theorem d_D_grant_39 : decode b_D_grant 39 = .ok (.aload_n 0, 1) := by decide +kernel
theorem d_D_grant_40 : decode b_D_grant 40 = .ok (.getfield 18, 3) := by decide +kernel
theorem d_D_grant_43 : decode b_D_grant 43 = .ok (.iload_n 1, 1) := by decide +kernel
theorem d_D_grant_44 : decode b_D_grant 44 = .ok (.aaload, 1) := by decide +kernel
theorem d_D_grant_45 : decode b_D_grant 45 = .ok (.dup, 1) := by decide +kernel
theorem d_D_grant_46 : decode b_D_grant 46 = .ok (.getfield 113, 3) := by decide +kernel
theorem d_D_grant_49 : decode b_D_grant 49 = .ok (.iconst 1, 1) := by decide +kernel
theorem d_D_grant_50 : decode b_D_grant 50 = .ok (.iload_n 2, 1) := by decide +kernel
theorem d_D_grant_51 : decode b_D_grant 51 = .ok (.ishl, 1) := by decide +kernel
theorem d_D_grant_52 : decode b_D_grant 52 = .ok (.ior, 1) := by decide +kernel
theorem d_D_grant_53 : decode b_D_grant 53 = .ok (.putfield 113, 3) := by decide +kernel
theorem d_D_grant_56 : decode b_D_grant 56 = .ok (.iconst 1, 1) := by decide +kernel
theorem d_D_grant_57 : decode b_D_grant 57 = .ok (.ireturn, 1) := by decide +kernel
theorem d_D_revoke_0 : decode b_D_revoke 0 = .ok (.aload_n 0, 1) := by decide +kernel
theorem d_D_revoke_1 : decode b_D_revoke 1 = .ok (.iload_n 1, 1) := by decide +kernel
theorem d_D_revoke_2 : decode b_D_revoke 2 = .ok (.invokevirtual 97, 3) := by decide +kernel
theorem d_D_revoke_5 : decode b_D_revoke 5 = .ok (.ifCond .eq 16, 3) := by decide +kernel
theorem d_D_revoke_8 : decode b_D_revoke 8 = .ok (.aload_n 0, 1) := by decide +kernel
theorem d_D_revoke_9 : decode b_D_revoke 9 = .ok (.getfield 18, 3) := by decide +kernel
theorem d_D_revoke_12 : decode b_D_revoke 12 = .ok (.iload_n 1, 1) := by decide +kernel
theorem d_D_revoke_13 : decode b_D_revoke 13 = .ok (.aaload, 1) := by decide +kernel
theorem d_D_revoke_14 : decode b_D_revoke 14 = .ok (.iload_n 2, 1) := by decide +kernel
theorem d_D_revoke_15 : decode b_D_revoke 15 = .ok (.invokevirtual 110, 3) := by decide +kernel
theorem d_D_revoke_18 : decode b_D_revoke 18 = .ok (.ifCond .ne 5, 3) := by decide +kernel
theorem d_D_revoke_21 : decode b_D_revoke 21 = .ok (.iconst 0, 1) := by decide +kernel
theorem d_D_revoke_22 : decode b_D_revoke 22 = .ok (.ireturn, 1) := by decide +kernel
theorem d_D_revoke_23 : decode b_D_revoke 23 = .ok (.aload_n 0, 1) := by decide +kernel
theorem d_D_revoke_24 : decode b_D_revoke 24 = .ok (.getfield 18, 3) := by decide +kernel
theorem d_D_revoke_27 : decode b_D_revoke 27 = .ok (.iload_n 1, 1) := by decide +kernel
theorem d_D_revoke_28 : decode b_D_revoke 28 = .ok (.aaload, 1) := by decide +kernel
theorem d_D_revoke_29 : decode b_D_revoke 29 = .ok (.dup, 1) := by decide +kernel
theorem d_D_revoke_30 : decode b_D_revoke 30 = .ok (.getfield 113, 3) := by decide +kernel
theorem d_D_revoke_33 : decode b_D_revoke 33 = .ok (.iconst 1, 1) := by decide +kernel
theorem d_D_revoke_34 : decode b_D_revoke 34 = .ok (.iload_n 2, 1) := by decide +kernel
theorem d_D_revoke_35 : decode b_D_revoke 35 = .ok (.ishl, 1) := by decide +kernel
theorem d_D_revoke_36 : decode b_D_revoke 36 = .ok (.iconst (-1), 1) := by decide +kernel
theorem d_D_revoke_37 : decode b_D_revoke 37 = .ok (.ixor, 1) := by decide +kernel
theorem d_D_revoke_38 : decode b_D_revoke 38 = .ok (.iand, 1) := by decide +kernel
theorem d_D_revoke_39 : decode b_D_revoke 39 = .ok (.putfield 113, 3) := by decide +kernel
theorem d_D_revoke_42 : decode b_D_revoke 42 = .ok (.iconst 1, 1) := by decide +kernel
theorem d_D_revoke_43 : decode b_D_revoke 43 = .ok (.ireturn, 1) := by decide +kernel
theorem d_D_send_0 : decode b_D_send 0 = .ok (.aload_n 0, 1) := by decide +kernel
theorem d_D_send_1 : decode b_D_send 1 = .ok (.iload_n 1, 1) := by decide +kernel
theorem d_D_send_2 : decode b_D_send 2 = .ok (.invokevirtual 97, 3) := by decide +kernel
theorem d_D_send_5 : decode b_D_send 5 = .ok (.ifCond .eq 12, 3) := by decide +kernel
theorem d_D_send_8 : decode b_D_send 8 = .ok (.iload_n 2, 1) := by decide +kernel
theorem d_D_send_9 : decode b_D_send 9 = .ok (.bipush 10, 2) := by decide +kernel
theorem d_D_send_11 : decode b_D_send 11 = .ok (.invokestatic 41, 3) := by decide +kernel
theorem d_D_send_14 : decode b_D_send 14 = .ok (.ifCond .ne 5, 3) := by decide +kernel
theorem d_D_send_17 : decode b_D_send 17 = .ok (.iconst 0, 1) := by decide +kernel
theorem d_D_send_18 : decode b_D_send 18 = .ok (.ireturn, 1) := by decide +kernel
theorem d_D_send_19 : decode b_D_send 19 = .ok (.aload_n 0, 1) := by decide +kernel
theorem d_D_send_20 : decode b_D_send 20 = .ok (.getfield 26, 3) := by decide +kernel
theorem d_D_send_23 : decode b_D_send 23 = .ok (.iload_n 1, 1) := by decide +kernel
theorem d_D_send_24 : decode b_D_send 24 = .ok (.iload_n 2, 1) := by decide +kernel
theorem d_D_send_25 : decode b_D_send 25 = .ok (.iload_n 3, 1) := by decide +kernel
theorem d_D_send_26 : decode b_D_send 26 = .ok (.invokevirtual 116, 3) := by decide +kernel
theorem d_D_send_29 : decode b_D_send 29 = .ok (.ireturn, 1) := by decide +kernel
theorem d_D_deliver_0 : decode b_D_deliver 0 = .ok (.aload_n 0, 1) := by decide +kernel
theorem d_D_deliver_1 : decode b_D_deliver 1 = .ok (.getfield 26, 3) := by decide +kernel
theorem d_D_deliver_4 : decode b_D_deliver 4 = .ok (.getfield 120, 3) := by decide +kernel
theorem d_D_deliver_7 : decode b_D_deliver 7 = .ok (.ifCond .ne 5, 3) := by decide +kernel
theorem d_D_deliver_10 : decode b_D_deliver 10 = .ok (.iconst (-1), 1) := by decide +kernel
theorem d_D_deliver_11 : decode b_D_deliver 11 = .ok (.ireturn, 1) := by decide +kernel
theorem d_D_deliver_12 : decode b_D_deliver 12 = .ok (.aload_n 0, 1) := by decide +kernel
theorem d_D_deliver_13 : decode b_D_deliver 13 = .ok (.getfield 26, 3) := by decide +kernel
theorem d_D_deliver_16 : decode b_D_deliver 16 = .ok (.getfield 123, 3) := by decide +kernel
theorem d_D_deliver_19 : decode b_D_deliver 19 = .ok (.iconst 0, 1) := by decide +kernel
theorem d_D_deliver_20 : decode b_D_deliver 20 = .ok (.iaload, 1) := by decide +kernel
theorem d_D_deliver_21 : decode b_D_deliver 21 = .ok (.istore_n 1, 1) := by decide +kernel
theorem d_D_deliver_22 : decode b_D_deliver 22 = .ok (.aload_n 0, 1) := by decide +kernel
theorem d_D_deliver_23 : decode b_D_deliver 23 = .ok (.getfield 26, 3) := by decide +kernel
theorem d_D_deliver_26 : decode b_D_deliver 26 = .ok (.getfield 126, 3) := by decide +kernel
theorem d_D_deliver_29 : decode b_D_deliver 29 = .ok (.iconst 0, 1) := by decide +kernel
theorem d_D_deliver_30 : decode b_D_deliver 30 = .ok (.iaload, 1) := by decide +kernel
theorem d_D_deliver_31 : decode b_D_deliver 31 = .ok (.istore_n 2, 1) := by decide +kernel
theorem d_D_deliver_32 : decode b_D_deliver 32 = .ok (.aload_n 0, 1) := by decide +kernel
theorem d_D_deliver_33 : decode b_D_deliver 33 = .ok (.getfield 26, 3) := by decide +kernel
theorem d_D_deliver_36 : decode b_D_deliver 36 = .ok (.getfield 129, 3) := by decide +kernel
theorem d_D_deliver_39 : decode b_D_deliver 39 = .ok (.iconst 0, 1) := by decide +kernel
theorem d_D_deliver_40 : decode b_D_deliver 40 = .ok (.iaload, 1) := by decide +kernel
theorem d_D_deliver_41 : decode b_D_deliver 41 = .ok (.istore_n 3, 1) := by decide +kernel
theorem d_D_deliver_42 : decode b_D_deliver 42 = .ok (.aload_n 0, 1) := by decide +kernel
theorem d_D_deliver_43 : decode b_D_deliver 43 = .ok (.getfield 26, 3) := by decide +kernel
theorem d_D_deliver_46 : decode b_D_deliver 46 = .ok (.invokevirtual 132, 3) := by decide +kernel
theorem d_D_deliver_49 : decode b_D_deliver 49 = .ok (.iconst 0, 1) := by decide +kernel
theorem d_D_deliver_50 : decode b_D_deliver 50 = .ok (.istore 4, 2) := by decide +kernel
theorem d_D_deliver_52 : decode b_D_deliver 52 = .ok (.iload 4, 2) := by decide +kernel
theorem d_D_deliver_54 : decode b_D_deliver 54 = .ok (.bipush 8, 2) := by decide +kernel
theorem d_D_deliver_56 : decode b_D_deliver 56 = .ok (.if_icmp .ge 42, 3) := by decide +kernel
theorem d_D_deliver_59 : decode b_D_deliver 59 = .ok (.aload_n 0, 1) := by decide +kernel
theorem d_D_deliver_60 : decode b_D_deliver 60 = .ok (.iload 4, 2) := by decide +kernel
theorem d_D_deliver_62 : decode b_D_deliver 62 = .ok (.iload_n 1, 1) := by decide +kernel
theorem d_D_deliver_63 : decode b_D_deliver 63 = .ok (.iload_n 2, 1) := by decide +kernel
theorem d_D_deliver_64 : decode b_D_deliver 64 = .ok (.invokevirtual 135, 3) := by decide +kernel
theorem d_D_deliver_67 : decode b_D_deliver 67 = .ok (.istore 5, 2) := by decide +kernel
theorem d_D_deliver_69 : decode b_D_deliver 69 = .ok (.iload 5, 2) := by decide +kernel
theorem d_D_deliver_71 : decode b_D_deliver 71 = .ok (.iconst (-1), 1) := by decide +kernel
theorem d_D_deliver_72 : decode b_D_deliver 72 = .ok (.if_icmp .eq 20, 3) := by decide +kernel
theorem d_D_deliver_75 : decode b_D_deliver 75 = .ok (.aload_n 0, 1) := by decide +kernel
theorem d_D_deliver_76 : decode b_D_deliver 76 = .ok (.getfield 18, 3) := by decide +kernel
theorem d_D_deliver_79 : decode b_D_deliver 79 = .ok (.iload 4, 2) := by decide +kernel
theorem d_D_deliver_81 : decode b_D_deliver 81 = .ok (.aaload, 1) := by decide +kernel
theorem d_D_deliver_82 : decode b_D_deliver 82 = .ok (.iload 5, 2) := by decide +kernel
theorem d_D_deliver_84 : decode b_D_deliver 84 = .ok (.iload_n 3, 1) := by decide +kernel
theorem d_D_deliver_85 : decode b_D_deliver 85 = .ok (.iload_n 1, 1) := by decide +kernel
theorem d_D_deliver_86 : decode b_D_deliver 86 = .ok (.invokevirtual 139, 3) := by decide +kernel
theorem d_D_deliver_89 : decode b_D_deliver 89 = .ok (.iload 4, 2) := by decide +kernel
theorem d_D_deliver_91 : decode b_D_deliver 91 = .ok (.ireturn, 1) := by decide +kernel
theorem d_D_deliver_92 : decode b_D_deliver 92 = .ok (.iinc 4 1, 3) := by decide +kernel
theorem d_D_deliver_95 : decode b_D_deliver 95 = .ok (.goto (-43), 3) := by decide +kernel
theorem d_D_deliver_98 : decode b_D_deliver 98 = .ok (.iconst (-1), 1) := by decide +kernel
theorem d_D_deliver_99 : decode b_D_deliver 99 = .ok (.ireturn, 1) := by decide +kernel
theorem d_D_step_0 : decode b_D_step 0 = .ok (.aload_n 0, 1) := by decide +kernel
theorem d_D_step_1 : decode b_D_step 1 = .ok (.invokevirtual 142, 3) := by decide +kernel
theorem d_D_step_4 : decode b_D_step 4 = .ok (.istore_n 1, 1) := by decide +kernel
theorem d_D_step_5 : decode b_D_step 5 = .ok (.iload_n 1, 1) := by decide +kernel
theorem d_D_step_6 : decode b_D_step 6 = .ok (.iconst (-1), 1) := by decide +kernel
theorem d_D_step_7 : decode b_D_step 7 = .ok (.if_icmp .ne 5, 3) := by decide +kernel
theorem d_D_step_10 : decode b_D_step 10 = .ok (.iconst (-1), 1) := by decide +kernel
theorem d_D_step_11 : decode b_D_step 11 = .ok (.ireturn, 1) := by decide +kernel
theorem d_D_step_12 : decode b_D_step 12 = .ok (.aload_n 0, 1) := by decide +kernel
theorem d_D_step_13 : decode b_D_step 13 = .ok (.iload_n 1, 1) := by decide +kernel
theorem d_D_step_14 : decode b_D_step 14 = .ok (.putfield 37, 3) := by decide +kernel
theorem d_D_step_17 : decode b_D_step 17 = .ok (.aload_n 0, 1) := by decide +kernel
theorem d_D_step_18 : decode b_D_step 18 = .ok (.iload_n 1, 1) := by decide +kernel
theorem d_D_step_19 : decode b_D_step 19 = .ok (.invokevirtual 145, 3) := by decide +kernel
theorem d_D_step_22 : decode b_D_step 22 = .ok (.ifCond .ne 21, 3) := by decide +kernel
theorem d_D_step_25 : decode b_D_step 25 = .ok (.aload_n 0, 1) := by decide +kernel
theorem d_D_step_26 : decode b_D_step 26 = .ok (.getfield 18, 3) := by decide +kernel
theorem d_D_step_29 : decode b_D_step 29 = .ok (.iload_n 1, 1) := by decide +kernel
theorem d_D_step_30 : decode b_D_step 30 = .ok (.aaload, 1) := by decide +kernel
theorem d_D_step_31 : decode b_D_step 31 = .ok (.iconst 0, 1) := by decide +kernel
theorem d_D_step_32 : decode b_D_step 32 = .ok (.putfield 148, 3) := by decide +kernel
theorem d_D_step_35 : decode b_D_step 35 = .ok (.new 87, 3) := by decide +kernel
theorem d_D_step_38 : decode b_D_step 38 = .ok (.dup, 1) := by decide +kernel
theorem d_D_step_39 : decode b_D_step 39 = .ok (.invokespecial 89, 3) := by decide +kernel
theorem d_D_step_42 : decode b_D_step 42 = .ok (.athrow, 1) := by decide +kernel
theorem d_D_step_43 : decode b_D_step 43 = .ok (.iload_n 1, 1) := by decide +kernel
theorem d_D_step_44 : decode b_D_step 44 = .ok (.ireturn, 1) := by decide +kernel
theorem d_D_app_0 : decode b_D_app 0 = .ok (.aload_n 0, 1) := by decide +kernel
theorem d_D_app_1 : decode b_D_app 1 = .ok (.iload_n 1, 1) := by decide +kernel
theorem d_D_app_2 : decode b_D_app 2 = .ok (.invokevirtual 97, 3) := by decide +kernel
theorem d_D_app_5 : decode b_D_app 5 = .ok (.ifCond .ne 5, 3) := by decide +kernel
theorem d_D_app_8 : decode b_D_app 8 = .ok (.iconst (-1), 1) := by decide +kernel
theorem d_D_app_9 : decode b_D_app 9 = .ok (.ireturn, 1) := by decide +kernel
theorem d_D_app_10 : decode b_D_app 10 = .ok (.aload_n 0, 1) := by decide +kernel
theorem d_D_app_11 : decode b_D_app 11 = .ok (.getfield 18, 3) := by decide +kernel
theorem d_D_app_14 : decode b_D_app 14 = .ok (.iload_n 1, 1) := by decide +kernel
theorem d_D_app_15 : decode b_D_app 15 = .ok (.aaload, 1) := by decide +kernel
theorem d_D_app_16 : decode b_D_app 16 = .ok (.astore_n 3, 1) := by decide +kernel
theorem d_D_app_17 : decode b_D_app 17 = .ok (.iload_n 2, 1) := by decide +kernel
theorem d_D_app_18 : decode b_D_app 18 = .ok (.tableswitch 127 0 6 #[42, 50, 58, 71, 87, 103, 119], 42) := by decide +kernel
theorem d_D_app_60 : decode b_D_app 60 = .ok (.aload_n 3, 1) := by decide +kernel
theorem d_D_app_61 : decode b_D_app 61 = .ok (.getfield 107, 3) := by decide +kernel
theorem d_D_app_64 : decode b_D_app 64 = .ok (.getfield 152, 3) := by decide +kernel
theorem d_D_app_67 : decode b_D_app 67 = .ok (.ireturn, 1) := by decide +kernel
theorem d_D_app_68 : decode b_D_app 68 = .ok (.aload_n 3, 1) := by decide +kernel
theorem d_D_app_69 : decode b_D_app 69 = .ok (.getfield 107, 3) := by decide +kernel
theorem d_D_app_72 : decode b_D_app 72 = .ok (.getfield 155, 3) := by decide +kernel
theorem d_D_app_75 : decode b_D_app 75 = .ok (.ireturn, 1) := by decide +kernel
theorem d_D_app_76 : decode b_D_app 76 = .ok (.aload_n 3, 1) := by decide +kernel
theorem d_D_app_77 : decode b_D_app 77 = .ok (.getfield 148, 3) := by decide +kernel
theorem d_D_app_80 : decode b_D_app 80 = .ok (.ifCond .eq 7, 3) := by decide +kernel
theorem d_D_app_83 : decode b_D_app 83 = .ok (.iconst 1, 1) := by decide +kernel
theorem d_D_app_84 : decode b_D_app 84 = .ok (.goto 4, 3) := by decide +kernel
theorem d_D_app_87 : decode b_D_app 87 = .ok (.iconst 0, 1) := by decide +kernel
theorem d_D_app_88 : decode b_D_app 88 = .ok (.ireturn, 1) := by decide +kernel
theorem d_D_app_89 : decode b_D_app 89 = .ok (.aload_n 3, 1) := by decide +kernel
theorem d_D_app_90 : decode b_D_app 90 = .ok (.getfield 148, 3) := by decide +kernel
theorem d_D_app_93 : decode b_D_app 93 = .ok (.ifCond .eq 10, 3) := by decide +kernel
theorem d_D_app_96 : decode b_D_app 96 = .ok (.aload_n 3, 1) := by decide +kernel
theorem d_D_app_97 : decode b_D_app 97 = .ok (.getfield 158, 3) := by decide +kernel
theorem d_D_app_100 : decode b_D_app 100 = .ok (.goto 4, 3) := by decide +kernel
theorem d_D_app_103 : decode b_D_app 103 = .ok (.iconst 0, 1) := by decide +kernel
theorem d_D_app_104 : decode b_D_app 104 = .ok (.ireturn, 1) := by decide +kernel
theorem d_D_app_105 : decode b_D_app 105 = .ok (.aload_n 3, 1) := by decide +kernel
theorem d_D_app_106 : decode b_D_app 106 = .ok (.getfield 148, 3) := by decide +kernel
theorem d_D_app_109 : decode b_D_app 109 = .ok (.ifCond .eq 10, 3) := by decide +kernel
theorem d_D_app_112 : decode b_D_app 112 = .ok (.aload_n 3, 1) := by decide +kernel
theorem d_D_app_113 : decode b_D_app 113 = .ok (.getfield 161, 3) := by decide +kernel
theorem d_D_app_116 : decode b_D_app 116 = .ok (.goto 4, 3) := by decide +kernel
theorem d_D_app_119 : decode b_D_app 119 = .ok (.iconst 0, 1) := by decide +kernel
theorem d_D_app_120 : decode b_D_app 120 = .ok (.ireturn, 1) := by decide +kernel
theorem d_D_app_121 : decode b_D_app 121 = .ok (.aload_n 3, 1) := by decide +kernel
theorem d_D_app_122 : decode b_D_app 122 = .ok (.getfield 148, 3) := by decide +kernel
theorem d_D_app_125 : decode b_D_app 125 = .ok (.ifCond .eq 10, 3) := by decide +kernel
theorem d_D_app_128 : decode b_D_app 128 = .ok (.aload_n 3, 1) := by decide +kernel
theorem d_D_app_129 : decode b_D_app 129 = .ok (.invokevirtual 164, 3) := by decide +kernel
theorem d_D_app_132 : decode b_D_app 132 = .ok (.goto 4, 3) := by decide +kernel
theorem d_D_app_135 : decode b_D_app 135 = .ok (.iconst 0, 1) := by decide +kernel
theorem d_D_app_136 : decode b_D_app 136 = .ok (.ireturn, 1) := by decide +kernel
theorem d_D_app_137 : decode b_D_app 137 = .ok (.aload_n 3, 1) := by decide +kernel
theorem d_D_app_138 : decode b_D_app 138 = .ok (.getfield 167, 3) := by decide +kernel
theorem d_D_app_141 : decode b_D_app 141 = .ok (.invokestatic 170, 3) := by decide +kernel
theorem d_D_app_144 : decode b_D_app 144 = .ok (.ireturn, 1) := by decide +kernel
theorem d_D_app_145 : decode b_D_app 145 = .ok (.iconst (-1), 1) := by decide +kernel
theorem d_D_app_146 : decode b_D_app 146 = .ok (.ireturn, 1) := by decide +kernel
theorem d_D_holds_0 : decode b_D_holds 0 = .ok (.aload_n 0, 1) := by decide +kernel
theorem d_D_holds_1 : decode b_D_holds 1 = .ok (.iload_n 1, 1) := by decide +kernel
theorem d_D_holds_2 : decode b_D_holds 2 = .ok (.invokevirtual 97, 3) := by decide +kernel
theorem d_D_holds_5 : decode b_D_holds 5 = .ok (.ifCond .eq 19, 3) := by decide +kernel
theorem d_D_holds_8 : decode b_D_holds 8 = .ok (.aload_n 0, 1) := by decide +kernel
theorem d_D_holds_9 : decode b_D_holds 9 = .ok (.getfield 18, 3) := by decide +kernel
theorem d_D_holds_12 : decode b_D_holds 12 = .ok (.iload_n 1, 1) := by decide +kernel
theorem d_D_holds_13 : decode b_D_holds 13 = .ok (.aaload, 1) := by decide +kernel
theorem d_D_holds_14 : decode b_D_holds 14 = .ok (.getfield 107, 3) := by decide +kernel
theorem d_D_holds_17 : decode b_D_holds 17 = .ok (.iload_n 2, 1) := by decide +kernel
theorem d_D_holds_18 : decode b_D_holds 18 = .ok (.invokevirtual 57, 3) := by decide +kernel
theorem d_D_holds_21 : decode b_D_holds 21 = .ok (.ifCond .ne 5, 3) := by decide +kernel
theorem d_D_holds_24 : decode b_D_holds 24 = .ok (.iconst 0, 1) := by decide +kernel
theorem d_D_holds_25 : decode b_D_holds 25 = .ok (.ireturn, 1) := by decide +kernel
theorem d_D_holds_26 : decode b_D_holds 26 = .ok (.aload_n 0, 1) := by decide +kernel
theorem d_D_holds_27 : decode b_D_holds 27 = .ok (.iload_n 2, 1) := by decide +kernel
theorem d_D_holds_28 : decode b_D_holds 28 = .ok (.invokevirtual 176, 3) := by decide +kernel
theorem d_D_holds_31 : decode b_D_holds 31 = .ok (.istore_n 3, 1) := by decide +kernel
theorem d_D_holds_32 : decode b_D_holds 32 = .ok (.iload_n 3, 1) := by decide +kernel
theorem d_D_holds_33 : decode b_D_holds 33 = .ok (.iconst (-1), 1) := by decide +kernel
theorem d_D_holds_34 : decode b_D_holds 34 = .ok (.if_icmp .ne 5, 3) := by decide +kernel
theorem d_D_holds_37 : decode b_D_holds 37 = .ok (.iconst 0, 1) := by decide +kernel
theorem d_D_holds_38 : decode b_D_holds 38 = .ok (.ireturn, 1) := by decide +kernel
theorem d_D_holds_39 : decode b_D_holds 39 = .ok (.aload_n 0, 1) := by decide +kernel
theorem d_D_holds_40 : decode b_D_holds 40 = .ok (.getfield 18, 3) := by decide +kernel
theorem d_D_holds_43 : decode b_D_holds 43 = .ok (.iload_n 3, 1) := by decide +kernel
theorem d_D_holds_44 : decode b_D_holds 44 = .ok (.aaload, 1) := by decide +kernel
theorem d_D_holds_45 : decode b_D_holds 45 = .ok (.getfield 107, 3) := by decide +kernel
theorem d_D_holds_48 : decode b_D_holds 48 = .ok (.getfield 66, 3) := by decide +kernel
theorem d_D_holds_51 : decode b_D_holds 51 = .ok (.iload_n 2, 1) := by decide +kernel
theorem d_D_holds_52 : decode b_D_holds 52 = .ok (.iaload, 1) := by decide +kernel
theorem d_D_holds_53 : decode b_D_holds 53 = .ok (.istore 4, 2) := by decide +kernel
theorem d_D_holds_55 : decode b_D_holds 55 = .ok (.iload 4, 2) := by decide +kernel
theorem d_D_holds_57 : decode b_D_holds 57 = .ok (.ifCond .ne 5, 3) := by decide +kernel
theorem d_D_holds_60 : decode b_D_holds 60 = .ok (.iconst 1, 1) := by decide +kernel
theorem d_D_holds_61 : decode b_D_holds 61 = .ok (.ireturn, 1) := by decide +kernel
theorem d_D_holds_62 : decode b_D_holds 62 = .ok (.iload 4, 2) := by decide +kernel
theorem d_D_holds_64 : decode b_D_holds 64 = .ok (.iconst 1, 1) := by decide +kernel
theorem d_D_holds_65 : decode b_D_holds 65 = .ok (.if_icmp .ne 14, 3) := by decide +kernel
theorem d_D_holds_68 : decode b_D_holds 68 = .ok (.aload_n 0, 1) := by decide +kernel
theorem d_D_holds_69 : decode b_D_holds 69 = .ok (.getfield 18, 3) := by decide +kernel
theorem d_D_holds_72 : decode b_D_holds 72 = .ok (.iload_n 1, 1) := by decide +kernel
theorem d_D_holds_73 : decode b_D_holds 73 = .ok (.aaload, 1) := by decide +kernel
theorem d_D_holds_74 : decode b_D_holds 74 = .ok (.iload_n 2, 1) := by decide +kernel
theorem d_D_holds_75 : decode b_D_holds 75 = .ok (.invokevirtual 110, 3) := by decide +kernel
theorem d_D_holds_78 : decode b_D_holds 78 = .ok (.ireturn, 1) := by decide +kernel
theorem d_D_holds_79 : decode b_D_holds 79 = .ok (.aload_n 0, 1) := by decide +kernel
theorem d_D_holds_80 : decode b_D_holds 80 = .ok (.getfield 18, 3) := by decide +kernel
theorem d_D_holds_83 : decode b_D_holds 83 = .ok (.iload_n 1, 1) := by decide +kernel
theorem d_D_holds_84 : decode b_D_holds 84 = .ok (.aaload, 1) := by decide +kernel
theorem d_D_holds_85 : decode b_D_holds 85 = .ok (.getfield 107, 3) := by decide +kernel
theorem d_D_holds_88 : decode b_D_holds 88 = .ok (.getfield 155, 3) := by decide +kernel
theorem d_D_holds_91 : decode b_D_holds 91 = .ok (.aload_n 0, 1) := by decide +kernel
theorem d_D_holds_92 : decode b_D_holds 92 = .ok (.getfield 18, 3) := by decide +kernel
theorem d_D_holds_95 : decode b_D_holds 95 = .ok (.iload_n 3, 1) := by decide +kernel
theorem d_D_holds_96 : decode b_D_holds 96 = .ok (.aaload, 1) := by decide +kernel
theorem d_D_holds_97 : decode b_D_holds 97 = .ok (.getfield 107, 3) := by decide +kernel
theorem d_D_holds_100 : decode b_D_holds 100 = .ok (.getfield 155, 3) := by decide +kernel
theorem d_D_holds_103 : decode b_D_holds 103 = .ok (.if_icmp .ne 7, 3) := by decide +kernel
theorem d_D_holds_106 : decode b_D_holds 106 = .ok (.iconst 1, 1) := by decide +kernel
theorem d_D_holds_107 : decode b_D_holds 107 = .ok (.goto 4, 3) := by decide +kernel
theorem d_D_holds_110 : decode b_D_holds 110 = .ok (.iconst 0, 1) := by decide +kernel
theorem d_D_holds_111 : decode b_D_holds 111 = .ok (.ireturn, 1) := by decide +kernel
theorem d_D_kept_0 : decode b_D_kept 0 = .ok (.aload_n 0, 1) := by decide +kernel
theorem d_D_kept_1 : decode b_D_kept 1 = .ok (.iload_n 1, 1) := by decide +kernel
theorem d_D_kept_2 : decode b_D_kept 2 = .ok (.invokevirtual 97, 3) := by decide +kernel
theorem d_D_kept_5 : decode b_D_kept 5 = .ok (.ifCond .eq 16, 3) := by decide +kernel
theorem d_D_kept_8 : decode b_D_kept 8 = .ok (.aload_n 0, 1) := by decide +kernel
theorem d_D_kept_9 : decode b_D_kept 9 = .ok (.getfield 18, 3) := by decide +kernel
theorem d_D_kept_12 : decode b_D_kept 12 = .ok (.iload_n 1, 1) := by decide +kernel
theorem d_D_kept_13 : decode b_D_kept 13 = .ok (.aaload, 1) := by decide +kernel
theorem d_D_kept_14 : decode b_D_kept 14 = .ok (.iload_n 2, 1) := by decide +kernel
theorem d_D_kept_15 : decode b_D_kept 15 = .ok (.invokevirtual 179, 3) := by decide +kernel
theorem d_D_kept_18 : decode b_D_kept 18 = .ok (.goto 4, 3) := by decide +kernel
theorem d_D_kept_21 : decode b_D_kept 21 = .ok (.iconst 0, 1) := by decide +kernel
theorem d_D_kept_22 : decode b_D_kept 22 = .ok (.ireturn, 1) := by decide +kernel
theorem d_D_queued_0 : decode b_D_queued 0 = .ok (.aload_n 0, 1) := by decide +kernel
theorem d_D_queued_1 : decode b_D_queued 1 = .ok (.getfield 26, 3) := by decide +kernel
theorem d_D_queued_4 : decode b_D_queued 4 = .ok (.getfield 120, 3) := by decide +kernel
theorem d_D_queued_7 : decode b_D_queued 7 = .ok (.ireturn, 1) := by decide +kernel
theorem d_D_isBelow_0 : decode b_D_isBelow 0 = .ok (.iload_n 0, 1) := by decide +kernel
theorem d_D_isBelow_1 : decode b_D_isBelow 1 = .ok (.ifCond .lt 12, 3) := by decide +kernel
theorem d_D_isBelow_4 : decode b_D_isBelow 4 = .ok (.iload_n 0, 1) := by decide +kernel
theorem d_D_isBelow_5 : decode b_D_isBelow 5 = .ok (.iload_n 1, 1) := by decide +kernel
theorem d_D_isBelow_6 : decode b_D_isBelow 6 = .ok (.if_icmp .ge 7, 3) := by decide +kernel
theorem d_D_isBelow_9 : decode b_D_isBelow 9 = .ok (.iconst 1, 1) := by decide +kernel
theorem d_D_isBelow_10 : decode b_D_isBelow 10 = .ok (.goto 4, 3) := by decide +kernel
theorem d_D_isBelow_13 : decode b_D_isBelow 13 = .ok (.iconst 0, 1) := by decide +kernel
theorem d_D_isBelow_14 : decode b_D_isBelow 14 = .ok (.ireturn, 1) := by decide +kernel
theorem d_D_hasBit_0 : decode b_D_hasBit 0 = .ok (.iload_n 1, 1) := by decide +kernel
theorem d_D_hasBit_1 : decode b_D_hasBit 1 = .ok (.iload_n 2, 1) := by decide +kernel
theorem d_D_hasBit_2 : decode b_D_hasBit 2 = .ok (.invokestatic 41, 3) := by decide +kernel
theorem d_D_hasBit_5 : decode b_D_hasBit 5 = .ok (.ifCond .eq 16, 3) := by decide +kernel
theorem d_D_hasBit_8 : decode b_D_hasBit 8 = .ok (.iload_n 0, 1) := by decide +kernel
theorem d_D_hasBit_9 : decode b_D_hasBit 9 = .ok (.iload_n 1, 1) := by decide +kernel
theorem d_D_hasBit_10 : decode b_D_hasBit 10 = .ok (.ishr, 1) := by decide +kernel
theorem d_D_hasBit_11 : decode b_D_hasBit 11 = .ok (.iconst 1, 1) := by decide +kernel
theorem d_D_hasBit_12 : decode b_D_hasBit 12 = .ok (.iand, 1) := by decide +kernel
theorem d_D_hasBit_13 : decode b_D_hasBit 13 = .ok (.iconst 1, 1) := by decide +kernel
theorem d_D_hasBit_14 : decode b_D_hasBit 14 = .ok (.if_icmp .ne 7, 3) := by decide +kernel
theorem d_D_hasBit_17 : decode b_D_hasBit 17 = .ok (.iconst 1, 1) := by decide +kernel
theorem d_D_hasBit_18 : decode b_D_hasBit 18 = .ok (.goto 4, 3) := by decide +kernel
theorem d_D_hasBit_21 : decode b_D_hasBit 21 = .ok (.iconst 0, 1) := by decide +kernel
theorem d_D_hasBit_22 : decode b_D_hasBit 22 = .ok (.ireturn, 1) := by decide +kernel
theorem d_D_operationOf_0 : decode b_D_operationOf 0 = .ok (.iload_n 0, 1) := by decide +kernel
theorem d_D_operationOf_1 : decode b_D_operationOf 1 = .ok (.bipush 15, 2) := by decide +kernel
theorem d_D_operationOf_3 : decode b_D_operationOf 3 = .ok (.iand, 1) := by decide +kernel
theorem d_D_operationOf_4 : decode b_D_operationOf 4 = .ok (.ireturn, 1) := by decide +kernel
theorem d_D_argumentOf_0 : decode b_D_argumentOf 0 = .ok (.iload_n 0, 1) := by decide +kernel
theorem d_D_argumentOf_1 : decode b_D_argumentOf 1 = .ok (.iconst 4, 1) := by decide +kernel
theorem d_D_argumentOf_2 : decode b_D_argumentOf 2 = .ok (.ishr, 1) := by decide +kernel
theorem d_D_argumentOf_3 : decode b_D_argumentOf 3 = .ok (.ireturn, 1) := by decide +kernel
theorem d_D_isInstalled_0 : decode b_D_isInstalled 0 = .ok (.iload_n 1, 1) := by decide +kernel
theorem d_D_isInstalled_1 : decode b_D_isInstalled 1 = .ok (.bipush 8, 2) := by decide +kernel
theorem d_D_isInstalled_3 : decode b_D_isInstalled 3 = .ok (.invokestatic 41, 3) := by decide +kernel
theorem d_D_isInstalled_6 : decode b_D_isInstalled 6 = .ok (.ifCond .eq 19, 3) := by decide +kernel
theorem d_D_isInstalled_9 : decode b_D_isInstalled 9 = .ok (.aload_n 0, 1) := by decide +kernel
theorem d_D_isInstalled_10 : decode b_D_isInstalled 10 = .ok (.getfield 18, 3) := by decide +kernel
theorem d_D_isInstalled_13 : decode b_D_isInstalled 13 = .ok (.iload_n 1, 1) := by decide +kernel
theorem d_D_isInstalled_14 : decode b_D_isInstalled 14 = .ok (.aaload, 1) := by decide +kernel
theorem d_D_isInstalled_15 : decode b_D_isInstalled 15 = .ok (.getfield 182, 3) := by decide +kernel
theorem d_D_isInstalled_18 : decode b_D_isInstalled 18 = .ok (.ifCond .eq 7, 3) := by decide +kernel
theorem d_D_isInstalled_21 : decode b_D_isInstalled 21 = .ok (.iconst 1, 1) := by decide +kernel
theorem d_D_isInstalled_22 : decode b_D_isInstalled 22 = .ok (.goto 4, 3) := by decide +kernel
theorem d_D_isInstalled_25 : decode b_D_isInstalled 25 = .ok (.iconst 0, 1) := by decide +kernel
theorem d_D_isInstalled_26 : decode b_D_isInstalled 26 = .ok (.ireturn, 1) := by decide +kernel
theorem d_D_declarerOf_0 : decode b_D_declarerOf 0 = .ok (.iconst 0, 1) := by decide +kernel
theorem d_D_declarerOf_1 : decode b_D_declarerOf 1 = .ok (.istore_n 2, 1) := by decide +kernel
theorem d_D_declarerOf_2 : decode b_D_declarerOf 2 = .ok (.iload_n 2, 1) := by decide +kernel
theorem d_D_declarerOf_3 : decode b_D_declarerOf 3 = .ok (.bipush 8, 2) := by decide +kernel
theorem d_D_declarerOf_5 : decode b_D_declarerOf 5 = .ok (.if_icmp .ge 39, 3) := by decide +kernel
theorem d_D_declarerOf_8 : decode b_D_declarerOf 8 = .ok (.aload_n 0, 1) := by decide +kernel
theorem d_D_declarerOf_9 : decode b_D_declarerOf 9 = .ok (.getfield 18, 3) := by decide +kernel
theorem d_D_declarerOf_12 : decode b_D_declarerOf 12 = .ok (.iload_n 2, 1) := by decide +kernel
theorem d_D_declarerOf_13 : decode b_D_declarerOf 13 = .ok (.aaload, 1) := by decide +kernel
theorem d_D_declarerOf_14 : decode b_D_declarerOf 14 = .ok (.getfield 182, 3) := by decide +kernel
theorem d_D_declarerOf_17 : decode b_D_declarerOf 17 = .ok (.ifCond .eq 21, 3) := by decide +kernel
theorem d_D_declarerOf_20 : decode b_D_declarerOf 20 = .ok (.aload_n 0, 1) := by decide +kernel
theorem d_D_declarerOf_21 : decode b_D_declarerOf 21 = .ok (.getfield 18, 3) := by decide +kernel
theorem d_D_declarerOf_24 : decode b_D_declarerOf 24 = .ok (.iload_n 2, 1) := by decide +kernel
theorem d_D_declarerOf_25 : decode b_D_declarerOf 25 = .ok (.aaload, 1) := by decide +kernel
theorem d_D_declarerOf_26 : decode b_D_declarerOf 26 = .ok (.getfield 107, 3) := by decide +kernel
theorem d_D_declarerOf_29 : decode b_D_declarerOf 29 = .ok (.iload_n 1, 1) := by decide +kernel
theorem d_D_declarerOf_30 : decode b_D_declarerOf 30 = .ok (.invokevirtual 63, 3) := by decide +kernel
theorem d_D_declarerOf_33 : decode b_D_declarerOf 33 = .ok (.ifCond .eq 5, 3) := by decide +kernel
theorem d_D_declarerOf_36 : decode b_D_declarerOf 36 = .ok (.iload_n 2, 1) := by decide +kernel
theorem d_D_declarerOf_37 : decode b_D_declarerOf 37 = .ok (.ireturn, 1) := by decide +kernel
theorem d_D_declarerOf_38 : decode b_D_declarerOf 38 = .ok (.iinc 2 1, 3) := by decide +kernel
theorem d_D_declarerOf_41 : decode b_D_declarerOf 41 = .ok (.goto (-39), 3) := by decide +kernel
theorem d_D_declarerOf_44 : decode b_D_declarerOf 44 = .ok (.iconst (-1), 1) := by decide +kernel
theorem d_D_declarerOf_45 : decode b_D_declarerOf 45 = .ok (.ireturn, 1) := by decide +kernel
theorem d_D_isSound_0 : decode b_D_isSound 0 = .ok (.aload_n 1, 1) := by decide +kernel
theorem d_D_isSound_1 : decode b_D_isSound 1 = .ok (.getfield 185, 3) := by decide +kernel
theorem d_D_isSound_4 : decode b_D_isSound 4 = .ok (.ifCond .le 36, 3) := by decide +kernel
theorem d_D_isSound_7 : decode b_D_isSound 7 = .ok (.aload_n 1, 1) := by decide +kernel
theorem d_D_isSound_8 : decode b_D_isSound 8 = .ok (.getfield 188, 3) := by decide +kernel
theorem d_D_isSound_11 : decode b_D_isSound 11 = .ok (.ifCond .le 29, 3) := by decide +kernel
theorem d_D_isSound_14 : decode b_D_isSound 14 = .ok (.aload_n 1, 1) := by decide +kernel
theorem d_D_isSound_15 : decode b_D_isSound 15 = .ok (.getfield 74, 3) := by decide +kernel
theorem d_D_isSound_18 : decode b_D_isSound 18 = .ok (.aload_n 1, 1) := by decide +kernel
theorem d_D_isSound_19 : decode b_D_isSound 19 = .ok (.invokevirtual 70, 3) := by decide +kernel
theorem d_D_isSound_22 : decode b_D_isSound 22 = .ok (.if_icmp .ne 18, 3) := by decide +kernel
theorem d_D_isSound_25 : decode b_D_isSound 25 = .ok (.aload_n 0, 1) := by decide +kernel
theorem d_D_isSound_26 : decode b_D_isSound 26 = .ok (.getfield 33, 3) := by decide +kernel
theorem d_D_isSound_29 : decode b_D_isSound 29 = .ok (.aload_n 1, 1) := by decide +kernel
theorem d_D_isSound_30 : decode b_D_isSound 30 = .ok (.invokevirtual 191, 3) := by decide +kernel
theorem d_D_isSound_33 : decode b_D_isSound 33 = .ok (.ifCond .eq 7, 3) := by decide +kernel
theorem d_D_isSound_36 : decode b_D_isSound 36 = .ok (.iconst 1, 1) := by decide +kernel
theorem d_D_isSound_37 : decode b_D_isSound 37 = .ok (.goto 4, 3) := by decide +kernel
theorem d_D_isSound_40 : decode b_D_isSound 40 = .ok (.iconst 0, 1) := by decide +kernel
theorem d_D_isSound_41 : decode b_D_isSound 41 = .ok (.ireturn, 1) := by decide +kernel
theorem d_D_mayEnter_0 : decode b_D_mayEnter 0 = .ok (.aload_n 0, 1) := by decide +kernel
theorem d_D_mayEnter_1 : decode b_D_mayEnter 1 = .ok (.getfield 18, 3) := by decide +kernel
theorem d_D_mayEnter_4 : decode b_D_mayEnter 4 = .ok (.aload_n 1, 1) := by decide +kernel
theorem d_D_mayEnter_5 : decode b_D_mayEnter 5 = .ok (.getfield 90, 3) := by decide +kernel
theorem d_D_mayEnter_8 : decode b_D_mayEnter 8 = .ok (.aaload, 1) := by decide +kernel
theorem d_D_mayEnter_9 : decode b_D_mayEnter 9 = .ok (.astore_n 2, 1) := by decide +kernel
theorem d_D_mayEnter_10 : decode b_D_mayEnter 10 = .ok (.aload_n 2, 1) := by decide +kernel
theorem d_D_mayEnter_11 : decode b_D_mayEnter 11 = .ok (.getfield 182, 3) := by decide +kernel
theorem d_D_mayEnter_14 : decode b_D_mayEnter 14 = .ok (.ifCond .eq 33, 3) := by decide +kernel
theorem d_D_mayEnter_17 : decode b_D_mayEnter 17 = .ok (.aload_n 2, 1) := by decide +kernel
theorem d_D_mayEnter_18 : decode b_D_mayEnter 18 = .ok (.getfield 107, 3) := by decide +kernel
theorem d_D_mayEnter_21 : decode b_D_mayEnter 21 = .ok (.getfield 155, 3) := by decide +kernel
theorem d_D_mayEnter_24 : decode b_D_mayEnter 24 = .ok (.aload_n 1, 1) := by decide +kernel
theorem d_D_mayEnter_25 : decode b_D_mayEnter 25 = .ok (.getfield 155, 3) := by decide +kernel
theorem d_D_mayEnter_28 : decode b_D_mayEnter 28 = .ok (.if_icmp .ne 17, 3) := by decide +kernel
theorem d_D_mayEnter_31 : decode b_D_mayEnter 31 = .ok (.aload_n 2, 1) := by decide +kernel
theorem d_D_mayEnter_32 : decode b_D_mayEnter 32 = .ok (.getfield 107, 3) := by decide +kernel
theorem d_D_mayEnter_35 : decode b_D_mayEnter 35 = .ok (.getfield 152, 3) := by decide +kernel
theorem d_D_mayEnter_38 : decode b_D_mayEnter 38 = .ok (.aload_n 1, 1) := by decide +kernel
theorem d_D_mayEnter_39 : decode b_D_mayEnter 39 = .ok (.getfield 152, 3) := by decide +kernel
theorem d_D_mayEnter_42 : decode b_D_mayEnter 42 = .ok (.if_icmp .lt 5, 3) := by decide +kernel
theorem d_D_mayEnter_45 : decode b_D_mayEnter 45 = .ok (.iconst 0, 1) := by decide +kernel
theorem d_D_mayEnter_46 : decode b_D_mayEnter 46 = .ok (.ireturn, 1) := by decide +kernel
theorem d_D_mayEnter_47 : decode b_D_mayEnter 47 = .ok (.iconst 0, 1) := by decide +kernel
theorem d_D_mayEnter_48 : decode b_D_mayEnter 48 = .ok (.istore_n 3, 1) := by decide +kernel
theorem d_D_mayEnter_49 : decode b_D_mayEnter 49 = .ok (.iload_n 3, 1) := by decide +kernel
theorem d_D_mayEnter_50 : decode b_D_mayEnter 50 = .ok (.bipush 8, 2) := by decide +kernel
theorem d_D_mayEnter_52 : decode b_D_mayEnter 52 = .ok (.if_icmp .ge 31, 3) := by decide +kernel
theorem d_D_mayEnter_55 : decode b_D_mayEnter 55 = .ok (.aload_n 1, 1) := by decide +kernel
theorem d_D_mayEnter_56 : decode b_D_mayEnter 56 = .ok (.iload_n 3, 1) := by decide +kernel
theorem d_D_mayEnter_57 : decode b_D_mayEnter 57 = .ok (.invokevirtual 63, 3) := by decide +kernel
theorem d_D_mayEnter_60 : decode b_D_mayEnter 60 = .ok (.ifCond .eq 17, 3) := by decide +kernel
theorem d_D_mayEnter_63 : decode b_D_mayEnter 63 = .ok (.aload_n 0, 1) := by decide +kernel
theorem d_D_mayEnter_64 : decode b_D_mayEnter 64 = .ok (.iload_n 3, 1) := by decide +kernel
theorem d_D_mayEnter_65 : decode b_D_mayEnter 65 = .ok (.aload_n 1, 1) := by decide +kernel
theorem d_D_mayEnter_66 : decode b_D_mayEnter 66 = .ok (.getfield 90, 3) := by decide +kernel
theorem d_D_mayEnter_69 : decode b_D_mayEnter 69 = .ok (.invokevirtual 194, 3) := by decide +kernel
theorem d_D_mayEnter_72 : decode b_D_mayEnter 72 = .ok (.ifCond .eq 5, 3) := by decide +kernel
theorem d_D_mayEnter_75 : decode b_D_mayEnter 75 = .ok (.iconst 0, 1) := by decide +kernel
theorem d_D_mayEnter_76 : decode b_D_mayEnter 76 = .ok (.ireturn, 1) := by decide +kernel
theorem d_D_mayEnter_77 : decode b_D_mayEnter 77 = .ok (.iinc 3 1, 3) := by decide +kernel
theorem d_D_mayEnter_80 : decode b_D_mayEnter 80 = .ok (.goto (-31), 3) := by decide +kernel
theorem d_D_mayEnter_83 : decode b_D_mayEnter 83 = .ok (.iconst 1, 1) := by decide +kernel
theorem d_D_mayEnter_84 : decode b_D_mayEnter 84 = .ok (.ireturn, 1) := by decide +kernel
theorem d_D_isDeclaredByOther_0 : decode b_D_isDeclaredByOther 0 = .ok (.aload_n 0, 1) := by decide +kernel
theorem d_D_isDeclaredByOther_1 : decode b_D_isDeclaredByOther 1 = .ok (.iload_n 1, 1) := by decide +kernel
theorem d_D_isDeclaredByOther_2 : decode b_D_isDeclaredByOther 2 = .ok (.invokevirtual 176, 3) := by decide +kernel
theorem d_D_isDeclaredByOther_5 : decode b_D_isDeclaredByOther 5 = .ok (.istore_n 3, 1) := by decide +kernel
theorem d_D_isDeclaredByOther_6 : decode b_D_isDeclaredByOther 6 = .ok (.iload_n 3, 1) := by decide +kernel
theorem d_D_isDeclaredByOther_7 : decode b_D_isDeclaredByOther 7 = .ok (.iconst (-1), 1) := by decide +kernel
theorem d_D_isDeclaredByOther_8 : decode b_D_isDeclaredByOther 8 = .ok (.if_icmp .eq 12, 3) := by decide +kernel
theorem d_D_isDeclaredByOther_11 : decode b_D_isDeclaredByOther 11 = .ok (.iload_n 3, 1) := by decide +kernel
theorem d_D_isDeclaredByOther_12 : decode b_D_isDeclaredByOther 12 = .ok (.iload_n 2, 1) := by decide +kernel
theorem d_D_isDeclaredByOther_13 : decode b_D_isDeclaredByOther 13 = .ok (.if_icmp .eq 7, 3) := by decide +kernel
theorem d_D_isDeclaredByOther_16 : decode b_D_isDeclaredByOther 16 = .ok (.iconst 1, 1) := by decide +kernel
theorem d_D_isDeclaredByOther_17 : decode b_D_isDeclaredByOther 17 = .ok (.goto 4, 3) := by decide +kernel
theorem d_D_isDeclaredByOther_20 : decode b_D_isDeclaredByOther 20 = .ok (.iconst 0, 1) := by decide +kernel
theorem d_D_isDeclaredByOther_21 : decode b_D_isDeclaredByOther 21 = .ok (.ireturn, 1) := by decide +kernel
theorem d_D_placeToBegin_0 : decode b_D_placeToBegin 0 = .ok (.aload_n 0, 1) := by decide +kernel
theorem d_D_placeToBegin_1 : decode b_D_placeToBegin 1 = .ok (.getfield 18, 3) := by decide +kernel
theorem d_D_placeToBegin_4 : decode b_D_placeToBegin 4 = .ok (.iload_n 1, 1) := by decide +kernel
theorem d_D_placeToBegin_5 : decode b_D_placeToBegin 5 = .ok (.aaload, 1) := by decide +kernel
theorem d_D_placeToBegin_6 : decode b_D_placeToBegin 6 = .ok (.astore 4, 2) := by decide +kernel
theorem d_D_placeToBegin_8 : decode b_D_placeToBegin 8 = .ok (.aload 4, 2) := by decide +kernel
theorem d_D_placeToBegin_10 : decode b_D_placeToBegin 10 = .ok (.getfield 182, 3) := by decide +kernel
theorem d_D_placeToBegin_13 : decode b_D_placeToBegin 13 = .ok (.ifCond .eq 11, 3) := by decide +kernel
theorem d_D_placeToBegin_16 : decode b_D_placeToBegin 16 = .ok (.aload 4, 2) := by decide +kernel
theorem d_D_placeToBegin_18 : decode b_D_placeToBegin 18 = .ok (.getfield 148, 3) := by decide +kernel
theorem d_D_placeToBegin_21 : decode b_D_placeToBegin 21 = .ok (.ifCond .eq 5, 3) := by decide +kernel
theorem d_D_placeToBegin_24 : decode b_D_placeToBegin 24 = .ok (.iconst (-1), 1) := by decide +kernel
theorem d_D_placeToBegin_25 : decode b_D_placeToBegin 25 = .ok (.ireturn, 1) := by decide +kernel
theorem d_D_placeToBegin_26 : decode b_D_placeToBegin 26 = .ok (.aload 4, 2) := by decide +kernel
theorem d_D_placeToBegin_28 : decode b_D_placeToBegin 28 = .ok (.getfield 107, 3) := by decide +kernel
theorem d_D_placeToBegin_31 : decode b_D_placeToBegin 31 = .ok (.astore 5, 2) := by decide +kernel
theorem d_D_placeToBegin_33 : decode b_D_placeToBegin 33 = .ok (.iconst 0, 1) := by decide +kernel
theorem d_D_placeToBegin_34 : decode b_D_placeToBegin 34 = .ok (.istore 6, 2) := by decide +kernel
theorem d_D_placeToBegin_36 : decode b_D_placeToBegin 36 = .ok (.iload 6, 2) := by decide +kernel
theorem d_D_placeToBegin_38 : decode b_D_placeToBegin 38 = .ok (.aload 5, 2) := by decide +kernel
theorem d_D_placeToBegin_40 : decode b_D_placeToBegin 40 = .ok (.getfield 185, 3) := by decide +kernel
theorem d_D_placeToBegin_43 : decode b_D_placeToBegin 43 = .ok (.if_icmp .ge 75, 3) := by decide +kernel
theorem d_D_placeToBegin_46 : decode b_D_placeToBegin 46 = .ok (.aload 5, 2) := by decide +kernel
theorem d_D_placeToBegin_48 : decode b_D_placeToBegin 48 = .ok (.getfield 197, 3) := by decide +kernel
theorem d_D_placeToBegin_51 : decode b_D_placeToBegin 51 = .ok (.iload 6, 2) := by decide +kernel
theorem d_D_placeToBegin_53 : decode b_D_placeToBegin 53 = .ok (.iaload, 1) := by decide +kernel
theorem d_D_placeToBegin_54 : decode b_D_placeToBegin 54 = .ok (.iconst 1, 1) := by decide +kernel
theorem d_D_placeToBegin_55 : decode b_D_placeToBegin 55 = .ok (.if_icmp .eq 8, 3) := by decide +kernel
theorem d_D_placeToBegin_58 : decode b_D_placeToBegin 58 = .ok (.iload_n 1, 1) := by decide +kernel
theorem d_D_placeToBegin_59 : decode b_D_placeToBegin 59 = .ok (.iload_n 2, 1) := by decide +kernel
theorem d_D_placeToBegin_60 : decode b_D_placeToBegin 60 = .ok (.if_icmp .ne 7, 3) := by decide +kernel
theorem d_D_placeToBegin_63 : decode b_D_placeToBegin 63 = .ok (.iconst 1, 1) := by decide +kernel
theorem d_D_placeToBegin_64 : decode b_D_placeToBegin 64 = .ok (.goto 4, 3) := by decide +kernel
theorem d_D_placeToBegin_67 : decode b_D_placeToBegin 67 = .ok (.iconst 0, 1) := by decide +kernel
theorem d_D_placeToBegin_68 : decode b_D_placeToBegin 68 = .ok (.istore 7, 2) := by decide +kernel
theorem d_D_placeToBegin_70 : decode b_D_placeToBegin 70 = .ok (.aload 5, 2) := by decide +kernel
theorem d_D_placeToBegin_72 : decode b_D_placeToBegin 72 = .ok (.getfield 200, 3) := by decide +kernel
theorem d_D_placeToBegin_75 : decode b_D_placeToBegin 75 = .ok (.iload 6, 2) := by decide +kernel
theorem d_D_placeToBegin_77 : decode b_D_placeToBegin 77 = .ok (.iaload, 1) := by decide +kernel
theorem d_D_placeToBegin_78 : decode b_D_placeToBegin 78 = .ok (.iload_n 3, 1) := by decide +kernel
theorem d_D_placeToBegin_79 : decode b_D_placeToBegin 79 = .ok (.if_icmp .ne 33, 3) := by decide +kernel
theorem d_D_placeToBegin_82 : decode b_D_placeToBegin 82 = .ok (.iload 7, 2) := by decide +kernel
theorem d_D_placeToBegin_84 : decode b_D_placeToBegin 84 = .ok (.ifCond .eq 28, 3) := by decide +kernel
theorem d_D_placeToBegin_87 : decode b_D_placeToBegin 87 = .ok (.aload_n 0, 1) := by decide +kernel
theorem d_D_placeToBegin_88 : decode b_D_placeToBegin 88 = .ok (.iload_n 2, 1) := by decide +kernel
theorem d_D_placeToBegin_89 : decode b_D_placeToBegin 89 = .ok (.aload 5, 2) := by decide +kernel
theorem d_D_placeToBegin_91 : decode b_D_placeToBegin 91 = .ok (.getfield 201, 3) := by decide +kernel
theorem d_D_placeToBegin_94 : decode b_D_placeToBegin 94 = .ok (.iload 6, 2) := by decide +kernel
theorem d_D_placeToBegin_96 : decode b_D_placeToBegin 96 = .ok (.iaload, 1) := by decide +kernel
theorem d_D_placeToBegin_97 : decode b_D_placeToBegin 97 = .ok (.invokevirtual 204, 3) := by decide +kernel
theorem d_D_placeToBegin_100 : decode b_D_placeToBegin 100 = .ok (.ifCond .eq 12, 3) := by decide +kernel
theorem d_D_placeToBegin_103 : decode b_D_placeToBegin 103 = .ok (.aload 5, 2) := by decide +kernel
theorem d_D_placeToBegin_105 : decode b_D_placeToBegin 105 = .ok (.getfield 207, 3) := by decide +kernel
theorem d_D_placeToBegin_108 : decode b_D_placeToBegin 108 = .ok (.iload 6, 2) := by decide +kernel
theorem d_D_placeToBegin_110 : decode b_D_placeToBegin 110 = .ok (.iaload, 1) := by decide +kernel
theorem d_D_placeToBegin_111 : decode b_D_placeToBegin 111 = .ok (.ireturn, 1) := by decide +kernel
theorem d_D_placeToBegin_112 : decode b_D_placeToBegin 112 = .ok (.iinc 6 1, 3) := by decide +kernel
theorem d_D_placeToBegin_115 : decode b_D_placeToBegin 115 = .ok (.goto (-79), 3) := by decide +kernel
theorem d_D_placeToBegin_118 : decode b_D_placeToBegin 118 = .ok (.iconst (-1), 1) := by decide +kernel
theorem d_D_placeToBegin_119 : decode b_D_placeToBegin 119 = .ok (.ireturn, 1) := by decide +kernel
theorem d_D_passesGuard_0 : decode b_D_passesGuard 0 = .ok (.iload_n 2, 1) := by decide +kernel
theorem d_D_passesGuard_1 : decode b_D_passesGuard 1 = .ok (.iconst (-1), 1) := by decide +kernel
theorem d_D_passesGuard_2 : decode b_D_passesGuard 2 = .ok (.if_icmp .eq 12, 3) := by decide +kernel
theorem d_D_passesGuard_5 : decode b_D_passesGuard 5 = .ok (.aload_n 0, 1) := by decide +kernel
theorem d_D_passesGuard_6 : decode b_D_passesGuard 6 = .ok (.iload_n 1, 1) := by decide +kernel
theorem d_D_passesGuard_7 : decode b_D_passesGuard 7 = .ok (.iload_n 2, 1) := by decide +kernel
theorem d_D_passesGuard_8 : decode b_D_passesGuard 8 = .ok (.invokevirtual 210, 3) := by decide +kernel
theorem d_D_passesGuard_11 : decode b_D_passesGuard 11 = .ok (.ifCond .eq 7, 3) := by decide +kernel
theorem d_D_passesGuard_14 : decode b_D_passesGuard 14 = .ok (.iconst 1, 1) := by decide +kernel
theorem d_D_passesGuard_15 : decode b_D_passesGuard 15 = .ok (.goto 4, 3) := by decide +kernel
theorem d_D_passesGuard_18 : decode b_D_passesGuard 18 = .ok (.iconst 0, 1) := by decide +kernel
theorem d_D_passesGuard_19 : decode b_D_passesGuard 19 = .ok (.ireturn, 1) := by decide +kernel
theorem d_D_nextInTurn_0 : decode b_D_nextInTurn 0 = .ok (.iconst 1, 1) := by decide +kernel
theorem d_D_nextInTurn_1 : decode b_D_nextInTurn 1 = .ok (.istore_n 1, 1) := by decide +kernel
theorem d_D_nextInTurn_2 : decode b_D_nextInTurn 2 = .ok (.iload_n 1, 1) := by decide +kernel
theorem d_D_nextInTurn_3 : decode b_D_nextInTurn 3 = .ok (.bipush 8, 2) := by decide +kernel
theorem d_D_nextInTurn_5 : decode b_D_nextInTurn 5 = .ok (.if_icmp .gt 33, 3) := by decide +kernel
theorem d_D_nextInTurn_8 : decode b_D_nextInTurn 8 = .ok (.aload_n 0, 1) := by decide +kernel
theorem d_D_nextInTurn_9 : decode b_D_nextInTurn 9 = .ok (.getfield 37, 3) := by decide +kernel
theorem d_D_nextInTurn_12 : decode b_D_nextInTurn 12 = .ok (.iload_n 1, 1) := by decide +kernel
theorem d_D_nextInTurn_13 : decode b_D_nextInTurn 13 = .ok (.iadd, 1) := by decide +kernel
theorem d_D_nextInTurn_14 : decode b_D_nextInTurn 14 = .ok (.bipush 8, 2) := by decide +kernel
theorem d_D_nextInTurn_16 : decode b_D_nextInTurn 16 = .ok (.irem, 1) := by decide +kernel
theorem d_D_nextInTurn_17 : decode b_D_nextInTurn 17 = .ok (.istore_n 2, 1) := by decide +kernel
theorem d_D_nextInTurn_18 : decode b_D_nextInTurn 18 = .ok (.aload_n 0, 1) := by decide +kernel
theorem d_D_nextInTurn_19 : decode b_D_nextInTurn 19 = .ok (.getfield 18, 3) := by decide +kernel
theorem d_D_nextInTurn_22 : decode b_D_nextInTurn 22 = .ok (.iload_n 2, 1) := by decide +kernel
theorem d_D_nextInTurn_23 : decode b_D_nextInTurn 23 = .ok (.aaload, 1) := by decide +kernel
theorem d_D_nextInTurn_24 : decode b_D_nextInTurn 24 = .ok (.getfield 148, 3) := by decide +kernel
theorem d_D_nextInTurn_27 : decode b_D_nextInTurn 27 = .ok (.ifCond .eq 5, 3) := by decide +kernel
theorem d_D_nextInTurn_30 : decode b_D_nextInTurn 30 = .ok (.iload_n 2, 1) := by decide +kernel
theorem d_D_nextInTurn_31 : decode b_D_nextInTurn 31 = .ok (.ireturn, 1) := by decide +kernel
theorem d_D_nextInTurn_32 : decode b_D_nextInTurn 32 = .ok (.iinc 1 1, 3) := by decide +kernel
theorem d_D_nextInTurn_35 : decode b_D_nextInTurn 35 = .ok (.goto (-33), 3) := by decide +kernel
theorem d_D_nextInTurn_38 : decode b_D_nextInTurn 38 = .ok (.iconst (-1), 1) := by decide +kernel
theorem d_D_nextInTurn_39 : decode b_D_nextInTurn 39 = .ok (.ireturn, 1) := by decide +kernel
theorem d_D_doWord_0 : decode b_D_doWord 0 = .ok (.aload_n 0, 1) := by decide +kernel
theorem d_D_doWord_1 : decode b_D_doWord 1 = .ok (.getfield 18, 3) := by decide +kernel
theorem d_D_doWord_4 : decode b_D_doWord 4 = .ok (.iload_n 1, 1) := by decide +kernel
theorem d_D_doWord_5 : decode b_D_doWord 5 = .ok (.aaload, 1) := by decide +kernel
theorem d_D_doWord_6 : decode b_D_doWord 6 = .ok (.astore_n 2, 1) := by decide +kernel
theorem d_D_doWord_7 : decode b_D_doWord 7 = .ok (.aload_n 2, 1) := by decide +kernel
theorem d_D_doWord_8 : decode b_D_doWord 8 = .ok (.invokevirtual 213, 3) := by decide +kernel
theorem d_D_doWord_11 : decode b_D_doWord 11 = .ok (.istore_n 3, 1) := by decide +kernel
theorem d_D_doWord_12 : decode b_D_doWord 12 = .ok (.iload_n 3, 1) := by decide +kernel
theorem d_D_doWord_13 : decode b_D_doWord 13 = .ok (.invokestatic 216, 3) := by decide +kernel
theorem d_D_doWord_16 : decode b_D_doWord 16 = .ok (.tableswitch 135 0 13 #[121, 135, 135, 135, 135, 135, 135, 135, 121, 121, 111, 116, 72, 78], 72) := by decide +kernel
theorem d_D_doWord_88 : decode b_D_doWord 88 = .ok (.aload_n 0, 1) := by decide +kernel
theorem d_D_doWord_89 : decode b_D_doWord 89 = .ok (.iload_n 1, 1) := by decide +kernel
theorem d_D_doWord_90 : decode b_D_doWord 90 = .ok (.invokevirtual 219, 3) := by decide +kernel
theorem d_D_doWord_93 : decode b_D_doWord 93 = .ok (.ireturn, 1) := by decide +kernel
theorem d_D_doWord_94 : decode b_D_doWord 94 = .ok (.aload_n 2, 1) := by decide +kernel
theorem d_D_doWord_95 : decode b_D_doWord 95 = .ok (.aload_n 0, 1) := by decide +kernel
theorem d_D_doWord_96 : decode b_D_doWord 96 = .ok (.iload_n 1, 1) := by decide +kernel
theorem d_D_doWord_97 : decode b_D_doWord 97 = .ok (.iload_n 3, 1) := by decide +kernel
theorem d_D_doWord_98 : decode b_D_doWord 98 = .ok (.invokestatic 222, 3) := by decide +kernel
theorem d_D_doWord_101 : decode b_D_doWord 101 = .ok (.invokevirtual 210, 3) := by decide +kernel
theorem d_D_doWord_104 : decode b_D_doWord 104 = .ok (.ifCond .eq 7, 3) := by decide +kernel
theorem d_D_doWord_107 : decode b_D_doWord 107 = .ok (.iconst 1, 1) := by decide +kernel
theorem d_D_doWord_108 : decode b_D_doWord 108 = .ok (.goto 4, 3) := by decide +kernel
theorem d_D_doWord_111 : decode b_D_doWord 111 = .ok (.iconst 0, 1) := by decide +kernel
theorem d_D_doWord_112 : decode b_D_doWord 112 = .ok (.invokevirtual 225, 3) := by decide +kernel
theorem d_D_doWord_115 : decode b_D_doWord 115 = .ok (.aload_n 2, 1) := by decide +kernel
theorem d_D_doWord_116 : decode b_D_doWord 116 = .ok (.dup, 1) := by decide +kernel
theorem d_D_doWord_117 : decode b_D_doWord 117 = .ok (.getfield 158, 3) := by decide +kernel
theorem d_D_doWord_120 : decode b_D_doWord 120 = .ok (.iconst 1, 1) := by decide +kernel
theorem d_D_doWord_121 : decode b_D_doWord 121 = .ok (.iadd, 1) := by decide +kernel
theorem d_D_doWord_122 : decode b_D_doWord 122 = .ok (.putfield 158, 3) := by decide +kernel
theorem d_D_doWord_125 : decode b_D_doWord 125 = .ok (.iconst 1, 1) := by decide +kernel
theorem d_D_doWord_126 : decode b_D_doWord 126 = .ok (.ireturn, 1) := by decide +kernel
theorem d_D_doWord_127 : decode b_D_doWord 127 = .ok (.aload_n 2, 1) := by decide +kernel
theorem d_D_doWord_128 : decode b_D_doWord 128 = .ok (.invokevirtual 228, 3) := by decide +kernel
theorem d_D_doWord_131 : decode b_D_doWord 131 = .ok (.ireturn, 1) := by decide +kernel
theorem d_D_doWord_132 : decode b_D_doWord 132 = .ok (.aload_n 2, 1) := by decide +kernel
theorem d_D_doWord_133 : decode b_D_doWord 133 = .ok (.invokevirtual 232, 3) := by decide +kernel
theorem d_D_doWord_136 : decode b_D_doWord 136 = .ok (.ireturn, 1) := by decide +kernel
theorem d_D_doWord_137 : decode b_D_doWord 137 = .ok (.aload_n 2, 1) := by decide +kernel
theorem d_D_doWord_138 : decode b_D_doWord 138 = .ok (.iload_n 3, 1) := by decide +kernel
theorem d_D_doWord_139 : decode b_D_doWord 139 = .ok (.invokestatic 216, 3) := by decide +kernel
theorem d_D_doWord_142 : decode b_D_doWord 142 = .ok (.iload_n 3, 1) := by decide +kernel
theorem d_D_doWord_143 : decode b_D_doWord 143 = .ok (.invokestatic 222, 3) := by decide +kernel
theorem d_D_doWord_146 : decode b_D_doWord 146 = .ok (.invokevirtual 235, 3) := by decide +kernel
theorem d_D_doWord_149 : decode b_D_doWord 149 = .ok (.iconst 1, 1) := by decide +kernel
theorem d_D_doWord_150 : decode b_D_doWord 150 = .ok (.ireturn, 1) := by decide +kernel
theorem d_D_doWord_151 : decode b_D_doWord 151 = .ok (.aload_n 2, 1) := by decide +kernel
theorem d_D_doWord_152 : decode b_D_doWord 152 = .ok (.iload_n 3, 1) := by decide +kernel
theorem d_D_doWord_153 : decode b_D_doWord 153 = .ok (.invokestatic 216, 3) := by decide +kernel
theorem d_D_doWord_156 : decode b_D_doWord 156 = .ok (.iload_n 3, 1) := by decide +kernel
theorem d_D_doWord_157 : decode b_D_doWord 157 = .ok (.invokestatic 222, 3) := by decide +kernel
theorem d_D_doWord_160 : decode b_D_doWord 160 = .ok (.invokevirtual 239, 3) := by decide +kernel
theorem d_D_doWord_163 : decode b_D_doWord 163 = .ok (.iconst 1, 1) := by decide +kernel
theorem d_D_doWord_164 : decode b_D_doWord 164 = .ok (.ireturn, 1) := by decide +kernel
theorem d_D_sendFromStack_0 : decode b_D_sendFromStack 0 = .ok (.aload_n 0, 1) := by decide +kernel
theorem d_D_sendFromStack_1 : decode b_D_sendFromStack 1 = .ok (.getfield 18, 3) := by decide +kernel
theorem d_D_sendFromStack_4 : decode b_D_sendFromStack 4 = .ok (.iload_n 1, 1) := by decide +kernel
theorem d_D_sendFromStack_5 : decode b_D_sendFromStack 5 = .ok (.aaload, 1) := by decide +kernel
theorem d_D_sendFromStack_6 : decode b_D_sendFromStack 6 = .ok (.astore_n 2, 1) := by decide +kernel
theorem d_D_sendFromStack_7 : decode b_D_sendFromStack 7 = .ok (.aload_n 2, 1) := by decide +kernel
theorem d_D_sendFromStack_8 : decode b_D_sendFromStack 8 = .ok (.invokevirtual 242, 3) := by decide +kernel
theorem d_D_sendFromStack_11 : decode b_D_sendFromStack 11 = .ok (.istore_n 3, 1) := by decide +kernel
theorem d_D_sendFromStack_12 : decode b_D_sendFromStack 12 = .ok (.iload_n 3, 1) := by decide +kernel
theorem d_D_sendFromStack_13 : decode b_D_sendFromStack 13 = .ok (.bipush 10, 2) := by decide +kernel
theorem d_D_sendFromStack_15 : decode b_D_sendFromStack 15 = .ok (.invokestatic 41, 3) := by decide +kernel
theorem d_D_sendFromStack_18 : decode b_D_sendFromStack 18 = .ok (.ifCond .ne 5, 3) := by decide +kernel
theorem d_D_sendFromStack_21 : decode b_D_sendFromStack 21 = .ok (.iconst 0, 1) := by decide +kernel
theorem d_D_sendFromStack_22 : decode b_D_sendFromStack 22 = .ok (.ireturn, 1) := by decide +kernel
theorem d_D_sendFromStack_23 : decode b_D_sendFromStack 23 = .ok (.aload_n 2, 1) := by decide +kernel
theorem d_D_sendFromStack_24 : decode b_D_sendFromStack 24 = .ok (.invokevirtual 245, 3) := by decide +kernel
theorem d_D_sendFromStack_27 : decode b_D_sendFromStack 27 = .ok (.istore 4, 2) := by decide +kernel
theorem d_D_sendFromStack_29 : decode b_D_sendFromStack 29 = .ok (.aload_n 2, 1) := by decide +kernel
theorem d_D_sendFromStack_30 : decode b_D_sendFromStack 30 = .ok (.invokevirtual 245, 3) := by decide +kernel
theorem d_D_sendFromStack_33 : decode b_D_sendFromStack 33 = .ok (.pop, 1) := by decide +kernel
theorem d_D_sendFromStack_34 : decode b_D_sendFromStack 34 = .ok (.aload_n 0, 1) := by decide +kernel
theorem d_D_sendFromStack_35 : decode b_D_sendFromStack 35 = .ok (.getfield 26, 3) := by decide +kernel
theorem d_D_sendFromStack_38 : decode b_D_sendFromStack 38 = .ok (.iload_n 1, 1) := by decide +kernel
theorem d_D_sendFromStack_39 : decode b_D_sendFromStack 39 = .ok (.iload_n 3, 1) := by decide +kernel
theorem d_D_sendFromStack_40 : decode b_D_sendFromStack 40 = .ok (.iload 4, 2) := by decide +kernel
theorem d_D_sendFromStack_42 : decode b_D_sendFromStack 42 = .ok (.invokevirtual 116, 3) := by decide +kernel
theorem d_D_sendFromStack_45 : decode b_D_sendFromStack 45 = .ok (.pop, 1) := by decide +kernel
theorem d_D_sendFromStack_46 : decode b_D_sendFromStack 46 = .ok (.aload_n 2, 1) := by decide +kernel
theorem d_D_sendFromStack_47 : decode b_D_sendFromStack 47 = .ok (.dup, 1) := by decide +kernel
theorem d_D_sendFromStack_48 : decode b_D_sendFromStack 48 = .ok (.getfield 158, 3) := by decide +kernel
theorem d_D_sendFromStack_51 : decode b_D_sendFromStack 51 = .ok (.iconst 1, 1) := by decide +kernel
theorem d_D_sendFromStack_52 : decode b_D_sendFromStack 52 = .ok (.iadd, 1) := by decide +kernel
theorem d_D_sendFromStack_53 : decode b_D_sendFromStack 53 = .ok (.putfield 158, 3) := by decide +kernel
theorem d_D_sendFromStack_56 : decode b_D_sendFromStack 56 = .ok (.iconst 1, 1) := by decide +kernel
theorem d_D_sendFromStack_57 : decode b_D_sendFromStack 57 = .ok (.ireturn, 1) := by decide +kernel
end
section
theorem d_A_init_0 : decode b_A_init 0 = .ok (.aload_n 0, 1) := by decide +kernel
theorem d_A_init_1 : decode b_A_init 1 = .ok (.invokespecial 3, 3) := by decide +kernel
theorem d_A_init_4 : decode b_A_init 4 = .ok (.aload_n 0, 1) := by decide +kernel
theorem d_A_init_5 : decode b_A_init 5 = .ok (.new 9, 3) := by decide +kernel
theorem d_A_init_8 : decode b_A_init 8 = .ok (.dup, 1) := by decide +kernel
theorem d_A_init_9 : decode b_A_init 9 = .ok (.invokespecial 11, 3) := by decide +kernel
theorem d_A_init_12 : decode b_A_init 12 = .ok (.putfield 12, 3) := by decide +kernel
theorem d_A_init_15 : decode b_A_init 15 = .ok (.aload_n 0, 1) := by decide +kernel
theorem d_A_init_16 : decode b_A_init 16 = .ok (.bipush 8, 2) := by decide +kernel
theorem d_A_init_18 : decode b_A_init 18 = .ok (.newarray .int, 2) := by decide +kernel
theorem d_A_init_20 : decode b_A_init 20 = .ok (.putfield 18, 3) := by decide +kernel
theorem d_A_init_23 : decode b_A_init 23 = .ok (.aload_n 0, 1) := by decide +kernel
theorem d_A_init_24 : decode b_A_init 24 = .ok (.bipush 6, 2) := by decide +kernel
theorem d_A_init_26 : decode b_A_init 26 = .ok (.newarray .int, 2) := by decide +kernel
theorem d_A_init_28 : decode b_A_init 28 = .ok (.putfield 22, 3) := by decide +kernel
theorem d_A_init_31 : decode b_A_init 31 = .ok (.aload_n 0, 1) := by decide +kernel
theorem d_A_init_32 : decode b_A_init 32 = .ok (.iconst 4, 1) := by decide +kernel
theorem d_A_init_33 : decode b_A_init 33 = .ok (.newarray .int, 2) := by decide +kernel
theorem d_A_init_35 : decode b_A_init 35 = .ok (.putfield 25, 3) := by decide +kernel
theorem d_A_init_38 : decode b_A_init 38 = .ok (.return_, 1) := by decide +kernel
theorem d_A_takeIn_0 : decode b_A_takeIn 0 = .ok (.aload_n 0, 1) := by decide +kernel
theorem d_A_takeIn_1 : decode b_A_takeIn 1 = .ok (.getfield 12, 3) := by decide +kernel
theorem d_A_takeIn_4 : decode b_A_takeIn 4 = .ok (.aload_n 1, 1) := by decide +kernel
theorem d_A_takeIn_5 : decode b_A_takeIn 5 = .ok (.invokevirtual 28, 3) := by decide +kernel
theorem d_A_takeIn_8 : decode b_A_takeIn 8 = .ok (.aload_n 0, 1) := by decide +kernel
theorem d_A_takeIn_9 : decode b_A_takeIn 9 = .ok (.dup, 1) := by decide +kernel
theorem d_A_takeIn_10 : decode b_A_takeIn 10 = .ok (.getfield 32, 3) := by decide +kernel
theorem d_A_takeIn_13 : decode b_A_takeIn 13 = .ok (.aload_n 1, 1) := by decide +kernel
theorem d_A_takeIn_14 : decode b_A_takeIn 14 = .ok (.getfield 36, 3) := by decide +kernel
theorem d_A_takeIn_17 : decode b_A_takeIn 17 = .ok (.iand, 1) := by decide +kernel
theorem d_A_takeIn_18 : decode b_A_takeIn 18 = .ok (.putfield 32, 3) := by decide +kernel
theorem d_A_takeIn_21 : decode b_A_takeIn 21 = .ok (.aload_n 0, 1) := by decide +kernel
theorem d_A_takeIn_22 : decode b_A_takeIn 22 = .ok (.iconst 0, 1) := by decide +kernel
theorem d_A_takeIn_23 : decode b_A_takeIn 23 = .ok (.putfield 39, 3) := by decide +kernel
theorem d_A_takeIn_26 : decode b_A_takeIn 26 = .ok (.aload_n 0, 1) := by decide +kernel
theorem d_A_takeIn_27 : decode b_A_takeIn 27 = .ok (.iconst 1, 1) := by decide +kernel
theorem d_A_takeIn_28 : decode b_A_takeIn 28 = .ok (.putfield 43, 3) := by decide +kernel
theorem d_A_takeIn_31 : decode b_A_takeIn 31 = .ok (.return_, 1) := by decide +kernel
theorem d_A_clearAway_0 : decode b_A_clearAway 0 = .ok (.aload_n 0, 1) := by decide +kernel
theorem d_A_clearAway_1 : decode b_A_clearAway 1 = .ok (.iconst 0, 1) := by decide +kernel
theorem d_A_clearAway_2 : decode b_A_clearAway 2 = .ok (.putfield 43, 3) := by decide +kernel
theorem d_A_clearAway_5 : decode b_A_clearAway 5 = .ok (.aload_n 0, 1) := by decide +kernel
theorem d_A_clearAway_6 : decode b_A_clearAway 6 = .ok (.iconst 0, 1) := by decide +kernel
theorem d_A_clearAway_7 : decode b_A_clearAway 7 = .ok (.putfield 32, 3) := by decide +kernel
theorem d_A_clearAway_10 : decode b_A_clearAway 10 = .ok (.aload_n 0, 1) := by decide +kernel
theorem d_A_clearAway_11 : decode b_A_clearAway 11 = .ok (.iconst 0, 1) := by decide +kernel
theorem d_A_clearAway_12 : decode b_A_clearAway 12 = .ok (.putfield 46, 3) := by decide +kernel
theorem d_A_clearAway_15 : decode b_A_clearAway 15 = .ok (.aload_n 0, 1) := by decide +kernel
theorem d_A_clearAway_16 : decode b_A_clearAway 16 = .ok (.iconst 0, 1) := by decide +kernel
theorem d_A_clearAway_17 : decode b_A_clearAway 17 = .ok (.putfield 39, 3) := by decide +kernel
theorem d_A_clearAway_20 : decode b_A_clearAway 20 = .ok (.return_, 1) := by decide +kernel
theorem d_A_begin_0 : decode b_A_begin 0 = .ok (.aload_n 0, 1) := by decide +kernel
theorem d_A_begin_1 : decode b_A_begin 1 = .ok (.iconst 1, 1) := by decide +kernel
theorem d_A_begin_2 : decode b_A_begin 2 = .ok (.putfield 39, 3) := by decide +kernel
theorem d_A_begin_5 : decode b_A_begin 5 = .ok (.aload_n 0, 1) := by decide +kernel
theorem d_A_begin_6 : decode b_A_begin 6 = .ok (.iload_n 1, 1) := by decide +kernel
theorem d_A_begin_7 : decode b_A_begin 7 = .ok (.putfield 49, 3) := by decide +kernel
theorem d_A_begin_10 : decode b_A_begin 10 = .ok (.aload_n 0, 1) := by decide +kernel
theorem d_A_begin_11 : decode b_A_begin 11 = .ok (.iconst 0, 1) := by decide +kernel
theorem d_A_begin_12 : decode b_A_begin 12 = .ok (.putfield 52, 3) := by decide +kernel
theorem d_A_begin_15 : decode b_A_begin 15 = .ok (.aload_n 0, 1) := by decide +kernel
theorem d_A_begin_16 : decode b_A_begin 16 = .ok (.getfield 25, 3) := by decide +kernel
theorem d_A_begin_19 : decode b_A_begin 19 = .ok (.iconst 0, 1) := by decide +kernel
theorem d_A_begin_20 : decode b_A_begin 20 = .ok (.invokestatic 55, 3) := by decide +kernel
theorem d_A_begin_23 : decode b_A_begin 23 = .ok (.aload_n 0, 1) := by decide +kernel
theorem d_A_begin_24 : decode b_A_begin 24 = .ok (.getfield 25, 3) := by decide +kernel
theorem d_A_begin_27 : decode b_A_begin 27 = .ok (.iconst 0, 1) := by decide +kernel
theorem d_A_begin_28 : decode b_A_begin 28 = .ok (.iload_n 2, 1) := by decide +kernel
theorem d_A_begin_29 : decode b_A_begin 29 = .ok (.iastore, 1) := by decide +kernel
theorem d_A_begin_30 : decode b_A_begin 30 = .ok (.aload_n 0, 1) := by decide +kernel
theorem d_A_begin_31 : decode b_A_begin 31 = .ok (.getfield 25, 3) := by decide +kernel
theorem d_A_begin_34 : decode b_A_begin 34 = .ok (.iconst 1, 1) := by decide +kernel
theorem d_A_begin_35 : decode b_A_begin 35 = .ok (.iload_n 3, 1) := by decide +kernel
theorem d_A_begin_36 : decode b_A_begin 36 = .ok (.iastore, 1) := by decide +kernel
theorem d_A_begin_37 : decode b_A_begin 37 = .ok (.return_, 1) := by decide +kernel
theorem d_A_wasGranted_0 : decode b_A_wasGranted 0 = .ok (.aload_n 0, 1) := by decide +kernel
theorem d_A_wasGranted_1 : decode b_A_wasGranted 1 = .ok (.getfield 32, 3) := by decide +kernel
theorem d_A_wasGranted_4 : decode b_A_wasGranted 4 = .ok (.iload_n 1, 1) := by decide +kernel
theorem d_A_wasGranted_5 : decode b_A_wasGranted 5 = .ok (.bipush 8, 2) := by decide +kernel
theorem d_A_wasGranted_7 : decode b_A_wasGranted 7 = .ok (.invokestatic 61, 3) := by decide +kernel
theorem d_A_wasGranted_10 : decode b_A_wasGranted 10 = .ok (.ireturn, 1) := by decide +kernel
theorem d_A_keepsUnder_0 : decode b_A_keepsUnder 0 = .ok (.aload_n 0, 1) := by decide +kernel
theorem d_A_keepsUnder_1 : decode b_A_keepsUnder 1 = .ok (.getfield 46, 3) := by decide +kernel
theorem d_A_keepsUnder_4 : decode b_A_keepsUnder 4 = .ok (.iload_n 1, 1) := by decide +kernel
theorem d_A_keepsUnder_5 : decode b_A_keepsUnder 5 = .ok (.bipush 8, 2) := by decide +kernel
theorem d_A_keepsUnder_7 : decode b_A_keepsUnder 7 = .ok (.invokestatic 61, 3) := by decide +kernel
theorem d_A_keepsUnder_10 : decode b_A_keepsUnder 10 = .ok (.ireturn, 1) := by decide +kernel
theorem d_A_valueUnder_0 : decode b_A_valueUnder 0 = .ok (.aload_n 0, 1) := by decide +kernel
theorem d_A_valueUnder_1 : decode b_A_valueUnder 1 = .ok (.iload_n 1, 1) := by decide +kernel
theorem d_A_valueUnder_2 : decode b_A_valueUnder 2 = .ok (.invokevirtual 65, 3) := by decide +kernel
theorem d_A_valueUnder_5 : decode b_A_valueUnder 5 = .ok (.ifCond .eq 12, 3) := by decide +kernel
theorem d_A_valueUnder_8 : decode b_A_valueUnder 8 = .ok (.aload_n 0, 1) := by decide +kernel
theorem d_A_valueUnder_9 : decode b_A_valueUnder 9 = .ok (.getfield 18, 3) := by decide +kernel
theorem d_A_valueUnder_12 : decode b_A_valueUnder 12 = .ok (.iload_n 1, 1) := by decide +kernel
theorem d_A_valueUnder_13 : decode b_A_valueUnder 13 = .ok (.iaload, 1) := by decide +kernel
theorem d_A_valueUnder_14 : decode b_A_valueUnder 14 = .ok (.goto 4, 3) := by decide +kernel
theorem d_A_valueUnder_17 : decode b_A_valueUnder 17 = .ok (.iconst 0, 1) := by decide +kernel
theorem d_A_valueUnder_18 : decode b_A_valueUnder 18 = .ok (.ireturn, 1) := by decide +kernel
theorem d_A_wordInPlace_0 : decode b_A_wordInPlace 0 = .ok (.aload_n 0, 1) := by decide +kernel
theorem d_A_wordInPlace_1 : decode b_A_wordInPlace 1 = .ok (.getfield 49, 3) := by decide +kernel
theorem d_A_wordInPlace_4 : decode b_A_wordInPlace 4 = .ok (.aload_n 0, 1) := by decide +kernel
theorem d_A_wordInPlace_5 : decode b_A_wordInPlace 5 = .ok (.getfield 12, 3) := by decide +kernel
theorem d_A_wordInPlace_8 : decode b_A_wordInPlace 8 = .ok (.getfield 69, 3) := by decide +kernel
theorem d_A_wordInPlace_11 : decode b_A_wordInPlace 11 = .ok (.invokestatic 72, 3) := by decide +kernel
theorem d_A_wordInPlace_14 : decode b_A_wordInPlace 14 = .ok (.ifCond .eq 18, 3) := by decide +kernel
theorem d_A_wordInPlace_17 : decode b_A_wordInPlace 17 = .ok (.aload_n 0, 1) := by decide +kernel
theorem d_A_wordInPlace_18 : decode b_A_wordInPlace 18 = .ok (.getfield 12, 3) := by decide +kernel
theorem d_A_wordInPlace_21 : decode b_A_wordInPlace 21 = .ok (.getfield 76, 3) := by decide +kernel
theorem d_A_wordInPlace_24 : decode b_A_wordInPlace 24 = .ok (.aload_n 0, 1) := by decide +kernel
theorem d_A_wordInPlace_25 : decode b_A_wordInPlace 25 = .ok (.getfield 49, 3) := by decide +kernel
theorem d_A_wordInPlace_28 : decode b_A_wordInPlace 28 = .ok (.iaload, 1) := by decide +kernel
theorem d_A_wordInPlace_29 : decode b_A_wordInPlace 29 = .ok (.goto 4, 3) := by decide +kernel
theorem d_A_wordInPlace_32 : decode b_A_wordInPlace 32 = .ok (.iconst 0, 1) := by decide +kernel
theorem d_A_wordInPlace_33 : decode b_A_wordInPlace 33 = .ok (.ireturn, 1) := by decide +kernel
theorem d_A_uppermost_0 : decode b_A_uppermost 0 = .ok (.aload_n 0, 1) := by decide +kernel
theorem d_A_uppermost_1 : decode b_A_uppermost 1 = .ok (.getfield 52, 3) := by decide +kernel
theorem d_A_uppermost_4 : decode b_A_uppermost 4 = .ok (.iconst 1, 1) := by decide +kernel
theorem d_A_uppermost_5 : decode b_A_uppermost 5 = .ok (.isub, 1) := by decide +kernel
theorem d_A_uppermost_6 : decode b_A_uppermost 6 = .ok (.bipush 6, 2) := by decide +kernel
theorem d_A_uppermost_8 : decode b_A_uppermost 8 = .ok (.invokestatic 72, 3) := by decide +kernel
theorem d_A_uppermost_11 : decode b_A_uppermost 11 = .ok (.ifCond .eq 17, 3) := by decide +kernel
theorem d_A_uppermost_14 : decode b_A_uppermost 14 = .ok (.aload_n 0, 1) := by decide +kernel
theorem d_A_uppermost_15 : decode b_A_uppermost 15 = .ok (.getfield 22, 3) := by decide +kernel
theorem d_A_uppermost_18 : decode b_A_uppermost 18 = .ok (.aload_n 0, 1) := by decide +kernel
theorem d_A_uppermost_19 : decode b_A_uppermost 19 = .ok (.getfield 52, 3) := by decide +kernel
theorem d_A_uppermost_22 : decode b_A_uppermost 22 = .ok (.iconst 1, 1) := by decide +kernel
theorem d_A_uppermost_23 : decode b_A_uppermost 23 = .ok (.isub, 1) := by decide +kernel
theorem d_A_uppermost_24 : decode b_A_uppermost 24 = .ok (.iaload, 1) := by decide +kernel
theorem d_A_uppermost_25 : decode b_A_uppermost 25 = .ok (.goto 4, 3) := by decide +kernel
theorem d_A_uppermost_28 : decode b_A_uppermost 28 = .ok (.iconst 0, 1) := by decide +kernel
theorem d_A_uppermost_29 : decode b_A_uppermost 29 = .ok (.ireturn, 1) := by decide +kernel
theorem d_A_secondUppermost_0 : decode b_A_secondUppermost 0 = .ok (.aload_n 0, 1) := by decide +kernel
theorem d_A_secondUppermost_1 : decode b_A_secondUppermost 1 = .ok (.getfield 52, 3) := by decide +kernel
theorem d_A_secondUppermost_4 : decode b_A_secondUppermost 4 = .ok (.iconst 2, 1) := by decide +kernel
theorem d_A_secondUppermost_5 : decode b_A_secondUppermost 5 = .ok (.isub, 1) := by decide +kernel
theorem d_A_secondUppermost_6 : decode b_A_secondUppermost 6 = .ok (.bipush 6, 2) := by decide +kernel
theorem d_A_secondUppermost_8 : decode b_A_secondUppermost 8 = .ok (.invokestatic 72, 3) := by decide +kernel
theorem d_A_secondUppermost_11 : decode b_A_secondUppermost 11 = .ok (.ifCond .eq 17, 3) := by decide +kernel
theorem d_A_secondUppermost_14 : decode b_A_secondUppermost 14 = .ok (.aload_n 0, 1) := by decide +kernel
theorem d_A_secondUppermost_15 : decode b_A_secondUppermost 15 = .ok (.getfield 22, 3) := by decide +kernel
theorem d_A_secondUppermost_18 : decode b_A_secondUppermost 18 = .ok (.aload_n 0, 1) := by decide +kernel
theorem d_A_secondUppermost_19 : decode b_A_secondUppermost 19 = .ok (.getfield 52, 3) := by decide +kernel
theorem d_A_secondUppermost_22 : decode b_A_secondUppermost 22 = .ok (.iconst 2, 1) := by decide +kernel
theorem d_A_secondUppermost_23 : decode b_A_secondUppermost 23 = .ok (.isub, 1) := by decide +kernel
theorem d_A_secondUppermost_24 : decode b_A_secondUppermost 24 = .ok (.iaload, 1) := by decide +kernel
theorem d_A_secondUppermost_25 : decode b_A_secondUppermost 25 = .ok (.goto 4, 3) := by decide +kernel
theorem d_A_secondUppermost_28 : decode b_A_secondUppermost 28 = .ok (.iconst 0, 1) := by decide +kernel
theorem d_A_secondUppermost_29 : decode b_A_secondUppermost 29 = .ok (.ireturn, 1) := by decide +kernel
theorem d_A_push_0 : decode b_A_push 0 = .ok (.aload_n 0, 1) := by decide +kernel
theorem d_A_push_1 : decode b_A_push 1 = .ok (.getfield 52, 3) := by decide +kernel
theorem d_A_push_4 : decode b_A_push 4 = .ok (.bipush 6, 2) := by decide +kernel
theorem d_A_push_6 : decode b_A_push 6 = .ok (.invokestatic 72, 3) := by decide +kernel
theorem d_A_push_9 : decode b_A_push 9 = .ok (.ifCond .eq 23, 3) := by decide +kernel
theorem d_A_push_12 : decode b_A_push 12 = .ok (.aload_n 0, 1) := by decide +kernel
theorem d_A_push_13 : decode b_A_push 13 = .ok (.getfield 22, 3) := by decide +kernel
theorem d_A_push_16 : decode b_A_push 16 = .ok (.aload_n 0, 1) := by decide +kernel
theorem d_A_push_17 : decode b_A_push 17 = .ok (.getfield 52, 3) := by decide +kernel
theorem d_A_push_20 : decode b_A_push 20 = .ok (.iload_n 1, 1) := by decide +kernel
theorem d_A_push_21 : decode b_A_push 21 = .ok (.iastore, 1) := by decide +kernel
theorem d_A_push_22 : decode b_A_push 22 = .ok (.aload_n 0, 1) := by decide +kernel
theorem d_A_push_23 : decode b_A_push 23 = .ok (.dup, 1) := by decide +kernel
theorem d_A_push_24 : decode b_A_push 24 = .ok (.getfield 52, 3) := by decide +kernel
theorem d_A_push_27 : decode b_A_push 27 = .ok (.iconst 1, 1) := by decide +kernel
theorem d_A_push_28 : decode b_A_push 28 = .ok (.iadd, 1) := by decide +kernel
theorem d_A_push_29 : decode b_A_push 29 = .ok (.putfield 52, 3) := by decide +kernel
theorem d_A_push_32 : decode b_A_push 32 = .ok (.return_, 1) := by decide +kernel
theorem d_A_pop_0 : decode b_A_pop 0 = .ok (.aload_n 0, 1) := by decide +kernel
theorem d_A_pop_1 : decode b_A_pop 1 = .ok (.invokevirtual 79, 3) := by decide +kernel
theorem d_A_pop_4 : decode b_A_pop 4 = .ok (.istore_n 1, 1) := by decide +kernel
theorem d_A_pop_5 : decode b_A_pop 5 = .ok (.aload_n 0, 1) := by decide +kernel
theorem d_A_pop_6 : decode b_A_pop 6 = .ok (.aload_n 0, 1) := by decide +kernel
theorem d_A_pop_7 : decode b_A_pop 7 = .ok (.getfield 52, 3) := by decide +kernel
theorem d_A_pop_10 : decode b_A_pop 10 = .ok (.iconst 1, 1) := by decide +kernel
theorem d_A_pop_11 : decode b_A_pop 11 = .ok (.isub, 1) := by decide +kernel
theorem d_A_pop_12 : decode b_A_pop 12 = .ok (.iconst 0, 1) := by decide +kernel
theorem d_A_pop_13 : decode b_A_pop 13 = .ok (.invokestatic 83, 3) := by decide +kernel
theorem d_A_pop_16 : decode b_A_pop 16 = .ok (.putfield 52, 3) := by decide +kernel
theorem d_A_pop_19 : decode b_A_pop 19 = .ok (.iload_n 1, 1) := by decide +kernel
theorem d_A_pop_20 : decode b_A_pop 20 = .ok (.ireturn, 1) := by decide +kernel
theorem d_A_doTurn_0 : decode b_A_doTurn 0 = .ok (.iload_n 1, 1) := by decide +kernel
theorem d_A_doTurn_1 : decode b_A_doTurn 1 = .ok (.ifCond .ne 9, 3) := by decide +kernel
theorem d_A_doTurn_4 : decode b_A_doTurn 4 = .ok (.aload_n 0, 1) := by decide +kernel
theorem d_A_doTurn_5 : decode b_A_doTurn 5 = .ok (.iconst 0, 1) := by decide +kernel
theorem d_A_doTurn_6 : decode b_A_doTurn 6 = .ok (.putfield 39, 3) := by decide +kernel
theorem d_A_doTurn_9 : decode b_A_doTurn 9 = .ok (.return_, 1) := by decide +kernel
theorem d_A_doTurn_10 : decode b_A_doTurn 10 = .ok (.iload_n 1, 1) := by decide +kernel
theorem d_A_doTurn_11 : decode b_A_doTurn 11 = .ok (.bipush 8, 2) := by decide +kernel
theorem d_A_doTurn_13 : decode b_A_doTurn 13 = .ok (.if_icmp .eq 10, 3) := by decide +kernel
theorem d_A_doTurn_16 : decode b_A_doTurn 16 = .ok (.aload_n 0, 1) := by decide +kernel
theorem d_A_doTurn_17 : decode b_A_doTurn 17 = .ok (.invokevirtual 89, 3) := by decide +kernel
theorem d_A_doTurn_20 : decode b_A_doTurn 20 = .ok (.ifCond .ne 7, 3) := by decide +kernel
theorem d_A_doTurn_23 : decode b_A_doTurn 23 = .ok (.iconst 1, 1) := by decide +kernel
theorem d_A_doTurn_24 : decode b_A_doTurn 24 = .ok (.goto 4, 3) := by decide +kernel
theorem d_A_doTurn_27 : decode b_A_doTurn 27 = .ok (.iconst 0, 1) := by decide +kernel
theorem d_A_doTurn_28 : decode b_A_doTurn 28 = .ok (.istore_n 3, 1) := by decide +kernel
theorem d_A_doTurn_29 : decode b_A_doTurn 29 = .ok (.aload_n 0, 1) := by decide +kernel
theorem d_A_doTurn_30 : decode b_A_doTurn 30 = .ok (.dup, 1) := by decide +kernel
theorem d_A_doTurn_31 : decode b_A_doTurn 31 = .ok (.getfield 49, 3) := by decide +kernel
theorem d_A_doTurn_34 : decode b_A_doTurn 34 = .ok (.iload_n 3, 1) := by decide +kernel
theorem d_A_doTurn_35 : decode b_A_doTurn 35 = .ok (.ifCond .eq 7, 3) := by decide +kernel
theorem d_A_doTurn_38 : decode b_A_doTurn 38 = .ok (.iload_n 2, 1) := by decide +kernel
theorem d_A_doTurn_39 : decode b_A_doTurn 39 = .ok (.goto 4, 3) := by decide +kernel
theorem d_A_doTurn_42 : decode b_A_doTurn 42 = .ok (.iconst 1, 1) := by decide +kernel
theorem d_A_doTurn_43 : decode b_A_doTurn 43 = .ok (.iadd, 1) := by decide +kernel
theorem d_A_doTurn_44 : decode b_A_doTurn 44 = .ok (.putfield 49, 3) := by decide +kernel
theorem d_A_doTurn_47 : decode b_A_doTurn 47 = .ok (.return_, 1) := by decide +kernel
theorem d_A_doPlainWord_0 : decode b_A_doPlainWord 0 = .ok (.iload_n 1, 1) := by decide +kernel
theorem d_A_doPlainWord_1 : decode b_A_doPlainWord 1 = .ok (.tableswitch 141 1 7 #[43, 51, 67, 85, 96, 104, 129], 43) := by decide +kernel
theorem d_A_doPlainWord_44 : decode b_A_doPlainWord 44 = .ok (.aload_n 0, 1) := by decide +kernel
theorem d_A_doPlainWord_45 : decode b_A_doPlainWord 45 = .ok (.iload_n 2, 1) := by decide +kernel
theorem d_A_doPlainWord_46 : decode b_A_doPlainWord 46 = .ok (.invokevirtual 92, 3) := by decide +kernel
theorem d_A_doPlainWord_49 : decode b_A_doPlainWord 49 = .ok (.goto 93, 3) := by decide +kernel
theorem d_A_doPlainWord_52 : decode b_A_doPlainWord 52 = .ok (.aload_n 0, 1) := by decide +kernel
theorem d_A_doPlainWord_53 : decode b_A_doPlainWord 53 = .ok (.aload_n 0, 1) := by decide +kernel
theorem d_A_doPlainWord_54 : decode b_A_doPlainWord 54 = .ok (.invokevirtual 89, 3) := by decide +kernel
theorem d_A_doPlainWord_57 : decode b_A_doPlainWord 57 = .ok (.aload_n 0, 1) := by decide +kernel
theorem d_A_doPlainWord_58 : decode b_A_doPlainWord 58 = .ok (.invokevirtual 89, 3) := by decide +kernel
theorem d_A_doPlainWord_61 : decode b_A_doPlainWord 61 = .ok (.iadd, 1) := by decide +kernel
theorem d_A_doPlainWord_62 : decode b_A_doPlainWord 62 = .ok (.invokevirtual 92, 3) := by decide +kernel
theorem d_A_doPlainWord_65 : decode b_A_doPlainWord 65 = .ok (.goto 77, 3) := by decide +kernel
theorem d_A_doPlainWord_68 : decode b_A_doPlainWord 68 = .ok (.aload_n 0, 1) := by decide +kernel
theorem d_A_doPlainWord_69 : decode b_A_doPlainWord 69 = .ok (.invokevirtual 89, 3) := by decide +kernel
theorem d_A_doPlainWord_72 : decode b_A_doPlainWord 72 = .ok (.istore_n 3, 1) := by decide +kernel
theorem d_A_doPlainWord_73 : decode b_A_doPlainWord 73 = .ok (.aload_n 0, 1) := by decide +kernel
theorem d_A_doPlainWord_74 : decode b_A_doPlainWord 74 = .ok (.aload_n 0, 1) := by decide +kernel
theorem d_A_doPlainWord_75 : decode b_A_doPlainWord 75 = .ok (.invokevirtual 89, 3) := by decide +kernel
theorem d_A_doPlainWord_78 : decode b_A_doPlainWord 78 = .ok (.iload_n 3, 1) := by decide +kernel
theorem d_A_doPlainWord_79 : decode b_A_doPlainWord 79 = .ok (.isub, 1) := by decide +kernel
theorem d_A_doPlainWord_80 : decode b_A_doPlainWord 80 = .ok (.invokevirtual 92, 3) := by decide +kernel
theorem d_A_doPlainWord_83 : decode b_A_doPlainWord 83 = .ok (.goto 59, 3) := by decide +kernel
theorem d_A_doPlainWord_86 : decode b_A_doPlainWord 86 = .ok (.aload_n 0, 1) := by decide +kernel
theorem d_A_doPlainWord_87 : decode b_A_doPlainWord 87 = .ok (.aload_n 0, 1) := by decide +kernel
theorem d_A_doPlainWord_88 : decode b_A_doPlainWord 88 = .ok (.invokevirtual 79, 3) := by decide +kernel
theorem d_A_doPlainWord_91 : decode b_A_doPlainWord 91 = .ok (.invokevirtual 92, 3) := by decide +kernel
theorem d_A_doPlainWord_94 : decode b_A_doPlainWord 94 = .ok (.goto 48, 3) := by decide +kernel
theorem d_A_doPlainWord_97 : decode b_A_doPlainWord 97 = .ok (.aload_n 0, 1) := by decide +kernel
theorem d_A_doPlainWord_98 : decode b_A_doPlainWord 98 = .ok (.invokevirtual 89, 3) := by decide +kernel
theorem d_A_doPlainWord_101 : decode b_A_doPlainWord 101 = .ok (.pop, 1) := by decide +kernel
theorem d_A_doPlainWord_102 : decode b_A_doPlainWord 102 = .ok (.goto 40, 3) := by decide +kernel
theorem d_A_doPlainWord_105 : decode b_A_doPlainWord 105 = .ok (.aload_n 0, 1) := by decide +kernel
theorem d_A_doPlainWord_106 : decode b_A_doPlainWord 106 = .ok (.iload_n 2, 1) := by decide +kernel
theorem d_A_doPlainWord_107 : decode b_A_doPlainWord 107 = .ok (.iconst 4, 1) := by decide +kernel
theorem d_A_doPlainWord_108 : decode b_A_doPlainWord 108 = .ok (.invokestatic 72, 3) := by decide +kernel
theorem d_A_doPlainWord_111 : decode b_A_doPlainWord 111 = .ok (.ifCond .eq 12, 3) := by decide +kernel
theorem d_A_doPlainWord_114 : decode b_A_doPlainWord 114 = .ok (.aload_n 0, 1) := by decide +kernel
theorem d_A_doPlainWord_115 : decode b_A_doPlainWord 115 = .ok (.getfield 25, 3) := by decide +kernel
theorem d_A_doPlainWord_118 : decode b_A_doPlainWord 118 = .ok (.iload_n 2, 1) := by decide +kernel
theorem d_A_doPlainWord_119 : decode b_A_doPlainWord 119 = .ok (.iaload, 1) := by decide +kernel
theorem d_A_doPlainWord_120 : decode b_A_doPlainWord 120 = .ok (.goto 4, 3) := by decide +kernel
theorem d_A_doPlainWord_123 : decode b_A_doPlainWord 123 = .ok (.iconst 0, 1) := by decide +kernel
theorem d_A_doPlainWord_124 : decode b_A_doPlainWord 124 = .ok (.invokevirtual 92, 3) := by decide +kernel
theorem d_A_doPlainWord_127 : decode b_A_doPlainWord 127 = .ok (.goto 15, 3) := by decide +kernel
theorem d_A_doPlainWord_130 : decode b_A_doPlainWord 130 = .ok (.aload_n 0, 1) := by decide +kernel
theorem d_A_doPlainWord_131 : decode b_A_doPlainWord 131 = .ok (.iload_n 2, 1) := by decide +kernel
theorem d_A_doPlainWord_132 : decode b_A_doPlainWord 132 = .ok (.aload_n 0, 1) := by decide +kernel
theorem d_A_doPlainWord_133 : decode b_A_doPlainWord 133 = .ok (.invokevirtual 89, 3) := by decide +kernel
theorem d_A_doPlainWord_136 : decode b_A_doPlainWord 136 = .ok (.invokevirtual 96, 3) := by decide +kernel
theorem d_A_doPlainWord_139 : decode b_A_doPlainWord 139 = .ok (.goto 3, 3) := by decide +kernel
theorem d_A_doPlainWord_142 : decode b_A_doPlainWord 142 = .ok (.aload_n 0, 1) := by decide +kernel
theorem d_A_doPlainWord_143 : decode b_A_doPlainWord 143 = .ok (.dup, 1) := by decide +kernel
theorem d_A_doPlainWord_144 : decode b_A_doPlainWord 144 = .ok (.getfield 49, 3) := by decide +kernel
theorem d_A_doPlainWord_147 : decode b_A_doPlainWord 147 = .ok (.iconst 1, 1) := by decide +kernel
theorem d_A_doPlainWord_148 : decode b_A_doPlainWord 148 = .ok (.iadd, 1) := by decide +kernel
theorem d_A_doPlainWord_149 : decode b_A_doPlainWord 149 = .ok (.putfield 49, 3) := by decide +kernel
theorem d_A_doPlainWord_152 : decode b_A_doPlainWord 152 = .ok (.return_, 1) := by decide +kernel
theorem d_A_storeInto_0 : decode b_A_storeInto 0 = .ok (.iload_n 1, 1) := by decide +kernel
theorem d_A_storeInto_1 : decode b_A_storeInto 1 = .ok (.iconst 4, 1) := by decide +kernel
theorem d_A_storeInto_2 : decode b_A_storeInto 2 = .ok (.invokestatic 72, 3) := by decide +kernel
theorem d_A_storeInto_5 : decode b_A_storeInto 5 = .ok (.ifCond .eq 10, 3) := by decide +kernel
theorem d_A_storeInto_8 : decode b_A_storeInto 8 = .ok (.aload_n 0, 1) := by decide +kernel
theorem d_A_storeInto_9 : decode b_A_storeInto 9 = .ok (.getfield 25, 3) := by decide +kernel
theorem d_A_storeInto_12 : decode b_A_storeInto 12 = .ok (.iload_n 1, 1) := by decide +kernel
theorem d_A_storeInto_13 : decode b_A_storeInto 13 = .ok (.iload_n 2, 1) := by decide +kernel
theorem d_A_storeInto_14 : decode b_A_storeInto 14 = .ok (.iastore, 1) := by decide +kernel
theorem d_A_storeInto_15 : decode b_A_storeInto 15 = .ok (.return_, 1) := by decide +kernel
theorem d_A_getKept_0 : decode b_A_getKept 0 = .ok (.aload_n 0, 1) := by decide +kernel
theorem d_A_getKept_1 : decode b_A_getKept 1 = .ok (.invokevirtual 79, 3) := by decide +kernel
theorem d_A_getKept_4 : decode b_A_getKept 4 = .ok (.istore_n 1, 1) := by decide +kernel
theorem d_A_getKept_5 : decode b_A_getKept 5 = .ok (.iload_n 1, 1) := by decide +kernel
theorem d_A_getKept_6 : decode b_A_getKept 6 = .ok (.bipush 8, 2) := by decide +kernel
theorem d_A_getKept_8 : decode b_A_getKept 8 = .ok (.invokestatic 72, 3) := by decide +kernel
theorem d_A_getKept_11 : decode b_A_getKept 11 = .ok (.ifCond .ne 5, 3) := by decide +kernel
theorem d_A_getKept_14 : decode b_A_getKept 14 = .ok (.iconst 0, 1) := by decide +kernel
theorem d_A_getKept_15 : decode b_A_getKept 15 = .ok (.ireturn, 1) := by decide +kernel
theorem d_A_getKept_16 : decode b_A_getKept 16 = .ok (.aload_n 0, 1) := by decide +kernel
theorem d_A_getKept_17 : decode b_A_getKept 17 = .ok (.invokevirtual 89, 3) := by decide +kernel
theorem d_A_getKept_20 : decode b_A_getKept 20 = .ok (.pop, 1) := by decide +kernel
theorem d_A_getKept_21 : decode b_A_getKept 21 = .ok (.aload_n 0, 1) := by decide +kernel
theorem d_A_getKept_22 : decode b_A_getKept 22 = .ok (.aload_n 0, 1) := by decide +kernel
theorem d_A_getKept_23 : decode b_A_getKept 23 = .ok (.iload_n 1, 1) := by decide +kernel
theorem d_A_getKept_24 : decode b_A_getKept 24 = .ok (.invokevirtual 100, 3) := by decide +kernel
theorem d_A_getKept_27 : decode b_A_getKept 27 = .ok (.invokevirtual 92, 3) := by decide +kernel
theorem d_A_getKept_30 : decode b_A_getKept 30 = .ok (.aload_n 0, 1) := by decide +kernel
theorem d_A_getKept_31 : decode b_A_getKept 31 = .ok (.dup, 1) := by decide +kernel
theorem d_A_getKept_32 : decode b_A_getKept 32 = .ok (.getfield 49, 3) := by decide +kernel
theorem d_A_getKept_35 : decode b_A_getKept 35 = .ok (.iconst 1, 1) := by decide +kernel
theorem d_A_getKept_36 : decode b_A_getKept 36 = .ok (.iadd, 1) := by decide +kernel
theorem d_A_getKept_37 : decode b_A_getKept 37 = .ok (.putfield 49, 3) := by decide +kernel
theorem d_A_getKept_40 : decode b_A_getKept 40 = .ok (.iconst 1, 1) := by decide +kernel
theorem d_A_getKept_41 : decode b_A_getKept 41 = .ok (.ireturn, 1) := by decide +kernel
theorem d_A_keepUppermost_0 : decode b_A_keepUppermost 0 = .ok (.aload_n 0, 1) := by decide +kernel
theorem d_A_keepUppermost_1 : decode b_A_keepUppermost 1 = .ok (.invokevirtual 104, 3) := by decide +kernel
theorem d_A_keepUppermost_4 : decode b_A_keepUppermost 4 = .ok (.istore_n 1, 1) := by decide +kernel
theorem d_A_keepUppermost_5 : decode b_A_keepUppermost 5 = .ok (.iload_n 1, 1) := by decide +kernel
theorem d_A_keepUppermost_6 : decode b_A_keepUppermost 6 = .ok (.bipush 8, 2) := by decide +kernel
theorem d_A_keepUppermost_8 : decode b_A_keepUppermost 8 = .ok (.invokestatic 72, 3) := by decide +kernel
theorem d_A_keepUppermost_11 : decode b_A_keepUppermost 11 = .ok (.ifCond .eq 22, 3) := by decide +kernel
theorem d_A_keepUppermost_14 : decode b_A_keepUppermost 14 = .ok (.aload_n 0, 1) := by decide +kernel
theorem d_A_keepUppermost_15 : decode b_A_keepUppermost 15 = .ok (.iload_n 1, 1) := by decide +kernel
theorem d_A_keepUppermost_16 : decode b_A_keepUppermost 16 = .ok (.invokevirtual 65, 3) := by decide +kernel
theorem d_A_keepUppermost_19 : decode b_A_keepUppermost 19 = .ok (.ifCond .ne 16, 3) := by decide +kernel
theorem d_A_keepUppermost_22 : decode b_A_keepUppermost 22 = .ok (.aload_n 0, 1) := by decide +kernel
theorem d_A_keepUppermost_23 : decode b_A_keepUppermost 23 = .ok (.getfield 46, 3) := by decide +kernel
theorem d_A_keepUppermost_26 : decode b_A_keepUppermost 26 = .ok (.invokestatic 107, 3) := by decide +kernel
theorem d_A_keepUppermost_29 : decode b_A_keepUppermost 29 = .ok (.iconst 3, 1) := by decide +kernel
theorem d_A_keepUppermost_30 : decode b_A_keepUppermost 30 = .ok (.if_icmp .lt 5, 3) := by decide +kernel
theorem d_A_keepUppermost_33 : decode b_A_keepUppermost 33 = .ok (.iconst 0, 1) := by decide +kernel
theorem d_A_keepUppermost_34 : decode b_A_keepUppermost 34 = .ok (.ireturn, 1) := by decide +kernel
theorem d_A_keepUppermost_35 : decode b_A_keepUppermost 35 = .ok (.aload_n 0, 1) := by decide +kernel
theorem d_A_keepUppermost_36 : decode b_A_keepUppermost 36 = .ok (.dup, 1) := by decide +kernel
theorem d_A_keepUppermost_37 : decode b_A_keepUppermost 37 = .ok (.getfield 46, 3) := by decide +kernel
theorem d_A_keepUppermost_40 : decode b_A_keepUppermost 40 = .ok (.iconst 1, 1) := by decide +kernel
theorem d_A_keepUppermost_41 : decode b_A_keepUppermost 41 = .ok (.iload_n 1, 1) := by decide +kernel
theorem d_A_keepUppermost_42 : decode b_A_keepUppermost 42 = .ok (.ishl, 1) := by decide +kernel
theorem d_A_keepUppermost_43 : decode b_A_keepUppermost 43 = .ok (.ior, 1) := by decide +kernel
theorem d_A_keepUppermost_44 : decode b_A_keepUppermost 44 = .ok (.putfield 46, 3) := by decide +kernel
theorem d_A_keepUppermost_47 : decode b_A_keepUppermost 47 = .ok (.aload_n 0, 1) := by decide +kernel
theorem d_A_keepUppermost_48 : decode b_A_keepUppermost 48 = .ok (.getfield 18, 3) := by decide +kernel
theorem d_A_keepUppermost_51 : decode b_A_keepUppermost 51 = .ok (.iload_n 1, 1) := by decide +kernel
theorem d_A_keepUppermost_52 : decode b_A_keepUppermost 52 = .ok (.aload_n 0, 1) := by decide +kernel
theorem d_A_keepUppermost_53 : decode b_A_keepUppermost 53 = .ok (.invokevirtual 89, 3) := by decide +kernel
theorem d_A_keepUppermost_56 : decode b_A_keepUppermost 56 = .ok (.iastore, 1) := by decide +kernel
theorem d_A_keepUppermost_57 : decode b_A_keepUppermost 57 = .ok (.aload_n 0, 1) := by decide +kernel
theorem d_A_keepUppermost_58 : decode b_A_keepUppermost 58 = .ok (.invokevirtual 89, 3) := by decide +kernel
theorem d_A_keepUppermost_61 : decode b_A_keepUppermost 61 = .ok (.pop, 1) := by decide +kernel
theorem d_A_keepUppermost_62 : decode b_A_keepUppermost 62 = .ok (.aload_n 0, 1) := by decide +kernel
theorem d_A_keepUppermost_63 : decode b_A_keepUppermost 63 = .ok (.dup, 1) := by decide +kernel
theorem d_A_keepUppermost_64 : decode b_A_keepUppermost 64 = .ok (.getfield 49, 3) := by decide +kernel
theorem d_A_keepUppermost_67 : decode b_A_keepUppermost 67 = .ok (.iconst 1, 1) := by decide +kernel
theorem d_A_keepUppermost_68 : decode b_A_keepUppermost 68 = .ok (.iadd, 1) := by decide +kernel
theorem d_A_keepUppermost_69 : decode b_A_keepUppermost 69 = .ok (.putfield 49, 3) := by decide +kernel
theorem d_A_keepUppermost_72 : decode b_A_keepUppermost 72 = .ok (.iconst 1, 1) := by decide +kernel
theorem d_A_keepUppermost_73 : decode b_A_keepUppermost 73 = .ok (.ireturn, 1) := by decide +kernel
theorem d_Q_init_0 : decode b_Q_init 0 = .ok (.aload_n 0, 1) := by decide +kernel
theorem d_Q_init_1 : decode b_Q_init 1 = .ok (.invokespecial 3, 3) := by decide +kernel
theorem d_Q_init_4 : decode b_Q_init 4 = .ok (.aload_n 0, 1) := by decide +kernel
theorem d_Q_init_5 : decode b_Q_init 5 = .ok (.bipush 8, 2) := by decide +kernel
theorem d_Q_init_7 : decode b_Q_init 7 = .ok (.newarray .int, 2) := by decide +kernel
theorem d_Q_init_9 : decode b_Q_init 9 = .ok (.putfield 9, 3) := by decide +kernel
theorem d_Q_init_12 : decode b_Q_init 12 = .ok (.aload_n 0, 1) := by decide +kernel
theorem d_Q_init_13 : decode b_Q_init 13 = .ok (.bipush 8, 2) := by decide +kernel
theorem d_Q_init_15 : decode b_Q_init 15 = .ok (.newarray .int, 2) := by decide +kernel
theorem d_Q_init_17 : decode b_Q_init 17 = .ok (.putfield 15, 3) := by decide +kernel
theorem d_Q_init_20 : decode b_Q_init 20 = .ok (.aload_n 0, 1) := by decide +kernel
theorem d_Q_init_21 : decode b_Q_init 21 = .ok (.bipush 8, 2) := by decide +kernel
theorem d_Q_init_23 : decode b_Q_init 23 = .ok (.newarray .int, 2) := by decide +kernel
theorem d_Q_init_25 : decode b_Q_init 25 = .ok (.putfield 18, 3) := by decide +kernel
theorem d_Q_init_28 : decode b_Q_init 28 = .ok (.return_, 1) := by decide +kernel
theorem d_Q_add_0 : decode b_Q_add 0 = .ok (.aload_n 0, 1) := by decide +kernel
theorem d_Q_add_1 : decode b_Q_add 1 = .ok (.getfield 21, 3) := by decide +kernel
theorem d_Q_add_4 : decode b_Q_add 4 = .ok (.bipush 8, 2) := by decide +kernel
theorem d_Q_add_6 : decode b_Q_add 6 = .ok (.if_icmp .lt 5, 3) := by decide +kernel
theorem d_Q_add_9 : decode b_Q_add 9 = .ok (.iconst 0, 1) := by decide +kernel
theorem d_Q_add_10 : decode b_Q_add 10 = .ok (.ireturn, 1) := by decide +kernel
theorem d_Q_add_11 : decode b_Q_add 11 = .ok (.aload_n 0, 1) := by decide +kernel
theorem d_Q_add_12 : decode b_Q_add 12 = .ok (.aload_n 0, 1) := by decide +kernel
theorem d_Q_add_13 : decode b_Q_add 13 = .ok (.getfield 21, 3) := by decide +kernel
theorem d_Q_add_16 : decode b_Q_add 16 = .ok (.iload_n 1, 1) := by decide +kernel
theorem d_Q_add_17 : decode b_Q_add 17 = .ok (.iload_n 2, 1) := by decide +kernel
theorem d_Q_add_18 : decode b_Q_add 18 = .ok (.iload_n 3, 1) := by decide +kernel
theorem d_Q_add_19 : decode b_Q_add 19 = .ok (.invokevirtual 25, 3) := by decide +kernel
theorem d_Q_add_22 : decode b_Q_add 22 = .ok (.aload_n 0, 1) := by decide +kernel
theorem d_Q_add_23 : decode b_Q_add 23 = .ok (.dup, 1) := by decide +kernel
theorem d_Q_add_24 : decode b_Q_add 24 = .ok (.getfield 21, 3) := by decide +kernel
theorem d_Q_add_27 : decode b_Q_add 27 = .ok (.iconst 1, 1) := by decide +kernel
theorem d_Q_add_28 : decode b_Q_add 28 = .ok (.iadd, 1) := by decide +kernel
theorem d_Q_add_29 : decode b_Q_add 29 = .ok (.putfield 21, 3) := by decide +kernel
theorem d_Q_add_32 : decode b_Q_add 32 = .ok (.iconst 1, 1) := by decide +kernel
theorem d_Q_add_33 : decode b_Q_add 33 = .ok (.ireturn, 1) := by decide +kernel
theorem d_Q_dropFirst_0 : decode b_Q_dropFirst 0 = .ok (.iconst 1, 1) := by decide +kernel
theorem d_Q_dropFirst_1 : decode b_Q_dropFirst 1 = .ok (.istore_n 1, 1) := by decide +kernel
theorem d_Q_dropFirst_2 : decode b_Q_dropFirst 2 = .ok (.iload_n 1, 1) := by decide +kernel
theorem d_Q_dropFirst_3 : decode b_Q_dropFirst 3 = .ok (.aload_n 0, 1) := by decide +kernel
theorem d_Q_dropFirst_4 : decode b_Q_dropFirst 4 = .ok (.getfield 21, 3) := by decide +kernel
theorem d_Q_dropFirst_7 : decode b_Q_dropFirst 7 = .ok (.if_icmp .ge 34, 3) := by decide +kernel
theorem d_Q_dropFirst_10 : decode b_Q_dropFirst 10 = .ok (.aload_n 0, 1) := by decide +kernel
theorem d_Q_dropFirst_11 : decode b_Q_dropFirst 11 = .ok (.iload_n 1, 1) := by decide +kernel
theorem d_Q_dropFirst_12 : decode b_Q_dropFirst 12 = .ok (.iconst 1, 1) := by decide +kernel
theorem d_Q_dropFirst_13 : decode b_Q_dropFirst 13 = .ok (.isub, 1) := by decide +kernel
theorem d_Q_dropFirst_14 : decode b_Q_dropFirst 14 = .ok (.aload_n 0, 1) := by decide +kernel
theorem d_Q_dropFirst_15 : decode b_Q_dropFirst 15 = .ok (.getfield 9, 3) := by decide +kernel
theorem d_Q_dropFirst_18 : decode b_Q_dropFirst 18 = .ok (.iload_n 1, 1) := by decide +kernel
theorem d_Q_dropFirst_19 : decode b_Q_dropFirst 19 = .ok (.iaload, 1) := by decide +kernel
theorem d_Q_dropFirst_20 : decode b_Q_dropFirst 20 = .ok (.aload_n 0, 1) := by decide +kernel
theorem d_Q_dropFirst_21 : decode b_Q_dropFirst 21 = .ok (.getfield 15, 3) := by decide +kernel
theorem d_Q_dropFirst_24 : decode b_Q_dropFirst 24 = .ok (.iload_n 1, 1) := by decide +kernel
theorem d_Q_dropFirst_25 : decode b_Q_dropFirst 25 = .ok (.iaload, 1) := by decide +kernel
theorem d_Q_dropFirst_26 : decode b_Q_dropFirst 26 = .ok (.aload_n 0, 1) := by decide +kernel
theorem d_Q_dropFirst_27 : decode b_Q_dropFirst 27 = .ok (.getfield 18, 3) := by decide +kernel
theorem d_Q_dropFirst_30 : decode b_Q_dropFirst 30 = .ok (.iload_n 1, 1) := by decide +kernel
theorem d_Q_dropFirst_31 : decode b_Q_dropFirst 31 = .ok (.iaload, 1) := by decide +kernel
theorem d_Q_dropFirst_32 : decode b_Q_dropFirst 32 = .ok (.invokevirtual 25, 3) := by decide +kernel
theorem d_Q_dropFirst_35 : decode b_Q_dropFirst 35 = .ok (.iinc 1 1, 3) := by decide +kernel
theorem d_Q_dropFirst_38 : decode b_Q_dropFirst 38 = .ok (.goto (-36), 3) := by decide +kernel
theorem d_Q_dropFirst_41 : decode b_Q_dropFirst 41 = .ok (.aload_n 0, 1) := by decide +kernel
theorem d_Q_dropFirst_42 : decode b_Q_dropFirst 42 = .ok (.aload_n 0, 1) := by decide +kernel
theorem d_Q_dropFirst_43 : decode b_Q_dropFirst 43 = .ok (.getfield 21, 3) := by decide +kernel
theorem d_Q_dropFirst_46 : decode b_Q_dropFirst 46 = .ok (.iconst 1, 1) := by decide +kernel
theorem d_Q_dropFirst_47 : decode b_Q_dropFirst 47 = .ok (.isub, 1) := by decide +kernel
theorem d_Q_dropFirst_48 : decode b_Q_dropFirst 48 = .ok (.iconst 0, 1) := by decide +kernel
theorem d_Q_dropFirst_49 : decode b_Q_dropFirst 49 = .ok (.invokestatic 29, 3) := by decide +kernel
theorem d_Q_dropFirst_52 : decode b_Q_dropFirst 52 = .ok (.putfield 21, 3) := by decide +kernel
theorem d_Q_dropFirst_55 : decode b_Q_dropFirst 55 = .ok (.return_, 1) := by decide +kernel
theorem d_Q_dropAllOf_0 : decode b_Q_dropAllOf 0 = .ok (.iconst 0, 1) := by decide +kernel
theorem d_Q_dropAllOf_1 : decode b_Q_dropAllOf 1 = .ok (.istore_n 2, 1) := by decide +kernel
theorem d_Q_dropAllOf_2 : decode b_Q_dropAllOf 2 = .ok (.iconst 0, 1) := by decide +kernel
theorem d_Q_dropAllOf_3 : decode b_Q_dropAllOf 3 = .ok (.istore_n 3, 1) := by decide +kernel
theorem d_Q_dropAllOf_4 : decode b_Q_dropAllOf 4 = .ok (.iload_n 3, 1) := by decide +kernel
theorem d_Q_dropAllOf_5 : decode b_Q_dropAllOf 5 = .ok (.aload_n 0, 1) := by decide +kernel
theorem d_Q_dropAllOf_6 : decode b_Q_dropAllOf 6 = .ok (.getfield 21, 3) := by decide +kernel
theorem d_Q_dropAllOf_9 : decode b_Q_dropAllOf 9 = .ok (.if_icmp .ge 45, 3) := by decide +kernel
theorem d_Q_dropAllOf_12 : decode b_Q_dropAllOf 12 = .ok (.aload_n 0, 1) := by decide +kernel
theorem d_Q_dropAllOf_13 : decode b_Q_dropAllOf 13 = .ok (.getfield 9, 3) := by decide +kernel
theorem d_Q_dropAllOf_16 : decode b_Q_dropAllOf 16 = .ok (.iload_n 3, 1) := by decide +kernel
theorem d_Q_dropAllOf_17 : decode b_Q_dropAllOf 17 = .ok (.iaload, 1) := by decide +kernel
theorem d_Q_dropAllOf_18 : decode b_Q_dropAllOf 18 = .ok (.iload_n 1, 1) := by decide +kernel
theorem d_Q_dropAllOf_19 : decode b_Q_dropAllOf 19 = .ok (.if_icmp .eq 29, 3) := by decide +kernel
theorem d_Q_dropAllOf_22 : decode b_Q_dropAllOf 22 = .ok (.aload_n 0, 1) := by decide +kernel
theorem d_Q_dropAllOf_23 : decode b_Q_dropAllOf 23 = .ok (.iload_n 2, 1) := by decide +kernel
theorem d_Q_dropAllOf_24 : decode b_Q_dropAllOf 24 = .ok (.aload_n 0, 1) := by decide +kernel
theorem d_Q_dropAllOf_25 : decode b_Q_dropAllOf 25 = .ok (.getfield 9, 3) := by decide +kernel
theorem d_Q_dropAllOf_28 : decode b_Q_dropAllOf 28 = .ok (.iload_n 3, 1) := by decide +kernel
theorem d_Q_dropAllOf_29 : decode b_Q_dropAllOf 29 = .ok (.iaload, 1) := by decide +kernel
theorem d_Q_dropAllOf_30 : decode b_Q_dropAllOf 30 = .ok (.aload_n 0, 1) := by decide +kernel
theorem d_Q_dropAllOf_31 : decode b_Q_dropAllOf 31 = .ok (.getfield 15, 3) := by decide +kernel
theorem d_Q_dropAllOf_34 : decode b_Q_dropAllOf 34 = .ok (.iload_n 3, 1) := by decide +kernel
theorem d_Q_dropAllOf_35 : decode b_Q_dropAllOf 35 = .ok (.iaload, 1) := by decide +kernel
theorem d_Q_dropAllOf_36 : decode b_Q_dropAllOf 36 = .ok (.aload_n 0, 1) := by decide +kernel
theorem d_Q_dropAllOf_37 : decode b_Q_dropAllOf 37 = .ok (.getfield 18, 3) := by decide +kernel
theorem d_Q_dropAllOf_40 : decode b_Q_dropAllOf 40 = .ok (.iload_n 3, 1) := by decide +kernel
theorem d_Q_dropAllOf_41 : decode b_Q_dropAllOf 41 = .ok (.iaload, 1) := by decide +kernel
theorem d_Q_dropAllOf_42 : decode b_Q_dropAllOf 42 = .ok (.invokevirtual 25, 3) := by decide +kernel
theorem d_Q_dropAllOf_45 : decode b_Q_dropAllOf 45 = .ok (.iinc 2 1, 3) := by decide +kernel
theorem d_Q_dropAllOf_48 : decode b_Q_dropAllOf 48 = .ok (.iinc 3 1, 3) := by decide +kernel
theorem d_Q_dropAllOf_51 : decode b_Q_dropAllOf 51 = .ok (.goto (-47), 3) := by decide +kernel
theorem d_Q_dropAllOf_54 : decode b_Q_dropAllOf 54 = .ok (.aload_n 0, 1) := by decide +kernel
theorem d_Q_dropAllOf_55 : decode b_Q_dropAllOf 55 = .ok (.iload_n 2, 1) := by decide +kernel
theorem d_Q_dropAllOf_56 : decode b_Q_dropAllOf 56 = .ok (.putfield 21, 3) := by decide +kernel
theorem d_Q_dropAllOf_59 : decode b_Q_dropAllOf 59 = .ok (.return_, 1) := by decide +kernel
theorem d_Q_setRow_0 : decode b_Q_setRow 0 = .ok (.aload_n 0, 1) := by decide +kernel
theorem d_Q_setRow_1 : decode b_Q_setRow 1 = .ok (.getfield 9, 3) := by decide +kernel
theorem d_Q_setRow_4 : decode b_Q_setRow 4 = .ok (.iload_n 1, 1) := by decide +kernel
theorem d_Q_setRow_5 : decode b_Q_setRow 5 = .ok (.iload_n 2, 1) := by decide +kernel
theorem d_Q_setRow_6 : decode b_Q_setRow 6 = .ok (.iastore, 1) := by decide +kernel
theorem d_Q_setRow_7 : decode b_Q_setRow 7 = .ok (.aload_n 0, 1) := by decide +kernel
theorem d_Q_setRow_8 : decode b_Q_setRow 8 = .ok (.getfield 15, 3) := by decide +kernel
theorem d_Q_setRow_11 : decode b_Q_setRow 11 = .ok (.iload_n 1, 1) := by decide +kernel
theorem d_Q_setRow_12 : decode b_Q_setRow 12 = .ok (.iload_n 3, 1) := by decide +kernel
theorem d_Q_setRow_13 : decode b_Q_setRow 13 = .ok (.iastore, 1) := by decide +kernel
theorem d_Q_setRow_14 : decode b_Q_setRow 14 = .ok (.aload_n 0, 1) := by decide +kernel
theorem d_Q_setRow_15 : decode b_Q_setRow 15 = .ok (.getfield 18, 3) := by decide +kernel
theorem d_Q_setRow_18 : decode b_Q_setRow 18 = .ok (.iload_n 1, 1) := by decide +kernel
theorem d_Q_setRow_19 : decode b_Q_setRow 19 = .ok (.iload 4, 2) := by decide +kernel
theorem d_Q_setRow_21 : decode b_Q_setRow 21 = .ok (.iastore, 1) := by decide +kernel
theorem d_Q_setRow_22 : decode b_Q_setRow 22 = .ok (.return_, 1) := by decide +kernel
theorem d_P_init_0 : decode b_P_init 0 = .ok (.aload_n 0, 1) := by decide +kernel
theorem d_P_init_1 : decode b_P_init 1 = .ok (.invokespecial 3, 3) := by decide +kernel
theorem d_P_init_4 : decode b_P_init 4 = .ok (.aload_n 0, 1) := by decide +kernel
theorem d_P_init_5 : decode b_P_init 5 = .ok (.iconst 1, 1) := by decide +kernel
theorem d_P_init_6 : decode b_P_init 6 = .ok (.putfield 9, 3) := by decide +kernel
theorem d_P_init_9 : decode b_P_init 9 = .ok (.aload_n 0, 1) := by decide +kernel
theorem d_P_init_10 : decode b_P_init 10 = .ok (.bipush 8, 2) := by decide +kernel
theorem d_P_init_12 : decode b_P_init 12 = .ok (.newarray .int, 2) := by decide +kernel
theorem d_P_init_14 : decode b_P_init 14 = .ok (.putfield 15, 3) := by decide +kernel
theorem d_P_init_17 : decode b_P_init 17 = .ok (.aload_n 0, 1) := by decide +kernel
theorem d_P_init_18 : decode b_P_init 18 = .ok (.getfield 15, 3) := by decide +kernel
theorem d_P_init_21 : decode b_P_init 21 = .ok (.iconst (-1), 1) := by decide +kernel
theorem d_P_init_22 : decode b_P_init 22 = .ok (.invokestatic 19, 3) := by decide +kernel
theorem d_P_init_25 : decode b_P_init 25 = .ok (.aload_n 0, 1) := by decide +kernel
theorem d_P_init_26 : decode b_P_init 26 = .ok (.iconst 4, 1) := by decide +kernel
theorem d_P_init_27 : decode b_P_init 27 = .ok (.newarray .int, 2) := by decide +kernel
theorem d_P_init_29 : decode b_P_init 29 = .ok (.putfield 25, 3) := by decide +kernel
theorem d_P_init_32 : decode b_P_init 32 = .ok (.aload_n 0, 1) := by decide +kernel
theorem d_P_init_33 : decode b_P_init 33 = .ok (.iconst 4, 1) := by decide +kernel
theorem d_P_init_34 : decode b_P_init 34 = .ok (.newarray .int, 2) := by decide +kernel
theorem d_P_init_36 : decode b_P_init 36 = .ok (.putfield 28, 3) := by decide +kernel
theorem d_P_init_39 : decode b_P_init 39 = .ok (.aload_n 0, 1) := by decide +kernel
theorem d_P_init_40 : decode b_P_init 40 = .ok (.iconst 4, 1) := by decide +kernel
theorem d_P_init_41 : decode b_P_init 41 = .ok (.newarray .int, 2) := by decide +kernel
theorem d_P_init_43 : decode b_P_init 43 = .ok (.putfield 31, 3) := by decide +kernel
theorem d_P_init_46 : decode b_P_init 46 = .ok (.aload_n 0, 1) := by decide +kernel
theorem d_P_init_47 : decode b_P_init 47 = .ok (.iconst 4, 1) := by decide +kernel
theorem d_P_init_48 : decode b_P_init 48 = .ok (.newarray .int, 2) := by decide +kernel
theorem d_P_init_50 : decode b_P_init 50 = .ok (.putfield 34, 3) := by decide +kernel
theorem d_P_init_53 : decode b_P_init 53 = .ok (.aload_n 0, 1) := by decide +kernel
theorem d_P_init_54 : decode b_P_init 54 = .ok (.bipush 24, 2) := by decide +kernel
theorem d_P_init_56 : decode b_P_init 56 = .ok (.newarray .int, 2) := by decide +kernel
theorem d_P_init_58 : decode b_P_init 58 = .ok (.putfield 37, 3) := by decide +kernel
theorem d_P_init_61 : decode b_P_init 61 = .ok (.return_, 1) := by decide +kernel
theorem d_P_beginAnew_0 : decode b_P_beginAnew 0 = .ok (.aload_n 0, 1) := by decide +kernel
theorem d_P_beginAnew_1 : decode b_P_beginAnew 1 = .ok (.iload_n 1, 1) := by decide +kernel
theorem d_P_beginAnew_2 : decode b_P_beginAnew 2 = .ok (.putfield 40, 3) := by decide +kernel
theorem d_P_beginAnew_5 : decode b_P_beginAnew 5 = .ok (.aload_n 0, 1) := by decide +kernel
theorem d_P_beginAnew_6 : decode b_P_beginAnew 6 = .ok (.iload_n 2, 1) := by decide +kernel
theorem d_P_beginAnew_7 : decode b_P_beginAnew 7 = .ok (.putfield 9, 3) := by decide +kernel
theorem d_P_beginAnew_10 : decode b_P_beginAnew 10 = .ok (.aload_n 0, 1) := by decide +kernel
theorem d_P_beginAnew_11 : decode b_P_beginAnew 11 = .ok (.iload_n 3, 1) := by decide +kernel
theorem d_P_beginAnew_12 : decode b_P_beginAnew 12 = .ok (.putfield 43, 3) := by decide +kernel
theorem d_P_beginAnew_15 : decode b_P_beginAnew 15 = .ok (.aload_n 0, 1) := by decide +kernel
theorem d_P_beginAnew_16 : decode b_P_beginAnew 16 = .ok (.iconst 0, 1) := by decide +kernel
theorem d_P_beginAnew_17 : decode b_P_beginAnew 17 = .ok (.putfield 46, 3) := by decide +kernel
theorem d_P_beginAnew_20 : decode b_P_beginAnew 20 = .ok (.aload_n 0, 1) := by decide +kernel
theorem d_P_beginAnew_21 : decode b_P_beginAnew 21 = .ok (.iconst 0, 1) := by decide +kernel
theorem d_P_beginAnew_22 : decode b_P_beginAnew 22 = .ok (.putfield 49, 3) := by decide +kernel
theorem d_P_beginAnew_25 : decode b_P_beginAnew 25 = .ok (.aload_n 0, 1) := by decide +kernel
theorem d_P_beginAnew_26 : decode b_P_beginAnew 26 = .ok (.getfield 15, 3) := by decide +kernel
theorem d_P_beginAnew_29 : decode b_P_beginAnew 29 = .ok (.iconst (-1), 1) := by decide +kernel
theorem d_P_beginAnew_30 : decode b_P_beginAnew 30 = .ok (.invokestatic 19, 3) := by decide +kernel
theorem d_P_beginAnew_33 : decode b_P_beginAnew 33 = .ok (.aload_n 0, 1) := by decide +kernel
theorem d_P_beginAnew_34 : decode b_P_beginAnew 34 = .ok (.iconst 0, 1) := by decide +kernel
theorem d_P_beginAnew_35 : decode b_P_beginAnew 35 = .ok (.putfield 52, 3) := by decide +kernel
theorem d_P_beginAnew_38 : decode b_P_beginAnew 38 = .ok (.aload_n 0, 1) := by decide +kernel
theorem d_P_beginAnew_39 : decode b_P_beginAnew 39 = .ok (.iconst 0, 1) := by decide +kernel
theorem d_P_beginAnew_40 : decode b_P_beginAnew 40 = .ok (.putfield 55, 3) := by decide +kernel
theorem d_P_beginAnew_43 : decode b_P_beginAnew 43 = .ok (.return_, 1) := by decide +kernel
theorem d_P_copyFrom_0 : decode b_P_copyFrom 0 = .ok (.aload_n 0, 1) := by decide +kernel
theorem d_P_copyFrom_1 : decode b_P_copyFrom 1 = .ok (.aload_n 1, 1) := by decide +kernel
theorem d_P_copyFrom_2 : decode b_P_copyFrom 2 = .ok (.getfield 40, 3) := by decide +kernel
theorem d_P_copyFrom_5 : decode b_P_copyFrom 5 = .ok (.aload_n 1, 1) := by decide +kernel
theorem d_P_copyFrom_6 : decode b_P_copyFrom 6 = .ok (.getfield 9, 3) := by decide +kernel
theorem d_P_copyFrom_9 : decode b_P_copyFrom 9 = .ok (.aload_n 1, 1) := by decide +kernel
theorem d_P_copyFrom_10 : decode b_P_copyFrom 10 = .ok (.getfield 43, 3) := by decide +kernel
theorem d_P_copyFrom_13 : decode b_P_copyFrom 13 = .ok (.invokevirtual 58, 3) := by decide +kernel
theorem d_P_copyFrom_16 : decode b_P_copyFrom 16 = .ok (.aload_n 0, 1) := by decide +kernel
theorem d_P_copyFrom_17 : decode b_P_copyFrom 17 = .ok (.aload_n 1, 1) := by decide +kernel
theorem d_P_copyFrom_18 : decode b_P_copyFrom 18 = .ok (.getfield 46, 3) := by decide +kernel
theorem d_P_copyFrom_21 : decode b_P_copyFrom 21 = .ok (.putfield 46, 3) := by decide +kernel
theorem d_P_copyFrom_24 : decode b_P_copyFrom 24 = .ok (.aload_n 0, 1) := by decide +kernel
theorem d_P_copyFrom_25 : decode b_P_copyFrom 25 = .ok (.aload_n 1, 1) := by decide +kernel
theorem d_P_copyFrom_26 : decode b_P_copyFrom 26 = .ok (.getfield 49, 3) := by decide +kernel
theorem d_P_copyFrom_29 : decode b_P_copyFrom 29 = .ok (.putfield 49, 3) := by decide +kernel
theorem d_P_copyFrom_32 : decode b_P_copyFrom 32 = .ok (.aload_n 1, 1) := by decide +kernel
theorem d_P_copyFrom_33 : decode b_P_copyFrom 33 = .ok (.getfield 15, 3) := by decide +kernel
theorem d_P_copyFrom_36 : decode b_P_copyFrom 36 = .ok (.iconst 0, 1) := by decide +kernel
theorem d_P_copyFrom_37 : decode b_P_copyFrom 37 = .ok (.aload_n 0, 1) := by decide +kernel
theorem d_P_copyFrom_38 : decode b_P_copyFrom 38 = .ok (.getfield 15, 3) := by decide +kernel
theorem d_P_copyFrom_41 : decode b_P_copyFrom 41 = .ok (.iconst 0, 1) := by decide +kernel
theorem d_P_copyFrom_42 : decode b_P_copyFrom 42 = .ok (.bipush 8, 2) := by decide +kernel
theorem d_P_copyFrom_44 : decode b_P_copyFrom 44 = .ok (.invokestatic 62, 3) := by decide +kernel
theorem d_P_copyFrom_47 : decode b_P_copyFrom 47 = .ok (.aload_n 0, 1) := by decide +kernel
theorem d_P_copyFrom_48 : decode b_P_copyFrom 48 = .ok (.aload_n 1, 1) := by decide +kernel
theorem d_P_copyFrom_49 : decode b_P_copyFrom 49 = .ok (.getfield 52, 3) := by decide +kernel
theorem d_P_copyFrom_52 : decode b_P_copyFrom 52 = .ok (.putfield 52, 3) := by decide +kernel
theorem d_P_copyFrom_55 : decode b_P_copyFrom 55 = .ok (.aload_n 1, 1) := by decide +kernel
theorem d_P_copyFrom_56 : decode b_P_copyFrom 56 = .ok (.getfield 25, 3) := by decide +kernel
theorem d_P_copyFrom_59 : decode b_P_copyFrom 59 = .ok (.iconst 0, 1) := by decide +kernel
theorem d_P_copyFrom_60 : decode b_P_copyFrom 60 = .ok (.aload_n 0, 1) := by decide +kernel
theorem d_P_copyFrom_61 : decode b_P_copyFrom 61 = .ok (.getfield 25, 3) := by decide +kernel
theorem d_P_copyFrom_64 : decode b_P_copyFrom 64 = .ok (.iconst 0, 1) := by decide +kernel
theorem d_P_copyFrom_65 : decode b_P_copyFrom 65 = .ok (.iconst 4, 1) := by decide +kernel
theorem d_P_copyFrom_66 : decode b_P_copyFrom 66 = .ok (.invokestatic 62, 3) := by decide +kernel
theorem d_P_copyFrom_69 : decode b_P_copyFrom 69 = .ok (.aload_n 1, 1) := by decide +kernel
theorem d_P_copyFrom_70 : decode b_P_copyFrom 70 = .ok (.getfield 28, 3) := by decide +kernel
theorem d_P_copyFrom_73 : decode b_P_copyFrom 73 = .ok (.iconst 0, 1) := by decide +kernel
theorem d_P_copyFrom_74 : decode b_P_copyFrom 74 = .ok (.aload_n 0, 1) := by decide +kernel
theorem d_P_copyFrom_75 : decode b_P_copyFrom 75 = .ok (.getfield 28, 3) := by decide +kernel
theorem d_P_copyFrom_78 : decode b_P_copyFrom 78 = .ok (.iconst 0, 1) := by decide +kernel
theorem d_P_copyFrom_79 : decode b_P_copyFrom 79 = .ok (.iconst 4, 1) := by decide +kernel
theorem d_P_copyFrom_80 : decode b_P_copyFrom 80 = .ok (.invokestatic 62, 3) := by decide +kernel
theorem d_P_copyFrom_83 : decode b_P_copyFrom 83 = .ok (.aload_n 1, 1) := by decide +kernel
theorem d_P_copyFrom_84 : decode b_P_copyFrom 84 = .ok (.getfield 31, 3) := by decide +kernel
theorem d_P_copyFrom_87 : decode b_P_copyFrom 87 = .ok (.iconst 0, 1) := by decide +kernel
theorem d_P_copyFrom_88 : decode b_P_copyFrom 88 = .ok (.aload_n 0, 1) := by decide +kernel
theorem d_P_copyFrom_89 : decode b_P_copyFrom 89 = .ok (.getfield 31, 3) := by decide +kernel
theorem d_P_copyFrom_92 : decode b_P_copyFrom 92 = .ok (.iconst 0, 1) := by decide +kernel
theorem d_P_copyFrom_93 : decode b_P_copyFrom 93 = .ok (.iconst 4, 1) := by decide +kernel
theorem d_P_copyFrom_94 : decode b_P_copyFrom 94 = .ok (.invokestatic 62, 3) := by decide +kernel
theorem d_P_copyFrom_97 : decode b_P_copyFrom 97 = .ok (.aload_n 1, 1) := by decide +kernel
theorem d_P_copyFrom_98 : decode b_P_copyFrom 98 = .ok (.getfield 34, 3) := by decide +kernel
theorem d_P_copyFrom_101 : decode b_P_copyFrom 101 = .ok (.iconst 0, 1) := by decide +kernel
theorem d_P_copyFrom_102 : decode b_P_copyFrom 102 = .ok (.aload_n 0, 1) := by decide +kernel
theorem d_P_copyFrom_103 : decode b_P_copyFrom 103 = .ok (.getfield 34, 3) := by decide +kernel
theorem d_P_copyFrom_106 : decode b_P_copyFrom 106 = .ok (.iconst 0, 1) := by decide +kernel
theorem d_P_copyFrom_107 : decode b_P_copyFrom 107 = .ok (.iconst 4, 1) := by decide +kernel
theorem d_P_copyFrom_108 : decode b_P_copyFrom 108 = .ok (.invokestatic 62, 3) := by decide +kernel
theorem d_P_copyFrom_111 : decode b_P_copyFrom 111 = .ok (.aload_n 0, 1) := by decide +kernel
theorem d_P_copyFrom_112 : decode b_P_copyFrom 112 = .ok (.aload_n 1, 1) := by decide +kernel
theorem d_P_copyFrom_113 : decode b_P_copyFrom 113 = .ok (.getfield 55, 3) := by decide +kernel
theorem d_P_copyFrom_116 : decode b_P_copyFrom 116 = .ok (.putfield 55, 3) := by decide +kernel
theorem d_P_copyFrom_119 : decode b_P_copyFrom 119 = .ok (.aload_n 1, 1) := by decide +kernel
theorem d_P_copyFrom_120 : decode b_P_copyFrom 120 = .ok (.getfield 37, 3) := by decide +kernel
theorem d_P_copyFrom_123 : decode b_P_copyFrom 123 = .ok (.iconst 0, 1) := by decide +kernel
theorem d_P_copyFrom_124 : decode b_P_copyFrom 124 = .ok (.aload_n 0, 1) := by decide +kernel
theorem d_P_copyFrom_125 : decode b_P_copyFrom 125 = .ok (.getfield 37, 3) := by decide +kernel
theorem d_P_copyFrom_128 : decode b_P_copyFrom 128 = .ok (.iconst 0, 1) := by decide +kernel
theorem d_P_copyFrom_129 : decode b_P_copyFrom 129 = .ok (.bipush 24, 2) := by decide +kernel
theorem d_P_copyFrom_131 : decode b_P_copyFrom 131 = .ok (.invokestatic 62, 3) := by decide +kernel
theorem d_P_copyFrom_134 : decode b_P_copyFrom 134 = .ok (.return_, 1) := by decide +kernel
theorem d_P_addWord_0 : decode b_P_addWord 0 = .ok (.aload_n 0, 1) := by decide +kernel
theorem d_P_addWord_1 : decode b_P_addWord 1 = .ok (.getfield 55, 3) := by decide +kernel
theorem d_P_addWord_4 : decode b_P_addWord 4 = .ok (.bipush 24, 2) := by decide +kernel
theorem d_P_addWord_6 : decode b_P_addWord 6 = .ok (.if_icmp .lt 5, 3) := by decide +kernel
theorem d_P_addWord_9 : decode b_P_addWord 9 = .ok (.iconst 0, 1) := by decide +kernel
theorem d_P_addWord_10 : decode b_P_addWord 10 = .ok (.ireturn, 1) := by decide +kernel
theorem d_P_addWord_11 : decode b_P_addWord 11 = .ok (.aload_n 0, 1) := by decide +kernel
theorem d_P_addWord_12 : decode b_P_addWord 12 = .ok (.getfield 37, 3) := by decide +kernel
theorem d_P_addWord_15 : decode b_P_addWord 15 = .ok (.aload_n 0, 1) := by decide +kernel
theorem d_P_addWord_16 : decode b_P_addWord 16 = .ok (.getfield 55, 3) := by decide +kernel
theorem d_P_addWord_19 : decode b_P_addWord 19 = .ok (.iload_n 1, 1) := by decide +kernel
theorem d_P_addWord_20 : decode b_P_addWord 20 = .ok (.iastore, 1) := by decide +kernel
theorem d_P_addWord_21 : decode b_P_addWord 21 = .ok (.aload_n 0, 1) := by decide +kernel
theorem d_P_addWord_22 : decode b_P_addWord 22 = .ok (.dup, 1) := by decide +kernel
theorem d_P_addWord_23 : decode b_P_addWord 23 = .ok (.getfield 55, 3) := by decide +kernel
theorem d_P_addWord_26 : decode b_P_addWord 26 = .ok (.iconst 1, 1) := by decide +kernel
theorem d_P_addWord_27 : decode b_P_addWord 27 = .ok (.iadd, 1) := by decide +kernel
theorem d_P_addWord_28 : decode b_P_addWord 28 = .ok (.putfield 55, 3) := by decide +kernel
theorem d_P_addWord_31 : decode b_P_addWord 31 = .ok (.iconst 1, 1) := by decide +kernel
theorem d_P_addWord_32 : decode b_P_addWord 32 = .ok (.ireturn, 1) := by decide +kernel
theorem d_P_addPart_0 : decode b_P_addPart 0 = .ok (.aload_n 0, 1) := by decide +kernel
theorem d_P_addPart_1 : decode b_P_addPart 1 = .ok (.getfield 52, 3) := by decide +kernel
theorem d_P_addPart_4 : decode b_P_addPart 4 = .ok (.iconst 4, 1) := by decide +kernel
theorem d_P_addPart_5 : decode b_P_addPart 5 = .ok (.if_icmp .lt 5, 3) := by decide +kernel
theorem d_P_addPart_8 : decode b_P_addPart 8 = .ok (.iconst 0, 1) := by decide +kernel
theorem d_P_addPart_9 : decode b_P_addPart 9 = .ok (.ireturn, 1) := by decide +kernel
theorem d_P_addPart_10 : decode b_P_addPart 10 = .ok (.aload_n 0, 1) := by decide +kernel
theorem d_P_addPart_11 : decode b_P_addPart 11 = .ok (.getfield 25, 3) := by decide +kernel
theorem d_P_addPart_14 : decode b_P_addPart 14 = .ok (.aload_n 0, 1) := by decide +kernel
theorem d_P_addPart_15 : decode b_P_addPart 15 = .ok (.getfield 52, 3) := by decide +kernel
theorem d_P_addPart_18 : decode b_P_addPart 18 = .ok (.iload_n 1, 1) := by decide +kernel
theorem d_P_addPart_19 : decode b_P_addPart 19 = .ok (.iastore, 1) := by decide +kernel
theorem d_P_addPart_20 : decode b_P_addPart 20 = .ok (.aload_n 0, 1) := by decide +kernel
theorem d_P_addPart_21 : decode b_P_addPart 21 = .ok (.getfield 28, 3) := by decide +kernel
theorem d_P_addPart_24 : decode b_P_addPart 24 = .ok (.aload_n 0, 1) := by decide +kernel
theorem d_P_addPart_25 : decode b_P_addPart 25 = .ok (.getfield 52, 3) := by decide +kernel
theorem d_P_addPart_28 : decode b_P_addPart 28 = .ok (.iload_n 2, 1) := by decide +kernel
theorem d_P_addPart_29 : decode b_P_addPart 29 = .ok (.ifCond .eq 7, 3) := by decide +kernel
theorem d_P_addPart_32 : decode b_P_addPart 32 = .ok (.iconst 1, 1) := by decide +kernel
theorem d_P_addPart_33 : decode b_P_addPart 33 = .ok (.goto 4, 3) := by decide +kernel
theorem d_P_addPart_36 : decode b_P_addPart 36 = .ok (.iconst 0, 1) := by decide +kernel
theorem d_P_addPart_37 : decode b_P_addPart 37 = .ok (.iastore, 1) := by decide +kernel
theorem d_P_addPart_38 : decode b_P_addPart 38 = .ok (.aload_n 0, 1) := by decide +kernel
theorem d_P_addPart_39 : decode b_P_addPart 39 = .ok (.getfield 31, 3) := by decide +kernel
theorem d_P_addPart_42 : decode b_P_addPart 42 = .ok (.aload_n 0, 1) := by decide +kernel
theorem d_P_addPart_43 : decode b_P_addPart 43 = .ok (.getfield 52, 3) := by decide +kernel
theorem d_P_addPart_46 : decode b_P_addPart 46 = .ok (.iload_n 3, 1) := by decide +kernel
theorem d_P_addPart_47 : decode b_P_addPart 47 = .ok (.iastore, 1) := by decide +kernel
theorem d_P_addPart_48 : decode b_P_addPart 48 = .ok (.aload_n 0, 1) := by decide +kernel
theorem d_P_addPart_49 : decode b_P_addPart 49 = .ok (.getfield 34, 3) := by decide +kernel
theorem d_P_addPart_52 : decode b_P_addPart 52 = .ok (.aload_n 0, 1) := by decide +kernel
theorem d_P_addPart_53 : decode b_P_addPart 53 = .ok (.getfield 52, 3) := by decide +kernel
theorem d_P_addPart_56 : decode b_P_addPart 56 = .ok (.iload 4, 2) := by decide +kernel
theorem d_P_addPart_58 : decode b_P_addPart 58 = .ok (.iastore, 1) := by decide +kernel
theorem d_P_addPart_59 : decode b_P_addPart 59 = .ok (.aload_n 0, 1) := by decide +kernel
theorem d_P_addPart_60 : decode b_P_addPart 60 = .ok (.dup, 1) := by decide +kernel
theorem d_P_addPart_61 : decode b_P_addPart 61 = .ok (.getfield 52, 3) := by decide +kernel
theorem d_P_addPart_64 : decode b_P_addPart 64 = .ok (.iconst 1, 1) := by decide +kernel
theorem d_P_addPart_65 : decode b_P_addPart 65 = .ok (.iadd, 1) := by decide +kernel
theorem d_P_addPart_66 : decode b_P_addPart 66 = .ok (.putfield 52, 3) := by decide +kernel
theorem d_P_addPart_69 : decode b_P_addPart 69 = .ok (.iconst 1, 1) := by decide +kernel
theorem d_P_addPart_70 : decode b_P_addPart 70 = .ok (.ireturn, 1) := by decide +kernel
theorem d_P_asksFor_0 : decode b_P_asksFor 0 = .ok (.aload_n 0, 1) := by decide +kernel
theorem d_P_asksFor_1 : decode b_P_asksFor 1 = .ok (.getfield 49, 3) := by decide +kernel
theorem d_P_asksFor_4 : decode b_P_asksFor 4 = .ok (.iload_n 1, 1) := by decide +kernel
theorem d_P_asksFor_5 : decode b_P_asksFor 5 = .ok (.bipush 8, 2) := by decide +kernel
theorem d_P_asksFor_7 : decode b_P_asksFor 7 = .ok (.invokestatic 68, 3) := by decide +kernel
theorem d_P_asksFor_10 : decode b_P_asksFor 10 = .ok (.ireturn, 1) := by decide +kernel
theorem d_P_declares_0 : decode b_P_declares 0 = .ok (.iload_n 1, 1) := by decide +kernel
theorem d_P_declares_1 : decode b_P_declares 1 = .ok (.bipush 8, 2) := by decide +kernel
theorem d_P_declares_3 : decode b_P_declares 3 = .ok (.invokestatic 72, 3) := by decide +kernel
theorem d_P_declares_6 : decode b_P_declares 6 = .ok (.ifCond .eq 17, 3) := by decide +kernel
theorem d_P_declares_9 : decode b_P_declares 9 = .ok (.aload_n 0, 1) := by decide +kernel
theorem d_P_declares_10 : decode b_P_declares 10 = .ok (.getfield 15, 3) := by decide +kernel
theorem d_P_declares_13 : decode b_P_declares 13 = .ok (.iload_n 1, 1) := by decide +kernel
theorem d_P_declares_14 : decode b_P_declares 14 = .ok (.iaload, 1) := by decide +kernel
theorem d_P_declares_15 : decode b_P_declares 15 = .ok (.iconst (-1), 1) := by decide +kernel
theorem d_P_declares_16 : decode b_P_declares 16 = .ok (.if_icmp .eq 7, 3) := by decide +kernel
theorem d_P_declares_19 : decode b_P_declares 19 = .ok (.iconst 1, 1) := by decide +kernel
theorem d_P_declares_20 : decode b_P_declares 20 = .ok (.goto 4, 3) := by decide +kernel
theorem d_P_declares_23 : decode b_P_declares 23 = .ok (.iconst 0, 1) := by decide +kernel
theorem d_P_declares_24 : decode b_P_declares 24 = .ok (.ireturn, 1) := by decide +kernel
theorem d_P_sealOfSigner_0 : decode b_P_sealOfSigner 0 = .ok (.aload_n 0, 1) := by decide +kernel
theorem d_P_sealOfSigner_1 : decode b_P_sealOfSigner 1 = .ok (.invokevirtual 76, 3) := by decide +kernel
theorem d_P_sealOfSigner_4 : decode b_P_sealOfSigner 4 = .ok (.ldc 80, 2) := by decide +kernel
theorem d_P_sealOfSigner_6 : decode b_P_sealOfSigner 6 = .ok (.aload_n 0, 1) := by decide +kernel
theorem d_P_sealOfSigner_7 : decode b_P_sealOfSigner 7 = .ok (.getfield 43, 3) := by decide +kernel
theorem d_P_sealOfSigner_10 : decode b_P_sealOfSigner 10 = .ok (.iconst 1, 1) := by decide +kernel
theorem d_P_sealOfSigner_11 : decode b_P_sealOfSigner 11 = .ok (.iadd, 1) := by decide +kernel
theorem d_P_sealOfSigner_12 : decode b_P_sealOfSigner 12 = .ok (.imul, 1) := by decide +kernel
theorem d_P_sealOfSigner_13 : decode b_P_sealOfSigner 13 = .ok (.ixor, 1) := by decide +kernel
theorem d_P_sealOfSigner_14 : decode b_P_sealOfSigner 14 = .ok (.ireturn, 1) := by decide +kernel
theorem d_P_digest_0 : decode b_P_digest 0 = .ok (.bipush 17, 2) := by decide +kernel
theorem d_P_digest_2 : decode b_P_digest 2 = .ok (.aload_n 0, 1) := by decide +kernel
theorem d_P_digest_3 : decode b_P_digest 3 = .ok (.getfield 40, 3) := by decide +kernel
theorem d_P_digest_6 : decode b_P_digest 6 = .ok (.invokestatic 81, 3) := by decide +kernel
theorem d_P_digest_9 : decode b_P_digest 9 = .ok (.aload_n 0, 1) := by decide +kernel
theorem d_P_digest_10 : decode b_P_digest 10 = .ok (.getfield 9, 3) := by decide +kernel
theorem d_P_digest_13 : decode b_P_digest 13 = .ok (.invokestatic 81, 3) := by decide +kernel
theorem d_P_digest_16 : decode b_P_digest 16 = .ok (.aload_n 0, 1) := by decide +kernel
theorem d_P_digest_17 : decode b_P_digest 17 = .ok (.getfield 49, 3) := by decide +kernel
theorem d_P_digest_20 : decode b_P_digest 20 = .ok (.invokestatic 81, 3) := by decide +kernel
theorem d_P_digest_23 : decode b_P_digest 23 = .ok (.istore_n 1, 1) := by decide +kernel
theorem d_P_digest_24 : decode b_P_digest 24 = .ok (.iconst 0, 1) := by decide +kernel
theorem d_P_digest_25 : decode b_P_digest 25 = .ok (.istore_n 2, 1) := by decide +kernel
theorem d_P_digest_26 : decode b_P_digest 26 = .ok (.iload_n 2, 1) := by decide +kernel
theorem d_P_digest_27 : decode b_P_digest 27 = .ok (.bipush 8, 2) := by decide +kernel
theorem d_P_digest_29 : decode b_P_digest 29 = .ok (.if_icmp .ge 33, 3) := by decide +kernel
theorem d_P_digest_32 : decode b_P_digest 32 = .ok (.aload_n 0, 1) := by decide +kernel
theorem d_P_digest_33 : decode b_P_digest 33 = .ok (.iload_n 2, 1) := by decide +kernel
theorem d_P_digest_34 : decode b_P_digest 34 = .ok (.invokevirtual 85, 3) := by decide +kernel
theorem d_P_digest_37 : decode b_P_digest 37 = .ok (.ifCond .eq 19, 3) := by decide +kernel
theorem d_P_digest_40 : decode b_P_digest 40 = .ok (.iload_n 1, 1) := by decide +kernel
theorem d_P_digest_41 : decode b_P_digest 41 = .ok (.bipush 10, 2) := by decide +kernel
theorem d_P_digest_43 : decode b_P_digest 43 = .ok (.iload_n 2, 1) := by decide +kernel
theorem d_P_digest_44 : decode b_P_digest 44 = .ok (.imul, 1) := by decide +kernel
theorem d_P_digest_45 : decode b_P_digest 45 = .ok (.aload_n 0, 1) := by decide +kernel
theorem d_P_digest_46 : decode b_P_digest 46 = .ok (.getfield 15, 3) := by decide +kernel
theorem d_P_digest_49 : decode b_P_digest 49 = .ok (.iload_n 2, 1) := by decide +kernel
theorem d_P_digest_50 : decode b_P_digest 50 = .ok (.iaload, 1) := by decide +kernel
theorem d_P_digest_51 : decode b_P_digest 51 = .ok (.iadd, 1) := by decide +kernel
theorem d_P_digest_52 : decode b_P_digest 52 = .ok (.invokestatic 81, 3) := by decide +kernel
theorem d_P_digest_55 : decode b_P_digest 55 = .ok (.istore_n 1, 1) := by decide +kernel
theorem d_P_digest_56 : decode b_P_digest 56 = .ok (.iinc 2 1, 3) := by decide +kernel
theorem d_P_digest_59 : decode b_P_digest 59 = .ok (.goto (-33), 3) := by decide +kernel
theorem d_P_digest_62 : decode b_P_digest 62 = .ok (.iconst 0, 1) := by decide +kernel
theorem d_P_digest_63 : decode b_P_digest 63 = .ok (.istore_n 2, 1) := by decide +kernel
theorem d_P_digest_64 : decode b_P_digest 64 = .ok (.iload_n 2, 1) := by decide +kernel
theorem d_P_digest_65 : decode b_P_digest 65 = .ok (.aload_n 0, 1) := by decide +kernel
theorem d_P_digest_66 : decode b_P_digest 66 = .ok (.getfield 52, 3) := by decide +kernel
theorem d_P_digest_69 : decode b_P_digest 69 = .ok (.if_icmp .ge 47, 3) := by decide +kernel
theorem d_P_digest_72 : decode b_P_digest 72 = .ok (.iload_n 1, 1) := by decide +kernel
theorem d_P_digest_73 : decode b_P_digest 73 = .ok (.aload_n 0, 1) := by decide +kernel
theorem d_P_digest_74 : decode b_P_digest 74 = .ok (.getfield 25, 3) := by decide +kernel
theorem d_P_digest_77 : decode b_P_digest 77 = .ok (.iload_n 2, 1) := by decide +kernel
theorem d_P_digest_78 : decode b_P_digest 78 = .ok (.iaload, 1) := by decide +kernel
theorem d_P_digest_79 : decode b_P_digest 79 = .ok (.invokestatic 81, 3) := by decide +kernel
theorem d_P_digest_82 : decode b_P_digest 82 = .ok (.aload_n 0, 1) := by decide +kernel
theorem d_P_digest_83 : decode b_P_digest 83 = .ok (.getfield 28, 3) := by decide +kernel
theorem d_P_digest_86 : decode b_P_digest 86 = .ok (.iload_n 2, 1) := by decide +kernel
theorem d_P_digest_87 : decode b_P_digest 87 = .ok (.iaload, 1) := by decide +kernel
theorem d_P_digest_88 : decode b_P_digest 88 = .ok (.invokestatic 81, 3) := by decide +kernel
theorem d_P_digest_91 : decode b_P_digest 91 = .ok (.aload_n 0, 1) := by decide +kernel
theorem d_P_digest_92 : decode b_P_digest 92 = .ok (.getfield 31, 3) := by decide +kernel
theorem d_P_digest_95 : decode b_P_digest 95 = .ok (.iload_n 2, 1) := by decide +kernel
theorem d_P_digest_96 : decode b_P_digest 96 = .ok (.iaload, 1) := by decide +kernel
theorem d_P_digest_97 : decode b_P_digest 97 = .ok (.invokestatic 81, 3) := by decide +kernel
theorem d_P_digest_100 : decode b_P_digest 100 = .ok (.aload_n 0, 1) := by decide +kernel
theorem d_P_digest_101 : decode b_P_digest 101 = .ok (.getfield 34, 3) := by decide +kernel
theorem d_P_digest_104 : decode b_P_digest 104 = .ok (.iload_n 2, 1) := by decide +kernel
theorem d_P_digest_105 : decode b_P_digest 105 = .ok (.iaload, 1) := by decide +kernel
theorem d_P_digest_106 : decode b_P_digest 106 = .ok (.invokestatic 81, 3) := by decide +kernel
theorem d_P_digest_109 : decode b_P_digest 109 = .ok (.istore_n 1, 1) := by decide +kernel
theorem d_P_digest_110 : decode b_P_digest 110 = .ok (.iinc 2 1, 3) := by decide +kernel
theorem d_P_digest_113 : decode b_P_digest 113 = .ok (.goto (-49), 3) := by decide +kernel
theorem d_P_digest_116 : decode b_P_digest 116 = .ok (.iconst 0, 1) := by decide +kernel
theorem d_P_digest_117 : decode b_P_digest 117 = .ok (.istore_n 2, 1) := by decide +kernel
theorem d_P_digest_118 : decode b_P_digest 118 = .ok (.iload_n 2, 1) := by decide +kernel
theorem d_P_digest_119 : decode b_P_digest 119 = .ok (.aload_n 0, 1) := by decide +kernel
theorem d_P_digest_120 : decode b_P_digest 120 = .ok (.getfield 55, 3) := by decide +kernel
theorem d_P_digest_123 : decode b_P_digest 123 = .ok (.if_icmp .ge 20, 3) := by decide +kernel
theorem d_P_digest_126 : decode b_P_digest 126 = .ok (.iload_n 1, 1) := by decide +kernel
theorem d_P_digest_127 : decode b_P_digest 127 = .ok (.aload_n 0, 1) := by decide +kernel
theorem d_P_digest_128 : decode b_P_digest 128 = .ok (.getfield 37, 3) := by decide +kernel
theorem d_P_digest_131 : decode b_P_digest 131 = .ok (.iload_n 2, 1) := by decide +kernel
theorem d_P_digest_132 : decode b_P_digest 132 = .ok (.iaload, 1) := by decide +kernel
theorem d_P_digest_133 : decode b_P_digest 133 = .ok (.invokestatic 81, 3) := by decide +kernel
theorem d_P_digest_136 : decode b_P_digest 136 = .ok (.istore_n 1, 1) := by decide +kernel
theorem d_P_digest_137 : decode b_P_digest 137 = .ok (.iinc 2 1, 3) := by decide +kernel
theorem d_P_digest_140 : decode b_P_digest 140 = .ok (.goto (-22), 3) := by decide +kernel
theorem d_P_digest_143 : decode b_P_digest 143 = .ok (.iload_n 1, 1) := by decide +kernel
theorem d_P_digest_144 : decode b_P_digest 144 = .ok (.ireturn, 1) := by decide +kernel
theorem d_P_mix_0 : decode b_P_mix 0 = .ok (.iload_n 0, 1) := by decide +kernel
theorem d_P_mix_1 : decode b_P_mix 1 = .ok (.bipush 31, 2) := by decide +kernel
theorem d_P_mix_3 : decode b_P_mix 3 = .ok (.imul, 1) := by decide +kernel
theorem d_P_mix_4 : decode b_P_mix 4 = .ok (.iload_n 1, 1) := by decide +kernel
theorem d_P_mix_5 : decode b_P_mix 5 = .ok (.iadd, 1) := by decide +kernel
theorem d_P_mix_6 : decode b_P_mix 6 = .ok (.istore_n 2, 1) := by decide +kernel
theorem d_P_mix_7 : decode b_P_mix 7 = .ok (.iload_n 2, 1) := by decide +kernel
theorem d_P_mix_8 : decode b_P_mix 8 = .ok (.iload_n 2, 1) := by decide +kernel
theorem d_P_mix_9 : decode b_P_mix 9 = .ok (.bipush 13, 2) := by decide +kernel
theorem d_P_mix_11 : decode b_P_mix 11 = .ok (.iushr, 1) := by decide +kernel
theorem d_P_mix_12 : decode b_P_mix 12 = .ok (.ixor, 1) := by decide +kernel
theorem d_P_mix_13 : decode b_P_mix 13 = .ok (.ireturn, 1) := by decide +kernel
theorem d_V_init_0 : decode b_V_init 0 = .ok (.aload_n 0, 1) := by decide +kernel
theorem d_V_init_1 : decode b_V_init 1 = .ok (.invokespecial 3, 3) := by decide +kernel
theorem d_V_init_4 : decode b_V_init 4 = .ok (.aload_n 0, 1) := by decide +kernel
theorem d_V_init_5 : decode b_V_init 5 = .ok (.bipush 24, 2) := by decide +kernel
theorem d_V_init_7 : decode b_V_init 7 = .ok (.newarray .int, 2) := by decide +kernel
theorem d_V_init_9 : decode b_V_init 9 = .ok (.putfield 9, 3) := by decide +kernel
theorem d_V_init_12 : decode b_V_init 12 = .ok (.aload_n 0, 1) := by decide +kernel
theorem d_V_init_13 : decode b_V_init 13 = .ok (.bipush 24, 2) := by decide +kernel
theorem d_V_init_15 : decode b_V_init 15 = .ok (.newarray .int, 2) := by decide +kernel
theorem d_V_init_17 : decode b_V_init 17 = .ok (.putfield 15, 3) := by decide +kernel
theorem d_V_init_20 : decode b_V_init 20 = .ok (.return_, 1) := by decide +kernel
theorem d_V_isGood_0 : decode b_V_isGood 0 = .ok (.aload_n 0, 1) := by decide +kernel
theorem d_V_isGood_1 : decode b_V_isGood 1 = .ok (.getfield 9, 3) := by decide +kernel
theorem d_V_isGood_4 : decode b_V_isGood 4 = .ok (.iconst (-1), 1) := by decide +kernel
theorem d_V_isGood_5 : decode b_V_isGood 5 = .ok (.invokestatic 18, 3) := by decide +kernel
theorem d_V_isGood_8 : decode b_V_isGood 8 = .ok (.aload_n 0, 1) := by decide +kernel
theorem d_V_isGood_9 : decode b_V_isGood 9 = .ok (.iconst 0, 1) := by decide +kernel
theorem d_V_isGood_10 : decode b_V_isGood 10 = .ok (.putfield 24, 3) := by decide +kernel
theorem d_V_isGood_13 : decode b_V_isGood 13 = .ok (.iconst 0, 1) := by decide +kernel
theorem d_V_isGood_14 : decode b_V_isGood 14 = .ok (.istore_n 2, 1) := by decide +kernel
theorem d_V_isGood_15 : decode b_V_isGood 15 = .ok (.iload_n 2, 1) := by decide +kernel
theorem d_V_isGood_16 : decode b_V_isGood 16 = .ok (.aload_n 1, 1) := by decide +kernel
theorem d_V_isGood_17 : decode b_V_isGood 17 = .ok (.getfield 28, 3) := by decide +kernel
theorem d_V_isGood_20 : decode b_V_isGood 20 = .ok (.if_icmp .ge 26, 3) := by decide +kernel
theorem d_V_isGood_23 : decode b_V_isGood 23 = .ok (.aload_n 0, 1) := by decide +kernel
theorem d_V_isGood_24 : decode b_V_isGood 24 = .ok (.aload_n 1, 1) := by decide +kernel
theorem d_V_isGood_25 : decode b_V_isGood 25 = .ok (.aload_n 1, 1) := by decide +kernel
theorem d_V_isGood_26 : decode b_V_isGood 26 = .ok (.getfield 33, 3) := by decide +kernel
theorem d_V_isGood_29 : decode b_V_isGood 29 = .ok (.iload_n 2, 1) := by decide +kernel
theorem d_V_isGood_30 : decode b_V_isGood 30 = .ok (.iaload, 1) := by decide +kernel
theorem d_V_isGood_31 : decode b_V_isGood 31 = .ok (.iconst 0, 1) := by decide +kernel
theorem d_V_isGood_32 : decode b_V_isGood 32 = .ok (.invokevirtual 36, 3) := by decide +kernel
theorem d_V_isGood_35 : decode b_V_isGood 35 = .ok (.ifCond .ne 5, 3) := by decide +kernel
theorem d_V_isGood_38 : decode b_V_isGood 38 = .ok (.iconst 0, 1) := by decide +kernel
theorem d_V_isGood_39 : decode b_V_isGood 39 = .ok (.ireturn, 1) := by decide +kernel
theorem d_V_isGood_40 : decode b_V_isGood 40 = .ok (.iinc 2 1, 3) := by decide +kernel
theorem d_V_isGood_43 : decode b_V_isGood 43 = .ok (.goto (-28), 3) := by decide +kernel
theorem d_V_isGood_46 : decode b_V_isGood 46 = .ok (.iconst 0, 1) := by decide +kernel
theorem d_V_isGood_47 : decode b_V_isGood 47 = .ok (.istore_n 2, 1) := by decide +kernel
theorem d_V_isGood_48 : decode b_V_isGood 48 = .ok (.iload_n 2, 1) := by decide +kernel
theorem d_V_isGood_49 : decode b_V_isGood 49 = .ok (.aload_n 0, 1) := by decide +kernel
theorem d_V_isGood_50 : decode b_V_isGood 50 = .ok (.getfield 24, 3) := by decide +kernel
theorem d_V_isGood_53 : decode b_V_isGood 53 = .ok (.if_icmp .ge 31, 3) := by decide +kernel
theorem d_V_isGood_56 : decode b_V_isGood 56 = .ok (.iload_n 2, 1) := by decide +kernel
theorem d_V_isGood_57 : decode b_V_isGood 57 = .ok (.bipush 24, 2) := by decide +kernel
theorem d_V_isGood_59 : decode b_V_isGood 59 = .ok (.if_icmp .ge 25, 3) := by decide +kernel
theorem d_V_isGood_62 : decode b_V_isGood 62 = .ok (.aload_n 0, 1) := by decide +kernel
theorem d_V_isGood_63 : decode b_V_isGood 63 = .ok (.aload_n 1, 1) := by decide +kernel
theorem d_V_isGood_64 : decode b_V_isGood 64 = .ok (.aload_n 0, 1) := by decide +kernel
theorem d_V_isGood_65 : decode b_V_isGood 65 = .ok (.getfield 15, 3) := by decide +kernel
theorem d_V_isGood_68 : decode b_V_isGood 68 = .ok (.iload_n 2, 1) := by decide +kernel
theorem d_V_isGood_69 : decode b_V_isGood 69 = .ok (.iaload, 1) := by decide +kernel
theorem d_V_isGood_70 : decode b_V_isGood 70 = .ok (.invokevirtual 40, 3) := by decide +kernel
theorem d_V_isGood_73 : decode b_V_isGood 73 = .ok (.ifCond .ne 5, 3) := by decide +kernel
theorem d_V_isGood_76 : decode b_V_isGood 76 = .ok (.iconst 0, 1) := by decide +kernel
theorem d_V_isGood_77 : decode b_V_isGood 77 = .ok (.ireturn, 1) := by decide +kernel
theorem d_V_isGood_78 : decode b_V_isGood 78 = .ok (.iinc 2 1, 3) := by decide +kernel
theorem d_V_isGood_81 : decode b_V_isGood 81 = .ok (.goto (-33), 3) := by decide +kernel
theorem d_V_isGood_84 : decode b_V_isGood 84 = .ok (.iconst 1, 1) := by decide +kernel
theorem d_V_isGood_85 : decode b_V_isGood 85 = .ok (.ireturn, 1) := by decide +kernel
theorem d_V_reach_0 : decode b_V_reach 0 = .ok (.iload_n 2, 1) := by decide +kernel
theorem d_V_reach_1 : decode b_V_reach 1 = .ok (.aload_n 1, 1) := by decide +kernel
theorem d_V_reach_2 : decode b_V_reach 2 = .ok (.getfield 44, 3) := by decide +kernel
theorem d_V_reach_5 : decode b_V_reach 5 = .ok (.invokestatic 47, 3) := by decide +kernel
theorem d_V_reach_8 : decode b_V_reach 8 = .ok (.ifCond .ne 5, 3) := by decide +kernel
theorem d_V_reach_11 : decode b_V_reach 11 = .ok (.iconst 0, 1) := by decide +kernel
theorem d_V_reach_12 : decode b_V_reach 12 = .ok (.ireturn, 1) := by decide +kernel
theorem d_V_reach_13 : decode b_V_reach 13 = .ok (.aload_n 0, 1) := by decide +kernel
theorem d_V_reach_14 : decode b_V_reach 14 = .ok (.getfield 9, 3) := by decide +kernel
theorem d_V_reach_17 : decode b_V_reach 17 = .ok (.iload_n 2, 1) := by decide +kernel
theorem d_V_reach_18 : decode b_V_reach 18 = .ok (.iaload, 1) := by decide +kernel
theorem d_V_reach_19 : decode b_V_reach 19 = .ok (.iconst (-1), 1) := by decide +kernel
theorem d_V_reach_20 : decode b_V_reach 20 = .ok (.if_icmp .ne 39, 3) := by decide +kernel
theorem d_V_reach_23 : decode b_V_reach 23 = .ok (.aload_n 0, 1) := by decide +kernel
theorem d_V_reach_24 : decode b_V_reach 24 = .ok (.getfield 24, 3) := by decide +kernel
theorem d_V_reach_27 : decode b_V_reach 27 = .ok (.bipush 24, 2) := by decide +kernel
theorem d_V_reach_29 : decode b_V_reach 29 = .ok (.if_icmp .ge 30, 3) := by decide +kernel
theorem d_V_reach_32 : decode b_V_reach 32 = .ok (.aload_n 0, 1) := by decide +kernel
theorem d_V_reach_33 : decode b_V_reach 33 = .ok (.getfield 9, 3) := by decide +kernel
theorem d_V_reach_36 : decode b_V_reach 36 = .ok (.iload_n 2, 1) := by decide +kernel
theorem d_V_reach_37 : decode b_V_reach 37 = .ok (.iload_n 3, 1) := by decide +kernel
theorem d_V_reach_38 : decode b_V_reach 38 = .ok (.iastore, 1) := by decide +kernel
theorem d_V_reach_39 : decode b_V_reach 39 = .ok (.aload_n 0, 1) := by decide +kernel
theorem d_V_reach_40 : decode b_V_reach 40 = .ok (.getfield 15, 3) := by decide +kernel
theorem d_V_reach_43 : decode b_V_reach 43 = .ok (.aload_n 0, 1) := by decide +kernel
theorem d_V_reach_44 : decode b_V_reach 44 = .ok (.getfield 24, 3) := by decide +kernel
theorem d_V_reach_47 : decode b_V_reach 47 = .ok (.iload_n 2, 1) := by decide +kernel
theorem d_V_reach_48 : decode b_V_reach 48 = .ok (.iastore, 1) := by decide +kernel
theorem d_V_reach_49 : decode b_V_reach 49 = .ok (.aload_n 0, 1) := by decide +kernel
theorem d_V_reach_50 : decode b_V_reach 50 = .ok (.dup, 1) := by decide +kernel
theorem d_V_reach_51 : decode b_V_reach 51 = .ok (.getfield 24, 3) := by decide +kernel
theorem d_V_reach_54 : decode b_V_reach 54 = .ok (.iconst 1, 1) := by decide +kernel
theorem d_V_reach_55 : decode b_V_reach 55 = .ok (.iadd, 1) := by decide +kernel
theorem d_V_reach_56 : decode b_V_reach 56 = .ok (.putfield 24, 3) := by decide +kernel
theorem d_V_reach_59 : decode b_V_reach 59 = .ok (.aload_n 0, 1) := by decide +kernel
theorem d_V_reach_60 : decode b_V_reach 60 = .ok (.getfield 9, 3) := by decide +kernel
theorem d_V_reach_63 : decode b_V_reach 63 = .ok (.iload_n 2, 1) := by decide +kernel
theorem d_V_reach_64 : decode b_V_reach 64 = .ok (.iaload, 1) := by decide +kernel
theorem d_V_reach_65 : decode b_V_reach 65 = .ok (.iload_n 3, 1) := by decide +kernel
theorem d_V_reach_66 : decode b_V_reach 66 = .ok (.if_icmp .ne 7, 3) := by decide +kernel
theorem d_V_reach_69 : decode b_V_reach 69 = .ok (.iconst 1, 1) := by decide +kernel
theorem d_V_reach_70 : decode b_V_reach 70 = .ok (.goto 4, 3) := by decide +kernel
theorem d_V_reach_73 : decode b_V_reach 73 = .ok (.iconst 0, 1) := by decide +kernel
theorem d_V_reach_74 : decode b_V_reach 74 = .ok (.ireturn, 1) := by decide +kernel
theorem d_V_goesOnWell_0 : decode b_V_goesOnWell 0 = .ok (.aload_n 1, 1) := by decide +kernel
theorem d_V_goesOnWell_1 : decode b_V_goesOnWell 1 = .ok (.getfield 51, 3) := by decide +kernel
theorem d_V_goesOnWell_4 : decode b_V_goesOnWell 4 = .ok (.iload_n 2, 1) := by decide +kernel
theorem d_V_goesOnWell_5 : decode b_V_goesOnWell 5 = .ok (.iaload, 1) := by decide +kernel
theorem d_V_goesOnWell_6 : decode b_V_goesOnWell 6 = .ok (.invokestatic 54, 3) := by decide +kernel
theorem d_V_goesOnWell_9 : decode b_V_goesOnWell 9 = .ok (.istore_n 3, 1) := by decide +kernel
theorem d_V_goesOnWell_10 : decode b_V_goesOnWell 10 = .ok (.aload_n 1, 1) := by decide +kernel
theorem d_V_goesOnWell_11 : decode b_V_goesOnWell 11 = .ok (.getfield 51, 3) := by decide +kernel
theorem d_V_goesOnWell_14 : decode b_V_goesOnWell 14 = .ok (.iload_n 2, 1) := by decide +kernel
theorem d_V_goesOnWell_15 : decode b_V_goesOnWell 15 = .ok (.iaload, 1) := by decide +kernel
theorem d_V_goesOnWell_16 : decode b_V_goesOnWell 16 = .ok (.invokestatic 58, 3) := by decide +kernel
theorem d_V_goesOnWell_19 : decode b_V_goesOnWell 19 = .ok (.istore 4, 2) := by decide +kernel
theorem d_V_goesOnWell_21 : decode b_V_goesOnWell 21 = .ok (.iload_n 3, 1) := by decide +kernel
theorem d_V_goesOnWell_22 : decode b_V_goesOnWell 22 = .ok (.bipush 14, 2) := by decide +kernel
theorem d_V_goesOnWell_24 : decode b_V_goesOnWell 24 = .ok (.if_icmp .ge 26, 3) := by decide +kernel
theorem d_V_goesOnWell_27 : decode b_V_goesOnWell 27 = .ok (.iload_n 3, 1) := by decide +kernel
theorem d_V_goesOnWell_28 : decode b_V_goesOnWell 28 = .ok (.iload 4, 2) := by decide +kernel
theorem d_V_goesOnWell_30 : decode b_V_goesOnWell 30 = .ok (.invokestatic 61, 3) := by decide +kernel
theorem d_V_goesOnWell_33 : decode b_V_goesOnWell 33 = .ok (.ifCond .eq 17, 3) := by decide +kernel
theorem d_V_goesOnWell_36 : decode b_V_goesOnWell 36 = .ok (.aload_n 0, 1) := by decide +kernel
theorem d_V_goesOnWell_37 : decode b_V_goesOnWell 37 = .ok (.getfield 9, 3) := by decide +kernel
theorem d_V_goesOnWell_40 : decode b_V_goesOnWell 40 = .ok (.iload_n 2, 1) := by decide +kernel
theorem d_V_goesOnWell_41 : decode b_V_goesOnWell 41 = .ok (.iaload, 1) := by decide +kernel
theorem d_V_goesOnWell_42 : decode b_V_goesOnWell 42 = .ok (.getstatic 64, 3) := by decide +kernel
theorem d_V_goesOnWell_45 : decode b_V_goesOnWell 45 = .ok (.iload_n 3, 1) := by decide +kernel
theorem d_V_goesOnWell_46 : decode b_V_goesOnWell 46 = .ok (.iaload, 1) := by decide +kernel
theorem d_V_goesOnWell_47 : decode b_V_goesOnWell 47 = .ok (.if_icmp .ge 5, 3) := by decide +kernel
theorem d_V_goesOnWell_50 : decode b_V_goesOnWell 50 = .ok (.iconst 0, 1) := by decide +kernel
theorem d_V_goesOnWell_51 : decode b_V_goesOnWell 51 = .ok (.ireturn, 1) := by decide +kernel
theorem d_V_goesOnWell_52 : decode b_V_goesOnWell 52 = .ok (.aload_n 0, 1) := by decide +kernel
theorem d_V_goesOnWell_53 : decode b_V_goesOnWell 53 = .ok (.getfield 9, 3) := by decide +kernel
theorem d_V_goesOnWell_56 : decode b_V_goesOnWell 56 = .ok (.iload_n 2, 1) := by decide +kernel
theorem d_V_goesOnWell_57 : decode b_V_goesOnWell 57 = .ok (.iaload, 1) := by decide +kernel
theorem d_V_goesOnWell_58 : decode b_V_goesOnWell 58 = .ok (.getstatic 64, 3) := by decide +kernel
theorem d_V_goesOnWell_61 : decode b_V_goesOnWell 61 = .ok (.iload_n 3, 1) := by decide +kernel
theorem d_V_goesOnWell_62 : decode b_V_goesOnWell 62 = .ok (.iaload, 1) := by decide +kernel
theorem d_V_goesOnWell_63 : decode b_V_goesOnWell 63 = .ok (.isub, 1) := by decide +kernel
theorem d_V_goesOnWell_64 : decode b_V_goesOnWell 64 = .ok (.getstatic 67, 3) := by decide +kernel
theorem d_V_goesOnWell_67 : decode b_V_goesOnWell 67 = .ok (.iload_n 3, 1) := by decide +kernel
theorem d_V_goesOnWell_68 : decode b_V_goesOnWell 68 = .ok (.iaload, 1) := by decide +kernel
theorem d_V_goesOnWell_69 : decode b_V_goesOnWell 69 = .ok (.iadd, 1) := by decide +kernel
theorem d_V_goesOnWell_70 : decode b_V_goesOnWell 70 = .ok (.istore 5, 2) := by decide +kernel
theorem d_V_goesOnWell_72 : decode b_V_goesOnWell 72 = .ok (.iload 5, 2) := by decide +kernel
theorem d_V_goesOnWell_74 : decode b_V_goesOnWell 74 = .ok (.bipush 6, 2) := by decide +kernel
theorem d_V_goesOnWell_76 : decode b_V_goesOnWell 76 = .ok (.if_icmp .le 5, 3) := by decide +kernel
theorem d_V_goesOnWell_79 : decode b_V_goesOnWell 79 = .ok (.iconst 0, 1) := by decide +kernel
theorem d_V_goesOnWell_80 : decode b_V_goesOnWell 80 = .ok (.ireturn, 1) := by decide +kernel
theorem d_V_goesOnWell_81 : decode b_V_goesOnWell 81 = .ok (.iload_n 3, 1) := by decide +kernel
theorem d_V_goesOnWell_82 : decode b_V_goesOnWell 82 = .ok (.bipush 8, 2) := by decide +kernel
theorem d_V_goesOnWell_84 : decode b_V_goesOnWell 84 = .ok (.if_icmp .eq 9, 3) := by decide +kernel
theorem d_V_goesOnWell_87 : decode b_V_goesOnWell 87 = .ok (.iload_n 3, 1) := by decide +kernel
theorem d_V_goesOnWell_88 : decode b_V_goesOnWell 88 = .ok (.bipush 9, 2) := by decide +kernel
theorem d_V_goesOnWell_90 : decode b_V_goesOnWell 90 = .ok (.if_icmp .ne 7, 3) := by decide +kernel
theorem d_V_goesOnWell_93 : decode b_V_goesOnWell 93 = .ok (.iconst 1, 1) := by decide +kernel
theorem d_V_goesOnWell_94 : decode b_V_goesOnWell 94 = .ok (.goto 4, 3) := by decide +kernel
theorem d_V_goesOnWell_97 : decode b_V_goesOnWell 97 = .ok (.iconst 0, 1) := by decide +kernel
theorem d_V_goesOnWell_98 : decode b_V_goesOnWell 98 = .ok (.istore 6, 2) := by decide +kernel
theorem d_V_goesOnWell_100 : decode b_V_goesOnWell 100 = .ok (.iload_n 3, 1) := by decide +kernel
theorem d_V_goesOnWell_101 : decode b_V_goesOnWell 101 = .ok (.ifCond .eq 13, 3) := by decide +kernel
theorem d_V_goesOnWell_104 : decode b_V_goesOnWell 104 = .ok (.iload_n 3, 1) := by decide +kernel
theorem d_V_goesOnWell_105 : decode b_V_goesOnWell 105 = .ok (.bipush 8, 2) := by decide +kernel
theorem d_V_goesOnWell_107 : decode b_V_goesOnWell 107 = .ok (.if_icmp .eq 7, 3) := by decide +kernel
theorem d_V_goesOnWell_110 : decode b_V_goesOnWell 110 = .ok (.iconst 1, 1) := by decide +kernel
theorem d_V_goesOnWell_111 : decode b_V_goesOnWell 111 = .ok (.goto 4, 3) := by decide +kernel
theorem d_V_goesOnWell_114 : decode b_V_goesOnWell 114 = .ok (.iconst 0, 1) := by decide +kernel
theorem d_V_goesOnWell_115 : decode b_V_goesOnWell 115 = .ok (.istore 7, 2) := by decide +kernel
theorem d_V_goesOnWell_117 : decode b_V_goesOnWell 117 = .ok (.iload 6, 2) := by decide +kernel
theorem d_V_goesOnWell_119 : decode b_V_goesOnWell 119 = .ok (.ifCond .eq 17, 3) := by decide +kernel
theorem d_V_goesOnWell_122 : decode b_V_goesOnWell 122 = .ok (.aload_n 0, 1) := by decide +kernel
theorem d_V_goesOnWell_123 : decode b_V_goesOnWell 123 = .ok (.aload_n 1, 1) := by decide +kernel
theorem d_V_goesOnWell_124 : decode b_V_goesOnWell 124 = .ok (.iload_n 2, 1) := by decide +kernel
theorem d_V_goesOnWell_125 : decode b_V_goesOnWell 125 = .ok (.iload 4, 2) := by decide +kernel
theorem d_V_goesOnWell_127 : decode b_V_goesOnWell 127 = .ok (.iadd, 1) := by decide +kernel
theorem d_V_goesOnWell_128 : decode b_V_goesOnWell 128 = .ok (.iload 5, 2) := by decide +kernel
theorem d_V_goesOnWell_130 : decode b_V_goesOnWell 130 = .ok (.invokevirtual 36, 3) := by decide +kernel
theorem d_V_goesOnWell_133 : decode b_V_goesOnWell 133 = .ok (.ifCond .eq 25, 3) := by decide +kernel
theorem d_V_goesOnWell_136 : decode b_V_goesOnWell 136 = .ok (.iload 7, 2) := by decide +kernel
theorem d_V_goesOnWell_138 : decode b_V_goesOnWell 138 = .ok (.ifCond .eq 16, 3) := by decide +kernel
theorem d_V_goesOnWell_141 : decode b_V_goesOnWell 141 = .ok (.aload_n 0, 1) := by decide +kernel
theorem d_V_goesOnWell_142 : decode b_V_goesOnWell 142 = .ok (.aload_n 1, 1) := by decide +kernel
theorem d_V_goesOnWell_143 : decode b_V_goesOnWell 143 = .ok (.iload_n 2, 1) := by decide +kernel
theorem d_V_goesOnWell_144 : decode b_V_goesOnWell 144 = .ok (.iconst 1, 1) := by decide +kernel
theorem d_V_goesOnWell_145 : decode b_V_goesOnWell 145 = .ok (.iadd, 1) := by decide +kernel
theorem d_V_goesOnWell_146 : decode b_V_goesOnWell 146 = .ok (.iload 5, 2) := by decide +kernel
theorem d_V_goesOnWell_148 : decode b_V_goesOnWell 148 = .ok (.invokevirtual 36, 3) := by decide +kernel
theorem d_V_goesOnWell_151 : decode b_V_goesOnWell 151 = .ok (.ifCond .eq 7, 3) := by decide +kernel
theorem d_V_goesOnWell_154 : decode b_V_goesOnWell 154 = .ok (.iconst 1, 1) := by decide +kernel
theorem d_V_goesOnWell_155 : decode b_V_goesOnWell 155 = .ok (.goto 4, 3) := by decide +kernel
theorem d_V_goesOnWell_158 : decode b_V_goesOnWell 158 = .ok (.iconst 0, 1) := by decide +kernel
theorem d_V_goesOnWell_159 : decode b_V_goesOnWell 159 = .ok (.ireturn, 1) := by decide +kernel
theorem d_V_hasGoodArgument_0 : decode b_V_hasGoodArgument 0 = .ok (.iload_n 0, 1) := by decide +kernel
theorem d_V_hasGoodArgument_1 : decode b_V_hasGoodArgument 1 = .ok (.bipush 6, 2) := by decide +kernel
theorem d_V_hasGoodArgument_3 : decode b_V_hasGoodArgument 3 = .ok (.if_icmp .eq 9, 3) := by decide +kernel
theorem d_V_hasGoodArgument_6 : decode b_V_hasGoodArgument 6 = .ok (.iload_n 0, 1) := by decide +kernel
theorem d_V_hasGoodArgument_7 : decode b_V_hasGoodArgument 7 = .ok (.bipush 7, 2) := by decide +kernel
theorem d_V_hasGoodArgument_9 : decode b_V_hasGoodArgument 9 = .ok (.if_icmp .ne 9, 3) := by decide +kernel
theorem d_V_hasGoodArgument_12 : decode b_V_hasGoodArgument 12 = .ok (.iload_n 1, 1) := by decide +kernel
theorem d_V_hasGoodArgument_13 : decode b_V_hasGoodArgument 13 = .ok (.iconst 4, 1) := by decide +kernel
theorem d_V_hasGoodArgument_14 : decode b_V_hasGoodArgument 14 = .ok (.invokestatic 47, 3) := by decide +kernel
theorem d_V_hasGoodArgument_17 : decode b_V_hasGoodArgument 17 = .ok (.ireturn, 1) := by decide +kernel
theorem d_V_hasGoodArgument_18 : decode b_V_hasGoodArgument 18 = .ok (.iload_n 0, 1) := by decide +kernel
theorem d_V_hasGoodArgument_19 : decode b_V_hasGoodArgument 19 = .ok (.bipush 13, 2) := by decide +kernel
theorem d_V_hasGoodArgument_21 : decode b_V_hasGoodArgument 21 = .ok (.if_icmp .ne 12, 3) := by decide +kernel
theorem d_V_hasGoodArgument_24 : decode b_V_hasGoodArgument 24 = .ok (.iload_n 1, 1) := by decide +kernel
theorem d_V_hasGoodArgument_25 : decode b_V_hasGoodArgument 25 = .ok (.bipush 8, 2) := by decide +kernel
theorem d_V_hasGoodArgument_27 : decode b_V_hasGoodArgument 27 = .ok (.invokestatic 47, 3) := by decide +kernel
theorem d_V_hasGoodArgument_30 : decode b_V_hasGoodArgument 30 = .ok (.ifCond .eq 7, 3) := by decide +kernel
theorem d_V_hasGoodArgument_33 : decode b_V_hasGoodArgument 33 = .ok (.iconst 1, 1) := by decide +kernel
theorem d_V_hasGoodArgument_34 : decode b_V_hasGoodArgument 34 = .ok (.goto 4, 3) := by decide +kernel
theorem d_V_hasGoodArgument_37 : decode b_V_hasGoodArgument 37 = .ok (.iconst 0, 1) := by decide +kernel
theorem d_V_hasGoodArgument_38 : decode b_V_hasGoodArgument 38 = .ok (.ireturn, 1) := by decide +kernel
theorem d_J_bitCount_0 : decode b_J_bitCount 0 = .ok (.iload_n 0, 1) := by decide +kernel
theorem d_J_bitCount_1 : decode b_J_bitCount 1 = .ok (.iload_n 0, 1) := by decide +kernel
theorem d_J_bitCount_2 : decode b_J_bitCount 2 = .ok (.iconst 1, 1) := by decide +kernel
theorem d_J_bitCount_3 : decode b_J_bitCount 3 = .ok (.iushr, 1) := by decide +kernel
theorem d_J_bitCount_4 : decode b_J_bitCount 4 = .ok (.ldc_w 265, 3) := by decide +kernel
theorem d_J_bitCount_7 : decode b_J_bitCount 7 = .ok (.iand, 1) := by decide +kernel
theorem d_J_bitCount_8 : decode b_J_bitCount 8 = .ok (.isub, 1) := by decide +kernel
theorem d_J_bitCount_9 : decode b_J_bitCount 9 = .ok (.istore_n 0, 1) := by decide +kernel
theorem d_J_bitCount_10 : decode b_J_bitCount 10 = .ok (.iload_n 0, 1) := by decide +kernel
theorem d_J_bitCount_11 : decode b_J_bitCount 11 = .ok (.ldc_w 266, 3) := by decide +kernel
theorem d_J_bitCount_14 : decode b_J_bitCount 14 = .ok (.iand, 1) := by decide +kernel
theorem d_J_bitCount_15 : decode b_J_bitCount 15 = .ok (.iload_n 0, 1) := by decide +kernel
theorem d_J_bitCount_16 : decode b_J_bitCount 16 = .ok (.iconst 2, 1) := by decide +kernel
theorem d_J_bitCount_17 : decode b_J_bitCount 17 = .ok (.iushr, 1) := by decide +kernel
theorem d_J_bitCount_18 : decode b_J_bitCount 18 = .ok (.ldc_w 266, 3) := by decide +kernel
theorem d_J_bitCount_21 : decode b_J_bitCount 21 = .ok (.iand, 1) := by decide +kernel
theorem d_J_bitCount_22 : decode b_J_bitCount 22 = .ok (.iadd, 1) := by decide +kernel
theorem d_J_bitCount_23 : decode b_J_bitCount 23 = .ok (.istore_n 0, 1) := by decide +kernel
theorem d_J_bitCount_24 : decode b_J_bitCount 24 = .ok (.iload_n 0, 1) := by decide +kernel
theorem d_J_bitCount_25 : decode b_J_bitCount 25 = .ok (.iload_n 0, 1) := by decide +kernel
theorem d_J_bitCount_26 : decode b_J_bitCount 26 = .ok (.iconst 4, 1) := by decide +kernel
theorem d_J_bitCount_27 : decode b_J_bitCount 27 = .ok (.iushr, 1) := by decide +kernel
theorem d_J_bitCount_28 : decode b_J_bitCount 28 = .ok (.iadd, 1) := by decide +kernel
theorem d_J_bitCount_29 : decode b_J_bitCount 29 = .ok (.ldc_w 267, 3) := by decide +kernel
theorem d_J_bitCount_32 : decode b_J_bitCount 32 = .ok (.iand, 1) := by decide +kernel
theorem d_J_bitCount_33 : decode b_J_bitCount 33 = .ok (.istore_n 0, 1) := by decide +kernel
theorem d_J_bitCount_34 : decode b_J_bitCount 34 = .ok (.iload_n 0, 1) := by decide +kernel
theorem d_J_bitCount_35 : decode b_J_bitCount 35 = .ok (.iload_n 0, 1) := by decide +kernel
theorem d_J_bitCount_36 : decode b_J_bitCount 36 = .ok (.bipush 8, 2) := by decide +kernel
theorem d_J_bitCount_38 : decode b_J_bitCount 38 = .ok (.iushr, 1) := by decide +kernel
theorem d_J_bitCount_39 : decode b_J_bitCount 39 = .ok (.iadd, 1) := by decide +kernel
theorem d_J_bitCount_40 : decode b_J_bitCount 40 = .ok (.istore_n 0, 1) := by decide +kernel
theorem d_J_bitCount_41 : decode b_J_bitCount 41 = .ok (.iload_n 0, 1) := by decide +kernel
theorem d_J_bitCount_42 : decode b_J_bitCount 42 = .ok (.iload_n 0, 1) := by decide +kernel
theorem d_J_bitCount_43 : decode b_J_bitCount 43 = .ok (.bipush 16, 2) := by decide +kernel
theorem d_J_bitCount_45 : decode b_J_bitCount 45 = .ok (.iushr, 1) := by decide +kernel
theorem d_J_bitCount_46 : decode b_J_bitCount 46 = .ok (.iadd, 1) := by decide +kernel
theorem d_J_bitCount_47 : decode b_J_bitCount 47 = .ok (.istore_n 0, 1) := by decide +kernel
theorem d_J_bitCount_48 : decode b_J_bitCount 48 = .ok (.iload_n 0, 1) := by decide +kernel
theorem d_J_bitCount_49 : decode b_J_bitCount 49 = .ok (.bipush 63, 2) := by decide +kernel
theorem d_J_bitCount_51 : decode b_J_bitCount 51 = .ok (.iand, 1) := by decide +kernel
theorem d_J_bitCount_52 : decode b_J_bitCount 52 = .ok (.ireturn, 1) := by decide +kernel
theorem d_J_fill_0 : decode b_J_fill 0 = .ok (.iconst 0, 1) := by decide +kernel
theorem d_J_fill_1 : decode b_J_fill 1 = .ok (.istore_n 2, 1) := by decide +kernel
theorem d_J_fill_2 : decode b_J_fill 2 = .ok (.aload_n 0, 1) := by decide +kernel
theorem d_J_fill_3 : decode b_J_fill 3 = .ok (.arraylength, 1) := by decide +kernel
theorem d_J_fill_4 : decode b_J_fill 4 = .ok (.istore_n 3, 1) := by decide +kernel
theorem d_J_fill_5 : decode b_J_fill 5 = .ok (.iload_n 2, 1) := by decide +kernel
theorem d_J_fill_6 : decode b_J_fill 6 = .ok (.iload_n 3, 1) := by decide +kernel
theorem d_J_fill_7 : decode b_J_fill 7 = .ok (.if_icmp .ge 13, 3) := by decide +kernel
theorem d_J_fill_10 : decode b_J_fill 10 = .ok (.aload_n 0, 1) := by decide +kernel
theorem d_J_fill_11 : decode b_J_fill 11 = .ok (.iload_n 2, 1) := by decide +kernel
theorem d_J_fill_12 : decode b_J_fill 12 = .ok (.iload_n 1, 1) := by decide +kernel
theorem d_J_fill_13 : decode b_J_fill 13 = .ok (.iastore, 1) := by decide +kernel
theorem d_J_fill_14 : decode b_J_fill 14 = .ok (.iinc 2 1, 3) := by decide +kernel
theorem d_J_fill_17 : decode b_J_fill 17 = .ok (.goto (-12), 3) := by decide +kernel
theorem d_J_fill_20 : decode b_J_fill 20 = .ok (.return_, 1) := by decide +kernel
end
section
theorem d_M_init_0 : decode b_M_init 0 = .ok (.aload_n 0, 1) := by decide +kernel
theorem d_M_init_1 : decode b_M_init 1 = .ok (.invokespecial 1, 3) := by decide +kernel
theorem d_M_init_4 : decode b_M_init 4 = .ok (.aload_n 0, 1) := by decide +kernel
theorem d_M_init_5 : decode b_M_init 5 = .ok (.bipush 9, 2) := by decide +kernel
theorem d_M_init_7 : decode b_M_init 7 = .ok (.newarray .boolean, 2) := by decide +kernel
theorem d_M_init_9 : decode b_M_init 9 = .ok (.putfield 7, 3) := by decide +kernel
theorem d_M_init_12 : decode b_M_init 12 = .ok (.aload_n 0, 1) := by decide +kernel
theorem d_M_init_13 : decode b_M_init 13 = .ok (.bipush 9, 2) := by decide +kernel
theorem d_M_init_15 : decode b_M_init 15 = .ok (.newarray .int, 2) := by decide +kernel
theorem d_M_init_17 : decode b_M_init 17 = .ok (.putfield 13, 3) := by decide +kernel
theorem d_M_init_20 : decode b_M_init 20 = .ok (.aload_n 0, 1) := by decide +kernel
theorem d_M_init_21 : decode b_M_init 21 = .ok (.bipush 9, 2) := by decide +kernel
theorem d_M_init_23 : decode b_M_init 23 = .ok (.newarray .int, 2) := by decide +kernel
theorem d_M_init_25 : decode b_M_init 25 = .ok (.putfield 17, 3) := by decide +kernel
theorem d_M_init_28 : decode b_M_init 28 = .ok (.aload_n 0, 1) := by decide +kernel
theorem d_M_init_29 : decode b_M_init 29 = .ok (.bipush 9, 2) := by decide +kernel
theorem d_M_init_31 : decode b_M_init 31 = .ok (.newarray .int, 2) := by decide +kernel
theorem d_M_init_33 : decode b_M_init 33 = .ok (.putfield 20, 3) := by decide +kernel
theorem d_M_init_36 : decode b_M_init 36 = .ok (.aload_n 0, 1) := by decide +kernel
theorem d_M_init_37 : decode b_M_init 37 = .ok (.bipush 9, 2) := by decide +kernel
theorem d_M_init_39 : decode b_M_init 39 = .ok (.newarray .int, 2) := by decide +kernel
theorem d_M_init_41 : decode b_M_init 41 = .ok (.putfield 23, 3) := by decide +kernel
theorem d_M_init_44 : decode b_M_init 44 = .ok (.aload_n 0, 1) := by decide +kernel
theorem d_M_init_45 : decode b_M_init 45 = .ok (.bipush 72, 2) := by decide +kernel
theorem d_M_init_47 : decode b_M_init 47 = .ok (.newarray .int, 2) := by decide +kernel
theorem d_M_init_49 : decode b_M_init 49 = .ok (.putfield 26, 3) := by decide +kernel
theorem d_M_init_52 : decode b_M_init 52 = .ok (.aload_n 0, 1) := by decide +kernel
theorem d_M_init_53 : decode b_M_init 53 = .ok (.bipush 9, 2) := by decide +kernel
theorem d_M_init_55 : decode b_M_init 55 = .ok (.newarray .int, 2) := by decide +kernel
theorem d_M_init_57 : decode b_M_init 57 = .ok (.putfield 29, 3) := by decide +kernel
theorem d_M_init_60 : decode b_M_init 60 = .ok (.aload_n 0, 1) := by decide +kernel
theorem d_M_init_61 : decode b_M_init 61 = .ok (.bipush 36, 2) := by decide +kernel
theorem d_M_init_63 : decode b_M_init 63 = .ok (.newarray .int, 2) := by decide +kernel
theorem d_M_init_65 : decode b_M_init 65 = .ok (.putfield 32, 3) := by decide +kernel
theorem d_M_init_68 : decode b_M_init 68 = .ok (.aload_n 0, 1) := by decide +kernel
theorem d_M_init_69 : decode b_M_init 69 = .ok (.bipush 36, 2) := by decide +kernel
theorem d_M_init_71 : decode b_M_init 71 = .ok (.newarray .boolean, 2) := by decide +kernel
theorem d_M_init_73 : decode b_M_init 73 = .ok (.putfield 35, 3) := by decide +kernel
theorem d_M_init_76 : decode b_M_init 76 = .ok (.aload_n 0, 1) := by decide +kernel
theorem d_M_init_77 : decode b_M_init 77 = .ok (.bipush 36, 2) := by decide +kernel
theorem d_M_init_79 : decode b_M_init 79 = .ok (.newarray .int, 2) := by decide +kernel
theorem d_M_init_81 : decode b_M_init 81 = .ok (.putfield 38, 3) := by decide +kernel
theorem d_M_init_84 : decode b_M_init 84 = .ok (.aload_n 0, 1) := by decide +kernel
theorem d_M_init_85 : decode b_M_init 85 = .ok (.bipush 36, 2) := by decide +kernel
theorem d_M_init_87 : decode b_M_init 87 = .ok (.newarray .int, 2) := by decide +kernel
theorem d_M_init_89 : decode b_M_init 89 = .ok (.putfield 41, 3) := by decide +kernel
theorem d_M_init_92 : decode b_M_init 92 = .ok (.aload_n 0, 1) := by decide +kernel
theorem d_M_init_93 : decode b_M_init 93 = .ok (.bipush 9, 2) := by decide +kernel
theorem d_M_init_95 : decode b_M_init 95 = .ok (.newarray .int, 2) := by decide +kernel
theorem d_M_init_97 : decode b_M_init 97 = .ok (.putfield 44, 3) := by decide +kernel
theorem d_M_init_100 : decode b_M_init 100 = .ok (.aload_n 0, 1) := by decide +kernel
theorem d_M_init_101 : decode b_M_init 101 = .ok (.sipush 216, 3) := by decide +kernel
theorem d_M_init_104 : decode b_M_init 104 = .ok (.newarray .int, 2) := by decide +kernel
theorem d_M_init_106 : decode b_M_init 106 = .ok (.putfield 47, 3) := by decide +kernel
theorem d_M_init_109 : decode b_M_init 109 = .ok (.aload_n 0, 1) := by decide +kernel
theorem d_M_init_110 : decode b_M_init 110 = .ok (.bipush 64, 2) := by decide +kernel
theorem d_M_init_112 : decode b_M_init 112 = .ok (.newarray .boolean, 2) := by decide +kernel
theorem d_M_init_114 : decode b_M_init 114 = .ok (.putfield 50, 3) := by decide +kernel
theorem d_M_init_117 : decode b_M_init 117 = .ok (.aload_n 0, 1) := by decide +kernel
theorem d_M_init_118 : decode b_M_init 118 = .ok (.bipush 64, 2) := by decide +kernel
theorem d_M_init_120 : decode b_M_init 120 = .ok (.newarray .int, 2) := by decide +kernel
theorem d_M_init_122 : decode b_M_init 122 = .ok (.putfield 53, 3) := by decide +kernel
theorem d_M_init_125 : decode b_M_init 125 = .ok (.aload_n 0, 1) := by decide +kernel
theorem d_M_init_126 : decode b_M_init 126 = .ok (.bipush 8, 2) := by decide +kernel
theorem d_M_init_128 : decode b_M_init 128 = .ok (.newarray .int, 2) := by decide +kernel
theorem d_M_init_130 : decode b_M_init 130 = .ok (.putfield 56, 3) := by decide +kernel
theorem d_M_init_133 : decode b_M_init 133 = .ok (.aload_n 0, 1) := by decide +kernel
theorem d_M_init_134 : decode b_M_init 134 = .ok (.bipush 8, 2) := by decide +kernel
theorem d_M_init_136 : decode b_M_init 136 = .ok (.newarray .boolean, 2) := by decide +kernel
theorem d_M_init_138 : decode b_M_init 138 = .ok (.putfield 59, 3) := by decide +kernel
theorem d_M_init_141 : decode b_M_init 141 = .ok (.aload_n 0, 1) := by decide +kernel
theorem d_M_init_142 : decode b_M_init 142 = .ok (.bipush 8, 2) := by decide +kernel
theorem d_M_init_144 : decode b_M_init 144 = .ok (.newarray .int, 2) := by decide +kernel
theorem d_M_init_146 : decode b_M_init 146 = .ok (.putfield 62, 3) := by decide +kernel
theorem d_M_init_149 : decode b_M_init 149 = .ok (.aload_n 0, 1) := by decide +kernel
theorem d_M_init_150 : decode b_M_init 150 = .ok (.bipush 8, 2) := by decide +kernel
theorem d_M_init_152 : decode b_M_init 152 = .ok (.newarray .int, 2) := by decide +kernel
theorem d_M_init_154 : decode b_M_init 154 = .ok (.putfield 65, 3) := by decide +kernel
theorem d_M_init_157 : decode b_M_init 157 = .ok (.aload_n 0, 1) := by decide +kernel
theorem d_M_init_158 : decode b_M_init 158 = .ok (.bipush 48, 2) := by decide +kernel
theorem d_M_init_160 : decode b_M_init 160 = .ok (.newarray .int, 2) := by decide +kernel
theorem d_M_init_162 : decode b_M_init 162 = .ok (.putfield 68, 3) := by decide +kernel
theorem d_M_init_165 : decode b_M_init 165 = .ok (.aload_n 0, 1) := by decide +kernel
theorem d_M_init_166 : decode b_M_init 166 = .ok (.bipush 32, 2) := by decide +kernel
theorem d_M_init_168 : decode b_M_init 168 = .ok (.newarray .int, 2) := by decide +kernel
theorem d_M_init_170 : decode b_M_init 170 = .ok (.putfield 71, 3) := by decide +kernel
theorem d_M_init_173 : decode b_M_init 173 = .ok (.aload_n 0, 1) := by decide +kernel
theorem d_M_init_174 : decode b_M_init 174 = .ok (.iconst (-1), 1) := by decide +kernel
theorem d_M_init_175 : decode b_M_init 175 = .ok (.putfield 74, 3) := by decide +kernel
theorem d_M_init_178 : decode b_M_init 178 = .ok (.aload_n 0, 1) := by decide +kernel
theorem d_M_init_179 : decode b_M_init 179 = .ok (.bipush 9, 2) := by decide +kernel
theorem d_M_init_181 : decode b_M_init 181 = .ok (.newarray .int, 2) := by decide +kernel
theorem d_M_init_183 : decode b_M_init 183 = .ok (.putfield 78, 3) := by decide +kernel
theorem d_M_init_186 : decode b_M_init 186 = .ok (.aload_n 0, 1) := by decide +kernel
theorem d_M_init_187 : decode b_M_init 187 = .ok (.bipush 9, 2) := by decide +kernel
theorem d_M_init_189 : decode b_M_init 189 = .ok (.newarray .int, 2) := by decide +kernel
theorem d_M_init_191 : decode b_M_init 191 = .ok (.putfield 81, 3) := by decide +kernel
theorem d_M_init_194 : decode b_M_init 194 = .ok (.aload_n 0, 1) := by decide +kernel
theorem d_M_init_195 : decode b_M_init 195 = .ok (.bipush 9, 2) := by decide +kernel
theorem d_M_init_197 : decode b_M_init 197 = .ok (.newarray .int, 2) := by decide +kernel
theorem d_M_init_199 : decode b_M_init 199 = .ok (.putfield 84, 3) := by decide +kernel
theorem d_M_init_202 : decode b_M_init 202 = .ok (.aload_n 0, 1) := by decide +kernel
theorem d_M_init_203 : decode b_M_init 203 = .ok (.bipush 24, 2) := by decide +kernel
theorem d_M_init_205 : decode b_M_init 205 = .ok (.newarray .int, 2) := by decide +kernel
theorem d_M_init_207 : decode b_M_init 207 = .ok (.putfield 87, 3) := by decide +kernel
theorem d_M_init_210 : decode b_M_init 210 = .ok (.aload_n 0, 1) := by decide +kernel
theorem d_M_init_211 : decode b_M_init 211 = .ok (.getfield 13, 3) := by decide +kernel
theorem d_M_init_214 : decode b_M_init 214 = .ok (.bipush 8, 2) := by decide +kernel
theorem d_M_init_216 : decode b_M_init 216 = .ok (.iconst 1, 1) := by decide +kernel
theorem d_M_init_217 : decode b_M_init 217 = .ok (.iastore, 1) := by decide +kernel
theorem d_M_init_218 : decode b_M_init 218 = .ok (.return_, 1) := by decide +kernel
theorem d_M_thrown_0 : decode b_M_thrown 0 = .ok (.aload_n 0, 1) := by decide +kernel
theorem d_M_thrown_1 : decode b_M_thrown 1 = .ok (.getfield 90, 3) := by decide +kernel
theorem d_M_thrown_4 : decode b_M_thrown 4 = .ok (.ireturn, 1) := by decide +kernel
theorem d_M_in_0 : decode b_M_in 0 = .ok (.iload_n 0, 1) := by decide +kernel
theorem d_M_in_1 : decode b_M_in 1 = .ok (.ifCond .lt 12, 3) := by decide +kernel
theorem d_M_in_4 : decode b_M_in 4 = .ok (.iload_n 0, 1) := by decide +kernel
theorem d_M_in_5 : decode b_M_in 5 = .ok (.iload_n 1, 1) := by decide +kernel
theorem d_M_in_6 : decode b_M_in 6 = .ok (.if_icmp .ge 7, 3) := by decide +kernel
theorem d_M_in_9 : decode b_M_in 9 = .ok (.iconst 1, 1) := by decide +kernel
theorem d_M_in_10 : decode b_M_in 10 = .ok (.goto 4, 3) := by decide +kernel
theorem d_M_in_13 : decode b_M_in 13 = .ok (.iconst 0, 1) := by decide +kernel
theorem d_M_in_14 : decode b_M_in 14 = .ok (.ireturn, 1) := by decide +kernel
theorem d_M_isApp_0 : decode b_M_isApp 0 = .ok (.iload_n 1, 1) := by decide +kernel
theorem d_M_isApp_1 : decode b_M_isApp 1 = .ok (.bipush 8, 2) := by decide +kernel
theorem d_M_isApp_3 : decode b_M_isApp 3 = .ok (.invokestatic 93, 3) := by decide +kernel
theorem d_M_isApp_6 : decode b_M_isApp 6 = .ok (.ifCond .eq 16, 3) := by decide +kernel
theorem d_M_isApp_9 : decode b_M_isApp 9 = .ok (.aload_n 0, 1) := by decide +kernel
theorem d_M_isApp_10 : decode b_M_isApp 10 = .ok (.getfield 7, 3) := by decide +kernel
theorem d_M_isApp_13 : decode b_M_isApp 13 = .ok (.iload_n 1, 1) := by decide +kernel
theorem d_M_isApp_14 : decode b_M_isApp 14 = .ok (.baload, 1) := by decide +kernel
theorem d_M_isApp_15 : decode b_M_isApp 15 = .ok (.ifCond .eq 7, 3) := by decide +kernel
theorem d_M_isApp_18 : decode b_M_isApp 18 = .ok (.iconst 1, 1) := by decide +kernel
theorem d_M_isApp_19 : decode b_M_isApp 19 = .ok (.goto 4, 3) := by decide +kernel
theorem d_M_isApp_22 : decode b_M_isApp 22 = .ok (.iconst 0, 1) := by decide +kernel
theorem d_M_isApp_23 : decode b_M_isApp 23 = .ok (.ireturn, 1) := by decide +kernel
theorem d_M_draft_0 : decode b_M_draft 0 = .ok (.aload_n 0, 1) := by decide +kernel
theorem d_M_draft_1 : decode b_M_draft 1 = .ok (.iconst 0, 1) := by decide +kernel
theorem d_M_draft_2 : decode b_M_draft 2 = .ok (.putfield 90, 3) := by decide +kernel
theorem d_M_draft_5 : decode b_M_draft 5 = .ok (.iload_n 1, 1) := by decide +kernel
theorem d_M_draft_6 : decode b_M_draft 6 = .ok (.bipush 8, 2) := by decide +kernel
theorem d_M_draft_8 : decode b_M_draft 8 = .ok (.invokestatic 93, 3) := by decide +kernel
theorem d_M_draft_11 : decode b_M_draft 11 = .ok (.ifCond .eq 16, 3) := by decide +kernel
theorem d_M_draft_14 : decode b_M_draft 14 = .ok (.iload_n 2, 1) := by decide +kernel
theorem d_M_draft_15 : decode b_M_draft 15 = .ok (.iconst 1, 1) := by decide +kernel
theorem d_M_draft_16 : decode b_M_draft 16 = .ok (.if_icmp .lt 11, 3) := by decide +kernel
theorem d_M_draft_19 : decode b_M_draft 19 = .ok (.iload_n 3, 1) := by decide +kernel
theorem d_M_draft_20 : decode b_M_draft 20 = .ok (.iconst 4, 1) := by decide +kernel
theorem d_M_draft_21 : decode b_M_draft 21 = .ok (.invokestatic 93, 3) := by decide +kernel
theorem d_M_draft_24 : decode b_M_draft 24 = .ok (.ifCond .ne 5, 3) := by decide +kernel
theorem d_M_draft_27 : decode b_M_draft 27 = .ok (.iconst 0, 1) := by decide +kernel
theorem d_M_draft_28 : decode b_M_draft 28 = .ok (.ireturn, 1) := by decide +kernel
theorem d_M_draft_29 : decode b_M_draft 29 = .ok (.aload_n 0, 1) := by decide +kernel
theorem d_M_draft_30 : decode b_M_draft 30 = .ok (.iload_n 1, 1) := by decide +kernel
theorem d_M_draft_31 : decode b_M_draft 31 = .ok (.putfield 97, 3) := by decide +kernel
theorem d_M_draft_34 : decode b_M_draft 34 = .ok (.aload_n 0, 1) := by decide +kernel
theorem d_M_draft_35 : decode b_M_draft 35 = .ok (.getfield 13, 3) := by decide +kernel
theorem d_M_draft_38 : decode b_M_draft 38 = .ok (.bipush 8, 2) := by decide +kernel
theorem d_M_draft_40 : decode b_M_draft 40 = .ok (.iload_n 2, 1) := by decide +kernel
theorem d_M_draft_41 : decode b_M_draft 41 = .ok (.iastore, 1) := by decide +kernel
theorem d_M_draft_42 : decode b_M_draft 42 = .ok (.aload_n 0, 1) := by decide +kernel
theorem d_M_draft_43 : decode b_M_draft 43 = .ok (.getfield 17, 3) := by decide +kernel
theorem d_M_draft_46 : decode b_M_draft 46 = .ok (.bipush 8, 2) := by decide +kernel
theorem d_M_draft_48 : decode b_M_draft 48 = .ok (.iload_n 3, 1) := by decide +kernel
theorem d_M_draft_49 : decode b_M_draft 49 = .ok (.iastore, 1) := by decide +kernel
theorem d_M_draft_50 : decode b_M_draft 50 = .ok (.aload_n 0, 1) := by decide +kernel
theorem d_M_draft_51 : decode b_M_draft 51 = .ok (.getfield 20, 3) := by decide +kernel
theorem d_M_draft_54 : decode b_M_draft 54 = .ok (.bipush 8, 2) := by decide +kernel
theorem d_M_draft_56 : decode b_M_draft 56 = .ok (.iconst 0, 1) := by decide +kernel
theorem d_M_draft_57 : decode b_M_draft 57 = .ok (.iastore, 1) := by decide +kernel
theorem d_M_draft_58 : decode b_M_draft 58 = .ok (.aload_n 0, 1) := by decide +kernel
theorem d_M_draft_59 : decode b_M_draft 59 = .ok (.getfield 23, 3) := by decide +kernel
theorem d_M_draft_62 : decode b_M_draft 62 = .ok (.bipush 8, 2) := by decide +kernel
theorem d_M_draft_64 : decode b_M_draft 64 = .ok (.iconst 0, 1) := by decide +kernel
theorem d_M_draft_65 : decode b_M_draft 65 = .ok (.iastore, 1) := by decide +kernel
theorem d_M_draft_66 : decode b_M_draft 66 = .ok (.aload_n 0, 1) := by decide +kernel
theorem d_M_draft_67 : decode b_M_draft 67 = .ok (.getfield 29, 3) := by decide +kernel
theorem d_M_draft_70 : decode b_M_draft 70 = .ok (.bipush 8, 2) := by decide +kernel
theorem d_M_draft_72 : decode b_M_draft 72 = .ok (.iconst 0, 1) := by decide +kernel
theorem d_M_draft_73 : decode b_M_draft 73 = .ok (.iastore, 1) := by decide +kernel
theorem d_M_draft_74 : decode b_M_draft 74 = .ok (.aload_n 0, 1) := by decide +kernel
theorem d_M_draft_75 : decode b_M_draft 75 = .ok (.getfield 44, 3) := by decide +kernel
theorem d_M_draft_78 : decode b_M_draft 78 = .ok (.bipush 8, 2) := by decide +kernel
theorem d_M_draft_80 : decode b_M_draft 80 = .ok (.iconst 0, 1) := by decide +kernel
theorem d_M_draft_81 : decode b_M_draft 81 = .ok (.iastore, 1) := by decide +kernel
theorem d_M_draft_82 : decode b_M_draft 82 = .ok (.iconst 0, 1) := by decide +kernel
theorem d_M_draft_83 : decode b_M_draft 83 = .ok (.istore 4, 2) := by decide +kernel
theorem d_M_draft_85 : decode b_M_draft 85 = .ok (.iload 4, 2) := by decide +kernel
theorem d_M_draft_87 : decode b_M_draft 87 = .ok (.bipush 8, 2) := by decide +kernel
theorem d_M_draft_89 : decode b_M_draft 89 = .ok (.if_icmp .ge 20, 3) := by decide +kernel
theorem d_M_draft_92 : decode b_M_draft 92 = .ok (.aload_n 0, 1) := by decide +kernel
theorem d_M_draft_93 : decode b_M_draft 93 = .ok (.getfield 26, 3) := by decide +kernel
theorem d_M_draft_96 : decode b_M_draft 96 = .ok (.bipush 64, 2) := by decide +kernel
theorem d_M_draft_98 : decode b_M_draft 98 = .ok (.iload 4, 2) := by decide +kernel
theorem d_M_draft_100 : decode b_M_draft 100 = .ok (.iadd, 1) := by decide +kernel
theorem d_M_draft_101 : decode b_M_draft 101 = .ok (.iconst 0, 1) := by decide +kernel
theorem d_M_draft_102 : decode b_M_draft 102 = .ok (.iastore, 1) := by decide +kernel
theorem d_M_draft_103 : decode b_M_draft 103 = .ok (.iinc 4 1, 3) := by decide +kernel
theorem d_M_draft_106 : decode b_M_draft 106 = .ok (.goto (-21), 3) := by decide +kernel
theorem d_M_draft_109 : decode b_M_draft 109 = .ok (.iconst 1, 1) := by decide +kernel
theorem d_M_draft_110 : decode b_M_draft 110 = .ok (.ireturn, 1) := by decide +kernel
theorem d_M_word_0 : decode b_M_word 0 = .ok (.aload_n 0, 1) := by decide +kernel
theorem d_M_word_1 : decode b_M_word 1 = .ok (.iconst 0, 1) := by decide +kernel
theorem d_M_word_2 : decode b_M_word 2 = .ok (.putfield 90, 3) := by decide +kernel
theorem d_M_word_5 : decode b_M_word 5 = .ok (.aload_n 0, 1) := by decide +kernel
theorem d_M_word_6 : decode b_M_word 6 = .ok (.getfield 44, 3) := by decide +kernel
theorem d_M_word_9 : decode b_M_word 9 = .ok (.bipush 8, 2) := by decide +kernel
theorem d_M_word_11 : decode b_M_word 11 = .ok (.iaload, 1) := by decide +kernel
theorem d_M_word_12 : decode b_M_word 12 = .ok (.bipush 24, 2) := by decide +kernel
theorem d_M_word_14 : decode b_M_word 14 = .ok (.if_icmp .ne 5, 3) := by decide +kernel
theorem d_M_word_17 : decode b_M_word 17 = .ok (.iconst 0, 1) := by decide +kernel
theorem d_M_word_18 : decode b_M_word 18 = .ok (.ireturn, 1) := by decide +kernel
theorem d_M_word_19 : decode b_M_word 19 = .ok (.aload_n 0, 1) := by decide +kernel
theorem d_M_word_20 : decode b_M_word 20 = .ok (.getfield 47, 3) := by decide +kernel
theorem d_M_word_23 : decode b_M_word 23 = .ok (.sipush 192, 3) := by decide +kernel
theorem d_M_word_26 : decode b_M_word 26 = .ok (.aload_n 0, 1) := by decide +kernel
theorem d_M_word_27 : decode b_M_word 27 = .ok (.getfield 44, 3) := by decide +kernel
theorem d_M_word_30 : decode b_M_word 30 = .ok (.bipush 8, 2) := by decide +kernel
theorem d_M_word_32 : decode b_M_word 32 = .ok (.iaload, 1) := by decide +kernel
theorem d_M_word_33 : decode b_M_word 33 = .ok (.iadd, 1) := by decide +kernel
theorem d_M_word_34 : decode b_M_word 34 = .ok (.iload_n 1, 1) := by decide +kernel
theorem d_M_word_35 : decode b_M_word 35 = .ok (.iastore, 1) := by decide +kernel
theorem d_M_word_36 : decode b_M_word 36 = .ok (.aload_n 0, 1) := by decide +kernel
theorem d_M_word_37 : decode b_M_word 37 = .ok (.getfield 44, 3) := by decide +kernel
theorem d_M_word_40 : decode b_M_word 40 = .ok (.bipush 8, 2) := by decide +kernel
theorem d_M_word_42 : decode b_M_word 42 = .ok (.dup2, 1) := by decide +kernel
theorem d_M_word_43 : decode b_M_word 43 = .ok (.iaload, 1) := by decide +kernel
theorem d_M_word_44 : decode b_M_word 44 = .ok (.iconst 1, 1) := by decide +kernel
theorem d_M_word_45 : decode b_M_word 45 = .ok (.iadd, 1) := by decide +kernel
theorem d_M_word_46 : decode b_M_word 46 = .ok (.iastore, 1) := by decide +kernel
theorem d_M_word_47 : decode b_M_word 47 = .ok (.iconst 1, 1) := by decide +kernel
theorem d_M_word_48 : decode b_M_word 48 = .ok (.ireturn, 1) := by decide +kernel
theorem d_M_part_0 : decode b_M_part 0 = .ok (.aload_n 0, 1) := by decide +kernel
theorem d_M_part_1 : decode b_M_part 1 = .ok (.iconst 0, 1) := by decide +kernel
theorem d_M_part_2 : decode b_M_part 2 = .ok (.putfield 90, 3) := by decide +kernel
theorem d_M_part_5 : decode b_M_part 5 = .ok (.aload_n 0, 1) := by decide +kernel
theorem d_M_part_6 : decode b_M_part 6 = .ok (.getfield 29, 3) := by decide +kernel
theorem d_M_part_9 : decode b_M_part 9 = .ok (.bipush 8, 2) := by decide +kernel
theorem d_M_part_11 : decode b_M_part 11 = .ok (.iaload, 1) := by decide +kernel
theorem d_M_part_12 : decode b_M_part 12 = .ok (.iconst 4, 1) := by decide +kernel
theorem d_M_part_13 : decode b_M_part 13 = .ok (.if_icmp .eq 23, 3) := by decide +kernel
theorem d_M_part_16 : decode b_M_part 16 = .ok (.iload_n 1, 1) := by decide +kernel
theorem d_M_part_17 : decode b_M_part 17 = .ok (.bipush 10, 2) := by decide +kernel
theorem d_M_part_19 : decode b_M_part 19 = .ok (.invokestatic 93, 3) := by decide +kernel
theorem d_M_part_22 : decode b_M_part 22 = .ok (.ifCond .eq 14, 3) := by decide +kernel
theorem d_M_part_25 : decode b_M_part 25 = .ok (.iload_n 3, 1) := by decide +kernel
theorem d_M_part_26 : decode b_M_part 26 = .ok (.iconst (-1), 1) := by decide +kernel
theorem d_M_part_27 : decode b_M_part 27 = .ok (.if_icmp .lt 9, 3) := by decide +kernel
theorem d_M_part_30 : decode b_M_part 30 = .ok (.iload_n 3, 1) := by decide +kernel
theorem d_M_part_31 : decode b_M_part 31 = .ok (.bipush 7, 2) := by decide +kernel
theorem d_M_part_33 : decode b_M_part 33 = .ok (.if_icmp .le 5, 3) := by decide +kernel
theorem d_M_part_36 : decode b_M_part 36 = .ok (.iconst 0, 1) := by decide +kernel
theorem d_M_part_37 : decode b_M_part 37 = .ok (.ireturn, 1) := by decide +kernel
theorem d_M_part_38 : decode b_M_part 38 = .ok (.bipush 32, 2) := by decide +kernel
theorem d_M_part_40 : decode b_M_part 40 = .ok (.aload_n 0, 1) := by decide +kernel
theorem d_M_part_41 : decode b_M_part 41 = .ok (.getfield 29, 3) := by decide +kernel
theorem d_M_part_44 : decode b_M_part 44 = .ok (.bipush 8, 2) := by decide +kernel
theorem d_M_part_46 : decode b_M_part 46 = .ok (.iaload, 1) := by decide +kernel
theorem d_M_part_47 : decode b_M_part 47 = .ok (.iadd, 1) := by decide +kernel
theorem d_M_part_48 : decode b_M_part 48 = .ok (.istore 5, 2) := by decide +kernel
theorem d_M_part_50 : decode b_M_part 50 = .ok (.aload_n 0, 1) := by decide +kernel
theorem d_M_part_51 : decode b_M_part 51 = .ok (.getfield 32, 3) := by decide +kernel
theorem d_M_part_54 : decode b_M_part 54 = .ok (.iload 5, 2) := by decide +kernel
theorem d_M_part_56 : decode b_M_part 56 = .ok (.iload_n 1, 1) := by decide +kernel
theorem d_M_part_57 : decode b_M_part 57 = .ok (.iastore, 1) := by decide +kernel
theorem d_M_part_58 : decode b_M_part 58 = .ok (.aload_n 0, 1) := by decide +kernel
theorem d_M_part_59 : decode b_M_part 59 = .ok (.getfield 35, 3) := by decide +kernel
theorem d_M_part_62 : decode b_M_part 62 = .ok (.iload 5, 2) := by decide +kernel
theorem d_M_part_64 : decode b_M_part 64 = .ok (.iload_n 2, 1) := by decide +kernel
theorem d_M_part_65 : decode b_M_part 65 = .ok (.bastore, 1) := by decide +kernel
theorem d_M_part_66 : decode b_M_part 66 = .ok (.aload_n 0, 1) := by decide +kernel
theorem d_M_part_67 : decode b_M_part 67 = .ok (.getfield 38, 3) := by decide +kernel
theorem d_M_part_70 : decode b_M_part 70 = .ok (.iload 5, 2) := by decide +kernel
theorem d_M_part_72 : decode b_M_part 72 = .ok (.iload_n 3, 1) := by decide +kernel
theorem d_M_part_73 : decode b_M_part 73 = .ok (.iastore, 1) := by decide +kernel
theorem d_M_part_74 : decode b_M_part 74 = .ok (.aload_n 0, 1) := by decide +kernel
theorem d_M_part_75 : decode b_M_part 75 = .ok (.getfield 41, 3) := by decide +kernel
theorem d_M_part_78 : decode b_M_part 78 = .ok (.iload 5, 2) := by decide +kernel
theorem d_M_part_80 : decode b_M_part 80 = .ok (.iload 4, 2) := by decide +kernel
theorem d_M_part_82 : decode b_M_part 82 = .ok (.iastore, 1) := by decide +kernel
theorem d_M_part_83 : decode b_M_part 83 = .ok (.aload_n 0, 1) := by decide +kernel
theorem d_M_part_84 : decode b_M_part 84 = .ok (.getfield 29, 3) := by decide +kernel
theorem d_M_part_87 : decode b_M_part 87 = .ok (.bipush 8, 2) := by decide +kernel
theorem d_M_part_89 : decode b_M_part 89 = .ok (.dup2, 1) := by decide +kernel
theorem d_M_part_90 : decode b_M_part 90 = .ok (.iaload, 1) := by decide +kernel
theorem d_M_part_91 : decode b_M_part 91 = .ok (.iconst 1, 1) := by decide +kernel
theorem d_M_part_92 : decode b_M_part 92 = .ok (.iadd, 1) := by decide +kernel
theorem d_M_part_93 : decode b_M_part 93 = .ok (.iastore, 1) := by decide +kernel
theorem d_M_part_94 : decode b_M_part 94 = .ok (.iconst 1, 1) := by decide +kernel
theorem d_M_part_95 : decode b_M_part 95 = .ok (.ireturn, 1) := by decide +kernel
theorem d_M_ask_0 : decode b_M_ask 0 = .ok (.aload_n 0, 1) := by decide +kernel
theorem d_M_ask_1 : decode b_M_ask 1 = .ok (.iconst 0, 1) := by decide +kernel
theorem d_M_ask_2 : decode b_M_ask 2 = .ok (.putfield 90, 3) := by decide +kernel
theorem d_M_ask_5 : decode b_M_ask 5 = .ok (.iload_n 1, 1) := by decide +kernel
theorem d_M_ask_6 : decode b_M_ask 6 = .ok (.bipush 8, 2) := by decide +kernel
theorem d_M_ask_8 : decode b_M_ask 8 = .ok (.invokestatic 93, 3) := by decide +kernel
theorem d_M_ask_11 : decode b_M_ask 11 = .ok (.ifCond .eq 18, 3) := by decide +kernel
theorem d_M_ask_14 : decode b_M_ask 14 = .ok (.aload_n 0, 1) := by decide +kernel
theorem d_M_ask_15 : decode b_M_ask 15 = .ok (.getfield 23, 3) := by decide +kernel
theorem d_M_ask_18 : decode b_M_ask 18 = .ok (.bipush 8, 2) := by decide +kernel
theorem d_M_ask_20 : decode b_M_ask 20 = .ok (.iaload, 1) := by decide +kernel
theorem d_M_ask_21 : decode b_M_ask 21 = .ok (.iload_n 1, 1) := by decide +kernel
theorem d_M_ask_22 : decode b_M_ask 22 = .ok (.ishr, 1) := by decide +kernel
theorem d_M_ask_23 : decode b_M_ask 23 = .ok (.iconst 1, 1) := by decide +kernel
theorem d_M_ask_24 : decode b_M_ask 24 = .ok (.iand, 1) := by decide +kernel
theorem d_M_ask_25 : decode b_M_ask 25 = .ok (.iconst 1, 1) := by decide +kernel
theorem d_M_ask_26 : decode b_M_ask 26 = .ok (.if_icmp .ne 5, 3) := by decide +kernel
theorem d_M_ask_29 : decode b_M_ask 29 = .ok (.iconst 0, 1) := by decide +kernel
theorem d_M_ask_30 : decode b_M_ask 30 = .ok (.ireturn, 1) := by decide +kernel
theorem d_M_ask_31 : decode b_M_ask 31 = .ok (.aload_n 0, 1) := by decide +kernel
theorem d_M_ask_32 : decode b_M_ask 32 = .ok (.getfield 23, 3) := by decide +kernel
theorem d_M_ask_35 : decode b_M_ask 35 = .ok (.bipush 8, 2) := by decide +kernel
theorem d_M_ask_37 : decode b_M_ask 37 = .ok (.aload_n 0, 1) := by decide +kernel
theorem d_M_ask_38 : decode b_M_ask 38 = .ok (.getfield 23, 3) := by decide +kernel
theorem d_M_ask_41 : decode b_M_ask 41 = .ok (.bipush 8, 2) := by decide +kernel
theorem d_M_ask_43 : decode b_M_ask 43 = .ok (.iaload, 1) := by decide +kernel
theorem d_M_ask_44 : decode b_M_ask 44 = .ok (.iconst 1, 1) := by decide +kernel
theorem d_M_ask_45 : decode b_M_ask 45 = .ok (.iload_n 1, 1) := by decide +kernel
theorem d_M_ask_46 : decode b_M_ask 46 = .ok (.ishl, 1) := by decide +kernel
theorem d_M_ask_47 : decode b_M_ask 47 = .ok (.ior, 1) := by decide +kernel
theorem d_M_ask_48 : decode b_M_ask 48 = .ok (.iastore, 1) := by decide +kernel
theorem d_M_ask_49 : decode b_M_ask 49 = .ok (.iconst 1, 1) := by decide +kernel
theorem d_M_ask_50 : decode b_M_ask 50 = .ok (.ireturn, 1) := by decide +kernel
theorem d_M_declare_0 : decode b_M_declare 0 = .ok (.aload_n 0, 1) := by decide +kernel
theorem d_M_declare_1 : decode b_M_declare 1 = .ok (.iconst 0, 1) := by decide +kernel
theorem d_M_declare_2 : decode b_M_declare 2 = .ok (.putfield 90, 3) := by decide +kernel
theorem d_M_declare_5 : decode b_M_declare 5 = .ok (.iload_n 1, 1) := by decide +kernel
theorem d_M_declare_6 : decode b_M_declare 6 = .ok (.bipush 8, 2) := by decide +kernel
theorem d_M_declare_8 : decode b_M_declare 8 = .ok (.invokestatic 93, 3) := by decide +kernel
theorem d_M_declare_11 : decode b_M_declare 11 = .ok (.ifCond .eq 23, 3) := by decide +kernel
theorem d_M_declare_14 : decode b_M_declare 14 = .ok (.iload_n 2, 1) := by decide +kernel
theorem d_M_declare_15 : decode b_M_declare 15 = .ok (.iconst 3, 1) := by decide +kernel
theorem d_M_declare_16 : decode b_M_declare 16 = .ok (.invokestatic 93, 3) := by decide +kernel
theorem d_M_declare_19 : decode b_M_declare 19 = .ok (.ifCond .eq 15, 3) := by decide +kernel
theorem d_M_declare_22 : decode b_M_declare 22 = .ok (.aload_n 0, 1) := by decide +kernel
theorem d_M_declare_23 : decode b_M_declare 23 = .ok (.getfield 26, 3) := by decide +kernel
theorem d_M_declare_26 : decode b_M_declare 26 = .ok (.bipush 64, 2) := by decide +kernel
theorem d_M_declare_28 : decode b_M_declare 28 = .ok (.iload_n 1, 1) := by decide +kernel
theorem d_M_declare_29 : decode b_M_declare 29 = .ok (.iadd, 1) := by decide +kernel
theorem d_M_declare_30 : decode b_M_declare 30 = .ok (.iaload, 1) := by decide +kernel
theorem d_M_declare_31 : decode b_M_declare 31 = .ok (.ifCond .eq 5, 3) := by decide +kernel
theorem d_M_declare_34 : decode b_M_declare 34 = .ok (.iconst 0, 1) := by decide +kernel
theorem d_M_declare_35 : decode b_M_declare 35 = .ok (.ireturn, 1) := by decide +kernel
theorem d_M_declare_36 : decode b_M_declare 36 = .ok (.aload_n 0, 1) := by decide +kernel
theorem d_M_declare_37 : decode b_M_declare 37 = .ok (.getfield 26, 3) := by decide +kernel
theorem d_M_declare_40 : decode b_M_declare 40 = .ok (.bipush 64, 2) := by decide +kernel
theorem d_M_declare_42 : decode b_M_declare 42 = .ok (.iload_n 1, 1) := by decide +kernel
theorem d_M_declare_43 : decode b_M_declare 43 = .ok (.iadd, 1) := by decide +kernel
theorem d_M_declare_44 : decode b_M_declare 44 = .ok (.iload_n 2, 1) := by decide +kernel
theorem d_M_declare_45 : decode b_M_declare 45 = .ok (.iconst 1, 1) := by decide +kernel
theorem d_M_declare_46 : decode b_M_declare 46 = .ok (.iadd, 1) := by decide +kernel
theorem d_M_declare_47 : decode b_M_declare 47 = .ok (.iastore, 1) := by decide +kernel
theorem d_M_declare_48 : decode b_M_declare 48 = .ok (.iconst 1, 1) := by decide +kernel
theorem d_M_declare_49 : decode b_M_declare 49 = .ok (.ireturn, 1) := by decide +kernel
theorem d_M_mixed_0 : decode b_M_mixed 0 = .ok (.iload_n 0, 1) := by decide +kernel
theorem d_M_mixed_1 : decode b_M_mixed 1 = .ok (.bipush 31, 2) := by decide +kernel
theorem d_M_mixed_3 : decode b_M_mixed 3 = .ok (.imul, 1) := by decide +kernel
theorem d_M_mixed_4 : decode b_M_mixed 4 = .ok (.iload_n 1, 1) := by decide +kernel
theorem d_M_mixed_5 : decode b_M_mixed 5 = .ok (.iadd, 1) := by decide +kernel
theorem d_M_mixed_6 : decode b_M_mixed 6 = .ok (.istore_n 2, 1) := by decide +kernel
theorem d_M_mixed_7 : decode b_M_mixed 7 = .ok (.iload_n 2, 1) := by decide +kernel
theorem d_M_mixed_8 : decode b_M_mixed 8 = .ok (.iload_n 2, 1) := by decide +kernel
theorem d_M_mixed_9 : decode b_M_mixed 9 = .ok (.bipush 13, 2) := by decide +kernel
theorem d_M_mixed_11 : decode b_M_mixed 11 = .ok (.iushr, 1) := by decide +kernel
theorem d_M_mixed_12 : decode b_M_mixed 12 = .ok (.ixor, 1) := by decide +kernel
theorem d_M_mixed_13 : decode b_M_mixed 13 = .ok (.ireturn, 1) := by decide +kernel
theorem d_M_sealed_0 : decode b_M_sealed 0 = .ok (.bipush 17, 2) := by decide +kernel
theorem d_M_sealed_2 : decode b_M_sealed 2 = .ok (.aload_n 0, 1) := by decide +kernel
theorem d_M_sealed_3 : decode b_M_sealed 3 = .ok (.getfield 97, 3) := by decide +kernel
theorem d_M_sealed_6 : decode b_M_sealed 6 = .ok (.invokestatic 100, 3) := by decide +kernel
theorem d_M_sealed_9 : decode b_M_sealed 9 = .ok (.aload_n 0, 1) := by decide +kernel
theorem d_M_sealed_10 : decode b_M_sealed 10 = .ok (.getfield 13, 3) := by decide +kernel
theorem d_M_sealed_13 : decode b_M_sealed 13 = .ok (.bipush 8, 2) := by decide +kernel
theorem d_M_sealed_15 : decode b_M_sealed 15 = .ok (.iaload, 1) := by decide +kernel
theorem d_M_sealed_16 : decode b_M_sealed 16 = .ok (.invokestatic 100, 3) := by decide +kernel
theorem d_M_sealed_19 : decode b_M_sealed 19 = .ok (.aload_n 0, 1) := by decide +kernel
theorem d_M_sealed_20 : decode b_M_sealed 20 = .ok (.getfield 23, 3) := by decide +kernel
theorem d_M_sealed_23 : decode b_M_sealed 23 = .ok (.bipush 8, 2) := by decide +kernel
theorem d_M_sealed_25 : decode b_M_sealed 25 = .ok (.iaload, 1) := by decide +kernel
theorem d_M_sealed_26 : decode b_M_sealed 26 = .ok (.invokestatic 100, 3) := by decide +kernel
theorem d_M_sealed_29 : decode b_M_sealed 29 = .ok (.istore_n 1, 1) := by decide +kernel
theorem d_M_sealed_30 : decode b_M_sealed 30 = .ok (.iconst 0, 1) := by decide +kernel
theorem d_M_sealed_31 : decode b_M_sealed 31 = .ok (.istore_n 2, 1) := by decide +kernel
theorem d_M_sealed_32 : decode b_M_sealed 32 = .ok (.iload_n 2, 1) := by decide +kernel
theorem d_M_sealed_33 : decode b_M_sealed 33 = .ok (.bipush 8, 2) := by decide +kernel
theorem d_M_sealed_35 : decode b_M_sealed 35 = .ok (.if_icmp .ge 46, 3) := by decide +kernel
theorem d_M_sealed_38 : decode b_M_sealed 38 = .ok (.aload_n 0, 1) := by decide +kernel
theorem d_M_sealed_39 : decode b_M_sealed 39 = .ok (.getfield 26, 3) := by decide +kernel
theorem d_M_sealed_42 : decode b_M_sealed 42 = .ok (.bipush 64, 2) := by decide +kernel
theorem d_M_sealed_44 : decode b_M_sealed 44 = .ok (.iload_n 2, 1) := by decide +kernel
theorem d_M_sealed_45 : decode b_M_sealed 45 = .ok (.iadd, 1) := by decide +kernel
theorem d_M_sealed_46 : decode b_M_sealed 46 = .ok (.iaload, 1) := by decide +kernel
theorem d_M_sealed_47 : decode b_M_sealed 47 = .ok (.ifCond .eq 26, 3) := by decide +kernel
theorem d_M_sealed_50 : decode b_M_sealed 50 = .ok (.iload_n 1, 1) := by decide +kernel
theorem d_M_sealed_51 : decode b_M_sealed 51 = .ok (.bipush 10, 2) := by decide +kernel
theorem d_M_sealed_53 : decode b_M_sealed 53 = .ok (.iload_n 2, 1) := by decide +kernel
theorem d_M_sealed_54 : decode b_M_sealed 54 = .ok (.imul, 1) := by decide +kernel
theorem d_M_sealed_55 : decode b_M_sealed 55 = .ok (.aload_n 0, 1) := by decide +kernel
theorem d_M_sealed_56 : decode b_M_sealed 56 = .ok (.getfield 26, 3) := by decide +kernel
theorem d_M_sealed_59 : decode b_M_sealed 59 = .ok (.bipush 64, 2) := by decide +kernel
theorem d_M_sealed_61 : decode b_M_sealed 61 = .ok (.iload_n 2, 1) := by decide +kernel
theorem d_M_sealed_62 : decode b_M_sealed 62 = .ok (.iadd, 1) := by decide +kernel
theorem d_M_sealed_63 : decode b_M_sealed 63 = .ok (.iaload, 1) := by decide +kernel
theorem d_M_sealed_64 : decode b_M_sealed 64 = .ok (.iadd, 1) := by decide +kernel
theorem d_M_sealed_65 : decode b_M_sealed 65 = .ok (.iconst 1, 1) := by decide +kernel
theorem d_M_sealed_66 : decode b_M_sealed 66 = .ok (.isub, 1) := by decide +kernel
theorem d_M_sealed_67 : decode b_M_sealed 67 = .ok (.invokestatic 100, 3) := by decide +kernel
theorem d_M_sealed_70 : decode b_M_sealed 70 = .ok (.goto 4, 3) := by decide +kernel
theorem d_M_sealed_73 : decode b_M_sealed 73 = .ok (.iload_n 1, 1) := by decide +kernel
theorem d_M_sealed_74 : decode b_M_sealed 74 = .ok (.istore_n 1, 1) := by decide +kernel
theorem d_M_sealed_75 : decode b_M_sealed 75 = .ok (.iinc 2 1, 3) := by decide +kernel
theorem d_M_sealed_78 : decode b_M_sealed 78 = .ok (.goto (-46), 3) := by decide +kernel
theorem d_M_sealed_81 : decode b_M_sealed 81 = .ok (.bipush 32, 2) := by decide +kernel
theorem d_M_sealed_83 : decode b_M_sealed 83 = .ok (.istore_n 2, 1) := by decide +kernel
theorem d_M_sealed_84 : decode b_M_sealed 84 = .ok (.iload_n 2, 1) := by decide +kernel
theorem d_M_sealed_85 : decode b_M_sealed 85 = .ok (.bipush 32, 2) := by decide +kernel
theorem d_M_sealed_87 : decode b_M_sealed 87 = .ok (.aload_n 0, 1) := by decide +kernel
theorem d_M_sealed_88 : decode b_M_sealed 88 = .ok (.getfield 29, 3) := by decide +kernel
theorem d_M_sealed_91 : decode b_M_sealed 91 = .ok (.bipush 8, 2) := by decide +kernel
theorem d_M_sealed_93 : decode b_M_sealed 93 = .ok (.iaload, 1) := by decide +kernel
theorem d_M_sealed_94 : decode b_M_sealed 94 = .ok (.iadd, 1) := by decide +kernel
theorem d_M_sealed_95 : decode b_M_sealed 95 = .ok (.if_icmp .ge 61, 3) := by decide +kernel
theorem d_M_sealed_98 : decode b_M_sealed 98 = .ok (.iload_n 1, 1) := by decide +kernel
theorem d_M_sealed_99 : decode b_M_sealed 99 = .ok (.aload_n 0, 1) := by decide +kernel
theorem d_M_sealed_100 : decode b_M_sealed 100 = .ok (.getfield 32, 3) := by decide +kernel
theorem d_M_sealed_103 : decode b_M_sealed 103 = .ok (.iload_n 2, 1) := by decide +kernel
theorem d_M_sealed_104 : decode b_M_sealed 104 = .ok (.iaload, 1) := by decide +kernel
theorem d_M_sealed_105 : decode b_M_sealed 105 = .ok (.invokestatic 100, 3) := by decide +kernel
theorem d_M_sealed_108 : decode b_M_sealed 108 = .ok (.istore_n 1, 1) := by decide +kernel
theorem d_M_sealed_109 : decode b_M_sealed 109 = .ok (.iload_n 1, 1) := by decide +kernel
theorem d_M_sealed_110 : decode b_M_sealed 110 = .ok (.aload_n 0, 1) := by decide +kernel
theorem d_M_sealed_111 : decode b_M_sealed 111 = .ok (.getfield 35, 3) := by decide +kernel
theorem d_M_sealed_114 : decode b_M_sealed 114 = .ok (.iload_n 2, 1) := by decide +kernel
theorem d_M_sealed_115 : decode b_M_sealed 115 = .ok (.baload, 1) := by decide +kernel
theorem d_M_sealed_116 : decode b_M_sealed 116 = .ok (.ifCond .eq 7, 3) := by decide +kernel
theorem d_M_sealed_119 : decode b_M_sealed 119 = .ok (.iconst 1, 1) := by decide +kernel
theorem d_M_sealed_120 : decode b_M_sealed 120 = .ok (.goto 4, 3) := by decide +kernel
theorem d_M_sealed_123 : decode b_M_sealed 123 = .ok (.iconst 0, 1) := by decide +kernel
theorem d_M_sealed_124 : decode b_M_sealed 124 = .ok (.invokestatic 100, 3) := by decide +kernel
theorem d_M_sealed_127 : decode b_M_sealed 127 = .ok (.istore_n 1, 1) := by decide +kernel
theorem d_M_sealed_128 : decode b_M_sealed 128 = .ok (.iload_n 1, 1) := by decide +kernel
theorem d_M_sealed_129 : decode b_M_sealed 129 = .ok (.aload_n 0, 1) := by decide +kernel
theorem d_M_sealed_130 : decode b_M_sealed 130 = .ok (.getfield 38, 3) := by decide +kernel
theorem d_M_sealed_133 : decode b_M_sealed 133 = .ok (.iload_n 2, 1) := by decide +kernel
theorem d_M_sealed_134 : decode b_M_sealed 134 = .ok (.iaload, 1) := by decide +kernel
theorem d_M_sealed_135 : decode b_M_sealed 135 = .ok (.invokestatic 100, 3) := by decide +kernel
theorem d_M_sealed_138 : decode b_M_sealed 138 = .ok (.istore_n 1, 1) := by decide +kernel
theorem d_M_sealed_139 : decode b_M_sealed 139 = .ok (.iload_n 1, 1) := by decide +kernel
theorem d_M_sealed_140 : decode b_M_sealed 140 = .ok (.aload_n 0, 1) := by decide +kernel
theorem d_M_sealed_141 : decode b_M_sealed 141 = .ok (.getfield 41, 3) := by decide +kernel
theorem d_M_sealed_144 : decode b_M_sealed 144 = .ok (.iload_n 2, 1) := by decide +kernel
theorem d_M_sealed_145 : decode b_M_sealed 145 = .ok (.iaload, 1) := by decide +kernel
theorem d_M_sealed_146 : decode b_M_sealed 146 = .ok (.invokestatic 100, 3) := by decide +kernel
theorem d_M_sealed_149 : decode b_M_sealed 149 = .ok (.istore_n 1, 1) := by decide +kernel
theorem d_M_sealed_150 : decode b_M_sealed 150 = .ok (.iinc 2 1, 3) := by decide +kernel
theorem d_M_sealed_153 : decode b_M_sealed 153 = .ok (.goto (-69), 3) := by decide +kernel
theorem d_M_sealed_156 : decode b_M_sealed 156 = .ok (.iconst 0, 1) := by decide +kernel
theorem d_M_sealed_157 : decode b_M_sealed 157 = .ok (.istore_n 2, 1) := by decide +kernel
theorem d_M_sealed_158 : decode b_M_sealed 158 = .ok (.iload_n 2, 1) := by decide +kernel
theorem d_M_sealed_159 : decode b_M_sealed 159 = .ok (.aload_n 0, 1) := by decide +kernel
theorem d_M_sealed_160 : decode b_M_sealed 160 = .ok (.getfield 44, 3) := by decide +kernel
theorem d_M_sealed_163 : decode b_M_sealed 163 = .ok (.bipush 8, 2) := by decide +kernel
theorem d_M_sealed_165 : decode b_M_sealed 165 = .ok (.iaload, 1) := by decide +kernel
theorem d_M_sealed_166 : decode b_M_sealed 166 = .ok (.if_icmp .ge 24, 3) := by decide +kernel
theorem d_M_sealed_169 : decode b_M_sealed 169 = .ok (.iload_n 1, 1) := by decide +kernel
theorem d_M_sealed_170 : decode b_M_sealed 170 = .ok (.aload_n 0, 1) := by decide +kernel
theorem d_M_sealed_171 : decode b_M_sealed 171 = .ok (.getfield 47, 3) := by decide +kernel
theorem d_M_sealed_174 : decode b_M_sealed 174 = .ok (.sipush 192, 3) := by decide +kernel
theorem d_M_sealed_177 : decode b_M_sealed 177 = .ok (.iload_n 2, 1) := by decide +kernel
theorem d_M_sealed_178 : decode b_M_sealed 178 = .ok (.iadd, 1) := by decide +kernel
theorem d_M_sealed_179 : decode b_M_sealed 179 = .ok (.iaload, 1) := by decide +kernel
theorem d_M_sealed_180 : decode b_M_sealed 180 = .ok (.invokestatic 100, 3) := by decide +kernel
theorem d_M_sealed_183 : decode b_M_sealed 183 = .ok (.istore_n 1, 1) := by decide +kernel
theorem d_M_sealed_184 : decode b_M_sealed 184 = .ok (.iinc 2 1, 3) := by decide +kernel
theorem d_M_sealed_187 : decode b_M_sealed 187 = .ok (.goto (-29), 3) := by decide +kernel
theorem d_M_sealed_190 : decode b_M_sealed 190 = .ok (.iload_n 1, 1) := by decide +kernel
theorem d_M_sealed_191 : decode b_M_sealed 191 = .ok (.ldc 104, 2) := by decide +kernel
theorem d_M_sealed_193 : decode b_M_sealed 193 = .ok (.aload_n 0, 1) := by decide +kernel
theorem d_M_sealed_194 : decode b_M_sealed 194 = .ok (.getfield 17, 3) := by decide +kernel
theorem d_M_sealed_197 : decode b_M_sealed 197 = .ok (.bipush 8, 2) := by decide +kernel
theorem d_M_sealed_199 : decode b_M_sealed 199 = .ok (.iaload, 1) := by decide +kernel
theorem d_M_sealed_200 : decode b_M_sealed 200 = .ok (.iconst 1, 1) := by decide +kernel
theorem d_M_sealed_201 : decode b_M_sealed 201 = .ok (.iadd, 1) := by decide +kernel
theorem d_M_sealed_202 : decode b_M_sealed 202 = .ok (.imul, 1) := by decide +kernel
theorem d_M_sealed_203 : decode b_M_sealed 203 = .ok (.ixor, 1) := by decide +kernel
theorem d_M_sealed_204 : decode b_M_sealed 204 = .ok (.ireturn, 1) := by decide +kernel
theorem d_M_sign_0 : decode b_M_sign 0 = .ok (.aload_n 0, 1) := by decide +kernel
theorem d_M_sign_1 : decode b_M_sign 1 = .ok (.iconst 0, 1) := by decide +kernel
theorem d_M_sign_2 : decode b_M_sign 2 = .ok (.putfield 90, 3) := by decide +kernel
theorem d_M_sign_5 : decode b_M_sign 5 = .ok (.aload_n 0, 1) := by decide +kernel
theorem d_M_sign_6 : decode b_M_sign 6 = .ok (.getfield 20, 3) := by decide +kernel
theorem d_M_sign_9 : decode b_M_sign 9 = .ok (.bipush 8, 2) := by decide +kernel
theorem d_M_sign_11 : decode b_M_sign 11 = .ok (.aload_n 0, 1) := by decide +kernel
theorem d_M_sign_12 : decode b_M_sign 12 = .ok (.invokevirtual 105, 3) := by decide +kernel
theorem d_M_sign_15 : decode b_M_sign 15 = .ok (.iastore, 1) := by decide +kernel
theorem d_M_sign_16 : decode b_M_sign 16 = .ok (.aload_n 0, 1) := by decide +kernel
theorem d_M_sign_17 : decode b_M_sign 17 = .ok (.getfield 20, 3) := by decide +kernel
theorem d_M_sign_20 : decode b_M_sign 20 = .ok (.bipush 8, 2) := by decide +kernel
theorem d_M_sign_22 : decode b_M_sign 22 = .ok (.iaload, 1) := by decide +kernel
theorem d_M_sign_23 : decode b_M_sign 23 = .ok (.ireturn, 1) := by decide +kernel
theorem d_M_seal_0 : decode b_M_seal 0 = .ok (.aload_n 0, 1) := by decide +kernel
theorem d_M_seal_1 : decode b_M_seal 1 = .ok (.iconst 0, 1) := by decide +kernel
theorem d_M_seal_2 : decode b_M_seal 2 = .ok (.putfield 90, 3) := by decide +kernel
theorem d_M_seal_5 : decode b_M_seal 5 = .ok (.aload_n 0, 1) := by decide +kernel
theorem d_M_seal_6 : decode b_M_seal 6 = .ok (.getfield 20, 3) := by decide +kernel
theorem d_M_seal_9 : decode b_M_seal 9 = .ok (.bipush 8, 2) := by decide +kernel
theorem d_M_seal_11 : decode b_M_seal 11 = .ok (.iload_n 1, 1) := by decide +kernel
theorem d_M_seal_12 : decode b_M_seal 12 = .ok (.iastore, 1) := by decide +kernel
theorem d_M_seal_13 : decode b_M_seal 13 = .ok (.return_, 1) := by decide +kernel
theorem d_M_needs_0 : decode b_M_needs 0 = .ok (.iload_n 0, 1) := by decide +kernel
theorem d_M_needs_1 : decode b_M_needs 1 = .ok (.iconst 2, 1) := by decide +kernel
theorem d_M_needs_2 : decode b_M_needs 2 = .ok (.if_icmp .eq 20, 3) := by decide +kernel
theorem d_M_needs_5 : decode b_M_needs 5 = .ok (.iload_n 0, 1) := by decide +kernel
theorem d_M_needs_6 : decode b_M_needs 6 = .ok (.iconst 3, 1) := by decide +kernel
theorem d_M_needs_7 : decode b_M_needs 7 = .ok (.if_icmp .eq 15, 3) := by decide +kernel
theorem d_M_needs_10 : decode b_M_needs 10 = .ok (.iload_n 0, 1) := by decide +kernel
theorem d_M_needs_11 : decode b_M_needs 11 = .ok (.bipush 11, 2) := by decide +kernel
theorem d_M_needs_13 : decode b_M_needs 13 = .ok (.if_icmp .eq 9, 3) := by decide +kernel
theorem d_M_needs_16 : decode b_M_needs 16 = .ok (.iload_n 0, 1) := by decide +kernel
theorem d_M_needs_17 : decode b_M_needs 17 = .ok (.bipush 12, 2) := by decide +kernel
theorem d_M_needs_19 : decode b_M_needs 19 = .ok (.if_icmp .ne 7, 3) := by decide +kernel
theorem d_M_needs_22 : decode b_M_needs 22 = .ok (.iconst 2, 1) := by decide +kernel
theorem d_M_needs_23 : decode b_M_needs 23 = .ok (.goto 36, 3) := by decide +kernel
theorem d_M_needs_26 : decode b_M_needs 26 = .ok (.iload_n 0, 1) := by decide +kernel
theorem d_M_needs_27 : decode b_M_needs 27 = .ok (.iconst 4, 1) := by decide +kernel
theorem d_M_needs_28 : decode b_M_needs 28 = .ok (.if_icmp .eq 26, 3) := by decide +kernel
theorem d_M_needs_31 : decode b_M_needs 31 = .ok (.iload_n 0, 1) := by decide +kernel
theorem d_M_needs_32 : decode b_M_needs 32 = .ok (.iconst 5, 1) := by decide +kernel
theorem d_M_needs_33 : decode b_M_needs 33 = .ok (.if_icmp .eq 21, 3) := by decide +kernel
theorem d_M_needs_36 : decode b_M_needs 36 = .ok (.iload_n 0, 1) := by decide +kernel
theorem d_M_needs_37 : decode b_M_needs 37 = .ok (.bipush 7, 2) := by decide +kernel
theorem d_M_needs_39 : decode b_M_needs 39 = .ok (.if_icmp .eq 15, 3) := by decide +kernel
theorem d_M_needs_42 : decode b_M_needs 42 = .ok (.iload_n 0, 1) := by decide +kernel
theorem d_M_needs_43 : decode b_M_needs 43 = .ok (.bipush 9, 2) := by decide +kernel
theorem d_M_needs_45 : decode b_M_needs 45 = .ok (.if_icmp .eq 9, 3) := by decide +kernel
theorem d_M_needs_48 : decode b_M_needs 48 = .ok (.iload_n 0, 1) := by decide +kernel
theorem d_M_needs_49 : decode b_M_needs 49 = .ok (.bipush 10, 2) := by decide +kernel
theorem d_M_needs_51 : decode b_M_needs 51 = .ok (.if_icmp .ne 7, 3) := by decide +kernel
theorem d_M_needs_54 : decode b_M_needs 54 = .ok (.iconst 1, 1) := by decide +kernel
theorem d_M_needs_55 : decode b_M_needs 55 = .ok (.goto 4, 3) := by decide +kernel
theorem d_M_needs_58 : decode b_M_needs 58 = .ok (.iconst 0, 1) := by decide +kernel
theorem d_M_needs_59 : decode b_M_needs 59 = .ok (.ireturn, 1) := by decide +kernel
theorem d_M_change_0 : decode b_M_change 0 = .ok (.iload_n 0, 1) := by decide +kernel
theorem d_M_change_1 : decode b_M_change 1 = .ok (.iconst 1, 1) := by decide +kernel
theorem d_M_change_2 : decode b_M_change 2 = .ok (.if_icmp .eq 20, 3) := by decide +kernel
theorem d_M_change_5 : decode b_M_change 5 = .ok (.iload_n 0, 1) := by decide +kernel
theorem d_M_change_6 : decode b_M_change 6 = .ok (.iconst 4, 1) := by decide +kernel
theorem d_M_change_7 : decode b_M_change 7 = .ok (.if_icmp .eq 15, 3) := by decide +kernel
theorem d_M_change_10 : decode b_M_change 10 = .ok (.iload_n 0, 1) := by decide +kernel
theorem d_M_change_11 : decode b_M_change 11 = .ok (.bipush 6, 2) := by decide +kernel
theorem d_M_change_13 : decode b_M_change 13 = .ok (.if_icmp .eq 9, 3) := by decide +kernel
theorem d_M_change_16 : decode b_M_change 16 = .ok (.iload_n 0, 1) := by decide +kernel
theorem d_M_change_17 : decode b_M_change 17 = .ok (.bipush 13, 2) := by decide +kernel
theorem d_M_change_19 : decode b_M_change 19 = .ok (.if_icmp .ne 7, 3) := by decide +kernel
theorem d_M_change_22 : decode b_M_change 22 = .ok (.iconst 1, 1) := by decide +kernel
theorem d_M_change_23 : decode b_M_change 23 = .ok (.goto 52, 3) := by decide +kernel
theorem d_M_change_26 : decode b_M_change 26 = .ok (.iload_n 0, 1) := by decide +kernel
theorem d_M_change_27 : decode b_M_change 27 = .ok (.iconst 2, 1) := by decide +kernel
theorem d_M_change_28 : decode b_M_change 28 = .ok (.if_icmp .eq 25, 3) := by decide +kernel
theorem d_M_change_31 : decode b_M_change 31 = .ok (.iload_n 0, 1) := by decide +kernel
theorem d_M_change_32 : decode b_M_change 32 = .ok (.iconst 3, 1) := by decide +kernel
theorem d_M_change_33 : decode b_M_change 33 = .ok (.if_icmp .eq 20, 3) := by decide +kernel
theorem d_M_change_36 : decode b_M_change 36 = .ok (.iload_n 0, 1) := by decide +kernel
theorem d_M_change_37 : decode b_M_change 37 = .ok (.iconst 5, 1) := by decide +kernel
theorem d_M_change_38 : decode b_M_change 38 = .ok (.if_icmp .eq 15, 3) := by decide +kernel
theorem d_M_change_41 : decode b_M_change 41 = .ok (.iload_n 0, 1) := by decide +kernel
theorem d_M_change_42 : decode b_M_change 42 = .ok (.bipush 7, 2) := by decide +kernel
theorem d_M_change_44 : decode b_M_change 44 = .ok (.if_icmp .eq 9, 3) := by decide +kernel
theorem d_M_change_47 : decode b_M_change 47 = .ok (.iload_n 0, 1) := by decide +kernel
theorem d_M_change_48 : decode b_M_change 48 = .ok (.bipush 9, 2) := by decide +kernel
theorem d_M_change_50 : decode b_M_change 50 = .ok (.if_icmp .ne 7, 3) := by decide +kernel
theorem d_M_change_53 : decode b_M_change 53 = .ok (.iconst (-1), 1) := by decide +kernel
theorem d_M_change_54 : decode b_M_change 54 = .ok (.goto 21, 3) := by decide +kernel
theorem d_M_change_57 : decode b_M_change 57 = .ok (.iload_n 0, 1) := by decide +kernel
theorem d_M_change_58 : decode b_M_change 58 = .ok (.bipush 11, 2) := by decide +kernel
theorem d_M_change_60 : decode b_M_change 60 = .ok (.if_icmp .eq 9, 3) := by decide +kernel
theorem d_M_change_63 : decode b_M_change 63 = .ok (.iload_n 0, 1) := by decide +kernel
theorem d_M_change_64 : decode b_M_change 64 = .ok (.bipush 12, 2) := by decide +kernel
theorem d_M_change_66 : decode b_M_change 66 = .ok (.if_icmp .ne 8, 3) := by decide +kernel
theorem d_M_change_69 : decode b_M_change 69 = .ok (.bipush (-2), 2) := by decide +kernel
theorem d_M_change_71 : decode b_M_change 71 = .ok (.goto 4, 3) := by decide +kernel
theorem d_M_change_74 : decode b_M_change 74 = .ok (.iconst 0, 1) := by decide +kernel
theorem d_M_change_75 : decode b_M_change 75 = .ok (.ireturn, 1) := by decide +kernel
theorem d_M_comes_0 : decode b_M_comes 0 = .ok (.iload_n 1, 1) := by decide +kernel
theorem d_M_comes_1 : decode b_M_comes 1 = .ok (.aload_n 0, 1) := by decide +kernel
theorem d_M_comes_2 : decode b_M_comes 2 = .ok (.getfield 44, 3) := by decide +kernel
theorem d_M_comes_5 : decode b_M_comes 5 = .ok (.bipush 8, 2) := by decide +kernel
theorem d_M_comes_7 : decode b_M_comes 7 = .ok (.iaload, 1) := by decide +kernel
theorem d_M_comes_8 : decode b_M_comes 8 = .ok (.invokestatic 93, 3) := by decide +kernel
theorem d_M_comes_11 : decode b_M_comes 11 = .ok (.ifCond .eq 22, 3) := by decide +kernel
theorem d_M_comes_14 : decode b_M_comes 14 = .ok (.aload_n 0, 1) := by decide +kernel
theorem d_M_comes_15 : decode b_M_comes 15 = .ok (.getfield 87, 3) := by decide +kernel
theorem d_M_comes_18 : decode b_M_comes 18 = .ok (.iload_n 1, 1) := by decide +kernel
theorem d_M_comes_19 : decode b_M_comes 19 = .ok (.iaload, 1) := by decide +kernel
theorem d_M_comes_20 : decode b_M_comes 20 = .ok (.ifCond .lt 15, 3) := by decide +kernel
theorem d_M_comes_23 : decode b_M_comes 23 = .ok (.aload_n 0, 1) := by decide +kernel
theorem d_M_comes_24 : decode b_M_comes 24 = .ok (.getfield 87, 3) := by decide +kernel
theorem d_M_comes_27 : decode b_M_comes 27 = .ok (.iload_n 1, 1) := by decide +kernel
theorem d_M_comes_28 : decode b_M_comes 28 = .ok (.iaload, 1) := by decide +kernel
theorem d_M_comes_29 : decode b_M_comes 29 = .ok (.iload_n 2, 1) := by decide +kernel
theorem d_M_comes_30 : decode b_M_comes 30 = .ok (.if_icmp .eq 5, 3) := by decide +kernel
theorem d_M_comes_33 : decode b_M_comes 33 = .ok (.iconst 0, 1) := by decide +kernel
theorem d_M_comes_34 : decode b_M_comes 34 = .ok (.ireturn, 1) := by decide +kernel
theorem d_M_comes_35 : decode b_M_comes 35 = .ok (.aload_n 0, 1) := by decide +kernel
theorem d_M_comes_36 : decode b_M_comes 36 = .ok (.getfield 87, 3) := by decide +kernel
theorem d_M_comes_39 : decode b_M_comes 39 = .ok (.iload_n 1, 1) := by decide +kernel
theorem d_M_comes_40 : decode b_M_comes 40 = .ok (.iload_n 2, 1) := by decide +kernel
theorem d_M_comes_41 : decode b_M_comes 41 = .ok (.iastore, 1) := by decide +kernel
theorem d_M_comes_42 : decode b_M_comes 42 = .ok (.iconst 1, 1) := by decide +kernel
theorem d_M_comes_43 : decode b_M_comes 43 = .ok (.ireturn, 1) := by decide +kernel
theorem d_M_goesOn_0 : decode b_M_goesOn 0 = .ok (.aload_n 0, 1) := by decide +kernel
theorem d_M_goesOn_1 : decode b_M_goesOn 1 = .ok (.getfield 47, 3) := by decide +kernel
theorem d_M_goesOn_4 : decode b_M_goesOn 4 = .ok (.sipush 192, 3) := by decide +kernel
theorem d_M_goesOn_7 : decode b_M_goesOn 7 = .ok (.iload_n 1, 1) := by decide +kernel
theorem d_M_goesOn_8 : decode b_M_goesOn 8 = .ok (.iadd, 1) := by decide +kernel
theorem d_M_goesOn_9 : decode b_M_goesOn 9 = .ok (.iaload, 1) := by decide +kernel
theorem d_M_goesOn_10 : decode b_M_goesOn 10 = .ok (.istore_n 2, 1) := by decide +kernel
theorem d_M_goesOn_11 : decode b_M_goesOn 11 = .ok (.iload_n 2, 1) := by decide +kernel
theorem d_M_goesOn_12 : decode b_M_goesOn 12 = .ok (.bipush 15, 2) := by decide +kernel
theorem d_M_goesOn_14 : decode b_M_goesOn 14 = .ok (.iand, 1) := by decide +kernel
theorem d_M_goesOn_15 : decode b_M_goesOn 15 = .ok (.istore_n 3, 1) := by decide +kernel
theorem d_M_goesOn_16 : decode b_M_goesOn 16 = .ok (.iload_n 2, 1) := by decide +kernel
theorem d_M_goesOn_17 : decode b_M_goesOn 17 = .ok (.iconst 4, 1) := by decide +kernel
theorem d_M_goesOn_18 : decode b_M_goesOn 18 = .ok (.ishr, 1) := by decide +kernel
theorem d_M_goesOn_19 : decode b_M_goesOn 19 = .ok (.istore 4, 2) := by decide +kernel
theorem d_M_goesOn_21 : decode b_M_goesOn 21 = .ok (.aload_n 0, 1) := by decide +kernel
theorem d_M_goesOn_22 : decode b_M_goesOn 22 = .ok (.getfield 87, 3) := by decide +kernel
theorem d_M_goesOn_25 : decode b_M_goesOn 25 = .ok (.iload_n 1, 1) := by decide +kernel
theorem d_M_goesOn_26 : decode b_M_goesOn 26 = .ok (.iaload, 1) := by decide +kernel
theorem d_M_goesOn_27 : decode b_M_goesOn 27 = .ok (.iload_n 3, 1) := by decide +kernel
theorem d_M_goesOn_28 : decode b_M_goesOn 28 = .ok (.invokestatic 109, 3) := by decide +kernel
theorem d_M_goesOn_31 : decode b_M_goesOn 31 = .ok (.iadd, 1) := by decide +kernel
theorem d_M_goesOn_32 : decode b_M_goesOn 32 = .ok (.istore 5, 2) := by decide +kernel
theorem d_M_goesOn_34 : decode b_M_goesOn 34 = .ok (.iload_n 3, 1) := by decide +kernel
theorem d_M_goesOn_35 : decode b_M_goesOn 35 = .ok (.bipush 6, 2) := by decide +kernel
theorem d_M_goesOn_37 : decode b_M_goesOn 37 = .ok (.if_icmp .eq 9, 3) := by decide +kernel
theorem d_M_goesOn_40 : decode b_M_goesOn 40 = .ok (.iload_n 3, 1) := by decide +kernel
theorem d_M_goesOn_41 : decode b_M_goesOn 41 = .ok (.bipush 7, 2) := by decide +kernel
theorem d_M_goesOn_43 : decode b_M_goesOn 43 = .ok (.if_icmp .ne 12, 3) := by decide +kernel
theorem d_M_goesOn_46 : decode b_M_goesOn 46 = .ok (.iload 4, 2) := by decide +kernel
theorem d_M_goesOn_48 : decode b_M_goesOn 48 = .ok (.iconst 4, 1) := by decide +kernel
theorem d_M_goesOn_49 : decode b_M_goesOn 49 = .ok (.invokestatic 93, 3) := by decide +kernel
theorem d_M_goesOn_52 : decode b_M_goesOn 52 = .ok (.goto 30, 3) := by decide +kernel
theorem d_M_goesOn_55 : decode b_M_goesOn 55 = .ok (.iload_n 3, 1) := by decide +kernel
theorem d_M_goesOn_56 : decode b_M_goesOn 56 = .ok (.bipush 13, 2) := by decide +kernel
theorem d_M_goesOn_58 : decode b_M_goesOn 58 = .ok (.if_icmp .ne 13, 3) := by decide +kernel
theorem d_M_goesOn_61 : decode b_M_goesOn 61 = .ok (.iload 4, 2) := by decide +kernel
theorem d_M_goesOn_63 : decode b_M_goesOn 63 = .ok (.bipush 8, 2) := by decide +kernel
theorem d_M_goesOn_65 : decode b_M_goesOn 65 = .ok (.invokestatic 93, 3) := by decide +kernel
theorem d_M_goesOn_68 : decode b_M_goesOn 68 = .ok (.goto 14, 3) := by decide +kernel
theorem d_M_goesOn_71 : decode b_M_goesOn 71 = .ok (.iload_n 3, 1) := by decide +kernel
theorem d_M_goesOn_72 : decode b_M_goesOn 72 = .ok (.bipush 14, 2) := by decide +kernel
theorem d_M_goesOn_74 : decode b_M_goesOn 74 = .ok (.if_icmp .ge 7, 3) := by decide +kernel
theorem d_M_goesOn_77 : decode b_M_goesOn 77 = .ok (.iconst 1, 1) := by decide +kernel
theorem d_M_goesOn_78 : decode b_M_goesOn 78 = .ok (.goto 4, 3) := by decide +kernel
theorem d_M_goesOn_81 : decode b_M_goesOn 81 = .ok (.iconst 0, 1) := by decide +kernel
theorem d_M_goesOn_82 : decode b_M_goesOn 82 = .ok (.istore 6, 2) := by decide +kernel
theorem d_M_goesOn_84 : decode b_M_goesOn 84 = .ok (.iload 6, 2) := by decide +kernel
theorem d_M_goesOn_86 : decode b_M_goesOn 86 = .ok (.ifCond .eq 23, 3) := by decide +kernel
theorem d_M_goesOn_89 : decode b_M_goesOn 89 = .ok (.aload_n 0, 1) := by decide +kernel
theorem d_M_goesOn_90 : decode b_M_goesOn 90 = .ok (.getfield 87, 3) := by decide +kernel
theorem d_M_goesOn_93 : decode b_M_goesOn 93 = .ok (.iload_n 1, 1) := by decide +kernel
theorem d_M_goesOn_94 : decode b_M_goesOn 94 = .ok (.iaload, 1) := by decide +kernel
theorem d_M_goesOn_95 : decode b_M_goesOn 95 = .ok (.iload_n 3, 1) := by decide +kernel
theorem d_M_goesOn_96 : decode b_M_goesOn 96 = .ok (.invokestatic 113, 3) := by decide +kernel
theorem d_M_goesOn_99 : decode b_M_goesOn 99 = .ok (.if_icmp .lt 10, 3) := by decide +kernel
theorem d_M_goesOn_102 : decode b_M_goesOn 102 = .ok (.iload 5, 2) := by decide +kernel
theorem d_M_goesOn_104 : decode b_M_goesOn 104 = .ok (.bipush 6, 2) := by decide +kernel
theorem d_M_goesOn_106 : decode b_M_goesOn 106 = .ok (.if_icmp .le 5, 3) := by decide +kernel
theorem d_M_goesOn_109 : decode b_M_goesOn 109 = .ok (.iconst 0, 1) := by decide +kernel
theorem d_M_goesOn_110 : decode b_M_goesOn 110 = .ok (.ireturn, 1) := by decide +kernel
theorem d_M_goesOn_111 : decode b_M_goesOn 111 = .ok (.iload_n 3, 1) := by decide +kernel
theorem d_M_goesOn_112 : decode b_M_goesOn 112 = .ok (.bipush 8, 2) := by decide +kernel
theorem d_M_goesOn_114 : decode b_M_goesOn 114 = .ok (.if_icmp .eq 9, 3) := by decide +kernel
theorem d_M_goesOn_117 : decode b_M_goesOn 117 = .ok (.iload_n 3, 1) := by decide +kernel
theorem d_M_goesOn_118 : decode b_M_goesOn 118 = .ok (.bipush 9, 2) := by decide +kernel
theorem d_M_goesOn_120 : decode b_M_goesOn 120 = .ok (.if_icmp .ne 16, 3) := by decide +kernel
theorem d_M_goesOn_123 : decode b_M_goesOn 123 = .ok (.aload_n 0, 1) := by decide +kernel
theorem d_M_goesOn_124 : decode b_M_goesOn 124 = .ok (.iload_n 1, 1) := by decide +kernel
theorem d_M_goesOn_125 : decode b_M_goesOn 125 = .ok (.iload 4, 2) := by decide +kernel
theorem d_M_goesOn_127 : decode b_M_goesOn 127 = .ok (.iadd, 1) := by decide +kernel
theorem d_M_goesOn_128 : decode b_M_goesOn 128 = .ok (.iload 5, 2) := by decide +kernel
theorem d_M_goesOn_130 : decode b_M_goesOn 130 = .ok (.invokevirtual 116, 3) := by decide +kernel
theorem d_M_goesOn_133 : decode b_M_goesOn 133 = .ok (.ifCond .eq 7, 3) := by decide +kernel
theorem d_M_goesOn_136 : decode b_M_goesOn 136 = .ok (.iconst 1, 1) := by decide +kernel
theorem d_M_goesOn_137 : decode b_M_goesOn 137 = .ok (.goto 4, 3) := by decide +kernel
theorem d_M_goesOn_140 : decode b_M_goesOn 140 = .ok (.iconst 0, 1) := by decide +kernel
theorem d_M_goesOn_141 : decode b_M_goesOn 141 = .ok (.istore 7, 2) := by decide +kernel
theorem d_M_goesOn_143 : decode b_M_goesOn 143 = .ok (.iload 7, 2) := by decide +kernel
theorem d_M_goesOn_145 : decode b_M_goesOn 145 = .ok (.ifCond .eq 29, 3) := by decide +kernel
theorem d_M_goesOn_148 : decode b_M_goesOn 148 = .ok (.iload_n 3, 1) := by decide +kernel
theorem d_M_goesOn_149 : decode b_M_goesOn 149 = .ok (.ifCond .eq 21, 3) := by decide +kernel
theorem d_M_goesOn_152 : decode b_M_goesOn 152 = .ok (.iload_n 3, 1) := by decide +kernel
theorem d_M_goesOn_153 : decode b_M_goesOn 153 = .ok (.bipush 8, 2) := by decide +kernel
theorem d_M_goesOn_155 : decode b_M_goesOn 155 = .ok (.if_icmp .eq 15, 3) := by decide +kernel
theorem d_M_goesOn_158 : decode b_M_goesOn 158 = .ok (.aload_n 0, 1) := by decide +kernel
theorem d_M_goesOn_159 : decode b_M_goesOn 159 = .ok (.iload_n 1, 1) := by decide +kernel
theorem d_M_goesOn_160 : decode b_M_goesOn 160 = .ok (.iconst 1, 1) := by decide +kernel
theorem d_M_goesOn_161 : decode b_M_goesOn 161 = .ok (.iadd, 1) := by decide +kernel
theorem d_M_goesOn_162 : decode b_M_goesOn 162 = .ok (.iload 5, 2) := by decide +kernel
theorem d_M_goesOn_164 : decode b_M_goesOn 164 = .ok (.invokevirtual 116, 3) := by decide +kernel
theorem d_M_goesOn_167 : decode b_M_goesOn 167 = .ok (.ifCond .eq 7, 3) := by decide +kernel
theorem d_M_goesOn_170 : decode b_M_goesOn 170 = .ok (.iconst 1, 1) := by decide +kernel
theorem d_M_goesOn_171 : decode b_M_goesOn 171 = .ok (.goto 4, 3) := by decide +kernel
theorem d_M_goesOn_174 : decode b_M_goesOn 174 = .ok (.iconst 0, 1) := by decide +kernel
theorem d_M_goesOn_175 : decode b_M_goesOn 175 = .ok (.ireturn, 1) := by decide +kernel
theorem d_M_good_0 : decode b_M_good 0 = .ok (.iconst 0, 1) := by decide +kernel
theorem d_M_good_1 : decode b_M_good 1 = .ok (.istore_n 1, 1) := by decide +kernel
theorem d_M_good_2 : decode b_M_good 2 = .ok (.iload_n 1, 1) := by decide +kernel
theorem d_M_good_3 : decode b_M_good 3 = .ok (.bipush 24, 2) := by decide +kernel
theorem d_M_good_5 : decode b_M_good 5 = .ok (.if_icmp .ge 16, 3) := by decide +kernel
theorem d_M_good_8 : decode b_M_good 8 = .ok (.aload_n 0, 1) := by decide +kernel
theorem d_M_good_9 : decode b_M_good 9 = .ok (.getfield 87, 3) := by decide +kernel
theorem d_M_good_12 : decode b_M_good 12 = .ok (.iload_n 1, 1) := by decide +kernel
theorem d_M_good_13 : decode b_M_good 13 = .ok (.iconst (-1), 1) := by decide +kernel
theorem d_M_good_14 : decode b_M_good 14 = .ok (.iastore, 1) := by decide +kernel
theorem d_M_good_15 : decode b_M_good 15 = .ok (.iinc 1 1, 3) := by decide +kernel
theorem d_M_good_18 : decode b_M_good 18 = .ok (.goto (-16), 3) := by decide +kernel
theorem d_M_good_21 : decode b_M_good 21 = .ok (.iconst 1, 1) := by decide +kernel
theorem d_M_good_22 : decode b_M_good 22 = .ok (.istore_n 1, 1) := by decide +kernel
theorem d_M_good_23 : decode b_M_good 23 = .ok (.bipush 32, 2) := by decide +kernel
theorem d_M_good_25 : decode b_M_good 25 = .ok (.istore_n 2, 1) := by decide +kernel
theorem d_M_good_26 : decode b_M_good 26 = .ok (.iload_n 2, 1) := by decide +kernel
theorem d_M_good_27 : decode b_M_good 27 = .ok (.bipush 32, 2) := by decide +kernel
theorem d_M_good_29 : decode b_M_good 29 = .ok (.aload_n 0, 1) := by decide +kernel
theorem d_M_good_30 : decode b_M_good 30 = .ok (.getfield 29, 3) := by decide +kernel
theorem d_M_good_33 : decode b_M_good 33 = .ok (.bipush 8, 2) := by decide +kernel
theorem d_M_good_35 : decode b_M_good 35 = .ok (.iaload, 1) := by decide +kernel
theorem d_M_good_36 : decode b_M_good 36 = .ok (.iadd, 1) := by decide +kernel
theorem d_M_good_37 : decode b_M_good 37 = .ok (.if_icmp .ge 33, 3) := by decide +kernel
theorem d_M_good_40 : decode b_M_good 40 = .ok (.iload_n 1, 1) := by decide +kernel
theorem d_M_good_41 : decode b_M_good 41 = .ok (.ifCond .eq 21, 3) := by decide +kernel
theorem d_M_good_44 : decode b_M_good 44 = .ok (.aload_n 0, 1) := by decide +kernel
theorem d_M_good_45 : decode b_M_good 45 = .ok (.aload_n 0, 1) := by decide +kernel
theorem d_M_good_46 : decode b_M_good 46 = .ok (.getfield 41, 3) := by decide +kernel
theorem d_M_good_49 : decode b_M_good 49 = .ok (.iload_n 2, 1) := by decide +kernel
theorem d_M_good_50 : decode b_M_good 50 = .ok (.iaload, 1) := by decide +kernel
theorem d_M_good_51 : decode b_M_good 51 = .ok (.iconst 0, 1) := by decide +kernel
theorem d_M_good_52 : decode b_M_good 52 = .ok (.invokevirtual 116, 3) := by decide +kernel
theorem d_M_good_55 : decode b_M_good 55 = .ok (.ifCond .eq 7, 3) := by decide +kernel
theorem d_M_good_58 : decode b_M_good 58 = .ok (.iconst 1, 1) := by decide +kernel
theorem d_M_good_59 : decode b_M_good 59 = .ok (.goto 4, 3) := by decide +kernel
theorem d_M_good_62 : decode b_M_good 62 = .ok (.iconst 0, 1) := by decide +kernel
theorem d_M_good_63 : decode b_M_good 63 = .ok (.istore_n 1, 1) := by decide +kernel
theorem d_M_good_64 : decode b_M_good 64 = .ok (.iinc 2 1, 3) := by decide +kernel
theorem d_M_good_67 : decode b_M_good 67 = .ok (.goto (-41), 3) := by decide +kernel
theorem d_M_good_70 : decode b_M_good 70 = .ok (.iconst 0, 1) := by decide +kernel
theorem d_M_good_71 : decode b_M_good 71 = .ok (.istore_n 2, 1) := by decide +kernel
theorem d_M_good_72 : decode b_M_good 72 = .ok (.iload_n 2, 1) := by decide +kernel
theorem d_M_good_73 : decode b_M_good 73 = .ok (.bipush 25, 2) := by decide +kernel
theorem d_M_good_75 : decode b_M_good 75 = .ok (.if_icmp .ge 59, 3) := by decide +kernel
theorem d_M_good_78 : decode b_M_good 78 = .ok (.iload_n 1, 1) := by decide +kernel
theorem d_M_good_79 : decode b_M_good 79 = .ok (.ifCond .eq 55, 3) := by decide +kernel
theorem d_M_good_82 : decode b_M_good 82 = .ok (.iconst 0, 1) := by decide +kernel
theorem d_M_good_83 : decode b_M_good 83 = .ok (.istore_n 3, 1) := by decide +kernel
theorem d_M_good_84 : decode b_M_good 84 = .ok (.iload_n 3, 1) := by decide +kernel
theorem d_M_good_85 : decode b_M_good 85 = .ok (.aload_n 0, 1) := by decide +kernel
theorem d_M_good_86 : decode b_M_good 86 = .ok (.getfield 44, 3) := by decide +kernel
theorem d_M_good_89 : decode b_M_good 89 = .ok (.bipush 8, 2) := by decide +kernel
theorem d_M_good_91 : decode b_M_good 91 = .ok (.iaload, 1) := by decide +kernel
theorem d_M_good_92 : decode b_M_good 92 = .ok (.if_icmp .ge 36, 3) := by decide +kernel
theorem d_M_good_95 : decode b_M_good 95 = .ok (.iload_n 1, 1) := by decide +kernel
theorem d_M_good_96 : decode b_M_good 96 = .ok (.ifCond .eq 32, 3) := by decide +kernel
theorem d_M_good_99 : decode b_M_good 99 = .ok (.aload_n 0, 1) := by decide +kernel
theorem d_M_good_100 : decode b_M_good 100 = .ok (.getfield 87, 3) := by decide +kernel
theorem d_M_good_103 : decode b_M_good 103 = .ok (.iload_n 3, 1) := by decide +kernel
theorem d_M_good_104 : decode b_M_good 104 = .ok (.iaload, 1) := by decide +kernel
theorem d_M_good_105 : decode b_M_good 105 = .ok (.ifCond .lt 11, 3) := by decide +kernel
theorem d_M_good_108 : decode b_M_good 108 = .ok (.aload_n 0, 1) := by decide +kernel
theorem d_M_good_109 : decode b_M_good 109 = .ok (.iload_n 3, 1) := by decide +kernel
theorem d_M_good_110 : decode b_M_good 110 = .ok (.invokevirtual 119, 3) := by decide +kernel
theorem d_M_good_113 : decode b_M_good 113 = .ok (.ifCond .eq 7, 3) := by decide +kernel
theorem d_M_good_116 : decode b_M_good 116 = .ok (.iconst 1, 1) := by decide +kernel
theorem d_M_good_117 : decode b_M_good 117 = .ok (.goto 4, 3) := by decide +kernel
theorem d_M_good_120 : decode b_M_good 120 = .ok (.iconst 0, 1) := by decide +kernel
theorem d_M_good_121 : decode b_M_good 121 = .ok (.istore_n 1, 1) := by decide +kernel
theorem d_M_good_122 : decode b_M_good 122 = .ok (.iinc 3 1, 3) := by decide +kernel
theorem d_M_good_125 : decode b_M_good 125 = .ok (.goto (-41), 3) := by decide +kernel
theorem d_M_good_128 : decode b_M_good 128 = .ok (.iinc 2 1, 3) := by decide +kernel
theorem d_M_good_131 : decode b_M_good 131 = .ok (.goto (-59), 3) := by decide +kernel
theorem d_M_good_134 : decode b_M_good 134 = .ok (.iload_n 1, 1) := by decide +kernel
theorem d_M_good_135 : decode b_M_good 135 = .ok (.ireturn, 1) := by decide +kernel
theorem d_M_bad_0 : decode b_M_bad 0 = .ok (.aload_n 0, 1) := by decide +kernel
theorem d_M_bad_1 : decode b_M_bad 1 = .ok (.getfield 29, 3) := by decide +kernel
theorem d_M_bad_4 : decode b_M_bad 4 = .ok (.bipush 8, 2) := by decide +kernel
theorem d_M_bad_6 : decode b_M_bad 6 = .ok (.iaload, 1) := by decide +kernel
theorem d_M_bad_7 : decode b_M_bad 7 = .ok (.ifCond .eq 13, 3) := by decide +kernel
theorem d_M_bad_10 : decode b_M_bad 10 = .ok (.aload_n 0, 1) := by decide +kernel
theorem d_M_bad_11 : decode b_M_bad 11 = .ok (.getfield 44, 3) := by decide +kernel
theorem d_M_bad_14 : decode b_M_bad 14 = .ok (.bipush 8, 2) := by decide +kernel
theorem d_M_bad_16 : decode b_M_bad 16 = .ok (.iaload, 1) := by decide +kernel
theorem d_M_bad_17 : decode b_M_bad 17 = .ok (.ifCond .ne 7, 3) := by decide +kernel
theorem d_M_bad_20 : decode b_M_bad 20 = .ok (.iconst 1, 1) := by decide +kernel
theorem d_M_bad_21 : decode b_M_bad 21 = .ok (.goto 4, 3) := by decide +kernel
theorem d_M_bad_24 : decode b_M_bad 24 = .ok (.iconst 0, 1) := by decide +kernel
theorem d_M_bad_25 : decode b_M_bad 25 = .ok (.istore_n 1, 1) := by decide +kernel
theorem d_M_bad_26 : decode b_M_bad 26 = .ok (.bipush 32, 2) := by decide +kernel
theorem d_M_bad_28 : decode b_M_bad 28 = .ok (.istore_n 2, 1) := by decide +kernel
theorem d_M_bad_29 : decode b_M_bad 29 = .ok (.iload_n 2, 1) := by decide +kernel
theorem d_M_bad_30 : decode b_M_bad 30 = .ok (.bipush 32, 2) := by decide +kernel
theorem d_M_bad_32 : decode b_M_bad 32 = .ok (.aload_n 0, 1) := by decide +kernel
theorem d_M_bad_33 : decode b_M_bad 33 = .ok (.getfield 29, 3) := by decide +kernel
theorem d_M_bad_36 : decode b_M_bad 36 = .ok (.bipush 8, 2) := by decide +kernel
theorem d_M_bad_38 : decode b_M_bad 38 = .ok (.iaload, 1) := by decide +kernel
theorem d_M_bad_39 : decode b_M_bad 39 = .ok (.iadd, 1) := by decide +kernel
theorem d_M_bad_40 : decode b_M_bad 40 = .ok (.if_icmp .ge 38, 3) := by decide +kernel
theorem d_M_bad_43 : decode b_M_bad 43 = .ok (.iload_n 1, 1) := by decide +kernel
theorem d_M_bad_44 : decode b_M_bad 44 = .ok (.ifCond .ne 22, 3) := by decide +kernel
theorem d_M_bad_47 : decode b_M_bad 47 = .ok (.aload_n 0, 1) := by decide +kernel
theorem d_M_bad_48 : decode b_M_bad 48 = .ok (.getfield 41, 3) := by decide +kernel
theorem d_M_bad_51 : decode b_M_bad 51 = .ok (.iload_n 2, 1) := by decide +kernel
theorem d_M_bad_52 : decode b_M_bad 52 = .ok (.iaload, 1) := by decide +kernel
theorem d_M_bad_53 : decode b_M_bad 53 = .ok (.aload_n 0, 1) := by decide +kernel
theorem d_M_bad_54 : decode b_M_bad 54 = .ok (.getfield 44, 3) := by decide +kernel
theorem d_M_bad_57 : decode b_M_bad 57 = .ok (.bipush 8, 2) := by decide +kernel
theorem d_M_bad_59 : decode b_M_bad 59 = .ok (.iaload, 1) := by decide +kernel
theorem d_M_bad_60 : decode b_M_bad 60 = .ok (.invokestatic 93, 3) := by decide +kernel
theorem d_M_bad_63 : decode b_M_bad 63 = .ok (.ifCond .ne 7, 3) := by decide +kernel
theorem d_M_bad_66 : decode b_M_bad 66 = .ok (.iconst 1, 1) := by decide +kernel
theorem d_M_bad_67 : decode b_M_bad 67 = .ok (.goto 4, 3) := by decide +kernel
theorem d_M_bad_70 : decode b_M_bad 70 = .ok (.iconst 0, 1) := by decide +kernel
theorem d_M_bad_71 : decode b_M_bad 71 = .ok (.istore_n 1, 1) := by decide +kernel
theorem d_M_bad_72 : decode b_M_bad 72 = .ok (.iinc 2 1, 3) := by decide +kernel
theorem d_M_bad_75 : decode b_M_bad 75 = .ok (.goto (-46), 3) := by decide +kernel
theorem d_M_bad_78 : decode b_M_bad 78 = .ok (.iload_n 1, 1) := by decide +kernel
theorem d_M_bad_79 : decode b_M_bad 79 = .ok (.ifCond .ne 24, 3) := by decide +kernel
theorem d_M_bad_82 : decode b_M_bad 82 = .ok (.aload_n 0, 1) := by decide +kernel
theorem d_M_bad_83 : decode b_M_bad 83 = .ok (.getfield 20, 3) := by decide +kernel
theorem d_M_bad_86 : decode b_M_bad 86 = .ok (.bipush 8, 2) := by decide +kernel
theorem d_M_bad_88 : decode b_M_bad 88 = .ok (.iaload, 1) := by decide +kernel
theorem d_M_bad_89 : decode b_M_bad 89 = .ok (.aload_n 0, 1) := by decide +kernel
theorem d_M_bad_90 : decode b_M_bad 90 = .ok (.invokevirtual 105, 3) := by decide +kernel
theorem d_M_bad_93 : decode b_M_bad 93 = .ok (.if_icmp .ne 10, 3) := by decide +kernel
theorem d_M_bad_96 : decode b_M_bad 96 = .ok (.aload_n 0, 1) := by decide +kernel
theorem d_M_bad_97 : decode b_M_bad 97 = .ok (.invokevirtual 123, 3) := by decide +kernel
theorem d_M_bad_100 : decode b_M_bad 100 = .ok (.ifCond .ne 7, 3) := by decide +kernel
theorem d_M_bad_103 : decode b_M_bad 103 = .ok (.iconst 1, 1) := by decide +kernel
theorem d_M_bad_104 : decode b_M_bad 104 = .ok (.goto 4, 3) := by decide +kernel
theorem d_M_bad_107 : decode b_M_bad 107 = .ok (.iconst 0, 1) := by decide +kernel
theorem d_M_bad_108 : decode b_M_bad 108 = .ok (.ireturn, 1) := by decide +kernel
theorem d_M_clashes_0 : decode b_M_clashes 0 = .ok (.aload_n 0, 1) := by decide +kernel
theorem d_M_clashes_1 : decode b_M_clashes 1 = .ok (.getfield 97, 3) := by decide +kernel
theorem d_M_clashes_4 : decode b_M_clashes 4 = .ok (.istore_n 1, 1) := by decide +kernel
theorem d_M_clashes_5 : decode b_M_clashes 5 = .ok (.aload_n 0, 1) := by decide +kernel
theorem d_M_clashes_6 : decode b_M_clashes 6 = .ok (.getfield 7, 3) := by decide +kernel
theorem d_M_clashes_9 : decode b_M_clashes 9 = .ok (.iload_n 1, 1) := by decide +kernel
theorem d_M_clashes_10 : decode b_M_clashes 10 = .ok (.baload, 1) := by decide +kernel
theorem d_M_clashes_11 : decode b_M_clashes 11 = .ok (.ifCond .eq 39, 3) := by decide +kernel
theorem d_M_clashes_14 : decode b_M_clashes 14 = .ok (.aload_n 0, 1) := by decide +kernel
theorem d_M_clashes_15 : decode b_M_clashes 15 = .ok (.getfield 17, 3) := by decide +kernel
theorem d_M_clashes_18 : decode b_M_clashes 18 = .ok (.iload_n 1, 1) := by decide +kernel
theorem d_M_clashes_19 : decode b_M_clashes 19 = .ok (.iaload, 1) := by decide +kernel
theorem d_M_clashes_20 : decode b_M_clashes 20 = .ok (.aload_n 0, 1) := by decide +kernel
theorem d_M_clashes_21 : decode b_M_clashes 21 = .ok (.getfield 17, 3) := by decide +kernel
theorem d_M_clashes_24 : decode b_M_clashes 24 = .ok (.bipush 8, 2) := by decide +kernel
theorem d_M_clashes_26 : decode b_M_clashes 26 = .ok (.iaload, 1) := by decide +kernel
theorem d_M_clashes_27 : decode b_M_clashes 27 = .ok (.if_icmp .ne 19, 3) := by decide +kernel
theorem d_M_clashes_30 : decode b_M_clashes 30 = .ok (.aload_n 0, 1) := by decide +kernel
theorem d_M_clashes_31 : decode b_M_clashes 31 = .ok (.getfield 13, 3) := by decide +kernel
theorem d_M_clashes_34 : decode b_M_clashes 34 = .ok (.iload_n 1, 1) := by decide +kernel
theorem d_M_clashes_35 : decode b_M_clashes 35 = .ok (.iaload, 1) := by decide +kernel
theorem d_M_clashes_36 : decode b_M_clashes 36 = .ok (.aload_n 0, 1) := by decide +kernel
theorem d_M_clashes_37 : decode b_M_clashes 37 = .ok (.getfield 13, 3) := by decide +kernel
theorem d_M_clashes_40 : decode b_M_clashes 40 = .ok (.bipush 8, 2) := by decide +kernel
theorem d_M_clashes_42 : decode b_M_clashes 42 = .ok (.iaload, 1) := by decide +kernel
theorem d_M_clashes_43 : decode b_M_clashes 43 = .ok (.if_icmp .lt 7, 3) := by decide +kernel
theorem d_M_clashes_46 : decode b_M_clashes 46 = .ok (.iconst 1, 1) := by decide +kernel
theorem d_M_clashes_47 : decode b_M_clashes 47 = .ok (.goto 4, 3) := by decide +kernel
theorem d_M_clashes_50 : decode b_M_clashes 50 = .ok (.iconst 0, 1) := by decide +kernel
theorem d_M_clashes_51 : decode b_M_clashes 51 = .ok (.istore_n 2, 1) := by decide +kernel
theorem d_M_clashes_52 : decode b_M_clashes 52 = .ok (.iconst 0, 1) := by decide +kernel
theorem d_M_clashes_53 : decode b_M_clashes 53 = .ok (.istore_n 3, 1) := by decide +kernel
theorem d_M_clashes_54 : decode b_M_clashes 54 = .ok (.iload_n 3, 1) := by decide +kernel
theorem d_M_clashes_55 : decode b_M_clashes 55 = .ok (.bipush 8, 2) := by decide +kernel
theorem d_M_clashes_57 : decode b_M_clashes 57 = .ok (.if_icmp .ge 77, 3) := by decide +kernel
theorem d_M_clashes_60 : decode b_M_clashes 60 = .ok (.iconst 0, 1) := by decide +kernel
theorem d_M_clashes_61 : decode b_M_clashes 61 = .ok (.istore 4, 2) := by decide +kernel
theorem d_M_clashes_63 : decode b_M_clashes 63 = .ok (.iload 4, 2) := by decide +kernel
theorem d_M_clashes_65 : decode b_M_clashes 65 = .ok (.bipush 8, 2) := by decide +kernel
theorem d_M_clashes_67 : decode b_M_clashes 67 = .ok (.if_icmp .ge 61, 3) := by decide +kernel
theorem d_M_clashes_70 : decode b_M_clashes 70 = .ok (.iload_n 2, 1) := by decide +kernel
theorem d_M_clashes_71 : decode b_M_clashes 71 = .ok (.ifCond .ne 45, 3) := by decide +kernel
theorem d_M_clashes_74 : decode b_M_clashes 74 = .ok (.iload_n 3, 1) := by decide +kernel
theorem d_M_clashes_75 : decode b_M_clashes 75 = .ok (.iload_n 1, 1) := by decide +kernel
theorem d_M_clashes_76 : decode b_M_clashes 76 = .ok (.if_icmp .eq 44, 3) := by decide +kernel
theorem d_M_clashes_79 : decode b_M_clashes 79 = .ok (.aload_n 0, 1) := by decide +kernel
theorem d_M_clashes_80 : decode b_M_clashes 80 = .ok (.getfield 7, 3) := by decide +kernel
theorem d_M_clashes_83 : decode b_M_clashes 83 = .ok (.iload_n 3, 1) := by decide +kernel
theorem d_M_clashes_84 : decode b_M_clashes 84 = .ok (.baload, 1) := by decide +kernel
theorem d_M_clashes_85 : decode b_M_clashes 85 = .ok (.ifCond .eq 35, 3) := by decide +kernel
theorem d_M_clashes_88 : decode b_M_clashes 88 = .ok (.aload_n 0, 1) := by decide +kernel
theorem d_M_clashes_89 : decode b_M_clashes 89 = .ok (.getfield 26, 3) := by decide +kernel
theorem d_M_clashes_92 : decode b_M_clashes 92 = .ok (.bipush 8, 2) := by decide +kernel
theorem d_M_clashes_94 : decode b_M_clashes 94 = .ok (.iload_n 3, 1) := by decide +kernel
theorem d_M_clashes_95 : decode b_M_clashes 95 = .ok (.imul, 1) := by decide +kernel
theorem d_M_clashes_96 : decode b_M_clashes 96 = .ok (.iload 4, 2) := by decide +kernel
theorem d_M_clashes_98 : decode b_M_clashes 98 = .ok (.iadd, 1) := by decide +kernel
theorem d_M_clashes_99 : decode b_M_clashes 99 = .ok (.iaload, 1) := by decide +kernel
theorem d_M_clashes_100 : decode b_M_clashes 100 = .ok (.ifCond .eq 20, 3) := by decide +kernel
theorem d_M_clashes_103 : decode b_M_clashes 103 = .ok (.aload_n 0, 1) := by decide +kernel
theorem d_M_clashes_104 : decode b_M_clashes 104 = .ok (.getfield 26, 3) := by decide +kernel
theorem d_M_clashes_107 : decode b_M_clashes 107 = .ok (.bipush 64, 2) := by decide +kernel
theorem d_M_clashes_109 : decode b_M_clashes 109 = .ok (.iload 4, 2) := by decide +kernel
theorem d_M_clashes_111 : decode b_M_clashes 111 = .ok (.iadd, 1) := by decide +kernel
theorem d_M_clashes_112 : decode b_M_clashes 112 = .ok (.iaload, 1) := by decide +kernel
theorem d_M_clashes_113 : decode b_M_clashes 113 = .ok (.ifCond .eq 7, 3) := by decide +kernel
theorem d_M_clashes_116 : decode b_M_clashes 116 = .ok (.iconst 1, 1) := by decide +kernel
theorem d_M_clashes_117 : decode b_M_clashes 117 = .ok (.goto 4, 3) := by decide +kernel
theorem d_M_clashes_120 : decode b_M_clashes 120 = .ok (.iconst 0, 1) := by decide +kernel
theorem d_M_clashes_121 : decode b_M_clashes 121 = .ok (.istore_n 2, 1) := by decide +kernel
theorem d_M_clashes_122 : decode b_M_clashes 122 = .ok (.iinc 4 1, 3) := by decide +kernel
theorem d_M_clashes_125 : decode b_M_clashes 125 = .ok (.goto (-62), 3) := by decide +kernel
theorem d_M_clashes_128 : decode b_M_clashes 128 = .ok (.iinc 3 1, 3) := by decide +kernel
theorem d_M_clashes_131 : decode b_M_clashes 131 = .ok (.goto (-77), 3) := by decide +kernel
theorem d_M_clashes_134 : decode b_M_clashes 134 = .ok (.iload_n 2, 1) := by decide +kernel
theorem d_M_clashes_135 : decode b_M_clashes 135 = .ok (.ireturn, 1) := by decide +kernel
theorem d_M_install_0 : decode b_M_install 0 = .ok (.aload_n 0, 1) := by decide +kernel
theorem d_M_install_1 : decode b_M_install 1 = .ok (.aload_n 0, 1) := by decide +kernel
theorem d_M_install_2 : decode b_M_install 2 = .ok (.invokevirtual 127, 3) := by decide +kernel
theorem d_M_install_5 : decode b_M_install 5 = .ok (.ifCond .eq 7, 3) := by decide +kernel
theorem d_M_install_8 : decode b_M_install 8 = .ok (.iconst 1, 1) := by decide +kernel
theorem d_M_install_9 : decode b_M_install 9 = .ok (.goto 15, 3) := by decide +kernel
theorem d_M_install_12 : decode b_M_install 12 = .ok (.aload_n 0, 1) := by decide +kernel
theorem d_M_install_13 : decode b_M_install 13 = .ok (.invokevirtual 130, 3) := by decide +kernel
theorem d_M_install_16 : decode b_M_install 16 = .ok (.ifCond .eq 7, 3) := by decide +kernel
theorem d_M_install_19 : decode b_M_install 19 = .ok (.iconst 2, 1) := by decide +kernel
theorem d_M_install_20 : decode b_M_install 20 = .ok (.goto 4, 3) := by decide +kernel
theorem d_M_install_23 : decode b_M_install 23 = .ok (.iconst 0, 1) := by decide +kernel
theorem d_M_install_24 : decode b_M_install 24 = .ok (.putfield 90, 3) := by decide +kernel
theorem d_M_install_27 : decode b_M_install 27 = .ok (.aload_n 0, 1) := by decide +kernel
theorem d_M_install_28 : decode b_M_install 28 = .ok (.getfield 90, 3) := by decide +kernel
theorem d_M_install_31 : decode b_M_install 31 = .ok (.ifCond .le 5, 3) := by decide +kernel
theorem d_M_install_34 : decode b_M_install 34 = .ok (.iconst 0, 1) := by decide +kernel
theorem d_M_install_35 : decode b_M_install 35 = .ok (.ireturn, 1) := by decide +kernel
theorem d_M_install_36 : decode b_M_install 36 = .ok (.aload_n 0, 1) := by decide +kernel
theorem d_M_install_37 : decode b_M_install 37 = .ok (.getfield 97, 3) := by decide +kernel
theorem d_M_install_40 : decode b_M_install 40 = .ok (.istore_n 1, 1) := by decide +kernel
theorem d_M_install_41 : decode b_M_install 41 = .ok (.aload_n 0, 1) := by decide +kernel
theorem d_M_install_42 : decode b_M_install 42 = .ok (.getfield 56, 3) := by decide +kernel
theorem d_M_install_45 : decode b_M_install 45 = .ok (.iload_n 1, 1) := by decide +kernel
theorem d_M_install_46 : decode b_M_install 46 = .ok (.aload_n 0, 1) := by decide +kernel
theorem d_M_install_47 : decode b_M_install 47 = .ok (.getfield 7, 3) := by decide +kernel
theorem d_M_install_50 : decode b_M_install 50 = .ok (.iload_n 1, 1) := by decide +kernel
theorem d_M_install_51 : decode b_M_install 51 = .ok (.baload, 1) := by decide +kernel
theorem d_M_install_52 : decode b_M_install 52 = .ok (.ifCond .eq 20, 3) := by decide +kernel
theorem d_M_install_55 : decode b_M_install 55 = .ok (.aload_n 0, 1) := by decide +kernel
theorem d_M_install_56 : decode b_M_install 56 = .ok (.getfield 56, 3) := by decide +kernel
theorem d_M_install_59 : decode b_M_install 59 = .ok (.iload_n 1, 1) := by decide +kernel
theorem d_M_install_60 : decode b_M_install 60 = .ok (.iaload, 1) := by decide +kernel
theorem d_M_install_61 : decode b_M_install 61 = .ok (.aload_n 0, 1) := by decide +kernel
theorem d_M_install_62 : decode b_M_install 62 = .ok (.getfield 23, 3) := by decide +kernel
theorem d_M_install_65 : decode b_M_install 65 = .ok (.bipush 8, 2) := by decide +kernel
theorem d_M_install_67 : decode b_M_install 67 = .ok (.iaload, 1) := by decide +kernel
theorem d_M_install_68 : decode b_M_install 68 = .ok (.iand, 1) := by decide +kernel
theorem d_M_install_69 : decode b_M_install 69 = .ok (.goto 4, 3) := by decide +kernel
theorem d_M_install_72 : decode b_M_install 72 = .ok (.iconst 0, 1) := by decide +kernel
theorem d_M_install_73 : decode b_M_install 73 = .ok (.iastore, 1) := by decide +kernel
theorem d_M_install_74 : decode b_M_install 74 = .ok (.aload_n 0, 1) := by decide +kernel
theorem d_M_install_75 : decode b_M_install 75 = .ok (.getfield 7, 3) := by decide +kernel
theorem d_M_install_78 : decode b_M_install 78 = .ok (.iload_n 1, 1) := by decide +kernel
theorem d_M_install_79 : decode b_M_install 79 = .ok (.iconst 1, 1) := by decide +kernel
theorem d_M_install_80 : decode b_M_install 80 = .ok (.bastore, 1) := by decide +kernel
theorem d_M_install_81 : decode b_M_install 81 = .ok (.aload_n 0, 1) := by decide +kernel
theorem d_M_install_82 : decode b_M_install 82 = .ok (.getfield 59, 3) := by decide +kernel
theorem d_M_install_85 : decode b_M_install 85 = .ok (.iload_n 1, 1) := by decide +kernel
theorem d_M_install_86 : decode b_M_install 86 = .ok (.iconst 0, 1) := by decide +kernel
theorem d_M_install_87 : decode b_M_install 87 = .ok (.bastore, 1) := by decide +kernel
theorem d_M_install_88 : decode b_M_install 88 = .ok (.aload_n 0, 1) := by decide +kernel
theorem d_M_install_89 : decode b_M_install 89 = .ok (.getfield 13, 3) := by decide +kernel
theorem d_M_install_92 : decode b_M_install 92 = .ok (.iload_n 1, 1) := by decide +kernel
theorem d_M_install_93 : decode b_M_install 93 = .ok (.aload_n 0, 1) := by decide +kernel
theorem d_M_install_94 : decode b_M_install 94 = .ok (.getfield 13, 3) := by decide +kernel
theorem d_M_install_97 : decode b_M_install 97 = .ok (.bipush 8, 2) := by decide +kernel
theorem d_M_install_99 : decode b_M_install 99 = .ok (.iaload, 1) := by decide +kernel
theorem d_M_install_100 : decode b_M_install 100 = .ok (.iastore, 1) := by decide +kernel
theorem d_M_install_101 : decode b_M_install 101 = .ok (.aload_n 0, 1) := by decide +kernel
theorem d_M_install_102 : decode b_M_install 102 = .ok (.getfield 17, 3) := by decide +kernel
theorem d_M_install_105 : decode b_M_install 105 = .ok (.iload_n 1, 1) := by decide +kernel
theorem d_M_install_106 : decode b_M_install 106 = .ok (.aload_n 0, 1) := by decide +kernel
theorem d_M_install_107 : decode b_M_install 107 = .ok (.getfield 17, 3) := by decide +kernel
theorem d_M_install_110 : decode b_M_install 110 = .ok (.bipush 8, 2) := by decide +kernel
theorem d_M_install_112 : decode b_M_install 112 = .ok (.iaload, 1) := by decide +kernel
theorem d_M_install_113 : decode b_M_install 113 = .ok (.iastore, 1) := by decide +kernel
theorem d_M_install_114 : decode b_M_install 114 = .ok (.aload_n 0, 1) := by decide +kernel
theorem d_M_install_115 : decode b_M_install 115 = .ok (.getfield 23, 3) := by decide +kernel
theorem d_M_install_118 : decode b_M_install 118 = .ok (.iload_n 1, 1) := by decide +kernel
theorem d_M_install_119 : decode b_M_install 119 = .ok (.aload_n 0, 1) := by decide +kernel
theorem d_M_install_120 : decode b_M_install 120 = .ok (.getfield 23, 3) := by decide +kernel
theorem d_M_install_123 : decode b_M_install 123 = .ok (.bipush 8, 2) := by decide +kernel
theorem d_M_install_125 : decode b_M_install 125 = .ok (.iaload, 1) := by decide +kernel
theorem d_M_install_126 : decode b_M_install 126 = .ok (.iastore, 1) := by decide +kernel
theorem d_M_install_127 : decode b_M_install 127 = .ok (.aload_n 0, 1) := by decide +kernel
theorem d_M_install_128 : decode b_M_install 128 = .ok (.getfield 29, 3) := by decide +kernel
theorem d_M_install_131 : decode b_M_install 131 = .ok (.iload_n 1, 1) := by decide +kernel
theorem d_M_install_132 : decode b_M_install 132 = .ok (.aload_n 0, 1) := by decide +kernel
theorem d_M_install_133 : decode b_M_install 133 = .ok (.getfield 29, 3) := by decide +kernel
theorem d_M_install_136 : decode b_M_install 136 = .ok (.bipush 8, 2) := by decide +kernel
theorem d_M_install_138 : decode b_M_install 138 = .ok (.iaload, 1) := by decide +kernel
theorem d_M_install_139 : decode b_M_install 139 = .ok (.iastore, 1) := by decide +kernel
theorem d_M_install_140 : decode b_M_install 140 = .ok (.aload_n 0, 1) := by decide +kernel
theorem d_M_install_141 : decode b_M_install 141 = .ok (.getfield 44, 3) := by decide +kernel
theorem d_M_install_144 : decode b_M_install 144 = .ok (.iload_n 1, 1) := by decide +kernel
theorem d_M_install_145 : decode b_M_install 145 = .ok (.aload_n 0, 1) := by decide +kernel
theorem d_M_install_146 : decode b_M_install 146 = .ok (.getfield 44, 3) := by decide +kernel
theorem d_M_install_149 : decode b_M_install 149 = .ok (.bipush 8, 2) := by decide +kernel
theorem d_M_install_151 : decode b_M_install 151 = .ok (.iaload, 1) := by decide +kernel
theorem d_M_install_152 : decode b_M_install 152 = .ok (.iastore, 1) := by decide +kernel
theorem d_M_install_153 : decode b_M_install 153 = .ok (.iconst 0, 1) := by decide +kernel
theorem d_M_install_154 : decode b_M_install 154 = .ok (.istore_n 2, 1) := by decide +kernel
theorem d_M_install_155 : decode b_M_install 155 = .ok (.iload_n 2, 1) := by decide +kernel
theorem d_M_install_156 : decode b_M_install 156 = .ok (.bipush 8, 2) := by decide +kernel
theorem d_M_install_158 : decode b_M_install 158 = .ok (.if_icmp .ge 29, 3) := by decide +kernel
theorem d_M_install_161 : decode b_M_install 161 = .ok (.aload_n 0, 1) := by decide +kernel
theorem d_M_install_162 : decode b_M_install 162 = .ok (.getfield 26, 3) := by decide +kernel
theorem d_M_install_165 : decode b_M_install 165 = .ok (.bipush 8, 2) := by decide +kernel
theorem d_M_install_167 : decode b_M_install 167 = .ok (.iload_n 1, 1) := by decide +kernel
theorem d_M_install_168 : decode b_M_install 168 = .ok (.imul, 1) := by decide +kernel
theorem d_M_install_169 : decode b_M_install 169 = .ok (.iload_n 2, 1) := by decide +kernel
theorem d_M_install_170 : decode b_M_install 170 = .ok (.iadd, 1) := by decide +kernel
theorem d_M_install_171 : decode b_M_install 171 = .ok (.aload_n 0, 1) := by decide +kernel
theorem d_M_install_172 : decode b_M_install 172 = .ok (.getfield 26, 3) := by decide +kernel
theorem d_M_install_175 : decode b_M_install 175 = .ok (.bipush 64, 2) := by decide +kernel
theorem d_M_install_177 : decode b_M_install 177 = .ok (.iload_n 2, 1) := by decide +kernel
theorem d_M_install_178 : decode b_M_install 178 = .ok (.iadd, 1) := by decide +kernel
theorem d_M_install_179 : decode b_M_install 179 = .ok (.iaload, 1) := by decide +kernel
theorem d_M_install_180 : decode b_M_install 180 = .ok (.iastore, 1) := by decide +kernel
theorem d_M_install_181 : decode b_M_install 181 = .ok (.iinc 2 1, 3) := by decide +kernel
theorem d_M_install_184 : decode b_M_install 184 = .ok (.goto (-29), 3) := by decide +kernel
theorem d_M_install_187 : decode b_M_install 187 = .ok (.iconst 0, 1) := by decide +kernel
theorem d_M_install_188 : decode b_M_install 188 = .ok (.istore_n 2, 1) := by decide +kernel
theorem d_M_install_189 : decode b_M_install 189 = .ok (.iload_n 2, 1) := by decide +kernel
theorem d_M_install_190 : decode b_M_install 190 = .ok (.iconst 4, 1) := by decide +kernel
theorem d_M_install_191 : decode b_M_install 191 = .ok (.if_icmp .ge 85, 3) := by decide +kernel
theorem d_M_install_194 : decode b_M_install 194 = .ok (.aload_n 0, 1) := by decide +kernel
theorem d_M_install_195 : decode b_M_install 195 = .ok (.getfield 32, 3) := by decide +kernel
theorem d_M_install_198 : decode b_M_install 198 = .ok (.iconst 4, 1) := by decide +kernel
theorem d_M_install_199 : decode b_M_install 199 = .ok (.iload_n 1, 1) := by decide +kernel
theorem d_M_install_200 : decode b_M_install 200 = .ok (.imul, 1) := by decide +kernel
theorem d_M_install_201 : decode b_M_install 201 = .ok (.iload_n 2, 1) := by decide +kernel
theorem d_M_install_202 : decode b_M_install 202 = .ok (.iadd, 1) := by decide +kernel
theorem d_M_install_203 : decode b_M_install 203 = .ok (.aload_n 0, 1) := by decide +kernel
theorem d_M_install_204 : decode b_M_install 204 = .ok (.getfield 32, 3) := by decide +kernel
theorem d_M_install_207 : decode b_M_install 207 = .ok (.bipush 32, 2) := by decide +kernel
theorem d_M_install_209 : decode b_M_install 209 = .ok (.iload_n 2, 1) := by decide +kernel
theorem d_M_install_210 : decode b_M_install 210 = .ok (.iadd, 1) := by decide +kernel
theorem d_M_install_211 : decode b_M_install 211 = .ok (.iaload, 1) := by decide +kernel
theorem d_M_install_212 : decode b_M_install 212 = .ok (.iastore, 1) := by decide +kernel
theorem d_M_install_213 : decode b_M_install 213 = .ok (.aload_n 0, 1) := by decide +kernel
theorem d_M_install_214 : decode b_M_install 214 = .ok (.getfield 35, 3) := by decide +kernel
theorem d_M_install_217 : decode b_M_install 217 = .ok (.iconst 4, 1) := by decide +kernel
theorem d_M_install_218 : decode b_M_install 218 = .ok (.iload_n 1, 1) := by decide +kernel
theorem d_M_install_219 : decode b_M_install 219 = .ok (.imul, 1) := by decide +kernel
theorem d_M_install_220 : decode b_M_install 220 = .ok (.iload_n 2, 1) := by decide +kernel
theorem d_M_install_221 : decode b_M_install 221 = .ok (.iadd, 1) := by decide +kernel
theorem d_M_install_222 : decode b_M_install 222 = .ok (.aload_n 0, 1) := by decide +kernel
theorem d_M_install_223 : decode b_M_install 223 = .ok (.getfield 35, 3) := by decide +kernel
theorem d_M_install_226 : decode b_M_install 226 = .ok (.bipush 32, 2) := by decide +kernel
theorem d_M_install_228 : decode b_M_install 228 = .ok (.iload_n 2, 1) := by decide +kernel
theorem d_M_install_229 : decode b_M_install 229 = .ok (.iadd, 1) := by decide +kernel
theorem d_M_install_230 : decode b_M_install 230 = .ok (.baload, 1) := by decide +kernel
theorem d_M_install_231 : decode b_M_install 231 = .ok (.bastore, 1) := by decide +kernel
theorem d_M_install_232 : decode b_M_install 232 = .ok (.aload_n 0, 1) := by decide +kernel
theorem d_M_install_233 : decode b_M_install 233 = .ok (.getfield 38, 3) := by decide +kernel
theorem d_M_install_236 : decode b_M_install 236 = .ok (.iconst 4, 1) := by decide +kernel
theorem d_M_install_237 : decode b_M_install 237 = .ok (.iload_n 1, 1) := by decide +kernel
theorem d_M_install_238 : decode b_M_install 238 = .ok (.imul, 1) := by decide +kernel
theorem d_M_install_239 : decode b_M_install 239 = .ok (.iload_n 2, 1) := by decide +kernel
theorem d_M_install_240 : decode b_M_install 240 = .ok (.iadd, 1) := by decide +kernel
theorem d_M_install_241 : decode b_M_install 241 = .ok (.aload_n 0, 1) := by decide +kernel
theorem d_M_install_242 : decode b_M_install 242 = .ok (.getfield 38, 3) := by decide +kernel
theorem d_M_install_245 : decode b_M_install 245 = .ok (.bipush 32, 2) := by decide +kernel
theorem d_M_install_247 : decode b_M_install 247 = .ok (.iload_n 2, 1) := by decide +kernel
theorem d_M_install_248 : decode b_M_install 248 = .ok (.iadd, 1) := by decide +kernel
theorem d_M_install_249 : decode b_M_install 249 = .ok (.iaload, 1) := by decide +kernel
theorem d_M_install_250 : decode b_M_install 250 = .ok (.iastore, 1) := by decide +kernel
theorem d_M_install_251 : decode b_M_install 251 = .ok (.aload_n 0, 1) := by decide +kernel
theorem d_M_install_252 : decode b_M_install 252 = .ok (.getfield 41, 3) := by decide +kernel
theorem d_M_install_255 : decode b_M_install 255 = .ok (.iconst 4, 1) := by decide +kernel
theorem d_M_install_256 : decode b_M_install 256 = .ok (.iload_n 1, 1) := by decide +kernel
theorem d_M_install_257 : decode b_M_install 257 = .ok (.imul, 1) := by decide +kernel
theorem d_M_install_258 : decode b_M_install 258 = .ok (.iload_n 2, 1) := by decide +kernel
theorem d_M_install_259 : decode b_M_install 259 = .ok (.iadd, 1) := by decide +kernel
theorem d_M_install_260 : decode b_M_install 260 = .ok (.aload_n 0, 1) := by decide +kernel
theorem d_M_install_261 : decode b_M_install 261 = .ok (.getfield 41, 3) := by decide +kernel
theorem d_M_install_264 : decode b_M_install 264 = .ok (.bipush 32, 2) := by decide +kernel
theorem d_M_install_266 : decode b_M_install 266 = .ok (.iload_n 2, 1) := by decide +kernel
theorem d_M_install_267 : decode b_M_install 267 = .ok (.iadd, 1) := by decide +kernel
theorem d_M_install_268 : decode b_M_install 268 = .ok (.iaload, 1) := by decide +kernel
theorem d_M_install_269 : decode b_M_install 269 = .ok (.iastore, 1) := by decide +kernel
theorem d_M_install_270 : decode b_M_install 270 = .ok (.iinc 2 1, 3) := by decide +kernel
theorem d_M_install_273 : decode b_M_install 273 = .ok (.goto (-84), 3) := by decide +kernel
theorem d_M_install_276 : decode b_M_install 276 = .ok (.iconst 0, 1) := by decide +kernel
theorem d_M_install_277 : decode b_M_install 277 = .ok (.istore_n 2, 1) := by decide +kernel
theorem d_M_install_278 : decode b_M_install 278 = .ok (.iload_n 2, 1) := by decide +kernel
theorem d_M_install_279 : decode b_M_install 279 = .ok (.bipush 24, 2) := by decide +kernel
theorem d_M_install_281 : decode b_M_install 281 = .ok (.if_icmp .ge 30, 3) := by decide +kernel
theorem d_M_install_284 : decode b_M_install 284 = .ok (.aload_n 0, 1) := by decide +kernel
theorem d_M_install_285 : decode b_M_install 285 = .ok (.getfield 47, 3) := by decide +kernel
theorem d_M_install_288 : decode b_M_install 288 = .ok (.bipush 24, 2) := by decide +kernel
theorem d_M_install_290 : decode b_M_install 290 = .ok (.iload_n 1, 1) := by decide +kernel
end
section
theorem d_M_install_291 : decode b_M_install 291 = .ok (.imul, 1) := by decide +kernel
theorem d_M_install_292 : decode b_M_install 292 = .ok (.iload_n 2, 1) := by decide +kernel
theorem d_M_install_293 : decode b_M_install 293 = .ok (.iadd, 1) := by decide +kernel
theorem d_M_install_294 : decode b_M_install 294 = .ok (.aload_n 0, 1) := by decide +kernel
theorem d_M_install_295 : decode b_M_install 295 = .ok (.getfield 47, 3) := by decide +kernel
theorem d_M_install_298 : decode b_M_install 298 = .ok (.sipush 192, 3) := by decide +kernel
theorem d_M_install_301 : decode b_M_install 301 = .ok (.iload_n 2, 1) := by decide +kernel
theorem d_M_install_302 : decode b_M_install 302 = .ok (.iadd, 1) := by decide +kernel
theorem d_M_install_303 : decode b_M_install 303 = .ok (.iaload, 1) := by decide +kernel
theorem d_M_install_304 : decode b_M_install 304 = .ok (.iastore, 1) := by decide +kernel
theorem d_M_install_305 : decode b_M_install 305 = .ok (.iinc 2 1, 3) := by decide +kernel
theorem d_M_install_308 : decode b_M_install 308 = .ok (.goto (-30), 3) := by decide +kernel
theorem d_M_install_311 : decode b_M_install 311 = .ok (.iload_n 1, 1) := by decide +kernel
theorem d_M_install_312 : decode b_M_install 312 = .ok (.ireturn, 1) := by decide +kernel
theorem d_M_remove_0 : decode b_M_remove 0 = .ok (.aload_n 0, 1) := by decide +kernel
theorem d_M_remove_1 : decode b_M_remove 1 = .ok (.iconst 0, 1) := by decide +kernel
theorem d_M_remove_2 : decode b_M_remove 2 = .ok (.putfield 90, 3) := by decide +kernel
theorem d_M_remove_5 : decode b_M_remove 5 = .ok (.aload_n 0, 1) := by decide +kernel
theorem d_M_remove_6 : decode b_M_remove 6 = .ok (.iload_n 1, 1) := by decide +kernel
theorem d_M_remove_7 : decode b_M_remove 7 = .ok (.invokevirtual 133, 3) := by decide +kernel
theorem d_M_remove_10 : decode b_M_remove 10 = .ok (.ifCond .ne 5, 3) := by decide +kernel
theorem d_M_remove_13 : decode b_M_remove 13 = .ok (.iconst 0, 1) := by decide +kernel
theorem d_M_remove_14 : decode b_M_remove 14 = .ok (.ireturn, 1) := by decide +kernel
theorem d_M_remove_15 : decode b_M_remove 15 = .ok (.aload_n 0, 1) := by decide +kernel
theorem d_M_remove_16 : decode b_M_remove 16 = .ok (.getfield 7, 3) := by decide +kernel
theorem d_M_remove_19 : decode b_M_remove 19 = .ok (.iload_n 1, 1) := by decide +kernel
theorem d_M_remove_20 : decode b_M_remove 20 = .ok (.iconst 0, 1) := by decide +kernel
theorem d_M_remove_21 : decode b_M_remove 21 = .ok (.bastore, 1) := by decide +kernel
theorem d_M_remove_22 : decode b_M_remove 22 = .ok (.aload_n 0, 1) := by decide +kernel
theorem d_M_remove_23 : decode b_M_remove 23 = .ok (.getfield 59, 3) := by decide +kernel
theorem d_M_remove_26 : decode b_M_remove 26 = .ok (.iload_n 1, 1) := by decide +kernel
theorem d_M_remove_27 : decode b_M_remove 27 = .ok (.iconst 0, 1) := by decide +kernel
theorem d_M_remove_28 : decode b_M_remove 28 = .ok (.bastore, 1) := by decide +kernel
theorem d_M_remove_29 : decode b_M_remove 29 = .ok (.aload_n 0, 1) := by decide +kernel
theorem d_M_remove_30 : decode b_M_remove 30 = .ok (.getfield 56, 3) := by decide +kernel
theorem d_M_remove_33 : decode b_M_remove 33 = .ok (.iload_n 1, 1) := by decide +kernel
theorem d_M_remove_34 : decode b_M_remove 34 = .ok (.iconst 0, 1) := by decide +kernel
theorem d_M_remove_35 : decode b_M_remove 35 = .ok (.iastore, 1) := by decide +kernel
theorem d_M_remove_36 : decode b_M_remove 36 = .ok (.iconst 0, 1) := by decide +kernel
theorem d_M_remove_37 : decode b_M_remove 37 = .ok (.istore_n 2, 1) := by decide +kernel
theorem d_M_remove_38 : decode b_M_remove 38 = .ok (.iload_n 2, 1) := by decide +kernel
theorem d_M_remove_39 : decode b_M_remove 39 = .ok (.bipush 8, 2) := by decide +kernel
theorem d_M_remove_41 : decode b_M_remove 41 = .ok (.if_icmp .ge 21, 3) := by decide +kernel
theorem d_M_remove_44 : decode b_M_remove 44 = .ok (.aload_n 0, 1) := by decide +kernel
theorem d_M_remove_45 : decode b_M_remove 45 = .ok (.getfield 50, 3) := by decide +kernel
theorem d_M_remove_48 : decode b_M_remove 48 = .ok (.bipush 8, 2) := by decide +kernel
theorem d_M_remove_50 : decode b_M_remove 50 = .ok (.iload_n 1, 1) := by decide +kernel
theorem d_M_remove_51 : decode b_M_remove 51 = .ok (.imul, 1) := by decide +kernel
theorem d_M_remove_52 : decode b_M_remove 52 = .ok (.iload_n 2, 1) := by decide +kernel
theorem d_M_remove_53 : decode b_M_remove 53 = .ok (.iadd, 1) := by decide +kernel
theorem d_M_remove_54 : decode b_M_remove 54 = .ok (.iconst 0, 1) := by decide +kernel
theorem d_M_remove_55 : decode b_M_remove 55 = .ok (.bastore, 1) := by decide +kernel
theorem d_M_remove_56 : decode b_M_remove 56 = .ok (.iinc 2 1, 3) := by decide +kernel
theorem d_M_remove_59 : decode b_M_remove 59 = .ok (.goto (-21), 3) := by decide +kernel
theorem d_M_remove_62 : decode b_M_remove 62 = .ok (.iconst 0, 1) := by decide +kernel
theorem d_M_remove_63 : decode b_M_remove 63 = .ok (.istore_n 2, 1) := by decide +kernel
theorem d_M_remove_64 : decode b_M_remove 64 = .ok (.iconst 0, 1) := by decide +kernel
theorem d_M_remove_65 : decode b_M_remove 65 = .ok (.istore_n 3, 1) := by decide +kernel
theorem d_M_remove_66 : decode b_M_remove 66 = .ok (.iload_n 3, 1) := by decide +kernel
theorem d_M_remove_67 : decode b_M_remove 67 = .ok (.aload_n 0, 1) := by decide +kernel
theorem d_M_remove_68 : decode b_M_remove 68 = .ok (.getfield 136, 3) := by decide +kernel
theorem d_M_remove_71 : decode b_M_remove 71 = .ok (.if_icmp .ge 28, 3) := by decide +kernel
theorem d_M_remove_74 : decode b_M_remove 74 = .ok (.aload_n 0, 1) := by decide +kernel
theorem d_M_remove_75 : decode b_M_remove 75 = .ok (.getfield 78, 3) := by decide +kernel
theorem d_M_remove_78 : decode b_M_remove 78 = .ok (.iload_n 3, 1) := by decide +kernel
theorem d_M_remove_79 : decode b_M_remove 79 = .ok (.iaload, 1) := by decide +kernel
theorem d_M_remove_80 : decode b_M_remove 80 = .ok (.iload_n 1, 1) := by decide +kernel
theorem d_M_remove_81 : decode b_M_remove 81 = .ok (.if_icmp .eq 12, 3) := by decide +kernel
theorem d_M_remove_84 : decode b_M_remove 84 = .ok (.aload_n 0, 1) := by decide +kernel
theorem d_M_remove_85 : decode b_M_remove 85 = .ok (.iload_n 3, 1) := by decide +kernel
theorem d_M_remove_86 : decode b_M_remove 86 = .ok (.iload_n 2, 1) := by decide +kernel
theorem d_M_remove_87 : decode b_M_remove 87 = .ok (.invokevirtual 139, 3) := by decide +kernel
theorem d_M_remove_90 : decode b_M_remove 90 = .ok (.iinc 2 1, 3) := by decide +kernel
theorem d_M_remove_93 : decode b_M_remove 93 = .ok (.iinc 3 1, 3) := by decide +kernel
theorem d_M_remove_96 : decode b_M_remove 96 = .ok (.goto (-30), 3) := by decide +kernel
theorem d_M_remove_99 : decode b_M_remove 99 = .ok (.aload_n 0, 1) := by decide +kernel
theorem d_M_remove_100 : decode b_M_remove 100 = .ok (.iload_n 2, 1) := by decide +kernel
theorem d_M_remove_101 : decode b_M_remove 101 = .ok (.putfield 136, 3) := by decide +kernel
theorem d_M_remove_104 : decode b_M_remove 104 = .ok (.iconst 1, 1) := by decide +kernel
theorem d_M_remove_105 : decode b_M_remove 105 = .ok (.ireturn, 1) := by decide +kernel
theorem d_M_grant_0 : decode b_M_grant 0 = .ok (.aload_n 0, 1) := by decide +kernel
theorem d_M_grant_1 : decode b_M_grant 1 = .ok (.iconst 0, 1) := by decide +kernel
theorem d_M_grant_2 : decode b_M_grant 2 = .ok (.putfield 90, 3) := by decide +kernel
theorem d_M_grant_5 : decode b_M_grant 5 = .ok (.aload_n 0, 1) := by decide +kernel
theorem d_M_grant_6 : decode b_M_grant 6 = .ok (.iload_n 1, 1) := by decide +kernel
theorem d_M_grant_7 : decode b_M_grant 7 = .ok (.invokevirtual 133, 3) := by decide +kernel
theorem d_M_grant_10 : decode b_M_grant 10 = .ok (.ifCond .eq 39, 3) := by decide +kernel
theorem d_M_grant_13 : decode b_M_grant 13 = .ok (.iload_n 2, 1) := by decide +kernel
theorem d_M_grant_14 : decode b_M_grant 14 = .ok (.bipush 8, 2) := by decide +kernel
theorem d_M_grant_16 : decode b_M_grant 16 = .ok (.invokestatic 93, 3) := by decide +kernel
theorem d_M_grant_19 : decode b_M_grant 19 = .ok (.ifCond .eq 30, 3) := by decide +kernel
theorem d_M_grant_22 : decode b_M_grant 22 = .ok (.aload_n 0, 1) := by decide +kernel
theorem d_M_grant_23 : decode b_M_grant 23 = .ok (.getfield 23, 3) := by decide +kernel
theorem d_M_grant_26 : decode b_M_grant 26 = .ok (.iload_n 1, 1) := by decide +kernel
theorem d_M_grant_27 : decode b_M_grant 27 = .ok (.iaload, 1) := by decide +kernel
theorem d_M_grant_28 : decode b_M_grant 28 = .ok (.iload_n 2, 1) := by decide +kernel
theorem d_M_grant_29 : decode b_M_grant 29 = .ok (.ishr, 1) := by decide +kernel
theorem d_M_grant_30 : decode b_M_grant 30 = .ok (.iconst 1, 1) := by decide +kernel
theorem d_M_grant_31 : decode b_M_grant 31 = .ok (.iand, 1) := by decide +kernel
theorem d_M_grant_32 : decode b_M_grant 32 = .ok (.ifCond .eq 17, 3) := by decide +kernel
theorem d_M_grant_35 : decode b_M_grant 35 = .ok (.aload_n 0, 1) := by decide +kernel
theorem d_M_grant_36 : decode b_M_grant 36 = .ok (.getfield 56, 3) := by decide +kernel
theorem d_M_grant_39 : decode b_M_grant 39 = .ok (.iload_n 1, 1) := by decide +kernel
theorem d_M_grant_40 : decode b_M_grant 40 = .ok (.iaload, 1) := by decide +kernel
theorem d_M_grant_41 : decode b_M_grant 41 = .ok (.iload_n 2, 1) := by decide +kernel
theorem d_M_grant_42 : decode b_M_grant 42 = .ok (.ishr, 1) := by decide +kernel
theorem d_M_grant_43 : decode b_M_grant 43 = .ok (.iconst 1, 1) := by decide +kernel
theorem d_M_grant_44 : decode b_M_grant 44 = .ok (.iand, 1) := by decide +kernel
theorem d_M_grant_45 : decode b_M_grant 45 = .ok (.iconst 1, 1) := by decide +kernel
theorem d_M_grant_46 : decode b_M_grant 46 = .ok (.if_icmp .ne 5, 3) := by decide +kernel
theorem d_M_grant_49 : decode b_M_grant 49 = .ok (.iconst 0, 1) := by decide +kernel
theorem d_M_grant_50 : decode b_M_grant 50 = .ok (.ireturn, 1) := by decide +kernel
theorem d_M_grant_51 : decode b_M_grant 51 = .ok (.aload_n 0, 1) := by decide +kernel
theorem d_M_grant_52 : decode b_M_grant 52 = .ok (.getfield 56, 3) := by decide +kernel
theorem d_M_grant_55 : decode b_M_grant 55 = .ok (.iload_n 1, 1) := by decide +kernel
theorem d_M_grant_56 : decode b_M_grant 56 = .ok (.aload_n 0, 1) := by decide +kernel
theorem d_M_grant_57 : decode b_M_grant 57 = .ok (.getfield 56, 3) := by decide +kernel
theorem d_M_grant_60 : decode b_M_grant 60 = .ok (.iload_n 1, 1) := by decide +kernel
theorem d_M_grant_61 : decode b_M_grant 61 = .ok (.iaload, 1) := by decide +kernel
theorem d_M_grant_62 : decode b_M_grant 62 = .ok (.iconst 1, 1) := by decide +kernel
theorem d_M_grant_63 : decode b_M_grant 63 = .ok (.iload_n 2, 1) := by decide +kernel
theorem d_M_grant_64 : decode b_M_grant 64 = .ok (.ishl, 1) := by decide +kernel
theorem d_M_grant_65 : decode b_M_grant 65 = .ok (.ior, 1) := by decide +kernel
theorem d_M_grant_66 : decode b_M_grant 66 = .ok (.iastore, 1) := by decide +kernel
theorem d_M_grant_67 : decode b_M_grant 67 = .ok (.iconst 1, 1) := by decide +kernel
theorem d_M_grant_68 : decode b_M_grant 68 = .ok (.ireturn, 1) := by decide +kernel
theorem d_M_revoke_0 : decode b_M_revoke 0 = .ok (.aload_n 0, 1) := by decide +kernel
theorem d_M_revoke_1 : decode b_M_revoke 1 = .ok (.iconst 0, 1) := by decide +kernel
theorem d_M_revoke_2 : decode b_M_revoke 2 = .ok (.putfield 90, 3) := by decide +kernel
theorem d_M_revoke_5 : decode b_M_revoke 5 = .ok (.aload_n 0, 1) := by decide +kernel
theorem d_M_revoke_6 : decode b_M_revoke 6 = .ok (.iload_n 1, 1) := by decide +kernel
theorem d_M_revoke_7 : decode b_M_revoke 7 = .ok (.invokevirtual 133, 3) := by decide +kernel
theorem d_M_revoke_10 : decode b_M_revoke 10 = .ok (.ifCond .eq 25, 3) := by decide +kernel
theorem d_M_revoke_13 : decode b_M_revoke 13 = .ok (.iload_n 2, 1) := by decide +kernel
theorem d_M_revoke_14 : decode b_M_revoke 14 = .ok (.bipush 8, 2) := by decide +kernel
theorem d_M_revoke_16 : decode b_M_revoke 16 = .ok (.invokestatic 93, 3) := by decide +kernel
theorem d_M_revoke_19 : decode b_M_revoke 19 = .ok (.ifCond .eq 16, 3) := by decide +kernel
theorem d_M_revoke_22 : decode b_M_revoke 22 = .ok (.aload_n 0, 1) := by decide +kernel
theorem d_M_revoke_23 : decode b_M_revoke 23 = .ok (.getfield 56, 3) := by decide +kernel
theorem d_M_revoke_26 : decode b_M_revoke 26 = .ok (.iload_n 1, 1) := by decide +kernel
theorem d_M_revoke_27 : decode b_M_revoke 27 = .ok (.iaload, 1) := by decide +kernel
theorem d_M_revoke_28 : decode b_M_revoke 28 = .ok (.iload_n 2, 1) := by decide +kernel
theorem d_M_revoke_29 : decode b_M_revoke 29 = .ok (.ishr, 1) := by decide +kernel
theorem d_M_revoke_30 : decode b_M_revoke 30 = .ok (.iconst 1, 1) := by decide +kernel
theorem d_M_revoke_31 : decode b_M_revoke 31 = .ok (.iand, 1) := by decide +kernel
theorem d_M_revoke_32 : decode b_M_revoke 32 = .ok (.ifCond .ne 5, 3) := by decide +kernel
theorem d_M_revoke_35 : decode b_M_revoke 35 = .ok (.iconst 0, 1) := by decide +kernel
theorem d_M_revoke_36 : decode b_M_revoke 36 = .ok (.ireturn, 1) := by decide +kernel
theorem d_M_revoke_37 : decode b_M_revoke 37 = .ok (.aload_n 0, 1) := by decide +kernel
theorem d_M_revoke_38 : decode b_M_revoke 38 = .ok (.getfield 56, 3) := by decide +kernel
theorem d_M_revoke_41 : decode b_M_revoke 41 = .ok (.iload_n 1, 1) := by decide +kernel
theorem d_M_revoke_42 : decode b_M_revoke 42 = .ok (.aload_n 0, 1) := by decide +kernel
theorem d_M_revoke_43 : decode b_M_revoke 43 = .ok (.getfield 56, 3) := by decide +kernel
theorem d_M_revoke_46 : decode b_M_revoke 46 = .ok (.iload_n 1, 1) := by decide +kernel
theorem d_M_revoke_47 : decode b_M_revoke 47 = .ok (.iaload, 1) := by decide +kernel
theorem d_M_revoke_48 : decode b_M_revoke 48 = .ok (.iconst 1, 1) := by decide +kernel
theorem d_M_revoke_49 : decode b_M_revoke 49 = .ok (.iload_n 2, 1) := by decide +kernel
theorem d_M_revoke_50 : decode b_M_revoke 50 = .ok (.ishl, 1) := by decide +kernel
theorem d_M_revoke_51 : decode b_M_revoke 51 = .ok (.iconst (-1), 1) := by decide +kernel
theorem d_M_revoke_52 : decode b_M_revoke 52 = .ok (.ixor, 1) := by decide +kernel
theorem d_M_revoke_53 : decode b_M_revoke 53 = .ok (.iand, 1) := by decide +kernel
theorem d_M_revoke_54 : decode b_M_revoke 54 = .ok (.iastore, 1) := by decide +kernel
theorem d_M_revoke_55 : decode b_M_revoke 55 = .ok (.iconst 1, 1) := by decide +kernel
theorem d_M_revoke_56 : decode b_M_revoke 56 = .ok (.ireturn, 1) := by decide +kernel
theorem d_M_may_0 : decode b_M_may 0 = .ok (.aload_n 0, 1) := by decide +kernel
theorem d_M_may_1 : decode b_M_may 1 = .ok (.iload_n 1, 1) := by decide +kernel
theorem d_M_may_2 : decode b_M_may 2 = .ok (.invokevirtual 133, 3) := by decide +kernel
theorem d_M_may_5 : decode b_M_may 5 = .ok (.ifCond .eq 25, 3) := by decide +kernel
theorem d_M_may_8 : decode b_M_may 8 = .ok (.iload_n 2, 1) := by decide +kernel
theorem d_M_may_9 : decode b_M_may 9 = .ok (.bipush 8, 2) := by decide +kernel
theorem d_M_may_11 : decode b_M_may 11 = .ok (.invokestatic 93, 3) := by decide +kernel
theorem d_M_may_14 : decode b_M_may 14 = .ok (.ifCond .eq 16, 3) := by decide +kernel
theorem d_M_may_17 : decode b_M_may 17 = .ok (.aload_n 0, 1) := by decide +kernel
theorem d_M_may_18 : decode b_M_may 18 = .ok (.getfield 23, 3) := by decide +kernel
theorem d_M_may_21 : decode b_M_may 21 = .ok (.iload_n 1, 1) := by decide +kernel
theorem d_M_may_22 : decode b_M_may 22 = .ok (.iaload, 1) := by decide +kernel
theorem d_M_may_23 : decode b_M_may 23 = .ok (.iload_n 2, 1) := by decide +kernel
theorem d_M_may_24 : decode b_M_may 24 = .ok (.ishr, 1) := by decide +kernel
theorem d_M_may_25 : decode b_M_may 25 = .ok (.iconst 1, 1) := by decide +kernel
theorem d_M_may_26 : decode b_M_may 26 = .ok (.iand, 1) := by decide +kernel
theorem d_M_may_27 : decode b_M_may 27 = .ok (.ifCond .ne 5, 3) := by decide +kernel
theorem d_M_may_30 : decode b_M_may 30 = .ok (.iconst 0, 1) := by decide +kernel
theorem d_M_may_31 : decode b_M_may 31 = .ok (.ireturn, 1) := by decide +kernel
theorem d_M_may_32 : decode b_M_may 32 = .ok (.iconst 0, 1) := by decide +kernel
theorem d_M_may_33 : decode b_M_may 33 = .ok (.istore_n 3, 1) := by decide +kernel
theorem d_M_may_34 : decode b_M_may 34 = .ok (.iconst 0, 1) := by decide +kernel
theorem d_M_may_35 : decode b_M_may 35 = .ok (.istore 4, 2) := by decide +kernel
theorem d_M_may_37 : decode b_M_may 37 = .ok (.iload 4, 2) := by decide +kernel
theorem d_M_may_39 : decode b_M_may 39 = .ok (.bipush 8, 2) := by decide +kernel
theorem d_M_may_41 : decode b_M_may 41 = .ok (.if_icmp .ge 96, 3) := by decide +kernel
theorem d_M_may_44 : decode b_M_may 44 = .ok (.aload_n 0, 1) := by decide +kernel
theorem d_M_may_45 : decode b_M_may 45 = .ok (.getfield 7, 3) := by decide +kernel
theorem d_M_may_48 : decode b_M_may 48 = .ok (.iload 4, 2) := by decide +kernel
theorem d_M_may_50 : decode b_M_may 50 = .ok (.baload, 1) := by decide +kernel
theorem d_M_may_51 : decode b_M_may 51 = .ok (.ifCond .eq 20, 3) := by decide +kernel
theorem d_M_may_54 : decode b_M_may 54 = .ok (.aload_n 0, 1) := by decide +kernel
theorem d_M_may_55 : decode b_M_may 55 = .ok (.getfield 26, 3) := by decide +kernel
theorem d_M_may_58 : decode b_M_may 58 = .ok (.bipush 8, 2) := by decide +kernel
theorem d_M_may_60 : decode b_M_may 60 = .ok (.iload 4, 2) := by decide +kernel
theorem d_M_may_62 : decode b_M_may 62 = .ok (.imul, 1) := by decide +kernel
theorem d_M_may_63 : decode b_M_may 63 = .ok (.iload_n 2, 1) := by decide +kernel
theorem d_M_may_64 : decode b_M_may 64 = .ok (.iadd, 1) := by decide +kernel
theorem d_M_may_65 : decode b_M_may 65 = .ok (.iaload, 1) := by decide +kernel
theorem d_M_may_66 : decode b_M_may 66 = .ok (.iconst 1, 1) := by decide +kernel
theorem d_M_may_67 : decode b_M_may 67 = .ok (.isub, 1) := by decide +kernel
theorem d_M_may_68 : decode b_M_may 68 = .ok (.goto 4, 3) := by decide +kernel
theorem d_M_may_71 : decode b_M_may 71 = .ok (.iconst (-1), 1) := by decide +kernel
theorem d_M_may_72 : decode b_M_may 72 = .ok (.istore 5, 2) := by decide +kernel
theorem d_M_may_74 : decode b_M_may 74 = .ok (.iload_n 3, 1) := by decide +kernel
theorem d_M_may_75 : decode b_M_may 75 = .ok (.ifCond .ne 50, 3) := by decide +kernel
theorem d_M_may_78 : decode b_M_may 78 = .ok (.iload 5, 2) := by decide +kernel
theorem d_M_may_80 : decode b_M_may 80 = .ok (.ifCond .eq 45, 3) := by decide +kernel
theorem d_M_may_83 : decode b_M_may 83 = .ok (.iload 5, 2) := by decide +kernel
theorem d_M_may_85 : decode b_M_may 85 = .ok (.iconst 1, 1) := by decide +kernel
theorem d_M_may_86 : decode b_M_may 86 = .ok (.if_icmp .ne 17, 3) := by decide +kernel
theorem d_M_may_89 : decode b_M_may 89 = .ok (.aload_n 0, 1) := by decide +kernel
theorem d_M_may_90 : decode b_M_may 90 = .ok (.getfield 56, 3) := by decide +kernel
theorem d_M_may_93 : decode b_M_may 93 = .ok (.iload_n 1, 1) := by decide +kernel
theorem d_M_may_94 : decode b_M_may 94 = .ok (.iaload, 1) := by decide +kernel
theorem d_M_may_95 : decode b_M_may 95 = .ok (.iload_n 2, 1) := by decide +kernel
theorem d_M_may_96 : decode b_M_may 96 = .ok (.ishr, 1) := by decide +kernel
theorem d_M_may_97 : decode b_M_may 97 = .ok (.iconst 1, 1) := by decide +kernel
theorem d_M_may_98 : decode b_M_may 98 = .ok (.iand, 1) := by decide +kernel
theorem d_M_may_99 : decode b_M_may 99 = .ok (.iconst 1, 1) := by decide +kernel
theorem d_M_may_100 : decode b_M_may 100 = .ok (.if_icmp .eq 25, 3) := by decide +kernel
theorem d_M_may_103 : decode b_M_may 103 = .ok (.iload 5, 2) := by decide +kernel
theorem d_M_may_105 : decode b_M_may 105 = .ok (.iconst 2, 1) := by decide +kernel
theorem d_M_may_106 : decode b_M_may 106 = .ok (.if_icmp .ne 23, 3) := by decide +kernel
theorem d_M_may_109 : decode b_M_may 109 = .ok (.aload_n 0, 1) := by decide +kernel
theorem d_M_may_110 : decode b_M_may 110 = .ok (.getfield 17, 3) := by decide +kernel
theorem d_M_may_113 : decode b_M_may 113 = .ok (.iload 4, 2) := by decide +kernel
theorem d_M_may_115 : decode b_M_may 115 = .ok (.iaload, 1) := by decide +kernel
theorem d_M_may_116 : decode b_M_may 116 = .ok (.aload_n 0, 1) := by decide +kernel
theorem d_M_may_117 : decode b_M_may 117 = .ok (.getfield 17, 3) := by decide +kernel
theorem d_M_may_120 : decode b_M_may 120 = .ok (.iload_n 1, 1) := by decide +kernel
theorem d_M_may_121 : decode b_M_may 121 = .ok (.iaload, 1) := by decide +kernel
theorem d_M_may_122 : decode b_M_may 122 = .ok (.if_icmp .ne 7, 3) := by decide +kernel
theorem d_M_may_125 : decode b_M_may 125 = .ok (.iconst 1, 1) := by decide +kernel
theorem d_M_may_126 : decode b_M_may 126 = .ok (.goto 4, 3) := by decide +kernel
theorem d_M_may_129 : decode b_M_may 129 = .ok (.iconst 0, 1) := by decide +kernel
theorem d_M_may_130 : decode b_M_may 130 = .ok (.istore_n 3, 1) := by decide +kernel
theorem d_M_may_131 : decode b_M_may 131 = .ok (.iinc 4 1, 3) := by decide +kernel
theorem d_M_may_134 : decode b_M_may 134 = .ok (.goto (-97), 3) := by decide +kernel
theorem d_M_may_137 : decode b_M_may 137 = .ok (.iload_n 3, 1) := by decide +kernel
theorem d_M_may_138 : decode b_M_may 138 = .ok (.ireturn, 1) := by decide +kernel
theorem d_M_holds_0 : decode b_M_holds 0 = .ok (.aload_n 0, 1) := by decide +kernel
theorem d_M_holds_1 : decode b_M_holds 1 = .ok (.iconst 0, 1) := by decide +kernel
theorem d_M_holds_2 : decode b_M_holds 2 = .ok (.putfield 90, 3) := by decide +kernel
theorem d_M_holds_5 : decode b_M_holds 5 = .ok (.aload_n 0, 1) := by decide +kernel
theorem d_M_holds_6 : decode b_M_holds 6 = .ok (.iload_n 1, 1) := by decide +kernel
theorem d_M_holds_7 : decode b_M_holds 7 = .ok (.iload_n 2, 1) := by decide +kernel
theorem d_M_holds_8 : decode b_M_holds 8 = .ok (.invokevirtual 143, 3) := by decide +kernel
theorem d_M_holds_11 : decode b_M_holds 11 = .ok (.ireturn, 1) := by decide +kernel
theorem d_M_move_0 : decode b_M_move 0 = .ok (.aload_n 0, 1) := by decide +kernel
theorem d_M_move_1 : decode b_M_move 1 = .ok (.getfield 78, 3) := by decide +kernel
theorem d_M_move_4 : decode b_M_move 4 = .ok (.iload_n 2, 1) := by decide +kernel
theorem d_M_move_5 : decode b_M_move 5 = .ok (.aload_n 0, 1) := by decide +kernel
theorem d_M_move_6 : decode b_M_move 6 = .ok (.getfield 78, 3) := by decide +kernel
theorem d_M_move_9 : decode b_M_move 9 = .ok (.iload_n 1, 1) := by decide +kernel
theorem d_M_move_10 : decode b_M_move 10 = .ok (.iaload, 1) := by decide +kernel
theorem d_M_move_11 : decode b_M_move 11 = .ok (.iastore, 1) := by decide +kernel
theorem d_M_move_12 : decode b_M_move 12 = .ok (.aload_n 0, 1) := by decide +kernel
theorem d_M_move_13 : decode b_M_move 13 = .ok (.getfield 81, 3) := by decide +kernel
theorem d_M_move_16 : decode b_M_move 16 = .ok (.iload_n 2, 1) := by decide +kernel
theorem d_M_move_17 : decode b_M_move 17 = .ok (.aload_n 0, 1) := by decide +kernel
theorem d_M_move_18 : decode b_M_move 18 = .ok (.getfield 81, 3) := by decide +kernel
theorem d_M_move_21 : decode b_M_move 21 = .ok (.iload_n 1, 1) := by decide +kernel
theorem d_M_move_22 : decode b_M_move 22 = .ok (.iaload, 1) := by decide +kernel
theorem d_M_move_23 : decode b_M_move 23 = .ok (.iastore, 1) := by decide +kernel
theorem d_M_move_24 : decode b_M_move 24 = .ok (.aload_n 0, 1) := by decide +kernel
theorem d_M_move_25 : decode b_M_move 25 = .ok (.getfield 84, 3) := by decide +kernel
theorem d_M_move_28 : decode b_M_move 28 = .ok (.iload_n 2, 1) := by decide +kernel
theorem d_M_move_29 : decode b_M_move 29 = .ok (.aload_n 0, 1) := by decide +kernel
theorem d_M_move_30 : decode b_M_move 30 = .ok (.getfield 84, 3) := by decide +kernel
theorem d_M_move_33 : decode b_M_move 33 = .ok (.iload_n 1, 1) := by decide +kernel
theorem d_M_move_34 : decode b_M_move 34 = .ok (.iaload, 1) := by decide +kernel
theorem d_M_move_35 : decode b_M_move 35 = .ok (.iastore, 1) := by decide +kernel
theorem d_M_move_36 : decode b_M_move 36 = .ok (.return_, 1) := by decide +kernel
theorem d_M_post_0 : decode b_M_post 0 = .ok (.aload_n 0, 1) := by decide +kernel
theorem d_M_post_1 : decode b_M_post 1 = .ok (.getfield 136, 3) := by decide +kernel
theorem d_M_post_4 : decode b_M_post 4 = .ok (.bipush 8, 2) := by decide +kernel
theorem d_M_post_6 : decode b_M_post 6 = .ok (.if_icmp .ge 43, 3) := by decide +kernel
theorem d_M_post_9 : decode b_M_post 9 = .ok (.aload_n 0, 1) := by decide +kernel
theorem d_M_post_10 : decode b_M_post 10 = .ok (.getfield 78, 3) := by decide +kernel
theorem d_M_post_13 : decode b_M_post 13 = .ok (.aload_n 0, 1) := by decide +kernel
theorem d_M_post_14 : decode b_M_post 14 = .ok (.getfield 136, 3) := by decide +kernel
theorem d_M_post_17 : decode b_M_post 17 = .ok (.iload_n 1, 1) := by decide +kernel
theorem d_M_post_18 : decode b_M_post 18 = .ok (.iastore, 1) := by decide +kernel
theorem d_M_post_19 : decode b_M_post 19 = .ok (.aload_n 0, 1) := by decide +kernel
theorem d_M_post_20 : decode b_M_post 20 = .ok (.getfield 81, 3) := by decide +kernel
theorem d_M_post_23 : decode b_M_post 23 = .ok (.aload_n 0, 1) := by decide +kernel
theorem d_M_post_24 : decode b_M_post 24 = .ok (.getfield 136, 3) := by decide +kernel
theorem d_M_post_27 : decode b_M_post 27 = .ok (.iload_n 2, 1) := by decide +kernel
theorem d_M_post_28 : decode b_M_post 28 = .ok (.iastore, 1) := by decide +kernel
theorem d_M_post_29 : decode b_M_post 29 = .ok (.aload_n 0, 1) := by decide +kernel
theorem d_M_post_30 : decode b_M_post 30 = .ok (.getfield 84, 3) := by decide +kernel
theorem d_M_post_33 : decode b_M_post 33 = .ok (.aload_n 0, 1) := by decide +kernel
theorem d_M_post_34 : decode b_M_post 34 = .ok (.getfield 136, 3) := by decide +kernel
theorem d_M_post_37 : decode b_M_post 37 = .ok (.iload_n 3, 1) := by decide +kernel
theorem d_M_post_38 : decode b_M_post 38 = .ok (.iastore, 1) := by decide +kernel
theorem d_M_post_39 : decode b_M_post 39 = .ok (.aload_n 0, 1) := by decide +kernel
theorem d_M_post_40 : decode b_M_post 40 = .ok (.dup, 1) := by decide +kernel
theorem d_M_post_41 : decode b_M_post 41 = .ok (.getfield 136, 3) := by decide +kernel
theorem d_M_post_44 : decode b_M_post 44 = .ok (.iconst 1, 1) := by decide +kernel
theorem d_M_post_45 : decode b_M_post 45 = .ok (.iadd, 1) := by decide +kernel
theorem d_M_post_46 : decode b_M_post 46 = .ok (.putfield 136, 3) := by decide +kernel
theorem d_M_post_49 : decode b_M_post 49 = .ok (.return_, 1) := by decide +kernel
theorem d_M_send_0 : decode b_M_send 0 = .ok (.aload_n 0, 1) := by decide +kernel
theorem d_M_send_1 : decode b_M_send 1 = .ok (.iconst 0, 1) := by decide +kernel
theorem d_M_send_2 : decode b_M_send 2 = .ok (.putfield 90, 3) := by decide +kernel
theorem d_M_send_5 : decode b_M_send 5 = .ok (.aload_n 0, 1) := by decide +kernel
theorem d_M_send_6 : decode b_M_send 6 = .ok (.iload_n 1, 1) := by decide +kernel
theorem d_M_send_7 : decode b_M_send 7 = .ok (.invokevirtual 133, 3) := by decide +kernel
theorem d_M_send_10 : decode b_M_send 10 = .ok (.ifCond .eq 21, 3) := by decide +kernel
theorem d_M_send_13 : decode b_M_send 13 = .ok (.iload_n 2, 1) := by decide +kernel
theorem d_M_send_14 : decode b_M_send 14 = .ok (.bipush 10, 2) := by decide +kernel
theorem d_M_send_16 : decode b_M_send 16 = .ok (.invokestatic 93, 3) := by decide +kernel
theorem d_M_send_19 : decode b_M_send 19 = .ok (.ifCond .eq 12, 3) := by decide +kernel
theorem d_M_send_22 : decode b_M_send 22 = .ok (.aload_n 0, 1) := by decide +kernel
theorem d_M_send_23 : decode b_M_send 23 = .ok (.getfield 136, 3) := by decide +kernel
theorem d_M_send_26 : decode b_M_send 26 = .ok (.bipush 8, 2) := by decide +kernel
theorem d_M_send_28 : decode b_M_send 28 = .ok (.if_icmp .ne 5, 3) := by decide +kernel
theorem d_M_send_31 : decode b_M_send 31 = .ok (.iconst 0, 1) := by decide +kernel
theorem d_M_send_32 : decode b_M_send 32 = .ok (.ireturn, 1) := by decide +kernel
theorem d_M_send_33 : decode b_M_send 33 = .ok (.aload_n 0, 1) := by decide +kernel
theorem d_M_send_34 : decode b_M_send 34 = .ok (.iload_n 1, 1) := by decide +kernel
theorem d_M_send_35 : decode b_M_send 35 = .ok (.iload_n 2, 1) := by decide +kernel
theorem d_M_send_36 : decode b_M_send 36 = .ok (.iload_n 3, 1) := by decide +kernel
theorem d_M_send_37 : decode b_M_send 37 = .ok (.invokevirtual 146, 3) := by decide +kernel
theorem d_M_send_40 : decode b_M_send 40 = .ok (.iconst 1, 1) := by decide +kernel
theorem d_M_send_41 : decode b_M_send 41 = .ok (.ireturn, 1) := by decide +kernel
theorem d_M_takes_0 : decode b_M_takes 0 = .ok (.iconst 4, 1) := by decide +kernel
theorem d_M_takes_1 : decode b_M_takes 1 = .ok (.iload_n 1, 1) := by decide +kernel
theorem d_M_takes_2 : decode b_M_takes 2 = .ok (.imul, 1) := by decide +kernel
theorem d_M_takes_3 : decode b_M_takes 3 = .ok (.iload_n 2, 1) := by decide +kernel
theorem d_M_takes_4 : decode b_M_takes 4 = .ok (.iadd, 1) := by decide +kernel
theorem d_M_takes_5 : decode b_M_takes 5 = .ok (.istore 5, 2) := by decide +kernel
theorem d_M_takes_7 : decode b_M_takes 7 = .ok (.iload_n 2, 1) := by decide +kernel
theorem d_M_takes_8 : decode b_M_takes 8 = .ok (.aload_n 0, 1) := by decide +kernel
theorem d_M_takes_9 : decode b_M_takes 9 = .ok (.getfield 29, 3) := by decide +kernel
theorem d_M_takes_12 : decode b_M_takes 12 = .ok (.iload_n 1, 1) := by decide +kernel
theorem d_M_takes_13 : decode b_M_takes 13 = .ok (.iaload, 1) := by decide +kernel
theorem d_M_takes_14 : decode b_M_takes 14 = .ok (.if_icmp .ge 59, 3) := by decide +kernel
theorem d_M_takes_17 : decode b_M_takes 17 = .ok (.aload_n 0, 1) := by decide +kernel
theorem d_M_takes_18 : decode b_M_takes 18 = .ok (.getfield 32, 3) := by decide +kernel
theorem d_M_takes_21 : decode b_M_takes 21 = .ok (.iload 5, 2) := by decide +kernel
theorem d_M_takes_23 : decode b_M_takes 23 = .ok (.iaload, 1) := by decide +kernel
theorem d_M_takes_24 : decode b_M_takes 24 = .ok (.iload 4, 2) := by decide +kernel
theorem d_M_takes_26 : decode b_M_takes 26 = .ok (.if_icmp .ne 47, 3) := by decide +kernel
theorem d_M_takes_29 : decode b_M_takes 29 = .ok (.aload_n 0, 1) := by decide +kernel
theorem d_M_takes_30 : decode b_M_takes 30 = .ok (.getfield 35, 3) := by decide +kernel
theorem d_M_takes_33 : decode b_M_takes 33 = .ok (.iload 5, 2) := by decide +kernel
theorem d_M_takes_35 : decode b_M_takes 35 = .ok (.baload, 1) := by decide +kernel
theorem d_M_takes_36 : decode b_M_takes 36 = .ok (.ifCond .ne 8, 3) := by decide +kernel
theorem d_M_takes_39 : decode b_M_takes 39 = .ok (.iload_n 1, 1) := by decide +kernel
theorem d_M_takes_40 : decode b_M_takes 40 = .ok (.iload_n 3, 1) := by decide +kernel
theorem d_M_takes_41 : decode b_M_takes 41 = .ok (.if_icmp .ne 32, 3) := by decide +kernel
theorem d_M_takes_44 : decode b_M_takes 44 = .ok (.aload_n 0, 1) := by decide +kernel
theorem d_M_takes_45 : decode b_M_takes 45 = .ok (.getfield 38, 3) := by decide +kernel
theorem d_M_takes_48 : decode b_M_takes 48 = .ok (.iload 5, 2) := by decide +kernel
theorem d_M_takes_50 : decode b_M_takes 50 = .ok (.iaload, 1) := by decide +kernel
theorem d_M_takes_51 : decode b_M_takes 51 = .ok (.ifCond .lt 18, 3) := by decide +kernel
theorem d_M_takes_54 : decode b_M_takes 54 = .ok (.aload_n 0, 1) := by decide +kernel
theorem d_M_takes_55 : decode b_M_takes 55 = .ok (.iload_n 3, 1) := by decide +kernel
theorem d_M_takes_56 : decode b_M_takes 56 = .ok (.aload_n 0, 1) := by decide +kernel
theorem d_M_takes_57 : decode b_M_takes 57 = .ok (.getfield 38, 3) := by decide +kernel
theorem d_M_takes_60 : decode b_M_takes 60 = .ok (.iload 5, 2) := by decide +kernel
theorem d_M_takes_62 : decode b_M_takes 62 = .ok (.iaload, 1) := by decide +kernel
theorem d_M_takes_63 : decode b_M_takes 63 = .ok (.invokevirtual 143, 3) := by decide +kernel
theorem d_M_takes_66 : decode b_M_takes 66 = .ok (.ifCond .eq 7, 3) := by decide +kernel
theorem d_M_takes_69 : decode b_M_takes 69 = .ok (.iconst 1, 1) := by decide +kernel
theorem d_M_takes_70 : decode b_M_takes 70 = .ok (.goto 4, 3) := by decide +kernel
theorem d_M_takes_73 : decode b_M_takes 73 = .ok (.iconst 0, 1) := by decide +kernel
theorem d_M_takes_74 : decode b_M_takes 74 = .ok (.ireturn, 1) := by decide +kernel
theorem d_M_deliver_0 : decode b_M_deliver 0 = .ok (.aload_n 0, 1) := by decide +kernel
theorem d_M_deliver_1 : decode b_M_deliver 1 = .ok (.iconst 0, 1) := by decide +kernel
theorem d_M_deliver_2 : decode b_M_deliver 2 = .ok (.putfield 90, 3) := by decide +kernel
theorem d_M_deliver_5 : decode b_M_deliver 5 = .ok (.aload_n 0, 1) := by decide +kernel
theorem d_M_deliver_6 : decode b_M_deliver 6 = .ok (.getfield 136, 3) := by decide +kernel
theorem d_M_deliver_9 : decode b_M_deliver 9 = .ok (.ifCond .ne 5, 3) := by decide +kernel
theorem d_M_deliver_12 : decode b_M_deliver 12 = .ok (.iconst (-1), 1) := by decide +kernel
theorem d_M_deliver_13 : decode b_M_deliver 13 = .ok (.ireturn, 1) := by decide +kernel
theorem d_M_deliver_14 : decode b_M_deliver 14 = .ok (.aload_n 0, 1) := by decide +kernel
theorem d_M_deliver_15 : decode b_M_deliver 15 = .ok (.getfield 78, 3) := by decide +kernel
theorem d_M_deliver_18 : decode b_M_deliver 18 = .ok (.iconst 0, 1) := by decide +kernel
theorem d_M_deliver_19 : decode b_M_deliver 19 = .ok (.iaload, 1) := by decide +kernel
theorem d_M_deliver_20 : decode b_M_deliver 20 = .ok (.istore_n 1, 1) := by decide +kernel
theorem d_M_deliver_21 : decode b_M_deliver 21 = .ok (.aload_n 0, 1) := by decide +kernel
theorem d_M_deliver_22 : decode b_M_deliver 22 = .ok (.getfield 81, 3) := by decide +kernel
theorem d_M_deliver_25 : decode b_M_deliver 25 = .ok (.iconst 0, 1) := by decide +kernel
theorem d_M_deliver_26 : decode b_M_deliver 26 = .ok (.iaload, 1) := by decide +kernel
theorem d_M_deliver_27 : decode b_M_deliver 27 = .ok (.istore_n 2, 1) := by decide +kernel
theorem d_M_deliver_28 : decode b_M_deliver 28 = .ok (.aload_n 0, 1) := by decide +kernel
theorem d_M_deliver_29 : decode b_M_deliver 29 = .ok (.getfield 84, 3) := by decide +kernel
theorem d_M_deliver_32 : decode b_M_deliver 32 = .ok (.iconst 0, 1) := by decide +kernel
theorem d_M_deliver_33 : decode b_M_deliver 33 = .ok (.iaload, 1) := by decide +kernel
theorem d_M_deliver_34 : decode b_M_deliver 34 = .ok (.istore_n 3, 1) := by decide +kernel
theorem d_M_deliver_35 : decode b_M_deliver 35 = .ok (.aload_n 0, 1) := by decide +kernel
theorem d_M_deliver_36 : decode b_M_deliver 36 = .ok (.dup, 1) := by decide +kernel
theorem d_M_deliver_37 : decode b_M_deliver 37 = .ok (.getfield 136, 3) := by decide +kernel
theorem d_M_deliver_40 : decode b_M_deliver 40 = .ok (.iconst 1, 1) := by decide +kernel
theorem d_M_deliver_41 : decode b_M_deliver 41 = .ok (.isub, 1) := by decide +kernel
theorem d_M_deliver_42 : decode b_M_deliver 42 = .ok (.putfield 136, 3) := by decide +kernel
theorem d_M_deliver_45 : decode b_M_deliver 45 = .ok (.iconst 0, 1) := by decide +kernel
theorem d_M_deliver_46 : decode b_M_deliver 46 = .ok (.istore 4, 2) := by decide +kernel
theorem d_M_deliver_48 : decode b_M_deliver 48 = .ok (.iload 4, 2) := by decide +kernel
theorem d_M_deliver_50 : decode b_M_deliver 50 = .ok (.aload_n 0, 1) := by decide +kernel
theorem d_M_deliver_51 : decode b_M_deliver 51 = .ok (.getfield 136, 3) := by decide +kernel
theorem d_M_deliver_54 : decode b_M_deliver 54 = .ok (.if_icmp .ge 19, 3) := by decide +kernel
theorem d_M_deliver_57 : decode b_M_deliver 57 = .ok (.aload_n 0, 1) := by decide +kernel
theorem d_M_deliver_58 : decode b_M_deliver 58 = .ok (.iload 4, 2) := by decide +kernel
theorem d_M_deliver_60 : decode b_M_deliver 60 = .ok (.iconst 1, 1) := by decide +kernel
theorem d_M_deliver_61 : decode b_M_deliver 61 = .ok (.iadd, 1) := by decide +kernel
theorem d_M_deliver_62 : decode b_M_deliver 62 = .ok (.iload 4, 2) := by decide +kernel
theorem d_M_deliver_64 : decode b_M_deliver 64 = .ok (.invokevirtual 139, 3) := by decide +kernel
theorem d_M_deliver_67 : decode b_M_deliver 67 = .ok (.iinc 4 1, 3) := by decide +kernel
theorem d_M_deliver_70 : decode b_M_deliver 70 = .ok (.goto (-22), 3) := by decide +kernel
theorem d_M_deliver_73 : decode b_M_deliver 73 = .ok (.iconst 0, 1) := by decide +kernel
theorem d_M_deliver_74 : decode b_M_deliver 74 = .ok (.istore 4, 2) := by decide +kernel
theorem d_M_deliver_76 : decode b_M_deliver 76 = .ok (.iload 4, 2) := by decide +kernel
theorem d_M_deliver_78 : decode b_M_deliver 78 = .ok (.bipush 8, 2) := by decide +kernel
theorem d_M_deliver_80 : decode b_M_deliver 80 = .ok (.if_icmp .ge 141, 3) := by decide +kernel
theorem d_M_deliver_83 : decode b_M_deliver 83 = .ok (.iconst 0, 1) := by decide +kernel
theorem d_M_deliver_84 : decode b_M_deliver 84 = .ok (.istore 5, 2) := by decide +kernel
theorem d_M_deliver_86 : decode b_M_deliver 86 = .ok (.iload 5, 2) := by decide +kernel
theorem d_M_deliver_88 : decode b_M_deliver 88 = .ok (.iconst 4, 1) := by decide +kernel
theorem d_M_deliver_89 : decode b_M_deliver 89 = .ok (.if_icmp .ge 126, 3) := by decide +kernel
theorem d_M_deliver_92 : decode b_M_deliver 92 = .ok (.aload_n 0, 1) := by decide +kernel
theorem d_M_deliver_93 : decode b_M_deliver 93 = .ok (.getfield 7, 3) := by decide +kernel
theorem d_M_deliver_96 : decode b_M_deliver 96 = .ok (.iload 4, 2) := by decide +kernel
theorem d_M_deliver_98 : decode b_M_deliver 98 = .ok (.baload, 1) := by decide +kernel
theorem d_M_deliver_99 : decode b_M_deliver 99 = .ok (.ifCond .eq 110, 3) := by decide +kernel
theorem d_M_deliver_102 : decode b_M_deliver 102 = .ok (.aload_n 0, 1) := by decide +kernel
theorem d_M_deliver_103 : decode b_M_deliver 103 = .ok (.getfield 59, 3) := by decide +kernel
theorem d_M_deliver_106 : decode b_M_deliver 106 = .ok (.iload 4, 2) := by decide +kernel
theorem d_M_deliver_108 : decode b_M_deliver 108 = .ok (.baload, 1) := by decide +kernel
theorem d_M_deliver_109 : decode b_M_deliver 109 = .ok (.ifCond .ne 100, 3) := by decide +kernel
theorem d_M_deliver_112 : decode b_M_deliver 112 = .ok (.aload_n 0, 1) := by decide +kernel
theorem d_M_deliver_113 : decode b_M_deliver 113 = .ok (.iload 4, 2) := by decide +kernel
theorem d_M_deliver_115 : decode b_M_deliver 115 = .ok (.iload 5, 2) := by decide +kernel
theorem d_M_deliver_117 : decode b_M_deliver 117 = .ok (.iload_n 1, 1) := by decide +kernel
theorem d_M_deliver_118 : decode b_M_deliver 118 = .ok (.iload_n 2, 1) := by decide +kernel
theorem d_M_deliver_119 : decode b_M_deliver 119 = .ok (.invokevirtual 150, 3) := by decide +kernel
theorem d_M_deliver_122 : decode b_M_deliver 122 = .ok (.ifCond .eq 87, 3) := by decide +kernel
theorem d_M_deliver_125 : decode b_M_deliver 125 = .ok (.aload_n 0, 1) := by decide +kernel
theorem d_M_deliver_126 : decode b_M_deliver 126 = .ok (.getfield 59, 3) := by decide +kernel
theorem d_M_deliver_129 : decode b_M_deliver 129 = .ok (.iload 4, 2) := by decide +kernel
theorem d_M_deliver_131 : decode b_M_deliver 131 = .ok (.iconst 1, 1) := by decide +kernel
theorem d_M_deliver_132 : decode b_M_deliver 132 = .ok (.bastore, 1) := by decide +kernel
theorem d_M_deliver_133 : decode b_M_deliver 133 = .ok (.aload_n 0, 1) := by decide +kernel
theorem d_M_deliver_134 : decode b_M_deliver 134 = .ok (.getfield 62, 3) := by decide +kernel
theorem d_M_deliver_137 : decode b_M_deliver 137 = .ok (.iload 4, 2) := by decide +kernel
theorem d_M_deliver_139 : decode b_M_deliver 139 = .ok (.aload_n 0, 1) := by decide +kernel
theorem d_M_deliver_140 : decode b_M_deliver 140 = .ok (.getfield 41, 3) := by decide +kernel
theorem d_M_deliver_143 : decode b_M_deliver 143 = .ok (.iconst 4, 1) := by decide +kernel
theorem d_M_deliver_144 : decode b_M_deliver 144 = .ok (.iload 4, 2) := by decide +kernel
theorem d_M_deliver_146 : decode b_M_deliver 146 = .ok (.imul, 1) := by decide +kernel
theorem d_M_deliver_147 : decode b_M_deliver 147 = .ok (.iload 5, 2) := by decide +kernel
theorem d_M_deliver_149 : decode b_M_deliver 149 = .ok (.iadd, 1) := by decide +kernel
theorem d_M_deliver_150 : decode b_M_deliver 150 = .ok (.iaload, 1) := by decide +kernel
theorem d_M_deliver_151 : decode b_M_deliver 151 = .ok (.iastore, 1) := by decide +kernel
theorem d_M_deliver_152 : decode b_M_deliver 152 = .ok (.aload_n 0, 1) := by decide +kernel
theorem d_M_deliver_153 : decode b_M_deliver 153 = .ok (.getfield 65, 3) := by decide +kernel
theorem d_M_deliver_156 : decode b_M_deliver 156 = .ok (.iload 4, 2) := by decide +kernel
theorem d_M_deliver_158 : decode b_M_deliver 158 = .ok (.iconst 0, 1) := by decide +kernel
theorem d_M_deliver_159 : decode b_M_deliver 159 = .ok (.iastore, 1) := by decide +kernel
theorem d_M_deliver_160 : decode b_M_deliver 160 = .ok (.aload_n 0, 1) := by decide +kernel
theorem d_M_deliver_161 : decode b_M_deliver 161 = .ok (.getfield 71, 3) := by decide +kernel
theorem d_M_deliver_164 : decode b_M_deliver 164 = .ok (.iconst 4, 1) := by decide +kernel
theorem d_M_deliver_165 : decode b_M_deliver 165 = .ok (.iload 4, 2) := by decide +kernel
theorem d_M_deliver_167 : decode b_M_deliver 167 = .ok (.imul, 1) := by decide +kernel
theorem d_M_deliver_168 : decode b_M_deliver 168 = .ok (.iload_n 3, 1) := by decide +kernel
theorem d_M_deliver_169 : decode b_M_deliver 169 = .ok (.iastore, 1) := by decide +kernel
theorem d_M_deliver_170 : decode b_M_deliver 170 = .ok (.aload_n 0, 1) := by decide +kernel
theorem d_M_deliver_171 : decode b_M_deliver 171 = .ok (.getfield 71, 3) := by decide +kernel
theorem d_M_deliver_174 : decode b_M_deliver 174 = .ok (.iconst 4, 1) := by decide +kernel
theorem d_M_deliver_175 : decode b_M_deliver 175 = .ok (.iload 4, 2) := by decide +kernel
theorem d_M_deliver_177 : decode b_M_deliver 177 = .ok (.imul, 1) := by decide +kernel
theorem d_M_deliver_178 : decode b_M_deliver 178 = .ok (.iconst 1, 1) := by decide +kernel
theorem d_M_deliver_179 : decode b_M_deliver 179 = .ok (.iadd, 1) := by decide +kernel
theorem d_M_deliver_180 : decode b_M_deliver 180 = .ok (.iload_n 1, 1) := by decide +kernel
theorem d_M_deliver_181 : decode b_M_deliver 181 = .ok (.iastore, 1) := by decide +kernel
theorem d_M_deliver_182 : decode b_M_deliver 182 = .ok (.aload_n 0, 1) := by decide +kernel
theorem d_M_deliver_183 : decode b_M_deliver 183 = .ok (.getfield 71, 3) := by decide +kernel
theorem d_M_deliver_186 : decode b_M_deliver 186 = .ok (.iconst 4, 1) := by decide +kernel
theorem d_M_deliver_187 : decode b_M_deliver 187 = .ok (.iload 4, 2) := by decide +kernel
theorem d_M_deliver_189 : decode b_M_deliver 189 = .ok (.imul, 1) := by decide +kernel
theorem d_M_deliver_190 : decode b_M_deliver 190 = .ok (.iconst 2, 1) := by decide +kernel
theorem d_M_deliver_191 : decode b_M_deliver 191 = .ok (.iadd, 1) := by decide +kernel
theorem d_M_deliver_192 : decode b_M_deliver 192 = .ok (.iconst 0, 1) := by decide +kernel
theorem d_M_deliver_193 : decode b_M_deliver 193 = .ok (.iastore, 1) := by decide +kernel
theorem d_M_deliver_194 : decode b_M_deliver 194 = .ok (.aload_n 0, 1) := by decide +kernel
theorem d_M_deliver_195 : decode b_M_deliver 195 = .ok (.getfield 71, 3) := by decide +kernel
theorem d_M_deliver_198 : decode b_M_deliver 198 = .ok (.iconst 4, 1) := by decide +kernel
theorem d_M_deliver_199 : decode b_M_deliver 199 = .ok (.iload 4, 2) := by decide +kernel
theorem d_M_deliver_201 : decode b_M_deliver 201 = .ok (.imul, 1) := by decide +kernel
theorem d_M_deliver_202 : decode b_M_deliver 202 = .ok (.iconst 3, 1) := by decide +kernel
theorem d_M_deliver_203 : decode b_M_deliver 203 = .ok (.iadd, 1) := by decide +kernel
theorem d_M_deliver_204 : decode b_M_deliver 204 = .ok (.iconst 0, 1) := by decide +kernel
theorem d_M_deliver_205 : decode b_M_deliver 205 = .ok (.iastore, 1) := by decide +kernel
theorem d_M_deliver_206 : decode b_M_deliver 206 = .ok (.iload 4, 2) := by decide +kernel
theorem d_M_deliver_208 : decode b_M_deliver 208 = .ok (.ireturn, 1) := by decide +kernel
theorem d_M_deliver_209 : decode b_M_deliver 209 = .ok (.iinc 5 1, 3) := by decide +kernel
theorem d_M_deliver_212 : decode b_M_deliver 212 = .ok (.goto (-126), 3) := by decide +kernel
theorem d_M_deliver_215 : decode b_M_deliver 215 = .ok (.iinc 4 1, 3) := by decide +kernel
theorem d_M_deliver_218 : decode b_M_deliver 218 = .ok (.goto (-142), 3) := by decide +kernel
theorem d_M_deliver_221 : decode b_M_deliver 221 = .ok (.iconst (-1), 1) := by decide +kernel
theorem d_M_deliver_222 : decode b_M_deliver 222 = .ok (.ireturn, 1) := by decide +kernel
theorem d_M_top_0 : decode b_M_top 0 = .ok (.aload_n 0, 1) := by decide +kernel
theorem d_M_top_1 : decode b_M_top 1 = .ok (.getfield 68, 3) := by decide +kernel
theorem d_M_top_4 : decode b_M_top 4 = .ok (.bipush 6, 2) := by decide +kernel
theorem d_M_top_6 : decode b_M_top 6 = .ok (.iload_n 1, 1) := by decide +kernel
theorem d_M_top_7 : decode b_M_top 7 = .ok (.imul, 1) := by decide +kernel
theorem d_M_top_8 : decode b_M_top 8 = .ok (.aload_n 0, 1) := by decide +kernel
theorem d_M_top_9 : decode b_M_top 9 = .ok (.getfield 65, 3) := by decide +kernel
theorem d_M_top_12 : decode b_M_top 12 = .ok (.iload_n 1, 1) := by decide +kernel
theorem d_M_top_13 : decode b_M_top 13 = .ok (.iaload, 1) := by decide +kernel
theorem d_M_top_14 : decode b_M_top 14 = .ok (.iadd, 1) := by decide +kernel
theorem d_M_top_15 : decode b_M_top 15 = .ok (.iconst 1, 1) := by decide +kernel
theorem d_M_top_16 : decode b_M_top 16 = .ok (.isub, 1) := by decide +kernel
theorem d_M_top_17 : decode b_M_top 17 = .ok (.iload_n 2, 1) := by decide +kernel
theorem d_M_top_18 : decode b_M_top 18 = .ok (.isub, 1) := by decide +kernel
theorem d_M_top_19 : decode b_M_top 19 = .ok (.iaload, 1) := by decide +kernel
theorem d_M_top_20 : decode b_M_top 20 = .ok (.ireturn, 1) := by decide +kernel
theorem d_M_push_0 : decode b_M_push 0 = .ok (.aload_n 0, 1) := by decide +kernel
theorem d_M_push_1 : decode b_M_push 1 = .ok (.getfield 68, 3) := by decide +kernel
theorem d_M_push_4 : decode b_M_push 4 = .ok (.bipush 6, 2) := by decide +kernel
theorem d_M_push_6 : decode b_M_push 6 = .ok (.iload_n 1, 1) := by decide +kernel
theorem d_M_push_7 : decode b_M_push 7 = .ok (.imul, 1) := by decide +kernel
theorem d_M_push_8 : decode b_M_push 8 = .ok (.aload_n 0, 1) := by decide +kernel
theorem d_M_push_9 : decode b_M_push 9 = .ok (.getfield 65, 3) := by decide +kernel
theorem d_M_push_12 : decode b_M_push 12 = .ok (.iload_n 1, 1) := by decide +kernel
theorem d_M_push_13 : decode b_M_push 13 = .ok (.iaload, 1) := by decide +kernel
theorem d_M_push_14 : decode b_M_push 14 = .ok (.iadd, 1) := by decide +kernel
theorem d_M_push_15 : decode b_M_push 15 = .ok (.iload_n 2, 1) := by decide +kernel
theorem d_M_push_16 : decode b_M_push 16 = .ok (.iastore, 1) := by decide +kernel
theorem d_M_push_17 : decode b_M_push 17 = .ok (.aload_n 0, 1) := by decide +kernel
theorem d_M_push_18 : decode b_M_push 18 = .ok (.getfield 65, 3) := by decide +kernel
theorem d_M_push_21 : decode b_M_push 21 = .ok (.iload_n 1, 1) := by decide +kernel
theorem d_M_push_22 : decode b_M_push 22 = .ok (.dup2, 1) := by decide +kernel
theorem d_M_push_23 : decode b_M_push 23 = .ok (.iaload, 1) := by decide +kernel
theorem d_M_push_24 : decode b_M_push 24 = .ok (.iconst 1, 1) := by decide +kernel
theorem d_M_push_25 : decode b_M_push 25 = .ok (.iadd, 1) := by decide +kernel
theorem d_M_push_26 : decode b_M_push 26 = .ok (.iastore, 1) := by decide +kernel
theorem d_M_push_27 : decode b_M_push 27 = .ok (.return_, 1) := by decide +kernel
theorem d_M_keys_0 : decode b_M_keys 0 = .ok (.iconst 0, 1) := by decide +kernel
theorem d_M_keys_1 : decode b_M_keys 1 = .ok (.istore_n 2, 1) := by decide +kernel
theorem d_M_keys_2 : decode b_M_keys 2 = .ok (.iconst 0, 1) := by decide +kernel
theorem d_M_keys_3 : decode b_M_keys 3 = .ok (.istore_n 3, 1) := by decide +kernel
theorem d_M_keys_4 : decode b_M_keys 4 = .ok (.iload_n 3, 1) := by decide +kernel
theorem d_M_keys_5 : decode b_M_keys 5 = .ok (.bipush 8, 2) := by decide +kernel
theorem d_M_keys_7 : decode b_M_keys 7 = .ok (.if_icmp .ge 31, 3) := by decide +kernel
theorem d_M_keys_10 : decode b_M_keys 10 = .ok (.aload_n 0, 1) := by decide +kernel
theorem d_M_keys_11 : decode b_M_keys 11 = .ok (.getfield 50, 3) := by decide +kernel
theorem d_M_keys_14 : decode b_M_keys 14 = .ok (.bipush 8, 2) := by decide +kernel
theorem d_M_keys_16 : decode b_M_keys 16 = .ok (.iload_n 1, 1) := by decide +kernel
theorem d_M_keys_17 : decode b_M_keys 17 = .ok (.imul, 1) := by decide +kernel
theorem d_M_keys_18 : decode b_M_keys 18 = .ok (.iload_n 3, 1) := by decide +kernel
theorem d_M_keys_19 : decode b_M_keys 19 = .ok (.iadd, 1) := by decide +kernel
theorem d_M_keys_20 : decode b_M_keys 20 = .ok (.baload, 1) := by decide +kernel
theorem d_M_keys_21 : decode b_M_keys 21 = .ok (.ifCond .eq 9, 3) := by decide +kernel
theorem d_M_keys_24 : decode b_M_keys 24 = .ok (.iload_n 2, 1) := by decide +kernel
theorem d_M_keys_25 : decode b_M_keys 25 = .ok (.iconst 1, 1) := by decide +kernel
theorem d_M_keys_26 : decode b_M_keys 26 = .ok (.iadd, 1) := by decide +kernel
theorem d_M_keys_27 : decode b_M_keys 27 = .ok (.goto 4, 3) := by decide +kernel
theorem d_M_keys_30 : decode b_M_keys 30 = .ok (.iload_n 2, 1) := by decide +kernel
theorem d_M_keys_31 : decode b_M_keys 31 = .ok (.istore_n 2, 1) := by decide +kernel
theorem d_M_keys_32 : decode b_M_keys 32 = .ok (.iinc 3 1, 3) := by decide +kernel
theorem d_M_keys_35 : decode b_M_keys 35 = .ok (.goto (-31), 3) := by decide +kernel
theorem d_M_keys_38 : decode b_M_keys 38 = .ok (.iload_n 2, 1) := by decide +kernel
theorem d_M_keys_39 : decode b_M_keys 39 = .ok (.ireturn, 1) := by decide +kernel
theorem d_M_fails_0 : decode b_M_fails 0 = .ok (.iload_n 2, 1) := by decide +kernel
theorem d_M_fails_1 : decode b_M_fails 1 = .ok (.bipush 10, 2) := by decide +kernel
theorem d_M_fails_3 : decode b_M_fails 3 = .ok (.if_icmp .ne 23, 3) := by decide +kernel
theorem d_M_fails_6 : decode b_M_fails 6 = .ok (.aload_n 0, 1) := by decide +kernel
theorem d_M_fails_7 : decode b_M_fails 7 = .ok (.iload_n 1, 1) := by decide +kernel
theorem d_M_fails_8 : decode b_M_fails 8 = .ok (.iconst 0, 1) := by decide +kernel
theorem d_M_fails_9 : decode b_M_fails 9 = .ok (.invokevirtual 154, 3) := by decide +kernel
theorem d_M_fails_12 : decode b_M_fails 12 = .ok (.bipush 8, 2) := by decide +kernel
theorem d_M_fails_14 : decode b_M_fails 14 = .ok (.invokestatic 93, 3) := by decide +kernel
theorem d_M_fails_17 : decode b_M_fails 17 = .ok (.ifCond .ne 7, 3) := by decide +kernel
theorem d_M_fails_20 : decode b_M_fails 20 = .ok (.iconst 1, 1) := by decide +kernel
theorem d_M_fails_21 : decode b_M_fails 21 = .ok (.goto 4, 3) := by decide +kernel
theorem d_M_fails_24 : decode b_M_fails 24 = .ok (.iconst 0, 1) := by decide +kernel
theorem d_M_fails_25 : decode b_M_fails 25 = .ok (.ireturn, 1) := by decide +kernel
theorem d_M_fails_26 : decode b_M_fails 26 = .ok (.iload_n 2, 1) := by decide +kernel
theorem d_M_fails_27 : decode b_M_fails 27 = .ok (.bipush 11, 2) := by decide +kernel
theorem d_M_fails_29 : decode b_M_fails 29 = .ok (.if_icmp .ne 48, 3) := by decide +kernel
theorem d_M_fails_32 : decode b_M_fails 32 = .ok (.aload_n 0, 1) := by decide +kernel
theorem d_M_fails_33 : decode b_M_fails 33 = .ok (.iload_n 1, 1) := by decide +kernel
theorem d_M_fails_34 : decode b_M_fails 34 = .ok (.iconst 1, 1) := by decide +kernel
theorem d_M_fails_35 : decode b_M_fails 35 = .ok (.invokevirtual 154, 3) := by decide +kernel
theorem d_M_fails_38 : decode b_M_fails 38 = .ok (.istore_n 3, 1) := by decide +kernel
theorem d_M_fails_39 : decode b_M_fails 39 = .ok (.iload_n 3, 1) := by decide +kernel
theorem d_M_fails_40 : decode b_M_fails 40 = .ok (.bipush 8, 2) := by decide +kernel
theorem d_M_fails_42 : decode b_M_fails 42 = .ok (.invokestatic 93, 3) := by decide +kernel
theorem d_M_fails_45 : decode b_M_fails 45 = .ok (.ifCond .eq 26, 3) := by decide +kernel
theorem d_M_fails_48 : decode b_M_fails 48 = .ok (.aload_n 0, 1) := by decide +kernel
theorem d_M_fails_49 : decode b_M_fails 49 = .ok (.getfield 50, 3) := by decide +kernel
theorem d_M_fails_52 : decode b_M_fails 52 = .ok (.bipush 8, 2) := by decide +kernel
theorem d_M_fails_54 : decode b_M_fails 54 = .ok (.iload_n 1, 1) := by decide +kernel
theorem d_M_fails_55 : decode b_M_fails 55 = .ok (.imul, 1) := by decide +kernel
theorem d_M_fails_56 : decode b_M_fails 56 = .ok (.iload_n 3, 1) := by decide +kernel
theorem d_M_fails_57 : decode b_M_fails 57 = .ok (.iadd, 1) := by decide +kernel
theorem d_M_fails_58 : decode b_M_fails 58 = .ok (.baload, 1) := by decide +kernel
theorem d_M_fails_59 : decode b_M_fails 59 = .ok (.ifCond .ne 16, 3) := by decide +kernel
theorem d_M_fails_62 : decode b_M_fails 62 = .ok (.aload_n 0, 1) := by decide +kernel
theorem d_M_fails_63 : decode b_M_fails 63 = .ok (.iload_n 1, 1) := by decide +kernel
theorem d_M_fails_64 : decode b_M_fails 64 = .ok (.invokevirtual 157, 3) := by decide +kernel
theorem d_M_fails_67 : decode b_M_fails 67 = .ok (.iconst 3, 1) := by decide +kernel
theorem d_M_fails_68 : decode b_M_fails 68 = .ok (.if_icmp .ne 7, 3) := by decide +kernel
theorem d_M_fails_71 : decode b_M_fails 71 = .ok (.iconst 1, 1) := by decide +kernel
theorem d_M_fails_72 : decode b_M_fails 72 = .ok (.goto 4, 3) := by decide +kernel
theorem d_M_fails_75 : decode b_M_fails 75 = .ok (.iconst 0, 1) := by decide +kernel
theorem d_M_fails_76 : decode b_M_fails 76 = .ok (.ireturn, 1) := by decide +kernel
theorem d_M_fails_77 : decode b_M_fails 77 = .ok (.iload_n 2, 1) := by decide +kernel
theorem d_M_fails_78 : decode b_M_fails 78 = .ok (.bipush 12, 2) := by decide +kernel
theorem d_M_fails_80 : decode b_M_fails 80 = .ok (.if_icmp .ne 21, 3) := by decide +kernel
theorem d_M_fails_83 : decode b_M_fails 83 = .ok (.aload_n 0, 1) := by decide +kernel
theorem d_M_fails_84 : decode b_M_fails 84 = .ok (.iload_n 1, 1) := by decide +kernel
theorem d_M_fails_85 : decode b_M_fails 85 = .ok (.iconst 1, 1) := by decide +kernel
theorem d_M_fails_86 : decode b_M_fails 86 = .ok (.invokevirtual 154, 3) := by decide +kernel
theorem d_M_fails_89 : decode b_M_fails 89 = .ok (.bipush 10, 2) := by decide +kernel
theorem d_M_fails_91 : decode b_M_fails 91 = .ok (.invokestatic 93, 3) := by decide +kernel
theorem d_M_fails_94 : decode b_M_fails 94 = .ok (.ifCond .ne 7, 3) := by decide +kernel
theorem d_M_fails_97 : decode b_M_fails 97 = .ok (.iconst 1, 1) := by decide +kernel
theorem d_M_fails_98 : decode b_M_fails 98 = .ok (.goto 4, 3) := by decide +kernel
theorem d_M_fails_101 : decode b_M_fails 101 = .ok (.iconst 0, 1) := by decide +kernel
theorem d_M_fails_102 : decode b_M_fails 102 = .ok (.ireturn, 1) := by decide +kernel
theorem d_M_step_0 : decode b_M_step 0 = .ok (.aload_n 0, 1) := by decide +kernel
theorem d_M_step_1 : decode b_M_step 1 = .ok (.iconst 0, 1) := by decide +kernel
theorem d_M_step_2 : decode b_M_step 2 = .ok (.putfield 90, 3) := by decide +kernel
theorem d_M_step_5 : decode b_M_step 5 = .ok (.iconst (-1), 1) := by decide +kernel
theorem d_M_step_6 : decode b_M_step 6 = .ok (.istore_n 1, 1) := by decide +kernel
theorem d_M_step_7 : decode b_M_step 7 = .ok (.bipush 7, 2) := by decide +kernel
theorem d_M_step_9 : decode b_M_step 9 = .ok (.istore_n 2, 1) := by decide +kernel
theorem d_M_step_10 : decode b_M_step 10 = .ok (.iload_n 2, 1) := by decide +kernel
theorem d_M_step_11 : decode b_M_step 11 = .ok (.ifCond .lt 24, 3) := by decide +kernel
theorem d_M_step_14 : decode b_M_step 14 = .ok (.aload_n 0, 1) := by decide +kernel
theorem d_M_step_15 : decode b_M_step 15 = .ok (.getfield 59, 3) := by decide +kernel
theorem d_M_step_18 : decode b_M_step 18 = .ok (.iload_n 2, 1) := by decide +kernel
theorem d_M_step_19 : decode b_M_step 19 = .ok (.baload, 1) := by decide +kernel
theorem d_M_step_20 : decode b_M_step 20 = .ok (.ifCond .eq 7, 3) := by decide +kernel
theorem d_M_step_23 : decode b_M_step 23 = .ok (.iload_n 2, 1) := by decide +kernel
theorem d_M_step_24 : decode b_M_step 24 = .ok (.goto 4, 3) := by decide +kernel
theorem d_M_step_27 : decode b_M_step 27 = .ok (.iload_n 1, 1) := by decide +kernel
theorem d_M_step_28 : decode b_M_step 28 = .ok (.istore_n 1, 1) := by decide +kernel
theorem d_M_step_29 : decode b_M_step 29 = .ok (.iinc 2 (-1), 3) := by decide +kernel
theorem d_M_step_32 : decode b_M_step 32 = .ok (.goto (-22), 3) := by decide +kernel
theorem d_M_step_35 : decode b_M_step 35 = .ok (.bipush 7, 2) := by decide +kernel
theorem d_M_step_37 : decode b_M_step 37 = .ok (.istore_n 2, 1) := by decide +kernel
theorem d_M_step_38 : decode b_M_step 38 = .ok (.iload_n 2, 1) := by decide +kernel
theorem d_M_step_39 : decode b_M_step 39 = .ok (.aload_n 0, 1) := by decide +kernel
theorem d_M_step_40 : decode b_M_step 40 = .ok (.getfield 74, 3) := by decide +kernel
theorem d_M_step_43 : decode b_M_step 43 = .ok (.if_icmp .le 24, 3) := by decide +kernel
theorem d_M_step_46 : decode b_M_step 46 = .ok (.aload_n 0, 1) := by decide +kernel
theorem d_M_step_47 : decode b_M_step 47 = .ok (.getfield 59, 3) := by decide +kernel
theorem d_M_step_50 : decode b_M_step 50 = .ok (.iload_n 2, 1) := by decide +kernel
theorem d_M_step_51 : decode b_M_step 51 = .ok (.baload, 1) := by decide +kernel
theorem d_M_step_52 : decode b_M_step 52 = .ok (.ifCond .eq 7, 3) := by decide +kernel
theorem d_M_step_55 : decode b_M_step 55 = .ok (.iload_n 2, 1) := by decide +kernel
theorem d_M_step_56 : decode b_M_step 56 = .ok (.goto 4, 3) := by decide +kernel
theorem d_M_step_59 : decode b_M_step 59 = .ok (.iload_n 1, 1) := by decide +kernel
theorem d_M_step_60 : decode b_M_step 60 = .ok (.istore_n 1, 1) := by decide +kernel
theorem d_M_step_61 : decode b_M_step 61 = .ok (.iinc 2 (-1), 3) := by decide +kernel
theorem d_M_step_64 : decode b_M_step 64 = .ok (.goto (-26), 3) := by decide +kernel
theorem d_M_step_67 : decode b_M_step 67 = .ok (.iload_n 1, 1) := by decide +kernel
theorem d_M_step_68 : decode b_M_step 68 = .ok (.ifCond .ge 5, 3) := by decide +kernel
theorem d_M_step_71 : decode b_M_step 71 = .ok (.iconst (-1), 1) := by decide +kernel
theorem d_M_step_72 : decode b_M_step 72 = .ok (.ireturn, 1) := by decide +kernel
theorem d_M_step_73 : decode b_M_step 73 = .ok (.aload_n 0, 1) := by decide +kernel
theorem d_M_step_74 : decode b_M_step 74 = .ok (.iload_n 1, 1) := by decide +kernel
theorem d_M_step_75 : decode b_M_step 75 = .ok (.putfield 74, 3) := by decide +kernel
theorem d_M_step_78 : decode b_M_step 78 = .ok (.aload_n 0, 1) := by decide +kernel
theorem d_M_step_79 : decode b_M_step 79 = .ok (.getfield 47, 3) := by decide +kernel
theorem d_M_step_82 : decode b_M_step 82 = .ok (.bipush 24, 2) := by decide +kernel
theorem d_M_step_84 : decode b_M_step 84 = .ok (.iload_n 1, 1) := by decide +kernel
theorem d_M_step_85 : decode b_M_step 85 = .ok (.imul, 1) := by decide +kernel
theorem d_M_step_86 : decode b_M_step 86 = .ok (.aload_n 0, 1) := by decide +kernel
theorem d_M_step_87 : decode b_M_step 87 = .ok (.getfield 62, 3) := by decide +kernel
theorem d_M_step_90 : decode b_M_step 90 = .ok (.iload_n 1, 1) := by decide +kernel
theorem d_M_step_91 : decode b_M_step 91 = .ok (.iaload, 1) := by decide +kernel
theorem d_M_step_92 : decode b_M_step 92 = .ok (.iadd, 1) := by decide +kernel
theorem d_M_step_93 : decode b_M_step 93 = .ok (.iaload, 1) := by decide +kernel
theorem d_M_step_94 : decode b_M_step 94 = .ok (.istore_n 2, 1) := by decide +kernel
theorem d_M_step_95 : decode b_M_step 95 = .ok (.aload_n 0, 1) := by decide +kernel
theorem d_M_step_96 : decode b_M_step 96 = .ok (.iload_n 1, 1) := by decide +kernel
theorem d_M_step_97 : decode b_M_step 97 = .ok (.iload_n 2, 1) := by decide +kernel
theorem d_M_step_98 : decode b_M_step 98 = .ok (.bipush 15, 2) := by decide +kernel
theorem d_M_step_100 : decode b_M_step 100 = .ok (.iand, 1) := by decide +kernel
theorem d_M_step_101 : decode b_M_step 101 = .ok (.invokevirtual 160, 3) := by decide +kernel
theorem d_M_step_104 : decode b_M_step 104 = .ok (.ifCond .eq 17, 3) := by decide +kernel
theorem d_M_step_107 : decode b_M_step 107 = .ok (.aload_n 0, 1) := by decide +kernel
theorem d_M_step_108 : decode b_M_step 108 = .ok (.getfield 59, 3) := by decide +kernel
theorem d_M_step_111 : decode b_M_step 111 = .ok (.iload_n 1, 1) := by decide +kernel
theorem d_M_step_112 : decode b_M_step 112 = .ok (.iconst 0, 1) := by decide +kernel
theorem d_M_step_113 : decode b_M_step 113 = .ok (.bastore, 1) := by decide +kernel
theorem d_M_step_114 : decode b_M_step 114 = .ok (.aload_n 0, 1) := by decide +kernel
theorem d_M_step_115 : decode b_M_step 115 = .ok (.iconst 1, 1) := by decide +kernel
theorem d_M_step_116 : decode b_M_step 116 = .ok (.putfield 90, 3) := by decide +kernel
theorem d_M_step_119 : decode b_M_step 119 = .ok (.iconst 0, 1) := by decide +kernel
theorem d_M_step_120 : decode b_M_step 120 = .ok (.ireturn, 1) := by decide +kernel
theorem d_M_step_121 : decode b_M_step 121 = .ok (.aload_n 0, 1) := by decide +kernel
theorem d_M_step_122 : decode b_M_step 122 = .ok (.iload_n 1, 1) := by decide +kernel
theorem d_M_step_123 : decode b_M_step 123 = .ok (.iload_n 2, 1) := by decide +kernel
theorem d_M_step_124 : decode b_M_step 124 = .ok (.bipush 15, 2) := by decide +kernel
theorem d_M_step_126 : decode b_M_step 126 = .ok (.iand, 1) := by decide +kernel
theorem d_M_step_127 : decode b_M_step 127 = .ok (.iload_n 2, 1) := by decide +kernel
theorem d_M_step_128 : decode b_M_step 128 = .ok (.iconst 4, 1) := by decide +kernel
theorem d_M_step_129 : decode b_M_step 129 = .ok (.ishr, 1) := by decide +kernel
theorem d_M_step_130 : decode b_M_step 130 = .ok (.invokevirtual 163, 3) := by decide +kernel
theorem d_M_step_133 : decode b_M_step 133 = .ok (.iload_n 1, 1) := by decide +kernel
theorem d_M_step_134 : decode b_M_step 134 = .ok (.ireturn, 1) := by decide +kernel
theorem d_M_does_0 : decode b_M_does 0 = .ok (.aload_n 0, 1) := by decide +kernel
theorem d_M_does_1 : decode b_M_does 1 = .ok (.getfield 65, 3) := by decide +kernel
theorem d_M_does_4 : decode b_M_does 4 = .ok (.iload_n 1, 1) := by decide +kernel
theorem d_M_does_5 : decode b_M_does 5 = .ok (.iaload, 1) := by decide +kernel
theorem d_M_does_6 : decode b_M_does 6 = .ok (.istore 4, 2) := by decide +kernel
theorem d_M_does_8 : decode b_M_does 8 = .ok (.aload_n 0, 1) := by decide +kernel
theorem d_M_does_9 : decode b_M_does 9 = .ok (.getfield 62, 3) := by decide +kernel
theorem d_M_does_12 : decode b_M_does 12 = .ok (.iload_n 1, 1) := by decide +kernel
theorem d_M_does_13 : decode b_M_does 13 = .ok (.iaload, 1) := by decide +kernel
theorem d_M_does_14 : decode b_M_does 14 = .ok (.iconst 1, 1) := by decide +kernel
theorem d_M_does_15 : decode b_M_does 15 = .ok (.iadd, 1) := by decide +kernel
theorem d_M_does_16 : decode b_M_does 16 = .ok (.istore 5, 2) := by decide +kernel
theorem d_M_does_18 : decode b_M_does 18 = .ok (.iload_n 2, 1) := by decide +kernel
theorem d_M_does_19 : decode b_M_does 19 = .ok (.ifCond .ne 13, 3) := by decide +kernel
theorem d_M_does_22 : decode b_M_does 22 = .ok (.aload_n 0, 1) := by decide +kernel
theorem d_M_does_23 : decode b_M_does 23 = .ok (.getfield 59, 3) := by decide +kernel
theorem d_M_does_26 : decode b_M_does 26 = .ok (.iload_n 1, 1) := by decide +kernel
theorem d_M_does_27 : decode b_M_does 27 = .ok (.iconst 0, 1) := by decide +kernel
theorem d_M_does_28 : decode b_M_does 28 = .ok (.bastore, 1) := by decide +kernel
theorem d_M_does_29 : decode b_M_does 29 = .ok (.goto 246, 3) := by decide +kernel
theorem d_M_does_32 : decode b_M_does 32 = .ok (.iload_n 2, 1) := by decide +kernel
theorem d_M_does_33 : decode b_M_does 33 = .ok (.iconst 1, 1) := by decide +kernel
theorem d_M_does_34 : decode b_M_does 34 = .ok (.if_icmp .ne 12, 3) := by decide +kernel
theorem d_M_does_37 : decode b_M_does 37 = .ok (.aload_n 0, 1) := by decide +kernel
theorem d_M_does_38 : decode b_M_does 38 = .ok (.iload_n 1, 1) := by decide +kernel
theorem d_M_does_39 : decode b_M_does 39 = .ok (.iload_n 3, 1) := by decide +kernel
theorem d_M_does_40 : decode b_M_does 40 = .ok (.invokevirtual 166, 3) := by decide +kernel
theorem d_M_does_43 : decode b_M_does 43 = .ok (.goto 232, 3) := by decide +kernel
theorem d_M_does_46 : decode b_M_does 46 = .ok (.iload_n 2, 1) := by decide +kernel
theorem d_M_does_47 : decode b_M_does 47 = .ok (.iconst 2, 1) := by decide +kernel
theorem d_M_does_48 : decode b_M_does 48 = .ok (.if_icmp .eq 8, 3) := by decide +kernel
theorem d_M_does_51 : decode b_M_does 51 = .ok (.iload_n 2, 1) := by decide +kernel
theorem d_M_does_52 : decode b_M_does 52 = .ok (.iconst 3, 1) := by decide +kernel
theorem d_M_does_53 : decode b_M_does 53 = .ok (.if_icmp .ne 55, 3) := by decide +kernel
theorem d_M_does_56 : decode b_M_does 56 = .ok (.aload_n 0, 1) := by decide +kernel
theorem d_M_does_57 : decode b_M_does 57 = .ok (.iload_n 1, 1) := by decide +kernel
theorem d_M_does_58 : decode b_M_does 58 = .ok (.iconst 0, 1) := by decide +kernel
theorem d_M_does_59 : decode b_M_does 59 = .ok (.invokevirtual 154, 3) := by decide +kernel
theorem d_M_does_62 : decode b_M_does 62 = .ok (.istore 6, 2) := by decide +kernel
theorem d_M_does_64 : decode b_M_does 64 = .ok (.aload_n 0, 1) := by decide +kernel
theorem d_M_does_65 : decode b_M_does 65 = .ok (.iload_n 1, 1) := by decide +kernel
theorem d_M_does_66 : decode b_M_does 66 = .ok (.iconst 1, 1) := by decide +kernel
theorem d_M_does_67 : decode b_M_does 67 = .ok (.invokevirtual 154, 3) := by decide +kernel
theorem d_M_does_70 : decode b_M_does 70 = .ok (.istore 7, 2) := by decide +kernel
theorem d_M_does_72 : decode b_M_does 72 = .ok (.aload_n 0, 1) := by decide +kernel
theorem d_M_does_73 : decode b_M_does 73 = .ok (.getfield 65, 3) := by decide +kernel
theorem d_M_does_76 : decode b_M_does 76 = .ok (.iload_n 1, 1) := by decide +kernel
theorem d_M_does_77 : decode b_M_does 77 = .ok (.iload 4, 2) := by decide +kernel
theorem d_M_does_79 : decode b_M_does 79 = .ok (.iconst 2, 1) := by decide +kernel
theorem d_M_does_80 : decode b_M_does 80 = .ok (.isub, 1) := by decide +kernel
theorem d_M_does_81 : decode b_M_does 81 = .ok (.iastore, 1) := by decide +kernel
theorem d_M_does_82 : decode b_M_does 82 = .ok (.aload_n 0, 1) := by decide +kernel
theorem d_M_does_83 : decode b_M_does 83 = .ok (.iload_n 1, 1) := by decide +kernel
theorem d_M_does_84 : decode b_M_does 84 = .ok (.iload_n 2, 1) := by decide +kernel
theorem d_M_does_85 : decode b_M_does 85 = .ok (.iconst 2, 1) := by decide +kernel
theorem d_M_does_86 : decode b_M_does 86 = .ok (.if_icmp .ne 11, 3) := by decide +kernel
theorem d_M_does_89 : decode b_M_does 89 = .ok (.iload 7, 2) := by decide +kernel
theorem d_M_does_91 : decode b_M_does 91 = .ok (.iload 6, 2) := by decide +kernel
theorem d_M_does_93 : decode b_M_does 93 = .ok (.iadd, 1) := by decide +kernel
theorem d_M_does_94 : decode b_M_does 94 = .ok (.goto 8, 3) := by decide +kernel
theorem d_M_does_97 : decode b_M_does 97 = .ok (.iload 7, 2) := by decide +kernel
theorem d_M_does_99 : decode b_M_does 99 = .ok (.iload 6, 2) := by decide +kernel
theorem d_M_does_101 : decode b_M_does 101 = .ok (.isub, 1) := by decide +kernel
theorem d_M_does_102 : decode b_M_does 102 = .ok (.invokevirtual 166, 3) := by decide +kernel
theorem d_M_does_105 : decode b_M_does 105 = .ok (.goto 170, 3) := by decide +kernel
theorem d_M_does_108 : decode b_M_does 108 = .ok (.iload_n 2, 1) := by decide +kernel
theorem d_M_does_109 : decode b_M_does 109 = .ok (.iconst 4, 1) := by decide +kernel
theorem d_M_does_110 : decode b_M_does 110 = .ok (.if_icmp .ne 17, 3) := by decide +kernel
theorem d_M_does_113 : decode b_M_does 113 = .ok (.aload_n 0, 1) := by decide +kernel
theorem d_M_does_114 : decode b_M_does 114 = .ok (.iload_n 1, 1) := by decide +kernel
theorem d_M_does_115 : decode b_M_does 115 = .ok (.aload_n 0, 1) := by decide +kernel
theorem d_M_does_116 : decode b_M_does 116 = .ok (.iload_n 1, 1) := by decide +kernel
theorem d_M_does_117 : decode b_M_does 117 = .ok (.iconst 0, 1) := by decide +kernel
theorem d_M_does_118 : decode b_M_does 118 = .ok (.invokevirtual 154, 3) := by decide +kernel
theorem d_M_does_121 : decode b_M_does 121 = .ok (.invokevirtual 166, 3) := by decide +kernel
theorem d_M_does_124 : decode b_M_does 124 = .ok (.goto 151, 3) := by decide +kernel
theorem d_M_does_127 : decode b_M_does 127 = .ok (.iload_n 2, 1) := by decide +kernel
theorem d_M_does_128 : decode b_M_does 128 = .ok (.iconst 5, 1) := by decide +kernel
theorem d_M_does_129 : decode b_M_does 129 = .ok (.if_icmp .ne 16, 3) := by decide +kernel
theorem d_M_does_132 : decode b_M_does 132 = .ok (.aload_n 0, 1) := by decide +kernel
theorem d_M_does_133 : decode b_M_does 133 = .ok (.getfield 65, 3) := by decide +kernel
theorem d_M_does_136 : decode b_M_does 136 = .ok (.iload_n 1, 1) := by decide +kernel
theorem d_M_does_137 : decode b_M_does 137 = .ok (.iload 4, 2) := by decide +kernel
theorem d_M_does_139 : decode b_M_does 139 = .ok (.iconst 1, 1) := by decide +kernel
theorem d_M_does_140 : decode b_M_does 140 = .ok (.isub, 1) := by decide +kernel
theorem d_M_does_141 : decode b_M_does 141 = .ok (.iastore, 1) := by decide +kernel
theorem d_M_does_142 : decode b_M_does 142 = .ok (.goto 133, 3) := by decide +kernel
theorem d_M_does_145 : decode b_M_does 145 = .ok (.iload_n 2, 1) := by decide +kernel
theorem d_M_does_146 : decode b_M_does 146 = .ok (.bipush 6, 2) := by decide +kernel
theorem d_M_does_148 : decode b_M_does 148 = .ok (.if_icmp .ne 21, 3) := by decide +kernel
theorem d_M_does_151 : decode b_M_does 151 = .ok (.aload_n 0, 1) := by decide +kernel
theorem d_M_does_152 : decode b_M_does 152 = .ok (.iload_n 1, 1) := by decide +kernel
theorem d_M_does_153 : decode b_M_does 153 = .ok (.aload_n 0, 1) := by decide +kernel
theorem d_M_does_154 : decode b_M_does 154 = .ok (.getfield 71, 3) := by decide +kernel
theorem d_M_does_157 : decode b_M_does 157 = .ok (.iconst 4, 1) := by decide +kernel
theorem d_M_does_158 : decode b_M_does 158 = .ok (.iload_n 1, 1) := by decide +kernel
theorem d_M_does_159 : decode b_M_does 159 = .ok (.imul, 1) := by decide +kernel
theorem d_M_does_160 : decode b_M_does 160 = .ok (.iload_n 3, 1) := by decide +kernel
theorem d_M_does_161 : decode b_M_does 161 = .ok (.iadd, 1) := by decide +kernel
theorem d_M_does_162 : decode b_M_does 162 = .ok (.iaload, 1) := by decide +kernel
theorem d_M_does_163 : decode b_M_does 163 = .ok (.invokevirtual 166, 3) := by decide +kernel
theorem d_M_does_166 : decode b_M_does 166 = .ok (.goto 109, 3) := by decide +kernel
theorem d_M_does_169 : decode b_M_does 169 = .ok (.iload_n 2, 1) := by decide +kernel
theorem d_M_does_170 : decode b_M_does 170 = .ok (.bipush 7, 2) := by decide +kernel
theorem d_M_does_172 : decode b_M_does 172 = .ok (.if_icmp .ne 32, 3) := by decide +kernel
theorem d_M_does_175 : decode b_M_does 175 = .ok (.aload_n 0, 1) := by decide +kernel
theorem d_M_does_176 : decode b_M_does 176 = .ok (.getfield 71, 3) := by decide +kernel
theorem d_M_does_179 : decode b_M_does 179 = .ok (.iconst 4, 1) := by decide +kernel
theorem d_M_does_180 : decode b_M_does 180 = .ok (.iload_n 1, 1) := by decide +kernel
theorem d_M_does_181 : decode b_M_does 181 = .ok (.imul, 1) := by decide +kernel
theorem d_M_does_182 : decode b_M_does 182 = .ok (.iload_n 3, 1) := by decide +kernel
theorem d_M_does_183 : decode b_M_does 183 = .ok (.iadd, 1) := by decide +kernel
theorem d_M_does_184 : decode b_M_does 184 = .ok (.aload_n 0, 1) := by decide +kernel
theorem d_M_does_185 : decode b_M_does 185 = .ok (.iload_n 1, 1) := by decide +kernel
theorem d_M_does_186 : decode b_M_does 186 = .ok (.iconst 0, 1) := by decide +kernel
theorem d_M_does_187 : decode b_M_does 187 = .ok (.invokevirtual 154, 3) := by decide +kernel
theorem d_M_does_190 : decode b_M_does 190 = .ok (.iastore, 1) := by decide +kernel
theorem d_M_does_191 : decode b_M_does 191 = .ok (.aload_n 0, 1) := by decide +kernel
theorem d_M_does_192 : decode b_M_does 192 = .ok (.getfield 65, 3) := by decide +kernel
theorem d_M_does_195 : decode b_M_does 195 = .ok (.iload_n 1, 1) := by decide +kernel
theorem d_M_does_196 : decode b_M_does 196 = .ok (.iload 4, 2) := by decide +kernel
theorem d_M_does_198 : decode b_M_does 198 = .ok (.iconst 1, 1) := by decide +kernel
theorem d_M_does_199 : decode b_M_does 199 = .ok (.isub, 1) := by decide +kernel
theorem d_M_does_200 : decode b_M_does 200 = .ok (.iastore, 1) := by decide +kernel
theorem d_M_does_201 : decode b_M_does 201 = .ok (.goto 74, 3) := by decide +kernel
theorem d_M_does_204 : decode b_M_does 204 = .ok (.iload_n 2, 1) := by decide +kernel
theorem d_M_does_205 : decode b_M_does 205 = .ok (.bipush 8, 2) := by decide +kernel
theorem d_M_does_207 : decode b_M_does 207 = .ok (.if_icmp .ne 16, 3) := by decide +kernel
theorem d_M_does_210 : decode b_M_does 210 = .ok (.aload_n 0, 1) := by decide +kernel
theorem d_M_does_211 : decode b_M_does 211 = .ok (.getfield 62, 3) := by decide +kernel
theorem d_M_does_214 : decode b_M_does 214 = .ok (.iload_n 1, 1) := by decide +kernel
theorem d_M_does_215 : decode b_M_does 215 = .ok (.iaload, 1) := by decide +kernel
theorem d_M_does_216 : decode b_M_does 216 = .ok (.iload_n 3, 1) := by decide +kernel
theorem d_M_does_217 : decode b_M_does 217 = .ok (.iadd, 1) := by decide +kernel
theorem d_M_does_218 : decode b_M_does 218 = .ok (.istore 5, 2) := by decide +kernel
theorem d_M_does_220 : decode b_M_does 220 = .ok (.goto 55, 3) := by decide +kernel
theorem d_M_does_223 : decode b_M_does 223 = .ok (.iload_n 2, 1) := by decide +kernel
theorem d_M_does_224 : decode b_M_does 224 = .ok (.bipush 9, 2) := by decide +kernel
theorem d_M_does_226 : decode b_M_does 226 = .ok (.if_icmp .ne 40, 3) := by decide +kernel
theorem d_M_does_229 : decode b_M_does 229 = .ok (.aload_n 0, 1) := by decide +kernel
theorem d_M_does_230 : decode b_M_does 230 = .ok (.iload_n 1, 1) := by decide +kernel
theorem d_M_does_231 : decode b_M_does 231 = .ok (.iconst 0, 1) := by decide +kernel
theorem d_M_does_232 : decode b_M_does 232 = .ok (.invokevirtual 154, 3) := by decide +kernel
theorem d_M_does_235 : decode b_M_does 235 = .ok (.ifCond .ne 14, 3) := by decide +kernel
theorem d_M_does_238 : decode b_M_does 238 = .ok (.aload_n 0, 1) := by decide +kernel
theorem d_M_does_239 : decode b_M_does 239 = .ok (.getfield 62, 3) := by decide +kernel
theorem d_M_does_242 : decode b_M_does 242 = .ok (.iload_n 1, 1) := by decide +kernel
theorem d_M_does_243 : decode b_M_does 243 = .ok (.iaload, 1) := by decide +kernel
theorem d_M_does_244 : decode b_M_does 244 = .ok (.iload_n 3, 1) := by decide +kernel
theorem d_M_does_245 : decode b_M_does 245 = .ok (.iadd, 1) := by decide +kernel
theorem d_M_does_246 : decode b_M_does 246 = .ok (.goto 5, 3) := by decide +kernel
theorem d_M_does_249 : decode b_M_does 249 = .ok (.iload 5, 2) := by decide +kernel
theorem d_M_does_251 : decode b_M_does 251 = .ok (.istore 5, 2) := by decide +kernel
theorem d_M_does_253 : decode b_M_does 253 = .ok (.aload_n 0, 1) := by decide +kernel
theorem d_M_does_254 : decode b_M_does 254 = .ok (.getfield 65, 3) := by decide +kernel
theorem d_M_does_257 : decode b_M_does 257 = .ok (.iload_n 1, 1) := by decide +kernel
theorem d_M_does_258 : decode b_M_does 258 = .ok (.iload 4, 2) := by decide +kernel
theorem d_M_does_260 : decode b_M_does 260 = .ok (.iconst 1, 1) := by decide +kernel
theorem d_M_does_261 : decode b_M_does 261 = .ok (.isub, 1) := by decide +kernel
theorem d_M_does_262 : decode b_M_does 262 = .ok (.iastore, 1) := by decide +kernel
theorem d_M_does_263 : decode b_M_does 263 = .ok (.goto 12, 3) := by decide +kernel
theorem d_M_does_266 : decode b_M_does 266 = .ok (.aload_n 0, 1) := by decide +kernel
theorem d_M_does_267 : decode b_M_does 267 = .ok (.iload_n 1, 1) := by decide +kernel
theorem d_M_does_268 : decode b_M_does 268 = .ok (.iload_n 2, 1) := by decide +kernel
theorem d_M_does_269 : decode b_M_does 269 = .ok (.iload_n 3, 1) := by decide +kernel
theorem d_M_does_270 : decode b_M_does 270 = .ok (.iload 4, 2) := by decide +kernel
theorem d_M_does_272 : decode b_M_does 272 = .ok (.invokevirtual 169, 3) := by decide +kernel
theorem d_M_does_275 : decode b_M_does 275 = .ok (.aload_n 0, 1) := by decide +kernel
theorem d_M_does_276 : decode b_M_does 276 = .ok (.getfield 62, 3) := by decide +kernel
theorem d_M_does_279 : decode b_M_does 279 = .ok (.iload_n 1, 1) := by decide +kernel
theorem d_M_does_280 : decode b_M_does 280 = .ok (.iload 5, 2) := by decide +kernel
theorem d_M_does_282 : decode b_M_does 282 = .ok (.iastore, 1) := by decide +kernel
theorem d_M_does_283 : decode b_M_does 283 = .ok (.return_, 1) := by decide +kernel
theorem d_M_acts_0 : decode b_M_acts 0 = .ok (.iload_n 2, 1) := by decide +kernel
theorem d_M_acts_1 : decode b_M_acts 1 = .ok (.bipush 13, 2) := by decide +kernel
theorem d_M_acts_3 : decode b_M_acts 3 = .ok (.if_icmp .ne 23, 3) := by decide +kernel
theorem d_M_acts_6 : decode b_M_acts 6 = .ok (.aload_n 0, 1) := by decide +kernel
theorem d_M_acts_7 : decode b_M_acts 7 = .ok (.iload_n 1, 1) := by decide +kernel
theorem d_M_acts_8 : decode b_M_acts 8 = .ok (.aload_n 0, 1) := by decide +kernel
theorem d_M_acts_9 : decode b_M_acts 9 = .ok (.iload_n 1, 1) := by decide +kernel
theorem d_M_acts_10 : decode b_M_acts 10 = .ok (.iload_n 3, 1) := by decide +kernel
theorem d_M_acts_11 : decode b_M_acts 11 = .ok (.invokevirtual 143, 3) := by decide +kernel
theorem d_M_acts_14 : decode b_M_acts 14 = .ok (.ifCond .eq 7, 3) := by decide +kernel
theorem d_M_acts_17 : decode b_M_acts 17 = .ok (.iconst 1, 1) := by decide +kernel
theorem d_M_acts_18 : decode b_M_acts 18 = .ok (.goto 4, 3) := by decide +kernel
theorem d_M_acts_21 : decode b_M_acts 21 = .ok (.iconst 0, 1) := by decide +kernel
theorem d_M_acts_22 : decode b_M_acts 22 = .ok (.invokevirtual 166, 3) := by decide +kernel
theorem d_M_acts_25 : decode b_M_acts 25 = .ok (.return_, 1) := by decide +kernel
theorem d_M_acts_26 : decode b_M_acts 26 = .ok (.aload_n 0, 1) := by decide +kernel
theorem d_M_acts_27 : decode b_M_acts 27 = .ok (.iload_n 1, 1) := by decide +kernel
theorem d_M_acts_28 : decode b_M_acts 28 = .ok (.iconst 0, 1) := by decide +kernel
theorem d_M_acts_29 : decode b_M_acts 29 = .ok (.invokevirtual 154, 3) := by decide +kernel
theorem d_M_acts_32 : decode b_M_acts 32 = .ok (.istore 5, 2) := by decide +kernel
theorem d_M_acts_34 : decode b_M_acts 34 = .ok (.iload_n 2, 1) := by decide +kernel
theorem d_M_acts_35 : decode b_M_acts 35 = .ok (.bipush 10, 2) := by decide +kernel
theorem d_M_acts_37 : decode b_M_acts 37 = .ok (.if_icmp .ne 54, 3) := by decide +kernel
theorem d_M_acts_40 : decode b_M_acts 40 = .ok (.aload_n 0, 1) := by decide +kernel
theorem d_M_acts_41 : decode b_M_acts 41 = .ok (.getfield 50, 3) := by decide +kernel
theorem d_M_acts_44 : decode b_M_acts 44 = .ok (.bipush 8, 2) := by decide +kernel
theorem d_M_acts_46 : decode b_M_acts 46 = .ok (.iload_n 1, 1) := by decide +kernel
theorem d_M_acts_47 : decode b_M_acts 47 = .ok (.imul, 1) := by decide +kernel
theorem d_M_acts_48 : decode b_M_acts 48 = .ok (.iload 5, 2) := by decide +kernel
theorem d_M_acts_50 : decode b_M_acts 50 = .ok (.iadd, 1) := by decide +kernel
theorem d_M_acts_51 : decode b_M_acts 51 = .ok (.baload, 1) := by decide +kernel
theorem d_M_acts_52 : decode b_M_acts 52 = .ok (.ifCond .eq 18, 3) := by decide +kernel
theorem d_M_acts_55 : decode b_M_acts 55 = .ok (.aload_n 0, 1) := by decide +kernel
theorem d_M_acts_56 : decode b_M_acts 56 = .ok (.getfield 53, 3) := by decide +kernel
theorem d_M_acts_59 : decode b_M_acts 59 = .ok (.bipush 8, 2) := by decide +kernel
theorem d_M_acts_61 : decode b_M_acts 61 = .ok (.iload_n 1, 1) := by decide +kernel
theorem d_M_acts_62 : decode b_M_acts 62 = .ok (.imul, 1) := by decide +kernel
theorem d_M_acts_63 : decode b_M_acts 63 = .ok (.iload 5, 2) := by decide +kernel
theorem d_M_acts_65 : decode b_M_acts 65 = .ok (.iadd, 1) := by decide +kernel
theorem d_M_acts_66 : decode b_M_acts 66 = .ok (.iaload, 1) := by decide +kernel
theorem d_M_acts_67 : decode b_M_acts 67 = .ok (.goto 4, 3) := by decide +kernel
theorem d_M_acts_70 : decode b_M_acts 70 = .ok (.iconst 0, 1) := by decide +kernel
theorem d_M_acts_71 : decode b_M_acts 71 = .ok (.istore 6, 2) := by decide +kernel
theorem d_M_acts_73 : decode b_M_acts 73 = .ok (.aload_n 0, 1) := by decide +kernel
theorem d_M_acts_74 : decode b_M_acts 74 = .ok (.getfield 65, 3) := by decide +kernel
theorem d_M_acts_77 : decode b_M_acts 77 = .ok (.iload_n 1, 1) := by decide +kernel
theorem d_M_acts_78 : decode b_M_acts 78 = .ok (.iload 4, 2) := by decide +kernel
theorem d_M_acts_80 : decode b_M_acts 80 = .ok (.iconst 1, 1) := by decide +kernel
theorem d_M_acts_81 : decode b_M_acts 81 = .ok (.isub, 1) := by decide +kernel
theorem d_M_acts_82 : decode b_M_acts 82 = .ok (.iastore, 1) := by decide +kernel
theorem d_M_acts_83 : decode b_M_acts 83 = .ok (.aload_n 0, 1) := by decide +kernel
theorem d_M_acts_84 : decode b_M_acts 84 = .ok (.iload_n 1, 1) := by decide +kernel
theorem d_M_acts_85 : decode b_M_acts 85 = .ok (.iload 6, 2) := by decide +kernel
theorem d_M_acts_87 : decode b_M_acts 87 = .ok (.invokevirtual 166, 3) := by decide +kernel
theorem d_M_acts_90 : decode b_M_acts 90 = .ok (.return_, 1) := by decide +kernel
theorem d_M_acts_91 : decode b_M_acts 91 = .ok (.aload_n 0, 1) := by decide +kernel
theorem d_M_acts_92 : decode b_M_acts 92 = .ok (.iload_n 1, 1) := by decide +kernel
theorem d_M_acts_93 : decode b_M_acts 93 = .ok (.iconst 1, 1) := by decide +kernel
theorem d_M_acts_94 : decode b_M_acts 94 = .ok (.invokevirtual 154, 3) := by decide +kernel
theorem d_M_acts_97 : decode b_M_acts 97 = .ok (.istore 6, 2) := by decide +kernel
theorem d_M_acts_99 : decode b_M_acts 99 = .ok (.aload_n 0, 1) := by decide +kernel
theorem d_M_acts_100 : decode b_M_acts 100 = .ok (.getfield 65, 3) := by decide +kernel
theorem d_M_acts_103 : decode b_M_acts 103 = .ok (.iload_n 1, 1) := by decide +kernel
theorem d_M_acts_104 : decode b_M_acts 104 = .ok (.iload 4, 2) := by decide +kernel
theorem d_M_acts_106 : decode b_M_acts 106 = .ok (.iconst 2, 1) := by decide +kernel
theorem d_M_acts_107 : decode b_M_acts 107 = .ok (.isub, 1) := by decide +kernel
theorem d_M_acts_108 : decode b_M_acts 108 = .ok (.iastore, 1) := by decide +kernel
theorem d_M_acts_109 : decode b_M_acts 109 = .ok (.iload_n 2, 1) := by decide +kernel
theorem d_M_acts_110 : decode b_M_acts 110 = .ok (.bipush 11, 2) := by decide +kernel
theorem d_M_acts_112 : decode b_M_acts 112 = .ok (.if_icmp .ne 33, 3) := by decide +kernel
theorem d_M_acts_115 : decode b_M_acts 115 = .ok (.aload_n 0, 1) := by decide +kernel
theorem d_M_acts_116 : decode b_M_acts 116 = .ok (.getfield 50, 3) := by decide +kernel
theorem d_M_acts_119 : decode b_M_acts 119 = .ok (.bipush 8, 2) := by decide +kernel
theorem d_M_acts_121 : decode b_M_acts 121 = .ok (.iload_n 1, 1) := by decide +kernel
theorem d_M_acts_122 : decode b_M_acts 122 = .ok (.imul, 1) := by decide +kernel
theorem d_M_acts_123 : decode b_M_acts 123 = .ok (.iload 6, 2) := by decide +kernel
theorem d_M_acts_125 : decode b_M_acts 125 = .ok (.iadd, 1) := by decide +kernel
theorem d_M_acts_126 : decode b_M_acts 126 = .ok (.iconst 1, 1) := by decide +kernel
theorem d_M_acts_127 : decode b_M_acts 127 = .ok (.bastore, 1) := by decide +kernel
theorem d_M_acts_128 : decode b_M_acts 128 = .ok (.aload_n 0, 1) := by decide +kernel
theorem d_M_acts_129 : decode b_M_acts 129 = .ok (.getfield 53, 3) := by decide +kernel
theorem d_M_acts_132 : decode b_M_acts 132 = .ok (.bipush 8, 2) := by decide +kernel
theorem d_M_acts_134 : decode b_M_acts 134 = .ok (.iload_n 1, 1) := by decide +kernel
theorem d_M_acts_135 : decode b_M_acts 135 = .ok (.imul, 1) := by decide +kernel
theorem d_M_acts_136 : decode b_M_acts 136 = .ok (.iload 6, 2) := by decide +kernel
theorem d_M_acts_138 : decode b_M_acts 138 = .ok (.iadd, 1) := by decide +kernel
theorem d_M_acts_139 : decode b_M_acts 139 = .ok (.iload 5, 2) := by decide +kernel
theorem d_M_acts_141 : decode b_M_acts 141 = .ok (.iastore, 1) := by decide +kernel
theorem d_M_acts_142 : decode b_M_acts 142 = .ok (.goto 12, 3) := by decide +kernel
theorem d_M_acts_145 : decode b_M_acts 145 = .ok (.aload_n 0, 1) := by decide +kernel
theorem d_M_acts_146 : decode b_M_acts 146 = .ok (.iload_n 1, 1) := by decide +kernel
theorem d_M_acts_147 : decode b_M_acts 147 = .ok (.iload 6, 2) := by decide +kernel
theorem d_M_acts_149 : decode b_M_acts 149 = .ok (.iload 5, 2) := by decide +kernel
theorem d_M_acts_151 : decode b_M_acts 151 = .ok (.invokevirtual 146, 3) := by decide +kernel
theorem d_M_acts_154 : decode b_M_acts 154 = .ok (.return_, 1) := by decide +kernel
theorem d_M_app_0 : decode b_M_app 0 = .ok (.aload_n 0, 1) := by decide +kernel
theorem d_M_app_1 : decode b_M_app 1 = .ok (.iconst 0, 1) := by decide +kernel
theorem d_M_app_2 : decode b_M_app 2 = .ok (.putfield 90, 3) := by decide +kernel
theorem d_M_app_5 : decode b_M_app 5 = .ok (.aload_n 0, 1) := by decide +kernel
theorem d_M_app_6 : decode b_M_app 6 = .ok (.iload_n 1, 1) := by decide +kernel
theorem d_M_app_7 : decode b_M_app 7 = .ok (.invokevirtual 133, 3) := by decide +kernel
theorem d_M_app_10 : decode b_M_app 10 = .ok (.ifCond .eq 13, 3) := by decide +kernel
theorem d_M_app_13 : decode b_M_app 13 = .ok (.iload_n 2, 1) := by decide +kernel
theorem d_M_app_14 : decode b_M_app 14 = .ok (.ifCond .lt 9, 3) := by decide +kernel
theorem d_M_app_17 : decode b_M_app 17 = .ok (.iload_n 2, 1) := by decide +kernel
theorem d_M_app_18 : decode b_M_app 18 = .ok (.bipush 6, 2) := by decide +kernel
theorem d_M_app_20 : decode b_M_app 20 = .ok (.if_icmp .le 5, 3) := by decide +kernel
theorem d_M_app_23 : decode b_M_app 23 = .ok (.iconst (-1), 1) := by decide +kernel
theorem d_M_app_24 : decode b_M_app 24 = .ok (.ireturn, 1) := by decide +kernel
theorem d_M_app_25 : decode b_M_app 25 = .ok (.iload_n 2, 1) := by decide +kernel
theorem d_M_app_26 : decode b_M_app 26 = .ok (.iconst 3, 1) := by decide +kernel
theorem d_M_app_27 : decode b_M_app 27 = .ok (.if_icmp .ge 45, 3) := by decide +kernel
theorem d_M_app_30 : decode b_M_app 30 = .ok (.iload_n 2, 1) := by decide +kernel
theorem d_M_app_31 : decode b_M_app 31 = .ok (.ifCond .ne 12, 3) := by decide +kernel
theorem d_M_app_34 : decode b_M_app 34 = .ok (.aload_n 0, 1) := by decide +kernel
theorem d_M_app_35 : decode b_M_app 35 = .ok (.getfield 13, 3) := by decide +kernel
theorem d_M_app_38 : decode b_M_app 38 = .ok (.iload_n 1, 1) := by decide +kernel
theorem d_M_app_39 : decode b_M_app 39 = .ok (.iaload, 1) := by decide +kernel
theorem d_M_app_40 : decode b_M_app 40 = .ok (.goto 31, 3) := by decide +kernel
theorem d_M_app_43 : decode b_M_app 43 = .ok (.iload_n 2, 1) := by decide +kernel
theorem d_M_app_44 : decode b_M_app 44 = .ok (.iconst 1, 1) := by decide +kernel
theorem d_M_app_45 : decode b_M_app 45 = .ok (.if_icmp .ne 12, 3) := by decide +kernel
theorem d_M_app_48 : decode b_M_app 48 = .ok (.aload_n 0, 1) := by decide +kernel
theorem d_M_app_49 : decode b_M_app 49 = .ok (.getfield 17, 3) := by decide +kernel
theorem d_M_app_52 : decode b_M_app 52 = .ok (.iload_n 1, 1) := by decide +kernel
theorem d_M_app_53 : decode b_M_app 53 = .ok (.iaload, 1) := by decide +kernel
theorem d_M_app_54 : decode b_M_app 54 = .ok (.goto 17, 3) := by decide +kernel
theorem d_M_app_57 : decode b_M_app 57 = .ok (.aload_n 0, 1) := by decide +kernel
theorem d_M_app_58 : decode b_M_app 58 = .ok (.getfield 59, 3) := by decide +kernel
theorem d_M_app_61 : decode b_M_app 61 = .ok (.iload_n 1, 1) := by decide +kernel
theorem d_M_app_62 : decode b_M_app 62 = .ok (.baload, 1) := by decide +kernel
theorem d_M_app_63 : decode b_M_app 63 = .ok (.ifCond .eq 7, 3) := by decide +kernel
theorem d_M_app_66 : decode b_M_app 66 = .ok (.iconst 1, 1) := by decide +kernel
theorem d_M_app_67 : decode b_M_app 67 = .ok (.goto 4, 3) := by decide +kernel
theorem d_M_app_70 : decode b_M_app 70 = .ok (.iconst 0, 1) := by decide +kernel
theorem d_M_app_71 : decode b_M_app 71 = .ok (.ireturn, 1) := by decide +kernel
theorem d_M_app_72 : decode b_M_app 72 = .ok (.iload_n 2, 1) := by decide +kernel
theorem d_M_app_73 : decode b_M_app 73 = .ok (.bipush 6, 2) := by decide +kernel
theorem d_M_app_75 : decode b_M_app 75 = .ok (.if_icmp .ne 9, 3) := by decide +kernel
theorem d_M_app_78 : decode b_M_app 78 = .ok (.aload_n 0, 1) := by decide +kernel
theorem d_M_app_79 : decode b_M_app 79 = .ok (.iload_n 1, 1) := by decide +kernel
theorem d_M_app_80 : decode b_M_app 80 = .ok (.invokevirtual 157, 3) := by decide +kernel
theorem d_M_app_83 : decode b_M_app 83 = .ok (.ireturn, 1) := by decide +kernel
theorem d_M_app_84 : decode b_M_app 84 = .ok (.aload_n 0, 1) := by decide +kernel
theorem d_M_app_85 : decode b_M_app 85 = .ok (.getfield 59, 3) := by decide +kernel
theorem d_M_app_88 : decode b_M_app 88 = .ok (.iload_n 1, 1) := by decide +kernel
theorem d_M_app_89 : decode b_M_app 89 = .ok (.baload, 1) := by decide +kernel
theorem d_M_app_90 : decode b_M_app 90 = .ok (.ifCond .ne 5, 3) := by decide +kernel
theorem d_M_app_93 : decode b_M_app 93 = .ok (.iconst 0, 1) := by decide +kernel
theorem d_M_app_94 : decode b_M_app 94 = .ok (.ireturn, 1) := by decide +kernel
theorem d_M_app_95 : decode b_M_app 95 = .ok (.iload_n 2, 1) := by decide +kernel
theorem d_M_app_96 : decode b_M_app 96 = .ok (.iconst 3, 1) := by decide +kernel
theorem d_M_app_97 : decode b_M_app 97 = .ok (.if_icmp .ne 12, 3) := by decide +kernel
theorem d_M_app_100 : decode b_M_app 100 = .ok (.aload_n 0, 1) := by decide +kernel
theorem d_M_app_101 : decode b_M_app 101 = .ok (.getfield 62, 3) := by decide +kernel
theorem d_M_app_104 : decode b_M_app 104 = .ok (.iload_n 1, 1) := by decide +kernel
theorem d_M_app_105 : decode b_M_app 105 = .ok (.iaload, 1) := by decide +kernel
theorem d_M_app_106 : decode b_M_app 106 = .ok (.goto 36, 3) := by decide +kernel
theorem d_M_app_109 : decode b_M_app 109 = .ok (.iload_n 2, 1) := by decide +kernel
theorem d_M_app_110 : decode b_M_app 110 = .ok (.iconst 4, 1) := by decide +kernel
theorem d_M_app_111 : decode b_M_app 111 = .ok (.if_icmp .ne 12, 3) := by decide +kernel
theorem d_M_app_114 : decode b_M_app 114 = .ok (.aload_n 0, 1) := by decide +kernel
theorem d_M_app_115 : decode b_M_app 115 = .ok (.getfield 65, 3) := by decide +kernel
theorem d_M_app_118 : decode b_M_app 118 = .ok (.iload_n 1, 1) := by decide +kernel
theorem d_M_app_119 : decode b_M_app 119 = .ok (.iaload, 1) := by decide +kernel
theorem d_M_app_120 : decode b_M_app 120 = .ok (.goto 22, 3) := by decide +kernel
theorem d_M_app_123 : decode b_M_app 123 = .ok (.aload_n 0, 1) := by decide +kernel
theorem d_M_app_124 : decode b_M_app 124 = .ok (.getfield 65, 3) := by decide +kernel
theorem d_M_app_127 : decode b_M_app 127 = .ok (.iload_n 1, 1) := by decide +kernel
theorem d_M_app_128 : decode b_M_app 128 = .ok (.iaload, 1) := by decide +kernel
theorem d_M_app_129 : decode b_M_app 129 = .ok (.ifCond .le 12, 3) := by decide +kernel
theorem d_M_app_132 : decode b_M_app 132 = .ok (.aload_n 0, 1) := by decide +kernel
theorem d_M_app_133 : decode b_M_app 133 = .ok (.iload_n 1, 1) := by decide +kernel
theorem d_M_app_134 : decode b_M_app 134 = .ok (.iconst 0, 1) := by decide +kernel
theorem d_M_app_135 : decode b_M_app 135 = .ok (.invokevirtual 154, 3) := by decide +kernel
theorem d_M_app_138 : decode b_M_app 138 = .ok (.goto 4, 3) := by decide +kernel
theorem d_M_app_141 : decode b_M_app 141 = .ok (.iconst 0, 1) := by decide +kernel
theorem d_M_app_142 : decode b_M_app 142 = .ok (.ireturn, 1) := by decide +kernel
theorem d_M_kept_0 : decode b_M_kept 0 = .ok (.aload_n 0, 1) := by decide +kernel
theorem d_M_kept_1 : decode b_M_kept 1 = .ok (.iconst 0, 1) := by decide +kernel
theorem d_M_kept_2 : decode b_M_kept 2 = .ok (.putfield 90, 3) := by decide +kernel
theorem d_M_kept_5 : decode b_M_kept 5 = .ok (.aload_n 0, 1) := by decide +kernel
theorem d_M_kept_6 : decode b_M_kept 6 = .ok (.iload_n 1, 1) := by decide +kernel
theorem d_M_kept_7 : decode b_M_kept 7 = .ok (.invokevirtual 133, 3) := by decide +kernel
theorem d_M_kept_10 : decode b_M_kept 10 = .ok (.ifCond .eq 40, 3) := by decide +kernel
theorem d_M_kept_13 : decode b_M_kept 13 = .ok (.iload_n 2, 1) := by decide +kernel
theorem d_M_kept_14 : decode b_M_kept 14 = .ok (.bipush 8, 2) := by decide +kernel
theorem d_M_kept_16 : decode b_M_kept 16 = .ok (.invokestatic 93, 3) := by decide +kernel
theorem d_M_kept_19 : decode b_M_kept 19 = .ok (.ifCond .eq 31, 3) := by decide +kernel
theorem d_M_kept_22 : decode b_M_kept 22 = .ok (.aload_n 0, 1) := by decide +kernel
theorem d_M_kept_23 : decode b_M_kept 23 = .ok (.getfield 50, 3) := by decide +kernel
theorem d_M_kept_26 : decode b_M_kept 26 = .ok (.bipush 8, 2) := by decide +kernel
theorem d_M_kept_28 : decode b_M_kept 28 = .ok (.iload_n 1, 1) := by decide +kernel
theorem d_M_kept_29 : decode b_M_kept 29 = .ok (.imul, 1) := by decide +kernel
theorem d_M_kept_30 : decode b_M_kept 30 = .ok (.iload_n 2, 1) := by decide +kernel
theorem d_M_kept_31 : decode b_M_kept 31 = .ok (.iadd, 1) := by decide +kernel
theorem d_M_kept_32 : decode b_M_kept 32 = .ok (.baload, 1) := by decide +kernel
theorem d_M_kept_33 : decode b_M_kept 33 = .ok (.ifCond .eq 17, 3) := by decide +kernel
theorem d_M_kept_36 : decode b_M_kept 36 = .ok (.aload_n 0, 1) := by decide +kernel
theorem d_M_kept_37 : decode b_M_kept 37 = .ok (.getfield 53, 3) := by decide +kernel
theorem d_M_kept_40 : decode b_M_kept 40 = .ok (.bipush 8, 2) := by decide +kernel
theorem d_M_kept_42 : decode b_M_kept 42 = .ok (.iload_n 1, 1) := by decide +kernel
theorem d_M_kept_43 : decode b_M_kept 43 = .ok (.imul, 1) := by decide +kernel
theorem d_M_kept_44 : decode b_M_kept 44 = .ok (.iload_n 2, 1) := by decide +kernel
theorem d_M_kept_45 : decode b_M_kept 45 = .ok (.iadd, 1) := by decide +kernel
theorem d_M_kept_46 : decode b_M_kept 46 = .ok (.iaload, 1) := by decide +kernel
theorem d_M_kept_47 : decode b_M_kept 47 = .ok (.goto 4, 3) := by decide +kernel
theorem d_M_kept_50 : decode b_M_kept 50 = .ok (.iconst 0, 1) := by decide +kernel
theorem d_M_kept_51 : decode b_M_kept 51 = .ok (.ireturn, 1) := by decide +kernel
theorem d_M_queued_0 : decode b_M_queued 0 = .ok (.aload_n 0, 1) := by decide +kernel
theorem d_M_queued_1 : decode b_M_queued 1 = .ok (.iconst 0, 1) := by decide +kernel
theorem d_M_queued_2 : decode b_M_queued 2 = .ok (.putfield 90, 3) := by decide +kernel
theorem d_M_queued_5 : decode b_M_queued 5 = .ok (.aload_n 0, 1) := by decide +kernel
theorem d_M_queued_6 : decode b_M_queued 6 = .ok (.getfield 136, 3) := by decide +kernel
theorem d_M_queued_9 : decode b_M_queued 9 = .ok (.ireturn, 1) := by decide +kernel
end
section
/-! the classes, their fields; the cells' shapes -/
def TD : u_T := fun k => match k with
  | 0 => ("AppDesk", "draftPack", "LAppDesk$Pack;", true)
  | 1 => ("AppDesk", "apps", "[LAppDesk$App;", true)
  | 2 => ("AppDesk", "intents", "LAppDesk$IntentQueue;", true)
  | 3 => ("AppDesk", "verifier", "LAppDesk$Verifier;", true)
  | _ => ("AppDesk", "lastToStep", "I", false)
def tD : Nat → FieldType := fun k => match k with
  | 0 => .object "AppDesk$Pack"
  | 1 => .array (.object "AppDesk$App")
  | 2 => .object "AppDesk$IntentQueue"
  | 3 => .object "AppDesk$Verifier"
  | _ => .int
theorem nmD : ∀ a, a < 5 → ∀ b, b < 5 → a ≠ b → (TD a).2.1 ≠ (TD b).2.1 := by decide +kernel
theorem tD_ok : ∀ k, k < 5 → parseFieldDescriptor (TD k).2.2.1 = some (tD k) := by decide +kernel
theorem inD : ∀ w ∈ u_ws "AppDesk" TD 5, w ∈ zT := by decide +kernel
def TP : u_T := fun k => match k with
  | 0 => ("AppDesk$Pack", "name", "I", false)
  | 1 => ("AppDesk$Pack", "version", "I", false)
  | 2 => ("AppDesk$Pack", "signer", "I", false)
  | 3 => ("AppDesk$Pack", "sealNow", "I", false)
  | 4 => ("AppDesk$Pack", "asked", "I", false)
  | 5 => ("AppDesk$Pack", "levels", "[I", true)
  | 6 => ("AppDesk$Pack", "partCount", "I", false)
  | 7 => ("AppDesk$Pack", "actions", "[I", true)
  | 8 => ("AppDesk$Pack", "openings", "[I", true)
  | 9 => ("AppDesk$Pack", "guards", "[I", true)
  | 10 => ("AppDesk$Pack", "places", "[I", true)
  | 11 => ("AppDesk$Pack", "wordCount", "I", false)
  | _ => ("AppDesk$Pack", "words", "[I", true)
def tP : Nat → FieldType := fun k => match k with
  | 0 => .int
  | 1 => .int
  | 2 => .int
  | 3 => .int
  | 4 => .int
  | 5 => .array .int
  | 6 => .int
  | 7 => .array .int
  | 8 => .array .int
  | 9 => .array .int
  | 10 => .array .int
  | 11 => .int
  | _ => .array .int
theorem nmP : ∀ a, a < 13 → ∀ b, b < 13 → a ≠ b → (TP a).2.1 ≠ (TP b).2.1 := by decide +kernel
theorem tP_ok : ∀ k, k < 13 → parseFieldDescriptor (TP k).2.2.1 = some (tP k) := by decide +kernel
theorem inP : ∀ w ∈ u_ws "AppDesk$Pack" TP 13, w ∈ zT := by decide +kernel
def TA : u_T := fun k => match k with
  | 0 => ("AppDesk$App", "installed", "Z", false)
  | 1 => ("AppDesk$App", "pack", "LAppDesk$Pack;", true)
  | 2 => ("AppDesk$App", "granted", "I", false)
  | 3 => ("AppDesk$App", "keptKeys", "I", false)
  | 4 => ("AppDesk$App", "keptValues", "[I", true)
  | 5 => ("AppDesk$App", "runs", "Z", false)
  | 6 => ("AppDesk$App", "place", "I", false)
  | 7 => ("AppDesk$App", "height", "I", false)
  | 8 => ("AppDesk$App", "stack", "[I", true)
  | _ => ("AppDesk$App", "locals", "[I", true)
def tA : Nat → FieldType := fun k => match k with
  | 0 => .boolean
  | 1 => .object "AppDesk$Pack"
  | 2 => .int
  | 3 => .int
  | 4 => .array .int
  | 5 => .boolean
  | 6 => .int
  | 7 => .int
  | 8 => .array .int
  | _ => .array .int
theorem nmA : ∀ a, a < 10 → ∀ b, b < 10 → a ≠ b → (TA a).2.1 ≠ (TA b).2.1 := by decide +kernel
theorem tA_ok : ∀ k, k < 10 → parseFieldDescriptor (TA k).2.2.1 = some (tA k) := by decide +kernel
theorem inA : ∀ w ∈ u_ws "AppDesk$App" TA 10, w ∈ zT := by decide +kernel
def TQ : u_T := fun k => match k with
  | 0 => ("AppDesk$IntentQueue", "size", "I", false)
  | 1 => ("AppDesk$IntentQueue", "senders", "[I", true)
  | 2 => ("AppDesk$IntentQueue", "actions", "[I", true)
  | _ => ("AppDesk$IntentQueue", "values", "[I", true)
def tQ : Nat → FieldType := fun k => match k with
  | 0 => .int
  | 1 => .array .int
  | 2 => .array .int
  | _ => .array .int
theorem nmQ : ∀ a, a < 4 → ∀ b, b < 4 → a ≠ b → (TQ a).2.1 ≠ (TQ b).2.1 := by decide +kernel
theorem tQ_ok : ∀ k, k < 4 → parseFieldDescriptor (TQ k).2.2.1 = some (tQ k) := by decide +kernel
theorem inQ : ∀ w ∈ u_ws "AppDesk$IntentQueue" TQ 4, w ∈ zT := by decide +kernel
def TV : u_T := fun k => match k with
  | 0 => ("AppDesk$Verifier", "heights", "[I", true)
  | 1 => ("AppDesk$Verifier", "reached", "[I", true)
  | _ => ("AppDesk$Verifier", "reachedCount", "I", false)
def tV : Nat → FieldType := fun k => match k with
  | 0 => .array .int
  | 1 => .array .int
  | _ => .int
theorem nmV : ∀ a, a < 3 → ∀ b, b < 3 → a ≠ b → (TV a).2.1 ≠ (TV b).2.1 := by decide +kernel
theorem tV_ok : ∀ k, k < 3 → parseFieldDescriptor (TV k).2.2.1 = some (tV k) := by decide +kernel
theorem inV : ∀ w ∈ u_ws "AppDesk$Verifier" TV 3, w ∈ zT := by decide +kernel
def TM : u_T := fun k => match k with
  | 0 => ("AppDeskModel", "thrown", "I", false)
  | 1 => ("AppDeskModel", "there", "[Z", true)
  | 2 => ("AppDeskModel", "version", "[I", true)
  | 3 => ("AppDeskModel", "signer", "[I", true)
  | 4 => ("AppDeskModel", "seal", "[I", true)
  | 5 => ("AppDeskModel", "asks", "[I", true)
  | 6 => ("AppDeskModel", "declares", "[I", true)
  | 7 => ("AppDeskModel", "parts", "[I", true)
  | 8 => ("AppDeskModel", "action", "[I", true)
  | 9 => ("AppDeskModel", "open", "[Z", true)
  | 10 => ("AppDeskModel", "guard", "[I", true)
  | 11 => ("AppDeskModel", "begin", "[I", true)
  | 12 => ("AppDeskModel", "words", "[I", true)
  | 13 => ("AppDeskModel", "code", "[I", true)
  | 14 => ("AppDeskModel", "draftName", "I", false)
  | 15 => ("AppDeskModel", "has", "[Z", true)
  | 16 => ("AppDeskModel", "value", "[I", true)
  | 17 => ("AppDeskModel", "granted", "[I", true)
  | 18 => ("AppDeskModel", "runs", "[Z", true)
  | 19 => ("AppDeskModel", "place", "[I", true)
  | 20 => ("AppDeskModel", "height", "[I", true)
  | 21 => ("AppDeskModel", "stack", "[I", true)
  | 22 => ("AppDeskModel", "local", "[I", true)
  | 23 => ("AppDeskModel", "latest", "I", false)
  | 24 => ("AppDeskModel", "queue", "I", false)
  | 25 => ("AppDeskModel", "sender", "[I", true)
  | 26 => ("AppDeskModel", "sent", "[I", true)
  | 27 => ("AppDeskModel", "with", "[I", true)
  | _ => ("AppDeskModel", "high", "[I", true)
def tM : Nat → FieldType := fun k => match k with
  | 0 => .int
  | 1 => (.array .boolean)
  | 2 => (.array .int)
  | 3 => (.array .int)
  | 4 => (.array .int)
  | 5 => (.array .int)
  | 6 => (.array .int)
  | 7 => (.array .int)
  | 8 => (.array .int)
  | 9 => (.array .boolean)
  | 10 => (.array .int)
  | 11 => (.array .int)
  | 12 => (.array .int)
  | 13 => (.array .int)
  | 14 => .int
  | 15 => (.array .boolean)
  | 16 => (.array .int)
  | 17 => (.array .int)
  | 18 => (.array .boolean)
  | 19 => (.array .int)
  | 20 => (.array .int)
  | 21 => (.array .int)
  | 22 => (.array .int)
  | 23 => .int
  | 24 => .int
  | 25 => (.array .int)
  | 26 => (.array .int)
  | 27 => (.array .int)
  | _ => (.array .int)
theorem nmM : ∀ a, a < 29 → ∀ b, b < 29 → a ≠ b → (TM a).2.1 ≠ (TM b).2.1 := by decide +kernel
theorem tM_ok : ∀ k, k < 29 → parseFieldDescriptor (TM k).2.2.1 = some (tM k) := by decide +kernel
theorem inM : ∀ w ∈ u_ws "AppDeskModel" TM 29, w ∈ zT := by decide +kernel
abbrev zcl : List vw_C := [("AppDesk", TD, 5), ("AppDesk$Pack", TP, 13), ("AppDesk$App", TA, 10), ("AppDesk$IntentQueue", TQ, 4), ("AppDesk$Verifier", TV, 3), ("AppDeskModel", TM, 29)]
abbrev zty (K : Nat → ClassId) : List (ClassId × FieldType) := [(K 0, .int), (K 1, .boolean), (K 2, .long), (K 3, .object "AppDesk$App")]
/-- the cells by their numbers: 0 the class's object, 1 its apps, 2-5 the queue, 6-8 the verifier, zp i = 9 + 7 i the packs (8: the draft) with their six rows, za n = 72 + 4 n the apps with their three rows, 104 the reference, 105-129 its rows, 130 the law's own row -/
def zN : Nat := 131
def zp (i : Nat) : Nat := 9 + 7 * i
def za (n : Nat) : Nat := 72 + 4 * n
def zfP (j : Nat) : List (Option Nat) := [none, none, none, none, none, some (j + 1), none, some (j + 2), some (j + 3), some (j + 4), some (j + 5), none, some (j + 6)]
def zfA (j p : Nat) : List (Option Nat) := [none, some (p), none, none, some (j + 1), none, none, none, some (j + 2), some (j + 3)]
def zfD : List (Option Nat) := [some (zp 8), some (1), some (2), some (6), none]
def zfQ : List (Option Nat) := [none, some (3), some (4), some (5)]
def zfV : List (Option Nat) := [some (7), some (8), none]
def zfM : List (Option Nat) := [none, some (105), some (106), some (107), some (108), some (109), some (110), some (111), some (112), some (113), some (114), some (115), some (116), some (117), none, some (118), some (119), some (120), some (121), some (122), some (123), some (124), some (125), none, none, some (126), some (127), some (128), some (129)]
def zSM : List (Nat × Nat × List (Option Nat)) := [(2, 9, []), (1, 9, []), (1, 9, []), (1, 9, []), (1, 9, []), (1, 72, []), (1, 9, []), (1, 36, []), (2, 36, []), (1, 36, []), (1, 36, []), (1, 9, []), (1, 216, []), (2, 64, []), (1, 64, []), (1, 8, []), (2, 8, []), (1, 8, []), (1, 8, []), (1, 48, []), (1, 32, []), (1, 9, []), (1, 9, []), (1, 9, []), (1, 24, [])]
def zSP (j r : Nat) : Nat × Nat × List (Option Nat) := match r with
  | 0 => (0, 1, zfP j)
  | 1 => (1, 8, [])
  | 6 => (1, 24, [])
  | _ => (1, 4, [])
def zSA (j n r : Nat) : Nat × Nat × List (Option Nat) := match r with
  | 0 => (0, 2, zfA j (zp n))
  | 1 => (1, 8, [])
  | 2 => (1, 6, [])
  | _ => (1, 4, [])
def zSD (j : Nat) : Nat × Nat × List (Option Nat) := match j with
  | 0 => (0, 0, zfD)
  | 1 => (4, 8, [some 72, some 76, some 80, some 84, some 88, some 92, some 96, some 100])
  | 2 => (0, 3, zfQ)
  | 6 => (0, 4, zfV)
  | 7 => (1, 24, [])
  | 8 => (1, 24, [])
  | _ => (1, 8, [])
def zS (j : Nat) : Nat × Nat × List (Option Nat) := if j < 9 then zSD j else if j < 72 then zSP j ((j - 9) % 7) else if j < 104 then zSA j ((j - 72) / 4) ((j - 72) % 4) else if j = 104 then (0, 5, zfM) else if j < 130 then zSM.getD (j - 105) (1, 0, []) else (3, 1, [])
theorem zp_lt {i : Nat} (h : i < 9) : zp i < zN := by unfold zp zN; omega
theorem zp_lt' {i : Nat} (h : i < 9) (r : Nat) (hr : r < 7) : zp i + r < zN := by unfold zp zN; omega
theorem za_lt {n : Nat} (h : n < 8) : za n < zN := by unfold za zN; omega
theorem za_lt' {n : Nat} (h : n < 8) (r : Nat) (hr : r < 4) : za n + r < zN := by unfold za zN; omega
theorem zS_p {i : Nat} (h : i < 9) : zS (zp i) = (0, 1, zfP (zp i)) := by
  unfold zS zp
  rw [if_neg (by omega), if_pos (by omega), show (9 + 7 * i - 9) % 7 = 0 by omega]
  rfl
theorem zS_pr {i : Nat} (h : i < 9) (r : Nat) (hr : r < 7) : zS (zp i + r) = zSP (zp i + r) r := by
  unfold zS zp
  rw [if_neg (by omega), if_pos (by omega), show (9 + 7 * i + r - 9) % 7 = r by omega]
theorem zS_a {n : Nat} (h : n < 8) : zS (za n) = (0, 2, zfA (za n) (zp n)) := by
  unfold zS za
  rw [if_neg (by omega), if_neg (by omega), if_pos (by omega), show (72 + 4 * n - 72) % 4 = 0 by omega, show (72 + 4 * n - 72) / 4 = n by omega]
  rfl
theorem zS_ar {n : Nat} (h : n < 8) (r : Nat) (hr : r < 4) : zS (za n + r) = zSA (za n + r) n r := by
  unfold zS za
  rw [if_neg (by omega), if_neg (by omega), if_pos (by omega), show (72 + 4 * n + r - 72) % 4 = r by omega, show (72 + 4 * n + r - 72) / 4 = n by omega]
theorem zS_app {n : Nat} (h : n < 8) : ([some 72, some 76, some 80, some 84, some 88, some 92, some 96, some 100] : List (Option Nat)).getD n none = some (za n) := by
  have : ∀ n, n < 8 → ([some 72, some 76, some 80, some 84, some 88, some 92, some 96, some 100] : List (Option Nat)).getD n none = some (za n) := by decide
  exact this n h
end
section
/-! FLAT WORLDS: all cells of the class, the reference and the law's own array, by their numbers; their ints are one memory. -/
abbrev zm : Type := Nat → Nat → Int32
/-- one int is written -/
def zu (σ : zm) (j k : Nat) (v : Int32) : zm := fun a b => if a = j ∧ b = k then v else σ a b
/-- a whole row is written -/
def zr (σ : zm) (j : Nat) (f : Nat → Int32) : zm := fun a => if a = j then f else σ a
theorem zu_eq (σ : zm) (j k : Nat) (v : Int32) : zu σ j k v j k = v := by simp [zu]
theorem zu_ne (σ : zm) {j k a b : Nat} (v : Int32) (h : a ≠ j ∨ b ≠ k) : zu σ j k v a b = σ a b := by
  unfold zu
  rw [if_neg]
  intro q
  rcases h with h | h
  · exact h q.1
  · exact h q.2
theorem zu_row (σ : zm) {j k a : Nat} (v : Int32) (h : a ≠ j) : zu σ j k v a = σ a := by
  funext b
  exact zu_ne σ v (Or.inl h)
theorem zu_own (σ : zm) (j k : Nat) (v : Int32) : zu σ j k v j = upd (σ j) k v := by
  funext b
  by_cases h : b = k
  · subst h; simp [zu, upd]
  · simp [zu, upd, h]
theorem zr_eq (σ : zm) (j : Nat) (f : Nat → Int32) : zr σ j f j = f := by simp [zr]
theorem zr_ne (σ : zm) {j a : Nat} (f : Nat → Int32) (h : a ≠ j) : zr σ j f a = σ a := by simp [zr, h]
/-- the fields of an object: an int of the memory, or the address of another cell -/
def zfv (q : Nat → Nat) (σ : zm) (j : Nat) (fl : List (Option Nat)) : List Value := (List.range fl.length).map (fun k => match fl[k]? with
  | some (some t) => Value.ref (q t)
  | _ => Value.int (σ j k))
theorem zfv_len (q : Nat → Nat) (σ : zm) (j : Nat) (fl : List (Option Nat)) : (zfv q σ j fl).length = fl.length := by simp [zfv]
theorem zfv_int {q : Nat → Nat} {σ : zm} {j k : Nat} {fl : List (Option Nat)} (h : fl[k]? = some none) : (zfv q σ j fl)[k]? = some (Value.int (σ j k)) := by
  have hk : k < fl.length := (List.getElem?_eq_some_iff.mp h).1
  unfold zfv
  rw [List.getElem?_map, List.getElem?_range hk]
  simp only [Option.map_some, h]
theorem zfv_ref {q : Nat → Nat} {σ : zm} {j k t : Nat} {fl : List (Option Nat)} (h : fl[k]? = some (some t)) : (zfv q σ j fl)[k]? = some (Value.ref (q t)) := by
  have hk : k < fl.length := (List.getElem?_eq_some_iff.mp h).1
  unfold zfv
  rw [List.getElem?_map, List.getElem?_range hk]
  simp only [Option.map_some, h]
theorem zfv_off {q : Nat → Nat} {σ τ : zm} {j : Nat} {fl : List (Option Nat)} (h : τ j = σ j) : zfv q τ j fl = zfv q σ j fl := by
  unfold zfv
  rw [h]
theorem zfv_set {q : Nat → Nat} {σ : zm} {j k : Nat} {fl : List (Option Nat)} (h : fl[k]? = some none) (v : Int32) : (zfv q σ j fl).set k (.int v) = zfv q (zu σ j k v) j fl := by
  apply List.ext_getElem?
  intro i
  by_cases hi : i = k
  · subst hi
    rw [zfv_int h, zu_eq, List.getElem?_set_self]
    rw [zfv_len]; exact (List.getElem?_eq_some_iff.mp h).1
  · rw [List.getElem?_set_ne (Ne.symm hi)]
    by_cases hl : i < fl.length
    · cases hf : fl[i]? with
      | none => rw [List.getElem?_eq_none_iff] at hf; omega
      | some o =>
        cases o with
        | none => rw [zfv_int hf, zfv_int hf, zu_ne σ v (Or.inr hi)]
        | some t => rw [zfv_ref hf, zfv_ref hf]
    · rw [List.getElem?_eq_none (by rw [zfv_len]; omega), List.getElem?_eq_none (by rw [zfv_len]; omega)]
/-- a cell: its kind (0 an object of class n, 1 an int array of length n, 2 a boolean array, 3 a long array, 4 an array of references), n, and its references -/
def zc (K : Nat → ClassId) (q : Nat → Nat) (σ : zm) (j : Nat) (h : Nat × Nat × List (Option Nat)) : va_E :=
  if h.1 = 0 then .inr (h.2.1, zfv q σ j h.2.2)
  else if h.1 = 1 then .inl (K 0, h.2.1, .inl (σ j))
  else if h.1 = 2 then .inl (K 1, h.2.1, .inl (σ j))
  else if h.1 = 3 then .inl (K 2, h.2.1, .inr (.inl (fun k => (σ j k).toInt64)))
  else .inl (K 3, h.2.1, .inr (.inr (.inr (.inr (fun k => (h.2.2.getD k none).map q)))))
theorem zc_off {K : Nat → ClassId} {q : Nat → Nat} {σ τ : zm} {j : Nat} (e : τ j = σ j) (h : Nat × Nat × List (Option Nat)) : zc K q τ j h = zc K q σ j h := by
  unfold zc
  rw [zfv_off e, e]
/-- all cells -/
def zw (K : Nat → ClassId) (q : Nat → Nat) (σ : zm) : va_W := (List.range zN).map (fun j => (q j, zc K q σ j (zS j)))
theorem zw_len (K : Nat → ClassId) (q : Nat → Nat) (σ : zm) : (zw K q σ).length = zN := by simp [zw]
theorem zw_get {K : Nat → ClassId} {q : Nat → Nat} {σ : zm} {j : Nat} (h : j < zN) : (zw K q σ)[j]? = some (q j, zc K q σ j (zS j)) := by
  unfold zw
  rw [List.getElem?_map, List.getElem?_range h]
  rfl
theorem zw_at {K : Nat → ClassId} {q : Nat → Nat} {σ : zm} {j : Nat} {c : va_W} {e : Nat × va_E} (h : (zw K q σ)[j]? = some e) : j < zN ∧ e = (q j, zc K q σ j (zS j)) := by
  have hj : j < zN := by
    have := (List.getElem?_eq_some_iff.mp h).1
    rw [zw_len] at this
    exact this
  rw [zw_get hj] at h
  exact ⟨hj, (Option.some.inj h).symm⟩
theorem zw_set {K : Nat → ClassId} {q : Nat → Nat} {σ τ : zm} {j : Nat} {e : va_E} (hj : j < zN) (ho : ∀ i, i ≠ j → τ i = σ i) (he : zc K q τ j (zS j) = e) : (zw K q σ).set j (q j, e) = zw K q τ := by
  apply List.ext_getElem?
  intro i
  by_cases hi : i = j
  · subst hi
    rw [List.getElem?_set_self (by rw [zw_len]; exact hj), zw_get hj, he]
  · rw [List.getElem?_set_ne (Ne.symm hi)]
    by_cases hl : i < zN
    · rw [zw_get hl, zw_get hl, zc_off (ho i hi)]
    · rw [List.getElem?_eq_none (by rw [zw_len]; omega), List.getElem?_eq_none (by rw [zw_len]; omega)]
def zI (q : Nat → Nat) : Prop := ∀ i j, i < zN → j < zN → q i = q j → i = j
def zA (q : Nat → Nat) : Nat → Prop := fun a => ∃ j, j < zN ∧ a = q j
theorem zw_D {K : Nat → ClassId} {q : Nat → Nat} {σ : zm} {A : Nat → Prop} (hq : zI q) (hA : ∀ j, j < zN → A (q j)) : va_D A (zw K q σ) := by
  refine ⟨fun i j x y hx hy hxy => ?_, fun k x hx => ?_⟩
  · obtain ⟨h1, rfl⟩ := zw_at (c := []) hx
    obtain ⟨h2, rfl⟩ := zw_at (c := []) hy
    exact hq i j h1 h2 hxy
  · obtain ⟨h1, rfl⟩ := zw_at (c := []) hx
    exact hA k h1
end
section
/-! what else stands at a method's start: the nest's words, the verifier's two rows, what a throw needs -/
def zNeed : Nat → Int32 := fun k => ([0, 0, 2, 2, 1, 1, 0, 1, 0, 1, 1, 2, 2, 0] : List Int32).getD k 0
def zLeav : Nat → Int32 := fun k => ([0, 1, 1, 1, 2, 0, 1, 0, 0, 0, 1, 0, 0, 1] : List Int32).getD k 0
def zE (A : Nat → Prop) (U : State) (H : Heap) : Prop := (∀ w ∈ zNw, va_Nw w U) ∧ (∃ t1 t2 : Nat, va_Z "AppDesk$Verifier" "NEEDS" "[I" (.ref t1) A U H ∧ va_T .int t1 14 (fun k => .int (zNeed k)) A U H ∧ va_Z "AppDesk$Verifier" "LEAVES" "[I" (.ref t2) A U H ∧ va_T .int t2 14 (fun k => .int (zLeav k)) A U H) ∧ va_Zq "java/lang/Throwable" "UNASSIGNED_STACK" "[Ljava/lang/StackTraceElement;" A U H ∧ va_Zq "java/lang/Throwable" "SUPPRESSED_SENTINEL" "Ljava/util/List;" A U H ∧ va_Nc "java/lang/IllegalStateException" "java/lang/IllegalArgumentException" U ∧ va_Nc "java/lang/IllegalArgumentException" "java/lang/IllegalStateException" U
theorem zE.blind {A : Nat → Prop} {U : State} {g : JFrame} {mk : MethodId} {a : Array Value} (h : zE A U U.heap) : zE A (U.calling g mk a) (U.calling g mk a).heap := by
  obtain ⟨h1, ⟨t1, t2, h2, h3, h4, h5⟩, h6, h7, h8, h9⟩ := h
  have hv : U.vm.Alike (U.calling g mk a).vm := Vm.Alike.refl U.vm
  exact ⟨fun w hw => va_Nw.same (u := U) (U := U.calling g mk a) (zNw_on w hw) rfl (h1 w hw), ⟨t1, t2, h2.moved hv, h3.moved hv, h4.moved hv, h5.moved hv⟩, h6.moved hv, h7.moved hv, h8.moved hv, h9.moved hv⟩
theorem zE.step {A B : Nat → Prop} {s U : State} {H : Heap} {locs : List Loc} (h : zE A s s.heap) (hW : s.WarmedH U.vm) (hS : va_S A s.heap H locs) (hU : U.heap = H) (hB : ∀ a, B a → A a) : zE B U U.heap := by
  obtain ⟨h1, ⟨t1, t2, h2, h3, h4, h5⟩, h6, h7, h8, h9⟩ := h
  subst hU
  have hv := hW.alike
  exact ⟨fun w hw => zNw_warm hW w hw (h1 w hw), ⟨t1, t2, ((h2.moved hv).kept hS.2.1).narrow hB, ((h3.moved hv).kept hS.2.1).narrow hB, ((h4.moved hv).kept hS.2.1).narrow hB, ((h5.moved hv).kept hS.2.1).narrow hB⟩, ((h6.moved hv).kept hS.2.1).narrow hB, ((h7.moved hv).kept hS.2.1).narrow hB, h8.moved hv, h9.moved hv⟩
end
section
/-! THE WALK OVER FLAT WORLDS: zG, and a row an instruction -/
section ZG
variable {p : Program} {l : Launch} {e : Env} {R : Room} {s : State} {m : MethodId} {args : Array Value} {below : List Frame} {meth : Method} {c : Code} {cc : ByteArray} {nL ce sl : Nat} {own : String} {D : va_G} {K : Nat → ClassId} {q : Nat → Nat} {A : Nat → Prop} {Q : State → Prop} {σ : zm} {pc pc' : Nat} {lv lv' : List (Nat × Value)} {st : List Value}
def zG (p : Program) (l : Launch) (e : Env) (R : Room) (s : State) (m : MethodId) (args : Array Value) (below : List Frame) (meth : Method) (c : Code) (D : va_G) (K : Nat → ClassId) (q : Nat → Nat) (A : Nat → Prop) (nL ce sl : Nat) (Q : State → Prop) (σ : zm) (pc : Nat) (lv : List (Nat × Value)) (st : List Value) : Prop :=
  ∀ (H : Heap) (locs : List Loc) (ls : Array Slot), va_P D zcl (zw K q σ) H → va_S A s.heap H locs → lv_has ls nL lv → W p l e R s m args below meth c H locs ce sl Q (F0 m pc ls st)
def zX (p : Program) (s : State) (m : MethodId) (args : Array Value) (c : Code) (cc : ByteArray) (nL : Nat) (own : String) (D : va_G) (K : Nat → ClassId) (q : Nat → Nat) (A : Nat → Prop) : Prop :=
  p.tables.exec = Jvm.exec ∧ c.code = cc ∧ c.maxLocals = nL ∧ s.vm.findClass own = some m.cls ∧ (∀ w ∈ zT, w.before args s = true) ∧ va_K D zcl (zty K) s ∧ zI q ∧ (∀ j, j < zN → A (q j)) ∧ zE A s s.heap
def zl (lv : List (Nat × Value)) (i : Nat) : Option Value := (lv.find? (fun x => x.1 == i)).map (fun x => x.2)
theorem zl_at {ls : Array Slot} {i : Nat} {v : Value} (h : lv_has ls nL lv) (hk : zl lv i = some v) : ls[i]? = some (.val v) := by
  unfold zl at hk
  cases hf : lv.find? (fun x => x.1 == i) with
  | none => rw [hf] at hk; cases hk
  | some x =>
    rw [hf] at hk
    have hv : x.2 = v := Option.some.inj hk
    have hi : x.1 = i := by simpa using List.find?_some hf
    have hm := h.2.2 x (List.mem_of_find?_eq_some hf)
    rw [hi, hv] at hm
    exact hm
theorem zl_get {i : Nat} {v : Value} (hk : zl lv i = some v) : ∃ k : Nat, lv[k]? = some (i, v) := by
  unfold zl at hk
  cases hf : lv.find? (fun x => x.1 == i) with
  | none => rw [hf] at hk; cases hk
  | some x =>
    rw [hf] at hk
    have hv : x.2 = v := Option.some.inj hk
    have hi : x.1 = i := by simpa using List.find?_some hf
    obtain ⟨k, hk⟩ := List.getElem?_of_mem (List.mem_of_find?_eq_some hf)
    exact ⟨k, by rw [hk, ← hv, ← hi]⟩
def zset (lv : List (Nat × Value)) (i : Nat) (v : Value) : List (Nat × Value) := (i, v) :: lv.filter (fun q => !(q.1 == i) && !(q.1 + 1 == i && q.2.category == 2))
/-- fewer locals listed -/
def zsub : List (Nat × Value) → List (Nat × Value) → Prop
  | [], _ => True
  | x :: r, lv => zl lv x.1 = some x.2 ∧ zsub r lv
theorem zsub_in : ∀ {a b : List (Nat × Value)}, zsub a b → ∀ x ∈ a, zl b x.1 = some x.2
  | [], _, _, x, hx => by cases hx
  | y :: r, b, h, x, hx => by
    rcases List.mem_cons.mp hx with rfl | hx
    · exact h.1
    · exact zsub_in h.2 x hx
theorem zsub_has {ls : Array Slot} (h : lv_has ls nL lv) (hs : zsub lv' lv) : lv_has ls nL lv' := ⟨h.1, h.2.1, fun x hx => zl_at h (zsub_in hs x hx)⟩
theorem zG.sub (hs : zsub lv' lv) (k : zG p l e R s m args below meth c D K q A nL ce sl Q σ pc lv' st) : zG p l e R s m args below meth c D K q A nL ce sl Q σ pc lv st := fun H locs ls hP hS hl => k H locs ls hP hS (zsub_has hl hs)
theorem zG.to {τ : zm} {st' : List Value} (k : zG p l e R s m args below meth c D K q A nL ce sl Q τ pc lv' st') (hm : σ = τ) (ht : st = st') (hs : zsub lv' lv) : zG p l e R s m args below meth c D K q A nL ce sl Q σ pc lv st := by subst hm; subst ht; exact zG.sub hs k
theorem g_iconst (hC : zX p s m args c cc nL own D K q A) {n : Int} (v : Int32) (hdg : decode cc pc = .ok (.iconst n, 1)) (hv : Int32.ofInt n = v) (hp : pc + 1 = pc') (k : zG p l e R s m args below meth c D K q A nL ce sl Q σ pc' lv (.int v :: st)) : zG p l e R s m args below meth c D K q A nL ce sl Q σ pc lv st := by subst hp; exact fun H locs ls hP hS hl => lv_iconst hC.1 hC.2.1 hdg hv (k H locs ls hP hS hl)
theorem g_bipush (hC : zX p s m args c cc nL own D K q A) {n : Int} (v : Int32) (hdg : decode cc pc = .ok (.bipush n, 2)) (hv : (Int8.ofInt n).toInt32 = v) (hp : pc + 2 = pc') (k : zG p l e R s m args below meth c D K q A nL ce sl Q σ pc' lv (.int v :: st)) : zG p l e R s m args below meth c D K q A nL ce sl Q σ pc lv st := by subst hp; exact fun H locs ls hP hS hl => lv_bipush hC.1 hC.2.1 hdg hv (k H locs ls hP hS hl)
theorem g_sipush (hC : zX p s m args c cc nL own D K q A) {n : Int} (v : Int32) (hdg : decode cc pc = .ok (.sipush n, 3)) (hv : (Int16.ofInt n).toInt32 = v) (hp : pc + 3 = pc') (k : zG p l e R s m args below meth c D K q A nL ce sl Q σ pc' lv (.int v :: st)) : zG p l e R s m args below meth c D K q A nL ce sl Q σ pc lv st := by subst hp; exact fun H locs ls hP hS hl => lv_sipush hC.1 hC.2.1 hdg hv (k H locs ls hP hS hl)
theorem g_iadd (hC : zX p s m args c cc nL own D K q A) {x y : Int32} (hdg : decode cc pc = .ok (.iadd, 1)) (hp : pc + 1 = pc') (k : zG p l e R s m args below meth c D K q A nL ce sl Q σ pc' lv (.int (x + y) :: st)) : zG p l e R s m args below meth c D K q A nL ce sl Q σ pc lv (.int y :: .int x :: st) := by subst hp; exact fun H locs ls hP hS hl => lv_iadd hC.1 hC.2.1 hdg (k H locs ls hP hS hl)
theorem g_isub (hC : zX p s m args c cc nL own D K q A) {x y : Int32} (hdg : decode cc pc = .ok (.isub, 1)) (hp : pc + 1 = pc') (k : zG p l e R s m args below meth c D K q A nL ce sl Q σ pc' lv (.int (x - y) :: st)) : zG p l e R s m args below meth c D K q A nL ce sl Q σ pc lv (.int y :: .int x :: st) := by subst hp; exact fun H locs ls hP hS hl => lv_isub hC.1 hC.2.1 hdg (k H locs ls hP hS hl)
theorem g_imul (hC : zX p s m args c cc nL own D K q A) {x y : Int32} (hdg : decode cc pc = .ok (.imul, 1)) (hp : pc + 1 = pc') (k : zG p l e R s m args below meth c D K q A nL ce sl Q σ pc' lv (.int (x * y) :: st)) : zG p l e R s m args below meth c D K q A nL ce sl Q σ pc lv (.int y :: .int x :: st) := by subst hp; exact fun H locs ls hP hS hl => lv_imul hC.1 hC.2.1 hdg (k H locs ls hP hS hl)
theorem g_iand (hC : zX p s m args c cc nL own D K q A) {x y : Int32} (hdg : decode cc pc = .ok (.iand, 1)) (hp : pc + 1 = pc') (k : zG p l e R s m args below meth c D K q A nL ce sl Q σ pc' lv (.int (x &&& y) :: st)) : zG p l e R s m args below meth c D K q A nL ce sl Q σ pc lv (.int y :: .int x :: st) := by subst hp; exact fun H locs ls hP hS hl => lv_iand hC.1 hC.2.1 hdg (k H locs ls hP hS hl)
theorem g_ior (hC : zX p s m args c cc nL own D K q A) {x y : Int32} (hdg : decode cc pc = .ok (.ior, 1)) (hp : pc + 1 = pc') (k : zG p l e R s m args below meth c D K q A nL ce sl Q σ pc' lv (.int (x ||| y) :: st)) : zG p l e R s m args below meth c D K q A nL ce sl Q σ pc lv (.int y :: .int x :: st) := by subst hp; exact fun H locs ls hP hS hl => lv_ior hC.1 hC.2.1 hdg (k H locs ls hP hS hl)
theorem g_ixor (hC : zX p s m args c cc nL own D K q A) {x y : Int32} (hdg : decode cc pc = .ok (.ixor, 1)) (hp : pc + 1 = pc') (k : zG p l e R s m args below meth c D K q A nL ce sl Q σ pc' lv (.int (x ^^^ y) :: st)) : zG p l e R s m args below meth c D K q A nL ce sl Q σ pc lv (.int y :: .int x :: st) := by subst hp; exact fun H locs ls hP hS hl => lv_ixor hC.1 hC.2.1 hdg (k H locs ls hP hS hl)
theorem g_ishl (hC : zX p s m args c cc nL own D K q A) {x y : Int32} (hdg : decode cc pc = .ok (.ishl, 1)) (hp : pc + 1 = pc') (k : zG p l e R s m args below meth c D K q A nL ce sl Q σ pc' lv (.int (x <<< (y &&& 31)) :: st)) : zG p l e R s m args below meth c D K q A nL ce sl Q σ pc lv (.int y :: .int x :: st) := by subst hp; exact fun H locs ls hP hS hl => lv_ishl hC.1 hC.2.1 hdg (k H locs ls hP hS hl)
theorem g_ishr (hC : zX p s m args c cc nL own D K q A) {x y : Int32} (hdg : decode cc pc = .ok (.ishr, 1)) (hp : pc + 1 = pc') (k : zG p l e R s m args below meth c D K q A nL ce sl Q σ pc' lv (.int (x >>> (y &&& 31)) :: st)) : zG p l e R s m args below meth c D K q A nL ce sl Q σ pc lv (.int y :: .int x :: st) := by subst hp; exact fun H locs ls hP hS hl => lv_ishr hC.1 hC.2.1 hdg (k H locs ls hP hS hl)
theorem g_iushr (hC : zX p s m args c cc nL own D K q A) {x y : Int32} (hdg : decode cc pc = .ok (.iushr, 1)) (hp : pc + 1 = pc') (k : zG p l e R s m args below meth c D K q A nL ce sl Q σ pc' lv (.int ((x.toUInt32 >>> (y.toUInt32 &&& Int32.toUInt32 31)).toInt32) :: st)) : zG p l e R s m args below meth c D K q A nL ce sl Q σ pc lv (.int y :: .int x :: st) := by subst hp; exact fun H locs ls hP hS hl => lv_iushr hC.1 hC.2.1 hdg rfl (k H locs ls hP hS hl)
theorem g_irem (hC : zX p s m args c cc nL own D K q A) {x y : Int32} (hdg : decode cc pc = .ok (.irem, 1)) (hp : pc + 1 = pc') (hne : ¬ y = 0) (k : zG p l e R s m args below meth c D K q A nL ce sl Q σ pc' lv (.int (x - x / y * y) :: st)) : zG p l e R s m args below meth c D K q A nL ce sl Q σ pc lv (.int y :: .int x :: st) := by subst hp; exact fun H locs ls hP hS hl => lv_irem hC.1 hC.2.1 hdg hne (k H locs ls hP hS hl)
theorem g_ineg (hC : zX p s m args c cc nL own D K q A) {x : Int32} (hdg : decode cc pc = .ok (.ineg, 1)) (hp : pc + 1 = pc') (k : zG p l e R s m args below meth c D K q A nL ce sl Q σ pc' lv (.int (-x) :: st)) : zG p l e R s m args below meth c D K q A nL ce sl Q σ pc lv (.int x :: st) := by subst hp; exact fun H locs ls hP hS hl => lv_ineg hC.1 hC.2.1 hdg (k H locs ls hP hS hl)
theorem g_i2l (hC : zX p s m args c cc nL own D K q A) {x : Int32} (hdg : decode cc pc = .ok (.i2l, 1)) (hp : pc + 1 = pc') (k : zG p l e R s m args below meth c D K q A nL ce sl Q σ pc' lv (.long x.toInt64 :: st)) : zG p l e R s m args below meth c D K q A nL ce sl Q σ pc lv (.int x :: st) := by subst hp; exact fun H locs ls hP hS hl => lv_i2l hC.1 hC.2.1 hdg rfl (k H locs ls hP hS hl)
theorem g_dup (hC : zX p s m args c cc nL own D K q A) {v : Value} (hdg : decode cc pc = .ok (.dup, 1)) (hp : pc + 1 = pc') (hv : v.category = 1) (k : zG p l e R s m args below meth c D K q A nL ce sl Q σ pc' lv (v :: v :: st)) : zG p l e R s m args below meth c D K q A nL ce sl Q σ pc lv (v :: st) := by subst hp; exact fun H locs ls hP hS hl => lv_dup hC.1 hC.2.1 hdg hv (k H locs ls hP hS hl)
theorem g_pop (hC : zX p s m args c cc nL own D K q A) {v : Value} (hdg : decode cc pc = .ok (.pop, 1)) (hp : pc + 1 = pc') (hv : v.category = 1) (k : zG p l e R s m args below meth c D K q A nL ce sl Q σ pc' lv st) : zG p l e R s m args below meth c D K q A nL ce sl Q σ pc lv (v :: st) := by subst hp; exact fun H locs ls hP hS hl => lv_pop hC.1 hC.2.1 hdg hv (k H locs ls hP hS hl)
theorem g_dup2 (hC : zX p s m args c cc nL own D K q A) {u v : Value} (hdg : decode cc pc = .ok (.dup2, 1)) (hp : pc + 1 = pc') (hu : u.category = 1) (hv : v.category = 1) (k : zG p l e R s m args below meth c D K q A nL ce sl Q σ pc' lv (u :: v :: u :: v :: st)) : zG p l e R s m args below meth c D K q A nL ce sl Q σ pc lv (u :: v :: st) := by subst hp; exact fun H locs ls hP hS hl => lv_dup2_11 hC.1 hC.2.1 hdg hu hv (k H locs ls hP hS hl)
theorem g_dup_x1 (hC : zX p s m args c cc nL own D K q A) {u v : Value} (hdg : decode cc pc = .ok (.dup_x1, 1)) (hp : pc + 1 = pc') (hu : u.category = 1) (hv : v.category = 1) (k : zG p l e R s m args below meth c D K q A nL ce sl Q σ pc' lv (u :: v :: u :: st)) : zG p l e R s m args below meth c D K q A nL ce sl Q σ pc lv (u :: v :: st) := by subst hp; exact fun H locs ls hP hS hl => lv_dup_x1 hC.1 hC.2.1 hdg hu hv (k H locs ls hP hS hl)
theorem g_iload_n (hC : zX p s m args c cc nL own D K q A) {k : Fin 4} {x : Int32} (hdg : decode cc pc = .ok (.iload_n k, 1)) (hp : pc + 1 = pc') (hl : zl lv (k : Nat) = some (.int x)) (kk : zG p l e R s m args below meth c D K q A nL ce sl Q σ pc' lv (.int x :: st)) : zG p l e R s m args below meth c D K q A nL ce sl Q σ pc lv st := by subst hp; exact fun H locs ls hP hS h => lv_iload_n hC.1 hC.2.1 hdg rfl (zl_at h hl) (kk H locs ls hP hS h)
theorem g_iload (hC : zX p s m args c cc nL own D K q A) {k : Nat} {x : Int32} (hdg : decode cc pc = .ok (.iload k, 2)) (hp : pc + 2 = pc') (hl : zl lv k = some (.int x)) (kk : zG p l e R s m args below meth c D K q A nL ce sl Q σ pc' lv (.int x :: st)) : zG p l e R s m args below meth c D K q A nL ce sl Q σ pc lv st := by subst hp; exact fun H locs ls hP hS h => lv_iload hC.1 hC.2.1 hdg (zl_at h hl) (kk H locs ls hP hS h)
theorem g_istore_n (hC : zX p s m args c cc nL own D K q A) {k : Fin 4} {x : Int32} (hdg : decode cc pc = .ok (.istore_n k, 1)) (hp : pc + 1 = pc') (hn : (k : Nat) < nL) (kk : zG p l e R s m args below meth c D K q A nL ce sl Q σ pc' (zset lv (k : Nat) (.int x)) st) : zG p l e R s m args below meth c D K q A nL ce sl Q σ pc lv (.int x :: st) := by subst hp; exact fun H locs ls hP hS h => lv_istore_n hC.1 hC.2.1 hdg rfl h hn rfl (fun ls' h' => kk H locs ls' hP hS h')
theorem g_istore (hC : zX p s m args c cc nL own D K q A) {k : Nat} {x : Int32} (hdg : decode cc pc = .ok (.istore k, 2)) (hp : pc + 2 = pc') (hn : k < nL) (kk : zG p l e R s m args below meth c D K q A nL ce sl Q σ pc' (zset lv k (.int x)) st) : zG p l e R s m args below meth c D K q A nL ce sl Q σ pc lv (.int x :: st) := by subst hp; exact fun H locs ls hP hS h => lv_istore hC.1 hC.2.1 hdg h hn rfl (fun ls' h' => kk H locs ls' hP hS h')
theorem g_aload_n (hC : zX p s m args c cc nL own D K q A) {k : Fin 4} {x : Nat} (hdg : decode cc pc = .ok (.aload_n k, 1)) (hp : pc + 1 = pc') (hl : zl lv (k : Nat) = some (.ref x)) (kk : zG p l e R s m args below meth c D K q A nL ce sl Q σ pc' lv (.ref x :: st)) : zG p l e R s m args below meth c D K q A nL ce sl Q σ pc lv st := by subst hp; exact fun H locs ls hP hS h => lv_aload_n hC.1 hC.2.1 hdg rfl (zl_at h hl) (kk H locs ls hP hS h)
theorem g_aload (hC : zX p s m args c cc nL own D K q A) {k : Nat} {x : Nat} (hdg : decode cc pc = .ok (.aload k, 2)) (hp : pc + 2 = pc') (hl : zl lv k = some (.ref x)) (kk : zG p l e R s m args below meth c D K q A nL ce sl Q σ pc' lv (.ref x :: st)) : zG p l e R s m args below meth c D K q A nL ce sl Q σ pc lv st := by subst hp; exact fun H locs ls hP hS h => lv_aload hC.1 hC.2.1 hdg (zl_at h hl) (kk H locs ls hP hS h)
theorem g_astore_n (hC : zX p s m args c cc nL own D K q A) {k : Fin 4} {x : Nat} (hdg : decode cc pc = .ok (.astore_n k, 1)) (hp : pc + 1 = pc') (hn : (k : Nat) < nL) (kk : zG p l e R s m args below meth c D K q A nL ce sl Q σ pc' (zset lv (k : Nat) (.ref x)) st) : zG p l e R s m args below meth c D K q A nL ce sl Q σ pc lv (.ref x :: st) := by subst hp; exact fun H locs ls hP hS h => lv_astore_n hC.1 hC.2.1 hdg rfl h hn rfl (fun ls' h' => kk H locs ls' hP hS h')
theorem g_astore (hC : zX p s m args c cc nL own D K q A) {k : Nat} {x : Nat} (hdg : decode cc pc = .ok (.astore k, 2)) (hp : pc + 2 = pc') (hn : k < nL) (kk : zG p l e R s m args below meth c D K q A nL ce sl Q σ pc' (zset lv k (.ref x)) st) : zG p l e R s m args below meth c D K q A nL ce sl Q σ pc lv (.ref x :: st) := by subst hp; exact fun H locs ls hP hS h => lv_astore hC.1 hC.2.1 hdg h hn rfl (fun ls' h' => kk H locs ls' hP hS h')
theorem g_iinc (hC : zX p s m args c cc nL own D K q A) {i : Nat} {n : Int} {x : Int32} (v : Int32) (hdg : decode cc pc = .ok (.iinc i n, 3)) (hp : pc + 3 = pc') (hl : zl lv i = some (.int x)) (hv : x + Int32.ofInt n = v) (hn : i < nL) (kk : zG p l e R s m args below meth c D K q A nL ce sl Q σ pc' (zset lv i (.int v)) st) : zG p l e R s m args below meth c D K q A nL ce sl Q σ pc lv st := by
  subst hp
  obtain ⟨k, hk⟩ := zl_get hl
  exact fun H locs ls hP hS h => lv_iinc hC.1 hC.2.1 hdg h hk hv hn rfl (fun ls' h' => kk H locs ls' hP hS h')
-- the branches' conditions are the kit's own: see g_if_.. below
theorem g_if_eq (hC : zX p s m args c cc nL own D K q A) {x : Int32} {off : Int} (tgt : Nat) (hdg : decode cc pc = .ok (.ifCond .eq off, 3)) (ht : (pc : Int) + off = (tgt : Int)) (hp : pc + 3 = pc') (kt : x = 0 → zG p l e R s m args below meth c D K q A nL ce sl Q σ tgt lv st) (kf : ¬ x = 0 → zG p l e R s m args below meth c D K q A nL ce sl Q σ pc' lv st) : zG p l e R s m args below meth c D K q A nL ce sl Q σ pc lv (.int x :: st) := by subst hp; exact fun H locs ls hP hS hl => lv_if_eq hC.1 hC.2.1 hdg ht (fun h => kt h H locs ls hP hS hl) (fun h => kf h H locs ls hP hS hl)
theorem g_icmp_eq (hC : zX p s m args c cc nL own D K q A) {x y : Int32} {off : Int} (tgt : Nat) (hdg : decode cc pc = .ok (.if_icmp .eq off, 3)) (ht : (pc : Int) + off = (tgt : Int)) (hp : pc + 3 = pc') (kt : x = y → zG p l e R s m args below meth c D K q A nL ce sl Q σ tgt lv st) (kf : ¬ x = y → zG p l e R s m args below meth c D K q A nL ce sl Q σ pc' lv st) : zG p l e R s m args below meth c D K q A nL ce sl Q σ pc lv (.int y :: .int x :: st) := by subst hp; exact fun H locs ls hP hS hl => lv_icmp_eq hC.1 hC.2.1 hdg ht (fun h => kt h H locs ls hP hS hl) (fun h => kf h H locs ls hP hS hl)
theorem g_if_ne (hC : zX p s m args c cc nL own D K q A) {x : Int32} {off : Int} (tgt : Nat) (hdg : decode cc pc = .ok (.ifCond .ne off, 3)) (ht : (pc : Int) + off = (tgt : Int)) (hp : pc + 3 = pc') (kt : ¬ x = 0 → zG p l e R s m args below meth c D K q A nL ce sl Q σ tgt lv st) (kf : x = 0 → zG p l e R s m args below meth c D K q A nL ce sl Q σ pc' lv st) : zG p l e R s m args below meth c D K q A nL ce sl Q σ pc lv (.int x :: st) := by subst hp; exact fun H locs ls hP hS hl => lv_if_ne hC.1 hC.2.1 hdg ht (fun h => kt h H locs ls hP hS hl) (fun h => kf h H locs ls hP hS hl)
theorem g_icmp_ne (hC : zX p s m args c cc nL own D K q A) {x y : Int32} {off : Int} (tgt : Nat) (hdg : decode cc pc = .ok (.if_icmp .ne off, 3)) (ht : (pc : Int) + off = (tgt : Int)) (hp : pc + 3 = pc') (kt : ¬ x = y → zG p l e R s m args below meth c D K q A nL ce sl Q σ tgt lv st) (kf : x = y → zG p l e R s m args below meth c D K q A nL ce sl Q σ pc' lv st) : zG p l e R s m args below meth c D K q A nL ce sl Q σ pc lv (.int y :: .int x :: st) := by subst hp; exact fun H locs ls hP hS hl => lv_icmp_ne hC.1 hC.2.1 hdg ht (fun h => kt h H locs ls hP hS hl) (fun h => kf h H locs ls hP hS hl)
theorem g_if_lt (hC : zX p s m args c cc nL own D K q A) {x : Int32} {off : Int} (tgt : Nat) (hdg : decode cc pc = .ok (.ifCond .lt off, 3)) (ht : (pc : Int) + off = (tgt : Int)) (hp : pc + 3 = pc') (kt : x < 0 → zG p l e R s m args below meth c D K q A nL ce sl Q σ tgt lv st) (kf : ¬ x < 0 → zG p l e R s m args below meth c D K q A nL ce sl Q σ pc' lv st) : zG p l e R s m args below meth c D K q A nL ce sl Q σ pc lv (.int x :: st) := by subst hp; exact fun H locs ls hP hS hl => lv_if_lt hC.1 hC.2.1 hdg ht (fun h => kt h H locs ls hP hS hl) (fun h => kf h H locs ls hP hS hl)
theorem g_icmp_lt (hC : zX p s m args c cc nL own D K q A) {x y : Int32} {off : Int} (tgt : Nat) (hdg : decode cc pc = .ok (.if_icmp .lt off, 3)) (ht : (pc : Int) + off = (tgt : Int)) (hp : pc + 3 = pc') (kt : x < y → zG p l e R s m args below meth c D K q A nL ce sl Q σ tgt lv st) (kf : ¬ x < y → zG p l e R s m args below meth c D K q A nL ce sl Q σ pc' lv st) : zG p l e R s m args below meth c D K q A nL ce sl Q σ pc lv (.int y :: .int x :: st) := by subst hp; exact fun H locs ls hP hS hl => lv_icmp_lt hC.1 hC.2.1 hdg ht (fun h => kt h H locs ls hP hS hl) (fun h => kf h H locs ls hP hS hl)
theorem g_if_ge (hC : zX p s m args c cc nL own D K q A) {x : Int32} {off : Int} (tgt : Nat) (hdg : decode cc pc = .ok (.ifCond .ge off, 3)) (ht : (pc : Int) + off = (tgt : Int)) (hp : pc + 3 = pc') (kt : 0 ≤ x → zG p l e R s m args below meth c D K q A nL ce sl Q σ tgt lv st) (kf : ¬ 0 ≤ x → zG p l e R s m args below meth c D K q A nL ce sl Q σ pc' lv st) : zG p l e R s m args below meth c D K q A nL ce sl Q σ pc lv (.int x :: st) := by subst hp; exact fun H locs ls hP hS hl => lv_if_ge hC.1 hC.2.1 hdg ht (fun h => kt h H locs ls hP hS hl) (fun h => kf h H locs ls hP hS hl)
theorem g_icmp_ge (hC : zX p s m args c cc nL own D K q A) {x y : Int32} {off : Int} (tgt : Nat) (hdg : decode cc pc = .ok (.if_icmp .ge off, 3)) (ht : (pc : Int) + off = (tgt : Int)) (hp : pc + 3 = pc') (kt : y ≤ x → zG p l e R s m args below meth c D K q A nL ce sl Q σ tgt lv st) (kf : ¬ y ≤ x → zG p l e R s m args below meth c D K q A nL ce sl Q σ pc' lv st) : zG p l e R s m args below meth c D K q A nL ce sl Q σ pc lv (.int y :: .int x :: st) := by subst hp; exact fun H locs ls hP hS hl => lv_icmp_ge hC.1 hC.2.1 hdg ht (fun h => kt h H locs ls hP hS hl) (fun h => kf h H locs ls hP hS hl)
theorem g_if_gt (hC : zX p s m args c cc nL own D K q A) {x : Int32} {off : Int} (tgt : Nat) (hdg : decode cc pc = .ok (.ifCond .gt off, 3)) (ht : (pc : Int) + off = (tgt : Int)) (hp : pc + 3 = pc') (kt : 0 < x → zG p l e R s m args below meth c D K q A nL ce sl Q σ tgt lv st) (kf : ¬ 0 < x → zG p l e R s m args below meth c D K q A nL ce sl Q σ pc' lv st) : zG p l e R s m args below meth c D K q A nL ce sl Q σ pc lv (.int x :: st) := by subst hp; exact fun H locs ls hP hS hl => lv_if_gt hC.1 hC.2.1 hdg ht (fun h => kt h H locs ls hP hS hl) (fun h => kf h H locs ls hP hS hl)
theorem g_icmp_gt (hC : zX p s m args c cc nL own D K q A) {x y : Int32} {off : Int} (tgt : Nat) (hdg : decode cc pc = .ok (.if_icmp .gt off, 3)) (ht : (pc : Int) + off = (tgt : Int)) (hp : pc + 3 = pc') (kt : y < x → zG p l e R s m args below meth c D K q A nL ce sl Q σ tgt lv st) (kf : ¬ y < x → zG p l e R s m args below meth c D K q A nL ce sl Q σ pc' lv st) : zG p l e R s m args below meth c D K q A nL ce sl Q σ pc lv (.int y :: .int x :: st) := by subst hp; exact fun H locs ls hP hS hl => lv_icmp_gt hC.1 hC.2.1 hdg ht (fun h => kt h H locs ls hP hS hl) (fun h => kf h H locs ls hP hS hl)
theorem g_if_le (hC : zX p s m args c cc nL own D K q A) {x : Int32} {off : Int} (tgt : Nat) (hdg : decode cc pc = .ok (.ifCond .le off, 3)) (ht : (pc : Int) + off = (tgt : Int)) (hp : pc + 3 = pc') (kt : x ≤ 0 → zG p l e R s m args below meth c D K q A nL ce sl Q σ tgt lv st) (kf : ¬ x ≤ 0 → zG p l e R s m args below meth c D K q A nL ce sl Q σ pc' lv st) : zG p l e R s m args below meth c D K q A nL ce sl Q σ pc lv (.int x :: st) := by subst hp; exact fun H locs ls hP hS hl => lv_if_le hC.1 hC.2.1 hdg ht (fun h => kt h H locs ls hP hS hl) (fun h => kf h H locs ls hP hS hl)
theorem g_icmp_le (hC : zX p s m args c cc nL own D K q A) {x y : Int32} {off : Int} (tgt : Nat) (hdg : decode cc pc = .ok (.if_icmp .le off, 3)) (ht : (pc : Int) + off = (tgt : Int)) (hp : pc + 3 = pc') (kt : x ≤ y → zG p l e R s m args below meth c D K q A nL ce sl Q σ tgt lv st) (kf : ¬ x ≤ y → zG p l e R s m args below meth c D K q A nL ce sl Q σ pc' lv st) : zG p l e R s m args below meth c D K q A nL ce sl Q σ pc lv (.int y :: .int x :: st) := by subst hp; exact fun H locs ls hP hS hl => lv_icmp_le hC.1 hC.2.1 hdg ht (fun h => kt h H locs ls hP hS hl) (fun h => kf h H locs ls hP hS hl)
theorem g_goto (hC : zX p s m args c cc nL own D K q A) {off : Int} (tgt : Nat) (hdg : decode cc pc = .ok (.goto off, 3)) (ht : (pc : Int) + off = (tgt : Int)) (k : zG p l e R s m args below meth c D K q A nL ce sl Q σ tgt lv st) : zG p l e R s m args below meth c D K q A nL ce sl Q σ pc lv st := fun H locs ls hP hS hl => lv_goto hC.1 hC.2.1 hdg ht (k H locs ls hP hS hl)
theorem g_tableIn (hC : zX p s m args c cc nL own D K q A) {dflt lo hi : Int} {offs : Array Int} {len : Nat} {x : Int32} {off : Int} (tgt : Nat) (hdg : decode cc pc = .ok (.tableswitch dflt lo hi offs, len)) (h1 : ¬ x.toInt < lo) (h2 : ¬ hi < x.toInt) (ho : offs[(x.toInt - lo).toNat]? = some off) (ht : (pc : Int) + off = (tgt : Int)) (k : zG p l e R s m args below meth c D K q A nL ce sl Q σ tgt lv st) : zG p l e R s m args below meth c D K q A nL ce sl Q σ pc lv (.int x :: st) := fun H locs ls hP hS hl => lv_tableIn hC.1 hC.2.1 hdg h1 h2 ho ht (k H locs ls hP hS hl)
theorem g_tableOut (hC : zX p s m args c cc nL own D K q A) {dflt lo hi : Int} {offs : Array Int} {len : Nat} {x : Int32} (tgt : Nat) (hdg : decode cc pc = .ok (.tableswitch dflt lo hi offs, len)) (h : x.toInt < lo ∨ hi < x.toInt) (ht : (pc : Int) + dflt = (tgt : Int)) (k : zG p l e R s m args below meth c D K q A nL ce sl Q σ tgt lv st) : zG p l e R s m args below meth c D K q A nL ce sl Q σ pc lv (.int x :: st) := fun H locs ls hP hS hl => lv_tableOut hC.1 hC.2.1 hdg h ht (k H locs ls hP hS hl)
theorem g_lookup (hC : zX p s m args c cc nL own D K q A) {dflt : Int} {ps : Array (Int × Int)} {len : Nat} {x : Int32} {off : Int} (tgt : Nat) (hdg : decode cc pc = .ok (.lookupswitch dflt ps, len)) (hps : (ps.toList.zip (ps.toList.drop 1)).all (fun (a, next) => a.1 < next.1) = true) (ho : Op.lookupswitch.offset ps.toList dflt x.toInt = off) (ht : (pc : Int) + off = (tgt : Int)) (k : zG p l e R s m args below meth c D K q A nL ce sl Q σ tgt lv st) : zG p l e R s m args below meth c D K q A nL ce sl Q σ pc lv (.int x :: st) := fun H locs ls hP hS hl => lv_lookup hC.1 hC.2.1 hdg hps ho ht (k H locs ls hP hS hl)
end ZG
end
section
/-! HEAP ROWS over flat worlds -/
section ZH
variable {p : Program} {l : Launch} {e : Env} {R : Room} {s : State} {m : MethodId} {args : Array Value} {below : List Frame} {meth : Method} {c : Code} {cc : ByteArray} {nL ce sl : Nat} {own : String} {D : va_G} {K : Nat → ClassId} {q : Nat → Nat} {A : Nat → Prop} {Q : State → Prop} {σ : zm} {pc pc' : Nat} {lv lv' : List (Nat × Value)} {st : List Value}
/-- a field of a class of ours, as an instruction names it -/
def zFl (own : String) (index ci k : Nat) : Prop := ∃ (C : String) (T : u_T) (N : Nat), zcl[ci]? = some (C, T, N) ∧ k < N ∧ (∀ w ∈ u_ws C T N, w ∈ zT) ∧ Cond.fieldLink own index C (T k).2.1 (T k).2.2.1 ∈ zT ∧ (T k).1 = C
def zFp (own : String) (index ci k : Nat) (ty : FieldType) : Prop := ∃ (C : String) (T : u_T) (N : Nat) (t0 : Nat → FieldType), zcl[ci]? = some (C, T, N) ∧ k < N ∧ (∀ w ∈ u_ws C T N, w ∈ zT) ∧ Cond.fieldLink own index C (T k).2.1 (T k).2.2.1 ∈ zT ∧ (T k).1 = C ∧ (∀ k, k < N → parseFieldDescriptor (T k).2.2.1 = some (t0 k)) ∧ (∀ a, a < N → ∀ b, b < N → a ≠ b → (T a).2.1 ≠ (T b).2.1) ∧ (T k).2.2.2 = false ∧ parseFieldDescriptor (T k).2.2.1 = some ty
theorem zS_obj {j ci : Nat} {fl : List (Option Nat)} (hj : j < zN) (hs : zS j = (0, ci, fl)) : (zw K q σ)[j]? = some (q j, .inr (ci, zfv q σ j fl)) := by rw [zw_get hj, hs]; rfl
theorem zS_int {j n : Nat} {fl : List (Option Nat)} (hj : j < zN) (hs : zS j = (1, n, fl)) : (zw K q σ)[j]? = some (q j, .inl (K 0, n, .inl (σ j))) := by rw [zw_get hj, hs]; rfl
theorem zS_boo {j n : Nat} {fl : List (Option Nat)} (hj : j < zN) (hs : zS j = (2, n, fl)) : (zw K q σ)[j]? = some (q j, .inl (K 1, n, .inl (σ j))) := by rw [zw_get hj, hs]; rfl
theorem zS_lon {j n : Nat} {fl : List (Option Nat)} (hj : j < zN) (hs : zS j = (3, n, fl)) : (zw K q σ)[j]? = some (q j, .inl (K 2, n, .inr (.inl (fun k => (σ j k).toInt64)))) := by rw [zw_get hj, hs]; rfl
theorem zS_ref {j n : Nat} {fl : List (Option Nat)} (hj : j < zN) (hs : zS j = (4, n, fl)) : (zw K q σ)[j]? = some (q j, .inl (K 3, n, .inr (.inr (.inr (.inr (fun k => (fl.getD k none).map q)))))) := by rw [zw_get hj, hs]; rfl
theorem zset_obj {j ci k : Nat} {fl : List (Option Nat)} (hj : j < zN) (hs : zS j = (0, ci, fl)) (hf : fl[k]? = some none) (v : Int32) : (zw K q σ).set j (q j, .inr (ci, (zfv q σ j fl).set k (.int v))) = zw K q (zu σ j k v) := by
  refine zw_set hj (fun i hi => zu_row σ v hi) ?_
  rw [hs, zfv_set hf]
  rfl
theorem zset_int {j n k : Nat} {fl : List (Option Nat)} (hj : j < zN) (hs : zS j = (1, n, fl)) (v : Int32) : (zw K q σ).set j (q j, .inl (K 0, n, .inl (upd (σ j) k v))) = zw K q (zu σ j k v) := by
  refine zw_set hj (fun i hi => zu_row σ v hi) ?_
  rw [hs, ← zu_own]
  rfl
theorem zset_boo {j n k : Nat} {fl : List (Option Nat)} (hj : j < zN) (hs : zS j = (2, n, fl)) (v : Int32) : (zw K q σ).set j (q j, .inl (K 1, n, .inl (upd (σ j) k v))) = zw K q (zu σ j k v) := by
  refine zw_set hj (fun i hi => zu_row σ v hi) ?_
  rw [hs, ← zu_own]
  rfl
theorem zset_lon {j n k : Nat} {fl : List (Option Nat)} (hj : j < zN) (hs : zS j = (3, n, fl)) (v : Int32) : (zw K q σ).set j (q j, .inl (K 2, n, .inr (.inl (vp_updL (fun k => (σ j k).toInt64) k v.toInt64)))) = zw K q (zu σ j k v) := by
  refine zw_set hj (fun i hi => zu_row σ v hi) ?_
  rw [hs]
  show Sum.inl _ = Sum.inl _
  congr 5
  funext i
  by_cases hi : i = k
  · subst hi; simp [zu, vp_updL]
  · simp [zu, vp_updL, hi]
theorem zset_row {j n : Nat} {fl : List (Option Nat)} (hj : j < zN) (hs : zS j = (1, n, fl)) (f : Nat → Int32) : (zw K q σ).set j (q j, .inl (K 0, n, .inl f)) = zw K q (zr σ j f) := by
  refine zw_set hj (fun i hi => zr_ne σ f hi) ?_
  rw [hs]
  show Sum.inl _ = Sum.inl _
  rw [zr_eq]
theorem zX.dd (hC : zX p s m args c cc nL own D K q A) : va_D A (zw K q σ) := zw_D hC.2.2.2.2.2.2.1 hC.2.2.2.2.2.2.2.1
theorem zX.t (hC : zX p s m args c cc nL own D K q A) : ∀ w ∈ zT, w.before args s = true := hC.2.2.2.2.1
theorem zX.o (hC : zX p s m args c cc nL own D K q A) : s.vm.findClass own = some m.cls := hC.2.2.2.1
theorem zX.k (hC : zX p s m args c cc nL own D K q A) : va_K D zcl (zty K) s := hC.2.2.2.2.2.1
theorem zX.ee (hC : zX p s m args c cc nL own D K q A) : zE A s s.heap := hC.2.2.2.2.2.2.2.2
theorem z_nI {i : Int32} {k n : Nat} (hi : i = nI k) (hk : k < n) (hn : n < 2 ^ 31) : vp_in i n := by subst hi; exact vp_in_nI hk hn
theorem z_cl {i : Int32} {k n : Nat} (hi : i = nI k) (hk : k < n) (hn : n < 2 ^ 31) : i.toNatClampNeg = k := by subst hi; exact nI_clamp (Nat.lt_trans hk hn)
theorem z_zn {v : Int32} (h : v = 0 ∨ v = 1) : narrow .boolean (.int v) = .int v ∧ fits .boolean (.int v) = true ∧ vp_nar .boolean v = v := by rcases h with rfl | rfl <;> decide +kernel
theorem g_getI (hC : zX p s m args c cc nL own D K q A) (j ci k : Nat) {fl : List (Option Nat)} {index : Nat} (hj : j < zN) (hs : zS j = (0, ci, fl)) (hf : fl[k]? = some none) (hw : zFl own index ci k) (hdg : decode cc pc = .ok (.getfield index, 3)) (hp : pc + 3 = pc') (kk : zG p l e R s m args below meth c D K q A nL ce sl Q σ pc' lv (.int (σ j k) :: st)) : zG p l e R s m args below meth c D K q A nL ce sl Q σ pc lv (.ref (q j) :: st) := by
  subst hp
  obtain ⟨C, T, N, h1, h2, h3, h4, h5⟩ := hw
  exact fun H locs ls hP hS hl => va_get hC.1 hC.2.1 hC.t h3 hC.o hC.k hP j (zS_obj hj hs) h1 k h2 (hC.t _ h4) (fun x h => by rw [← h5]; exact h) (zfv_int hf) hdg (kk H locs ls hP hS hl)
theorem g_getR (hC : zX p s m args c cc nL own D K q A) (j ci k t : Nat) {fl : List (Option Nat)} {index : Nat} (hj : j < zN) (hs : zS j = (0, ci, fl)) (hf : fl[k]? = some (some t)) (hw : zFl own index ci k) (hdg : decode cc pc = .ok (.getfield index, 3)) (hp : pc + 3 = pc') (kk : zG p l e R s m args below meth c D K q A nL ce sl Q σ pc' lv (.ref (q t) :: st)) : zG p l e R s m args below meth c D K q A nL ce sl Q σ pc lv (.ref (q j) :: st) := by
  subst hp
  obtain ⟨C, T, N, h1, h2, h3, h4, h5⟩ := hw
  exact fun H locs ls hP hS hl => va_get hC.1 hC.2.1 hC.t h3 hC.o hC.k hP j (zS_obj hj hs) h1 k h2 (hC.t _ h4) (fun x h => by rw [← h5]; exact h) (zfv_ref hf) hdg (kk H locs ls hP hS hl)
theorem g_putI (hC : zX p s m args c cc nL own D K q A) (j ci k : Nat) {v : Int32} {fl : List (Option Nat)} {index : Nat} (hj : j < zN) (hs : zS j = (0, ci, fl)) (hf : fl[k]? = some none) (hw : zFp own index ci k .int) (hdg : decode cc pc = .ok (.putfield index, 3)) (hp : pc + 3 = pc') (kk : zG p l e R s m args below meth c D K q A nL ce sl Q (zu σ j k v) pc' lv st) : zG p l e R s m args below meth c D K q A nL ce sl Q σ pc lv (.int v :: .ref (q j) :: st) := by
  subst hp
  obtain ⟨C, T, N, t0, h1, h2, h3, h4, h5, h6, h7, h8, h9⟩ := hw
  exact fun H locs ls hP hS hl => va_put hC.1 hC.2.1 hC.t h3 t0 h6 h7 hC.o hC.k hP hC.dd hS j (zS_obj hj hs) h1 k h2 (hC.t _ h4) (fun x h => by rw [← h5]; exact h) h8 h9 rfl rfl (by rw [zfv_len]; exact (List.getElem?_eq_some_iff.mp hf).1) hdg (fun H1 locs1 hP1 _ hS1 => kk H1 locs1 ls (by rw [← zset_obj hj hs hf v]; exact hP1) hS1 hl)
theorem g_putZ (hC : zX p s m args c cc nL own D K q A) (j ci k : Nat) {v : Int32} {fl : List (Option Nat)} {index : Nat} (hj : j < zN) (hs : zS j = (0, ci, fl)) (hf : fl[k]? = some none) (hw : zFp own index ci k .boolean) (hv : v = 0 ∨ v = 1) (hdg : decode cc pc = .ok (.putfield index, 3)) (hp : pc + 3 = pc') (kk : zG p l e R s m args below meth c D K q A nL ce sl Q (zu σ j k v) pc' lv st) : zG p l e R s m args below meth c D K q A nL ce sl Q σ pc lv (.int v :: .ref (q j) :: st) := by
  subst hp
  obtain ⟨C, T, N, t0, h1, h2, h3, h4, h5, h6, h7, h8, h9⟩ := hw
  exact fun H locs ls hP hS hl => va_put hC.1 hC.2.1 hC.t h3 t0 h6 h7 hC.o hC.k hP hC.dd hS j (zS_obj hj hs) h1 k h2 (hC.t _ h4) (fun x h => by rw [← h5]; exact h) h8 h9 (z_zn hv).1 (z_zn hv).2.1 (by rw [zfv_len]; exact (List.getElem?_eq_some_iff.mp hf).1) hdg (fun H1 locs1 hP1 _ hS1 => kk H1 locs1 ls (by rw [← zset_obj hj hs hf v]; exact hP1) hS1 hl)
theorem g_iald (hC : zX p s m args c cc nL own D K q A) (j n k : Nat) {i : Int32} {fl : List (Option Nat)} (hj : j < zN) (hs : zS j = (1, n, fl)) (hi : i = nI k) (hk : k < n) (hn : n < 2 ^ 31) (hdg : decode cc pc = .ok (.iaload, 1)) (hp : pc + 1 = pc') (kk : zG p l e R s m args below meth c D K q A nL ce sl Q σ pc' lv (.int (σ j k) :: st)) : zG p l e R s m args below meth c D K q A nL ce sl Q σ pc lv (.int i :: .ref (q j) :: st) := by
  subst hp
  refine fun H locs ls hP hS hl => va_iald hC.1 hC.2.1 hC.k hP j 0 (zS_int hj hs) rfl (z_nI hi hk hn) hdg ?_
  rw [z_cl hi hk hn]
  exact kk H locs ls hP hS hl
theorem g_zald (hC : zX p s m args c cc nL own D K q A) (j n k : Nat) {i : Int32} {fl : List (Option Nat)} (hj : j < zN) (hs : zS j = (2, n, fl)) (hi : i = nI k) (hk : k < n) (hn : n < 2 ^ 31) (hdg : decode cc pc = .ok (.baload, 1)) (hp : pc + 1 = pc') (kk : zG p l e R s m args below meth c D K q A nL ce sl Q σ pc' lv (.int (σ j k) :: st)) : zG p l e R s m args below meth c D K q A nL ce sl Q σ pc lv (.int i :: .ref (q j) :: st) := by
  subst hp
  refine fun H locs ls hP hS hl => va_zald hC.1 hC.2.1 hC.k hP j 1 (zS_boo hj hs) rfl (z_nI hi hk hn) hdg ?_
  rw [z_cl hi hk hn]
  exact kk H locs ls hP hS hl
theorem g_iast (hC : zX p s m args c cc nL own D K q A) (j n k : Nat) {i v : Int32} {fl : List (Option Nat)} (hj : j < zN) (hs : zS j = (1, n, fl)) (hi : i = nI k) (hk : k < n) (hn : n < 2 ^ 31) (hdg : decode cc pc = .ok (.iastore, 1)) (hp : pc + 1 = pc') (kk : zG p l e R s m args below meth c D K q A nL ce sl Q (zu σ j k v) pc' lv st) : zG p l e R s m args below meth c D K q A nL ce sl Q σ pc lv (.int v :: .int i :: .ref (q j) :: st) := by
  subst hp
  refine fun H locs ls hP hS hl => va_iast hC.1 hC.2.1 hC.k hP hC.dd hS j 0 (zS_int hj hs) rfl (z_nI hi hk hn) hdg (fun H1 locs1 hP1 _ hS1 => ?_)
  rw [z_cl hi hk hn, zset_int hj hs] at hP1
  exact kk H1 locs1 ls hP1 hS1 hl
theorem g_zast (hC : zX p s m args c cc nL own D K q A) (j n k : Nat) {i v : Int32} {fl : List (Option Nat)} (hj : j < zN) (hs : zS j = (2, n, fl)) (hi : i = nI k) (hk : k < n) (hn : n < 2 ^ 31) (hv : v = 0 ∨ v = 1) (hdg : decode cc pc = .ok (.bastore, 1)) (hp : pc + 1 = pc') (kk : zG p l e R s m args below meth c D K q A nL ce sl Q (zu σ j k v) pc' lv st) : zG p l e R s m args below meth c D K q A nL ce sl Q σ pc lv (.int v :: .int i :: .ref (q j) :: st) := by
  subst hp
  refine fun H locs ls hP hS hl => va_zast hC.1 hC.2.1 hC.k hP hC.dd hS j 1 (zS_boo hj hs) rfl (z_nI hi hk hn) hdg (fun H1 locs1 hP1 _ hS1 => ?_)
  rw [z_cl hi hk hn, (z_zn hv).2.2, zset_boo hj hs] at hP1
  exact kk H1 locs1 ls hP1 hS1 hl
theorem g_last (hC : zX p s m args c cc nL own D K q A) (j n k : Nat) {i v : Int32} {fl : List (Option Nat)} (hj : j < zN) (hs : zS j = (3, n, fl)) (hi : i = nI k) (hk : k < n) (hn : n < 2 ^ 31) (hdg : decode cc pc = .ok (.lastore, 1)) (hp : pc + 1 = pc') (kk : zG p l e R s m args below meth c D K q A nL ce sl Q (zu σ j k v) pc' lv st) : zG p l e R s m args below meth c D K q A nL ce sl Q σ pc lv (.long v.toInt64 :: .int i :: .ref (q j) :: st) := by
  subst hp
  refine fun H locs ls hP hS hl => va_last hC.1 hC.2.1 hC.k hP hC.dd hS j 2 (zS_lon hj hs) rfl (z_nI hi hk hn) hdg (fun H1 locs1 hP1 _ hS1 => ?_)
  rw [z_cl hi hk hn, zset_lon hj hs] at hP1
  exact kk H1 locs1 ls hP1 hS1 hl
theorem g_lald (hC : zX p s m args c cc nL own D K q A) (j n k : Nat) {i : Int32} {fl : List (Option Nat)} (hj : j < zN) (hs : zS j = (3, n, fl)) (hi : i = nI k) (hk : k < n) (hn : n < 2 ^ 31) (hdg : decode cc pc = .ok (.laload, 1)) (hp : pc + 1 = pc') (kk : zG p l e R s m args below meth c D K q A nL ce sl Q σ pc' lv (.long (σ j k).toInt64 :: st)) : zG p l e R s m args below meth c D K q A nL ce sl Q σ pc lv (.int i :: .ref (q j) :: st) := by
  subst hp
  refine fun H locs ls hP hS hl => va_lald hC.1 hC.2.1 hC.k hP j 2 (zS_lon hj hs) rfl (z_nI hi hk hn) hdg ?_
  rw [z_cl hi hk hn]
  exact kk H locs ls hP hS hl
theorem g_aald (hC : zX p s m args c cc nL own D K q A) (j n k t : Nat) {i : Int32} {fl : List (Option Nat)} (hj : j < zN) (hs : zS j = (4, n, fl)) (hi : i = nI k) (hk : k < n) (hn : n < 2 ^ 31) (hf : fl.getD k none = some t) (hdg : decode cc pc = .ok (.aaload, 1)) (hp : pc + 1 = pc') (kk : zG p l e R s m args below meth c D K q A nL ce sl Q σ pc' lv (.ref (q t) :: st)) : zG p l e R s m args below meth c D K q A nL ce sl Q σ pc lv (.int i :: .ref (q j) :: st) := by
  subst hp
  refine fun H locs ls hP hS hl => va_aldq hC.1 hC.2.1 hC.k hP j 3 (zS_ref hj hs) rfl (z_nI hi hk hn) hdg ?_
  rw [z_cl hi hk hn, hf]
  exact kk H locs ls hP hS hl
theorem g_alenI (hC : zX p s m args c cc nL own D K q A) (j n : Nat) {fl : List (Option Nat)} (hj : j < zN) (hs : zS j = (1, n, fl)) (hn : n < 2 ^ 31) (hdg : decode cc pc = .ok (.arraylength, 1)) (hp : pc + 1 = pc') (kk : zG p l e R s m args below meth c D K q A nL ce sl Q σ pc' lv (.int (nI n) :: st)) : zG p l e R s m args below meth c D K q A nL ce sl Q σ pc lv (.ref (q j) :: st) := by
  subst hp
  exact fun H locs ls hP hS hl => va_alen hC.1 hC.2.1 hC.k hP j 0 (zS_int hj hs) rfl rfl hdg (kk H locs ls hP hS hl)
end ZH
end
section
theorem fl_P_40 : zFl "AppDesk$Pack" 40 1 0 := ⟨_, TP, 13, rfl, by decide, inP, kf_P_40, rfl⟩
theorem fp_P_40 : zFp "AppDesk$Pack" 40 1 0 .int := ⟨_, TP, 13, tP, rfl, by decide, inP, kf_P_40, rfl, tP_ok, nmP, rfl, tP_ok 0 (by decide)⟩
theorem fl_D_90 : zFl "AppDesk" 90 1 0 := ⟨_, TP, 13, rfl, by decide, inP, kf_D_90, rfl⟩
theorem fp_D_90 : zFp "AppDesk" 90 1 0 .int := ⟨_, TP, 13, tP, rfl, by decide, inP, kf_D_90, rfl, tP_ok, nmP, rfl, tP_ok 0 (by decide)⟩
theorem fl_P_9 : zFl "AppDesk$Pack" 9 1 1 := ⟨_, TP, 13, rfl, by decide, inP, kf_P_9, rfl⟩
theorem fp_P_9 : zFp "AppDesk$Pack" 9 1 1 .int := ⟨_, TP, 13, tP, rfl, by decide, inP, kf_P_9, rfl, tP_ok, nmP, rfl, tP_ok 1 (by decide)⟩
theorem fl_D_152 : zFl "AppDesk" 152 1 1 := ⟨_, TP, 13, rfl, by decide, inP, kf_D_152, rfl⟩
theorem fp_D_152 : zFp "AppDesk" 152 1 1 .int := ⟨_, TP, 13, tP, rfl, by decide, inP, kf_D_152, rfl, tP_ok, nmP, rfl, tP_ok 1 (by decide)⟩
theorem fl_P_43 : zFl "AppDesk$Pack" 43 1 2 := ⟨_, TP, 13, rfl, by decide, inP, kf_P_43, rfl⟩
theorem fp_P_43 : zFp "AppDesk$Pack" 43 1 2 .int := ⟨_, TP, 13, tP, rfl, by decide, inP, kf_P_43, rfl, tP_ok, nmP, rfl, tP_ok 2 (by decide)⟩
theorem fl_D_155 : zFl "AppDesk" 155 1 2 := ⟨_, TP, 13, rfl, by decide, inP, kf_D_155, rfl⟩
theorem fp_D_155 : zFp "AppDesk" 155 1 2 .int := ⟨_, TP, 13, tP, rfl, by decide, inP, kf_D_155, rfl, tP_ok, nmP, rfl, tP_ok 2 (by decide)⟩
theorem fl_P_46 : zFl "AppDesk$Pack" 46 1 3 := ⟨_, TP, 13, rfl, by decide, inP, kf_P_46, rfl⟩
theorem fp_P_46 : zFp "AppDesk$Pack" 46 1 3 .int := ⟨_, TP, 13, tP, rfl, by decide, inP, kf_P_46, rfl, tP_ok, nmP, rfl, tP_ok 3 (by decide)⟩
theorem fl_D_74 : zFl "AppDesk" 74 1 3 := ⟨_, TP, 13, rfl, by decide, inP, kf_D_74, rfl⟩
theorem fp_D_74 : zFp "AppDesk" 74 1 3 .int := ⟨_, TP, 13, tP, rfl, by decide, inP, kf_D_74, rfl, tP_ok, nmP, rfl, tP_ok 3 (by decide)⟩
theorem fl_A_36 : zFl "AppDesk$App" 36 1 4 := ⟨_, TP, 13, rfl, by decide, inP, kf_A_36, rfl⟩
theorem fp_A_36 : zFp "AppDesk$App" 36 1 4 .int := ⟨_, TP, 13, tP, rfl, by decide, inP, kf_A_36, rfl, tP_ok, nmP, rfl, tP_ok 4 (by decide)⟩
theorem fl_P_49 : zFl "AppDesk$Pack" 49 1 4 := ⟨_, TP, 13, rfl, by decide, inP, kf_P_49, rfl⟩
theorem fp_P_49 : zFp "AppDesk$Pack" 49 1 4 .int := ⟨_, TP, 13, tP, rfl, by decide, inP, kf_P_49, rfl, tP_ok, nmP, rfl, tP_ok 4 (by decide)⟩
theorem fl_D_60 : zFl "AppDesk" 60 1 4 := ⟨_, TP, 13, rfl, by decide, inP, kf_D_60, rfl⟩
theorem fp_D_60 : zFp "AppDesk" 60 1 4 .int := ⟨_, TP, 13, tP, rfl, by decide, inP, kf_D_60, rfl, tP_ok, nmP, rfl, tP_ok 4 (by decide)⟩
theorem fl_P_15 : zFl "AppDesk$Pack" 15 1 5 := ⟨_, TP, 13, rfl, by decide, inP, kf_P_15, rfl⟩
theorem fl_D_66 : zFl "AppDesk" 66 1 5 := ⟨_, TP, 13, rfl, by decide, inP, kf_D_66, rfl⟩
theorem fl_V_28 : zFl "AppDesk$Verifier" 28 1 6 := ⟨_, TP, 13, rfl, by decide, inP, kf_V_28, rfl⟩
theorem fp_V_28 : zFp "AppDesk$Verifier" 28 1 6 .int := ⟨_, TP, 13, tP, rfl, by decide, inP, kf_V_28, rfl, tP_ok, nmP, rfl, tP_ok 6 (by decide)⟩
theorem fl_P_52 : zFl "AppDesk$Pack" 52 1 6 := ⟨_, TP, 13, rfl, by decide, inP, kf_P_52, rfl⟩
theorem fp_P_52 : zFp "AppDesk$Pack" 52 1 6 .int := ⟨_, TP, 13, tP, rfl, by decide, inP, kf_P_52, rfl, tP_ok, nmP, rfl, tP_ok 6 (by decide)⟩
theorem fl_D_185 : zFl "AppDesk" 185 1 6 := ⟨_, TP, 13, rfl, by decide, inP, kf_D_185, rfl⟩
theorem fp_D_185 : zFp "AppDesk" 185 1 6 .int := ⟨_, TP, 13, tP, rfl, by decide, inP, kf_D_185, rfl, tP_ok, nmP, rfl, tP_ok 6 (by decide)⟩
theorem fl_P_25 : zFl "AppDesk$Pack" 25 1 7 := ⟨_, TP, 13, rfl, by decide, inP, kf_P_25, rfl⟩
theorem fl_D_200 : zFl "AppDesk" 200 1 7 := ⟨_, TP, 13, rfl, by decide, inP, kf_D_200, rfl⟩
theorem fl_P_28 : zFl "AppDesk$Pack" 28 1 8 := ⟨_, TP, 13, rfl, by decide, inP, kf_P_28, rfl⟩
theorem fl_D_197 : zFl "AppDesk" 197 1 8 := ⟨_, TP, 13, rfl, by decide, inP, kf_D_197, rfl⟩
theorem fl_P_31 : zFl "AppDesk$Pack" 31 1 9 := ⟨_, TP, 13, rfl, by decide, inP, kf_P_31, rfl⟩
theorem fl_D_201 : zFl "AppDesk" 201 1 9 := ⟨_, TP, 13, rfl, by decide, inP, kf_D_201, rfl⟩
theorem fl_P_34 : zFl "AppDesk$Pack" 34 1 10 := ⟨_, TP, 13, rfl, by decide, inP, kf_P_34, rfl⟩
theorem fl_V_33 : zFl "AppDesk$Verifier" 33 1 10 := ⟨_, TP, 13, rfl, by decide, inP, kf_V_33, rfl⟩
theorem fl_D_207 : zFl "AppDesk" 207 1 10 := ⟨_, TP, 13, rfl, by decide, inP, kf_D_207, rfl⟩
theorem fl_P_55 : zFl "AppDesk$Pack" 55 1 11 := ⟨_, TP, 13, rfl, by decide, inP, kf_P_55, rfl⟩
theorem fp_P_55 : zFp "AppDesk$Pack" 55 1 11 .int := ⟨_, TP, 13, tP, rfl, by decide, inP, kf_P_55, rfl, tP_ok, nmP, rfl, tP_ok 11 (by decide)⟩
theorem fl_V_44 : zFl "AppDesk$Verifier" 44 1 11 := ⟨_, TP, 13, rfl, by decide, inP, kf_V_44, rfl⟩
theorem fp_V_44 : zFp "AppDesk$Verifier" 44 1 11 .int := ⟨_, TP, 13, tP, rfl, by decide, inP, kf_V_44, rfl, tP_ok, nmP, rfl, tP_ok 11 (by decide)⟩
theorem fl_A_69 : zFl "AppDesk$App" 69 1 11 := ⟨_, TP, 13, rfl, by decide, inP, kf_A_69, rfl⟩
theorem fp_A_69 : zFp "AppDesk$App" 69 1 11 .int := ⟨_, TP, 13, tP, rfl, by decide, inP, kf_A_69, rfl, tP_ok, nmP, rfl, tP_ok 11 (by decide)⟩
theorem fl_D_188 : zFl "AppDesk" 188 1 11 := ⟨_, TP, 13, rfl, by decide, inP, kf_D_188, rfl⟩
theorem fp_D_188 : zFp "AppDesk" 188 1 11 .int := ⟨_, TP, 13, tP, rfl, by decide, inP, kf_D_188, rfl, tP_ok, nmP, rfl, tP_ok 11 (by decide)⟩
theorem fl_P_37 : zFl "AppDesk$Pack" 37 1 12 := ⟨_, TP, 13, rfl, by decide, inP, kf_P_37, rfl⟩
theorem fl_V_51 : zFl "AppDesk$Verifier" 51 1 12 := ⟨_, TP, 13, rfl, by decide, inP, kf_V_51, rfl⟩
theorem fl_A_76 : zFl "AppDesk$App" 76 1 12 := ⟨_, TP, 13, rfl, by decide, inP, kf_A_76, rfl⟩
theorem fl_A_43 : zFl "AppDesk$App" 43 2 0 := ⟨_, TA, 10, rfl, by decide, inA, kf_A_43, rfl⟩
theorem fp_A_43 : zFp "AppDesk$App" 43 2 0 .boolean := ⟨_, TA, 10, tA, rfl, by decide, inA, kf_A_43, rfl, tA_ok, nmA, rfl, tA_ok 0 (by decide)⟩
theorem fl_D_182 : zFl "AppDesk" 182 2 0 := ⟨_, TA, 10, rfl, by decide, inA, kf_D_182, rfl⟩
theorem fp_D_182 : zFp "AppDesk" 182 2 0 .boolean := ⟨_, TA, 10, tA, rfl, by decide, inA, kf_D_182, rfl, tA_ok, nmA, rfl, tA_ok 0 (by decide)⟩
theorem fl_A_12 : zFl "AppDesk$App" 12 2 1 := ⟨_, TA, 10, rfl, by decide, inA, kf_A_12, rfl⟩
theorem fl_D_107 : zFl "AppDesk" 107 2 1 := ⟨_, TA, 10, rfl, by decide, inA, kf_D_107, rfl⟩
theorem fl_A_32 : zFl "AppDesk$App" 32 2 2 := ⟨_, TA, 10, rfl, by decide, inA, kf_A_32, rfl⟩
theorem fp_A_32 : zFp "AppDesk$App" 32 2 2 .int := ⟨_, TA, 10, tA, rfl, by decide, inA, kf_A_32, rfl, tA_ok, nmA, rfl, tA_ok 2 (by decide)⟩
theorem fl_D_113 : zFl "AppDesk" 113 2 2 := ⟨_, TA, 10, rfl, by decide, inA, kf_D_113, rfl⟩
theorem fp_D_113 : zFp "AppDesk" 113 2 2 .int := ⟨_, TA, 10, tA, rfl, by decide, inA, kf_D_113, rfl, tA_ok, nmA, rfl, tA_ok 2 (by decide)⟩
theorem fl_A_46 : zFl "AppDesk$App" 46 2 3 := ⟨_, TA, 10, rfl, by decide, inA, kf_A_46, rfl⟩
theorem fp_A_46 : zFp "AppDesk$App" 46 2 3 .int := ⟨_, TA, 10, tA, rfl, by decide, inA, kf_A_46, rfl, tA_ok, nmA, rfl, tA_ok 3 (by decide)⟩
theorem fl_D_167 : zFl "AppDesk" 167 2 3 := ⟨_, TA, 10, rfl, by decide, inA, kf_D_167, rfl⟩
theorem fp_D_167 : zFp "AppDesk" 167 2 3 .int := ⟨_, TA, 10, tA, rfl, by decide, inA, kf_D_167, rfl, tA_ok, nmA, rfl, tA_ok 3 (by decide)⟩
theorem fl_A_18 : zFl "AppDesk$App" 18 2 4 := ⟨_, TA, 10, rfl, by decide, inA, kf_A_18, rfl⟩
theorem fl_A_39 : zFl "AppDesk$App" 39 2 5 := ⟨_, TA, 10, rfl, by decide, inA, kf_A_39, rfl⟩
theorem fp_A_39 : zFp "AppDesk$App" 39 2 5 .boolean := ⟨_, TA, 10, tA, rfl, by decide, inA, kf_A_39, rfl, tA_ok, nmA, rfl, tA_ok 5 (by decide)⟩
theorem fl_D_148 : zFl "AppDesk" 148 2 5 := ⟨_, TA, 10, rfl, by decide, inA, kf_D_148, rfl⟩
theorem fp_D_148 : zFp "AppDesk" 148 2 5 .boolean := ⟨_, TA, 10, tA, rfl, by decide, inA, kf_D_148, rfl, tA_ok, nmA, rfl, tA_ok 5 (by decide)⟩
theorem fl_A_49 : zFl "AppDesk$App" 49 2 6 := ⟨_, TA, 10, rfl, by decide, inA, kf_A_49, rfl⟩
theorem fp_A_49 : zFp "AppDesk$App" 49 2 6 .int := ⟨_, TA, 10, tA, rfl, by decide, inA, kf_A_49, rfl, tA_ok, nmA, rfl, tA_ok 6 (by decide)⟩
theorem fl_D_158 : zFl "AppDesk" 158 2 6 := ⟨_, TA, 10, rfl, by decide, inA, kf_D_158, rfl⟩
theorem fp_D_158 : zFp "AppDesk" 158 2 6 .int := ⟨_, TA, 10, tA, rfl, by decide, inA, kf_D_158, rfl, tA_ok, nmA, rfl, tA_ok 6 (by decide)⟩
theorem fl_A_52 : zFl "AppDesk$App" 52 2 7 := ⟨_, TA, 10, rfl, by decide, inA, kf_A_52, rfl⟩
theorem fp_A_52 : zFp "AppDesk$App" 52 2 7 .int := ⟨_, TA, 10, tA, rfl, by decide, inA, kf_A_52, rfl, tA_ok, nmA, rfl, tA_ok 7 (by decide)⟩
theorem fl_D_161 : zFl "AppDesk" 161 2 7 := ⟨_, TA, 10, rfl, by decide, inA, kf_D_161, rfl⟩
theorem fp_D_161 : zFp "AppDesk" 161 2 7 .int := ⟨_, TA, 10, tA, rfl, by decide, inA, kf_D_161, rfl, tA_ok, nmA, rfl, tA_ok 7 (by decide)⟩
theorem fl_A_22 : zFl "AppDesk$App" 22 2 8 := ⟨_, TA, 10, rfl, by decide, inA, kf_A_22, rfl⟩
theorem fl_A_25 : zFl "AppDesk$App" 25 2 9 := ⟨_, TA, 10, rfl, by decide, inA, kf_A_25, rfl⟩
theorem fl_Q_21 : zFl "AppDesk$IntentQueue" 21 3 0 := ⟨_, TQ, 4, rfl, by decide, inQ, kf_Q_21, rfl⟩
theorem fp_Q_21 : zFp "AppDesk$IntentQueue" 21 3 0 .int := ⟨_, TQ, 4, tQ, rfl, by decide, inQ, kf_Q_21, rfl, tQ_ok, nmQ, rfl, tQ_ok 0 (by decide)⟩
theorem fl_D_120 : zFl "AppDesk" 120 3 0 := ⟨_, TQ, 4, rfl, by decide, inQ, kf_D_120, rfl⟩
theorem fp_D_120 : zFp "AppDesk" 120 3 0 .int := ⟨_, TQ, 4, tQ, rfl, by decide, inQ, kf_D_120, rfl, tQ_ok, nmQ, rfl, tQ_ok 0 (by decide)⟩
theorem fl_Q_9 : zFl "AppDesk$IntentQueue" 9 3 1 := ⟨_, TQ, 4, rfl, by decide, inQ, kf_Q_9, rfl⟩
theorem fl_D_123 : zFl "AppDesk" 123 3 1 := ⟨_, TQ, 4, rfl, by decide, inQ, kf_D_123, rfl⟩
theorem fl_Q_15 : zFl "AppDesk$IntentQueue" 15 3 2 := ⟨_, TQ, 4, rfl, by decide, inQ, kf_Q_15, rfl⟩
theorem fl_D_126 : zFl "AppDesk" 126 3 2 := ⟨_, TQ, 4, rfl, by decide, inQ, kf_D_126, rfl⟩
theorem fl_Q_18 : zFl "AppDesk$IntentQueue" 18 3 3 := ⟨_, TQ, 4, rfl, by decide, inQ, kf_Q_18, rfl⟩
theorem fl_D_129 : zFl "AppDesk" 129 3 3 := ⟨_, TQ, 4, rfl, by decide, inQ, kf_D_129, rfl⟩
theorem fl_V_9 : zFl "AppDesk$Verifier" 9 4 0 := ⟨_, TV, 3, rfl, by decide, inV, kf_V_9, rfl⟩
theorem fl_V_15 : zFl "AppDesk$Verifier" 15 4 1 := ⟨_, TV, 3, rfl, by decide, inV, kf_V_15, rfl⟩
theorem fl_V_24 : zFl "AppDesk$Verifier" 24 4 2 := ⟨_, TV, 3, rfl, by decide, inV, kf_V_24, rfl⟩
theorem fp_V_24 : zFp "AppDesk$Verifier" 24 4 2 .int := ⟨_, TV, 3, tV, rfl, by decide, inV, kf_V_24, rfl, tV_ok, nmV, rfl, tV_ok 2 (by decide)⟩
theorem fl_D_10 : zFl "AppDesk" 10 0 0 := ⟨_, TD, 5, rfl, by decide, inD, kf_D_10, rfl⟩
theorem fl_D_18 : zFl "AppDesk" 18 0 1 := ⟨_, TD, 5, rfl, by decide, inD, kf_D_18, rfl⟩
theorem fl_D_26 : zFl "AppDesk" 26 0 2 := ⟨_, TD, 5, rfl, by decide, inD, kf_D_26, rfl⟩
theorem fl_D_33 : zFl "AppDesk" 33 0 3 := ⟨_, TD, 5, rfl, by decide, inD, kf_D_33, rfl⟩
theorem fl_D_37 : zFl "AppDesk" 37 0 4 := ⟨_, TD, 5, rfl, by decide, inD, kf_D_37, rfl⟩
theorem fp_D_37 : zFp "AppDesk" 37 0 4 .int := ⟨_, TD, 5, tD, rfl, by decide, inD, kf_D_37, rfl, tD_ok, nmD, rfl, tD_ok 4 (by decide)⟩
theorem fl_M_90 : zFl "AppDeskModel" 90 5 0 := ⟨_, TM, 29, rfl, by decide, inM, kf_M_90, rfl⟩
theorem fp_M_90 : zFp "AppDeskModel" 90 5 0 .int := ⟨_, TM, 29, tM, rfl, by decide, inM, kf_M_90, rfl, tM_ok, nmM, rfl, tM_ok 0 (by decide)⟩
theorem fl_M_7 : zFl "AppDeskModel" 7 5 1 := ⟨_, TM, 29, rfl, by decide, inM, kf_M_7, rfl⟩
theorem fl_M_13 : zFl "AppDeskModel" 13 5 2 := ⟨_, TM, 29, rfl, by decide, inM, kf_M_13, rfl⟩
theorem fl_M_17 : zFl "AppDeskModel" 17 5 3 := ⟨_, TM, 29, rfl, by decide, inM, kf_M_17, rfl⟩
theorem fl_M_20 : zFl "AppDeskModel" 20 5 4 := ⟨_, TM, 29, rfl, by decide, inM, kf_M_20, rfl⟩
theorem fl_M_23 : zFl "AppDeskModel" 23 5 5 := ⟨_, TM, 29, rfl, by decide, inM, kf_M_23, rfl⟩
theorem fl_M_26 : zFl "AppDeskModel" 26 5 6 := ⟨_, TM, 29, rfl, by decide, inM, kf_M_26, rfl⟩
theorem fl_M_29 : zFl "AppDeskModel" 29 5 7 := ⟨_, TM, 29, rfl, by decide, inM, kf_M_29, rfl⟩
theorem fl_M_32 : zFl "AppDeskModel" 32 5 8 := ⟨_, TM, 29, rfl, by decide, inM, kf_M_32, rfl⟩
theorem fl_M_35 : zFl "AppDeskModel" 35 5 9 := ⟨_, TM, 29, rfl, by decide, inM, kf_M_35, rfl⟩
theorem fl_M_38 : zFl "AppDeskModel" 38 5 10 := ⟨_, TM, 29, rfl, by decide, inM, kf_M_38, rfl⟩
theorem fl_M_41 : zFl "AppDeskModel" 41 5 11 := ⟨_, TM, 29, rfl, by decide, inM, kf_M_41, rfl⟩
theorem fl_M_44 : zFl "AppDeskModel" 44 5 12 := ⟨_, TM, 29, rfl, by decide, inM, kf_M_44, rfl⟩
theorem fl_M_47 : zFl "AppDeskModel" 47 5 13 := ⟨_, TM, 29, rfl, by decide, inM, kf_M_47, rfl⟩
theorem fl_M_97 : zFl "AppDeskModel" 97 5 14 := ⟨_, TM, 29, rfl, by decide, inM, kf_M_97, rfl⟩
theorem fp_M_97 : zFp "AppDeskModel" 97 5 14 .int := ⟨_, TM, 29, tM, rfl, by decide, inM, kf_M_97, rfl, tM_ok, nmM, rfl, tM_ok 14 (by decide)⟩
theorem fl_M_50 : zFl "AppDeskModel" 50 5 15 := ⟨_, TM, 29, rfl, by decide, inM, kf_M_50, rfl⟩
theorem fl_M_53 : zFl "AppDeskModel" 53 5 16 := ⟨_, TM, 29, rfl, by decide, inM, kf_M_53, rfl⟩
theorem fl_M_56 : zFl "AppDeskModel" 56 5 17 := ⟨_, TM, 29, rfl, by decide, inM, kf_M_56, rfl⟩
theorem fl_M_59 : zFl "AppDeskModel" 59 5 18 := ⟨_, TM, 29, rfl, by decide, inM, kf_M_59, rfl⟩
theorem fl_M_62 : zFl "AppDeskModel" 62 5 19 := ⟨_, TM, 29, rfl, by decide, inM, kf_M_62, rfl⟩
theorem fl_M_65 : zFl "AppDeskModel" 65 5 20 := ⟨_, TM, 29, rfl, by decide, inM, kf_M_65, rfl⟩
theorem fl_M_68 : zFl "AppDeskModel" 68 5 21 := ⟨_, TM, 29, rfl, by decide, inM, kf_M_68, rfl⟩
theorem fl_M_71 : zFl "AppDeskModel" 71 5 22 := ⟨_, TM, 29, rfl, by decide, inM, kf_M_71, rfl⟩
theorem fl_M_74 : zFl "AppDeskModel" 74 5 23 := ⟨_, TM, 29, rfl, by decide, inM, kf_M_74, rfl⟩
theorem fp_M_74 : zFp "AppDeskModel" 74 5 23 .int := ⟨_, TM, 29, tM, rfl, by decide, inM, kf_M_74, rfl, tM_ok, nmM, rfl, tM_ok 23 (by decide)⟩
theorem fl_M_136 : zFl "AppDeskModel" 136 5 24 := ⟨_, TM, 29, rfl, by decide, inM, kf_M_136, rfl⟩
theorem fp_M_136 : zFp "AppDeskModel" 136 5 24 .int := ⟨_, TM, 29, tM, rfl, by decide, inM, kf_M_136, rfl, tM_ok, nmM, rfl, tM_ok 24 (by decide)⟩
theorem fl_M_78 : zFl "AppDeskModel" 78 5 25 := ⟨_, TM, 29, rfl, by decide, inM, kf_M_78, rfl⟩
theorem fl_M_81 : zFl "AppDeskModel" 81 5 26 := ⟨_, TM, 29, rfl, by decide, inM, kf_M_81, rfl⟩
theorem fl_M_84 : zFl "AppDeskModel" 84 5 27 := ⟨_, TM, 29, rfl, by decide, inM, kf_M_84, rfl⟩
theorem fl_M_87 : zFl "AppDeskModel" 87 5 28 := ⟨_, TM, 29, rfl, by decide, inM, kf_M_87, rfl⟩
end
section
/-! CONTRACTS AND CALLS over flat worlds -/
def zrm (d : Nat) : Room := { frames := d, cells := 0, slots := 0, locals := 30 * d }
def zB (D : va_G) (K : Nat → ClassId) (q : Nat → Nat) (σ : zm) (U : State) : Prop := va_P D zcl (zw K q σ) U.heap ∧ va_K D zcl (zty K) U ∧ zE (zA q) U U.heap
def zO (D : va_G) (K : Nat → ClassId) (q : Nat → Nat) (σ : zm) (t : State) : Prop := va_P D zcl (zw K q σ) t.heap
/-- a method that answers an int, makes nothing and writes in the world alone -/
def zMi (l : Launch) (y : MethodName) (cc : ByteArray) (nL : Nat) (ret : Option FieldType) (d : Nat) (D : va_G) (K : Nat → ClassId) (q : Nat → Nat) (av : List Value) (σ : zm) (post : Int32 → zm → Prop) : Prop :=
  Met l y (.code y cc nL ret :: zT) (zrm d) (va_Pc av (zB D K q σ)) (va_Qi post (zO D K q) (zA q)) 0 0 (zA q)
def zMv (l : Launch) (y : MethodName) (cc : ByteArray) (nL : Nat) (ret : Option FieldType) (d : Nat) (D : va_G) (K : Nat → ClassId) (q : Nat → Nat) (av : List Value) (σ : zm) (post : zm → Prop) : Prop :=
  Met l y (.code y cc nL ret :: zT) (zrm d) (va_Pc av (zB D K q σ)) (va_Qv post (zO D K q) (zA q)) 0 0 (zA q)
theorem zMet_of {l : Launch} {y : MethodName} {cc : ByteArray} {nL : Nat} {ret : Option FieldType} {d : Nat} {D : va_G} {K : Nat → ClassId} {q : Nat → Nat} {av : List Value} {σ : zm} {Qc : Array Value → State → Outcome → State → Prop} {lv : List (Nat × Value)} {own : String} (hy : plainName y.cls = true) (ho : y.cls = own) (hq : zI q) (hl : (lg_sl av).length ≤ nL) (hlv : lv_args 0 av = lv)
    (body : ∀ (p : Program) (e : Env) (s : State) (m : MethodId) (below : List Frame) (meth : Method) (c : Code), zX p s m av.toArray c cc nL own D K q (zA q) → meth.sig.returnType = ret → meth.locks = false → zG p l e (zrm d) s m av.toArray below meth c D K q (zA q) nL 0 0 (MQ below Qc av.toArray s 0 0 (zA q)) σ 0 lv []) :
    Met l y (.code y cc nL ret :: zT) (zrm d) (va_Pc av (zB D K q σ)) Qc 0 0 (zA q) := by
  refine Met.ofW (cc := cc) (maxL := nL) (ret := ret) hy rfl ?_
  intro p e s m args below meth c s₁ B hml hv
  obtain ⟨rfl, hP, hK, hE⟩ := hv
  have hts := atoms_spec (ws := .code y cc nL ret :: zT) B.pre
  have hown : s.vm.findClass own = some m.cls := by rw [← ho]; exact findClass_of_methodNamed B.named
  have hlv2 := lv_entry av (n := nL) hl
  rw [hlv] at hlv2
  rw [lg_entry_eq]
  exact body p e s m below meth c ⟨B.exec, B.bytes, hml, hown, fun w hw => hts w (List.mem_cons_of_mem _ hw), hK, hq, fun j hj => ⟨j, hj, rfl⟩, hE⟩ B.returns B.notSynchronized s.heap [] _ hP va_S.rf hlv2
theorem zMi.of {l : Launch} {y : MethodName} {cc : ByteArray} {nL : Nat} {ret : Option FieldType} {d : Nat} {D : va_G} {K : Nat → ClassId} {q : Nat → Nat} {av : List Value} {σ : zm} {post : Int32 → zm → Prop} {lv : List (Nat × Value)} {own : String} (hy : plainName y.cls = true) (ho : y.cls = own) (hq : zI q) (hl : (lg_sl av).length ≤ nL) (hlv : lv_args 0 av = lv)
    (body : ∀ (p : Program) (e : Env) (s : State) (m : MethodId) (below : List Frame) (meth : Method) (c : Code), zX p s m av.toArray c cc nL own D K q (zA q) → meth.sig.returnType = ret → meth.locks = false → zG p l e (zrm d) s m av.toArray below meth c D K q (zA q) nL 0 0 (MQ below (va_Qi post (zO D K q) (zA q)) av.toArray s 0 0 (zA q)) σ 0 lv []) :
    zMi l y cc nL ret d D K q av σ post := zMet_of hy ho hq hl hlv body
theorem zMv.of {l : Launch} {y : MethodName} {cc : ByteArray} {nL : Nat} {ret : Option FieldType} {d : Nat} {D : va_G} {K : Nat → ClassId} {q : Nat → Nat} {av : List Value} {σ : zm} {post : zm → Prop} {lv : List (Nat × Value)} {own : String} (hy : plainName y.cls = true) (ho : y.cls = own) (hq : zI q) (hl : (lg_sl av).length ≤ nL) (hlv : lv_args 0 av = lv)
    (body : ∀ (p : Program) (e : Env) (s : State) (m : MethodId) (below : List Frame) (meth : Method) (c : Code), zX p s m av.toArray c cc nL own D K q (zA q) → meth.sig.returnType = ret → meth.locks = false → zG p l e (zrm d) s m av.toArray below meth c D K q (zA q) nL 0 0 (MQ below (va_Qv post (zO D K q) (zA q)) av.toArray s 0 0 (zA q)) σ 0 lv []) :
    zMv l y cc nL ret d D K q av σ post := zMet_of hy ho hq hl hlv body
theorem zB.blind {D : va_G} {K : Nat → ClassId} {q : Nat → Nat} {av : List Value} {σ : zm} : FrameBlind (va_Pc av (zB D K q σ)) := by
  intro a U g mk h
  obtain ⟨h0, h1, h2, h3⟩ := h
  exact ⟨h0, h1, va_K.moved (u := U) (U := U.calling g mk a) (Vm.Alike.refl U.vm) h2, h3.blind⟩
section ZM
variable {p : Program} {l : Launch} {e : Env} {R : Room} {s : State} {m : MethodId} {args : Array Value} {below : List Frame} {meth : Method} {c : Code} {cc : ByteArray} {nL ce sl : Nat} {own : String} {D : va_G} {K : Nat → ClassId} {q : Nat → Nat} {A : Nat → Prop} {Q : State → Prop} {σ : zm} {pc pc' : Nat} {lv lv' : List (Nat × Value)} {st rest : List Value}
theorem zX.a (hC : zX p s m args c cc nL own D K q A) : ∀ a, zA q a → A a := fun a h => by
  obtain ⟨j, hj, rfl⟩ := h
  exact hC.2.2.2.2.2.2.2.1 j hj
theorem zX.pre (hC : zX p s m args c cc nL own D K q A) {H : Heap} {locs : List Loc} (hP : va_P D zcl (zw K q σ) H) (hS : va_S A s.heap H locs) (av : List Value) : ∀ U : State, U.heap = H → s.WarmedH U.vm → va_Pc av (zB D K q σ) av.toArray U := fun U hU hW => ⟨rfl, by rw [hU]; exact hP, va_K.moved hW.alike hC.k, hC.ee.step hW hS hU hC.a⟩
theorem zX.fix (hC : zX p s m args c cc nL own D K q A) : CallFix p m c cc nL s args zT own := ⟨hC.1, hC.2.1, hC.2.2.1, hC.o, hC.t⟩
theorem g_goi {a : Array Value} {post : Int32 → zm → Prop} (hC : zX p s m args c cc nL own D K q A) (hp : pc + 3 = pc')
    (hr : ∀ (H : Heap) (locs : List Loc) (ls : Array Slot), va_P D zcl (zw K q σ) H → va_S A s.heap H locs → lv_has ls nL lv → va_Run p l e R s m args below meth c H locs ce sl 0 0 (F0 m pc ls st) rest (va_Qi post (zO D K q) (zA q) a) (zA q))
    (kk : ∀ (r : Int32) (σ' : zm), post r σ' → zG p l e R s m args below meth c D K q A nL ce sl Q σ' pc' lv (.int r :: rest)) : zG p l e R s m args below meth c D K q A nL ce sl Q σ pc lv st := by
  subst hp
  exact fun H locs ls hP hS hl => va_calli (hr H locs ls hP hS hl) hS (fun a _ h => hC.a a h) hC.a (fun r u t H1 locs1 ht hvm hpost hB hz hk hS1 => kk r u hpost H1 locs1 ls (by rw [← ht]; exact hB) hS1 hl)
theorem g_gov {a : Array Value} {post : zm → Prop} (hC : zX p s m args c cc nL own D K q A) (hp : pc + 3 = pc')
    (hr : ∀ (H : Heap) (locs : List Loc) (ls : Array Slot), va_P D zcl (zw K q σ) H → va_S A s.heap H locs → lv_has ls nL lv → va_Run p l e R s m args below meth c H locs ce sl 0 0 (F0 m pc ls st) rest (va_Qv post (zO D K q) (zA q) a) (zA q))
    (kk : ∀ (σ' : zm), post σ' → zG p l e R s m args below meth c D K q A nL ce sl Q σ' pc' lv rest) : zG p l e R s m args below meth c D K q A nL ce sl Q σ pc lv st := by
  subst hp
  exact fun H locs ls hP hS hl => va_callv (hr H locs ls hP hS hl) hS (fun a _ h => hC.a a h) hC.a (fun u t H1 locs1 ht hvm hpost hB hz hk hS1 => kk u hpost H1 locs1 ls (by rw [← ht]; exact hB) hS1 hl)
/-- the words of a call: virtual, static, static of a nest mate -/
def zY (y : MethodName) (cc : ByteArray) (nL : Nat) (ret : Option FieldType) (n : Nat) : Prop := Cond.code y cc nL ret ∈ zT ∧ Cond.initialized y.cls ∈ zT ∧ (y.cls ≠ "java/lang/invoke/MethodHandle" ∧ y.cls ≠ "java/lang/invoke/VarHandle" ∧ (parseMethodDescriptor y.desc).map (fun d => d.parameters.length) = some n) ∧ nL ≤ 11
def zYv (own : String) (index : Nat) (y : MethodName) (ci : Nat) : Prop := Cond.methodLink own index y ∈ zT ∧ Cond.instanceMethod y ∈ zT ∧ Cond.selects y.cls y y ∈ zT ∧ (zcl[ci]?).map (fun x => x.1) = some y.cls
def zYs (own : String) (index : Nat) (y : MethodName) : Prop := Cond.methodLink own index y ∈ zT ∧ Cond.static y ∈ zT
def zYn (own : String) (index : Nat) (y : MethodName) (host : String) : Prop := Cond.methodLinkNest own index y host ∈ zNw ∧ Cond.static y ∈ zT
theorem zT_in {ws : List Cond} (h : ∀ w ∈ ws, w ∈ zT) : GoodIn zT ws := fun w hw => ⟨h w hw, good_of_word (zT_good w (h w hw))⟩
theorem zr_room {d nL' : Nat} (hn : nL' ≤ 11) (hR : d + 1 ≤ R.frames ∧ 30 * d + 30 ≤ R.locals) : (zrm d).frames + 1 ≤ R.frames ∧ 8 + (nL' + 11) + (zrm d).locals ≤ R.locals := ⟨hR.1, by show 8 + (nL' + 11) + 30 * d ≤ R.locals; omega⟩
theorem z_runV {y : MethodName} {cc' : ByteArray} {nL' : Nat} {ret : Option FieldType} {d index ci b : Nat} {As : List Value} {fl : List (Option Nat)} {Qc : Array Value → State → Outcome → State → Prop} (hC : zX p s m args c cc nL own D K q A)
    (hM : Met l y (.code y cc' nL' ret :: zT) (zrm d) (va_Pc (.ref (q b) :: As) (zB D K q σ)) Qc 0 0 (zA q)) (hY : zY y cc' nL' ret As.length) (hV : zYv own index y ci) (hb : b < zN) (hs : zS b = (0, ci, fl)) (hR : d + 1 ≤ R.frames ∧ 30 * d + 30 ≤ R.locals) (hcs : ce ≤ R.cells ∧ sl ≤ R.slots) (hst : st = As.reverse ++ .ref (q b) :: rest) (hW : (rest.map fun v => v.category).sum ≤ 8) (hdg : decode cc pc = .ok (.invokevirtual index, 3)) :
    ∀ (H : Heap) (locs : List Loc) (ls : Array Slot), va_P D zcl (zw K q σ) H → va_S A s.heap H locs → lv_has ls nL lv → va_Run p l e R s m args below meth c H locs ce sl 0 0 (F0 m pc ls st) rest (Qc (Value.ref (q b) :: As).toArray) (zA q) := by
  intro H locs ls hP hS hl
  obtain ⟨y1, y2, y3, y4⟩ := hY
  obtain ⟨v1, v2, v3, v4⟩ := hV
  obtain ⟨x, hx, hx1⟩ := Option.map_eq_some_iff.mp v4
  have hrec := va_recv hC.k hP hx (zS_obj hb hs)
  rw [hx1] at hrec
  refine va_runV hC.fix hM (cwV (C := y.cls) As.length hC.t (zT_in ?_) rfl rfl rfl ⟨rfl, y3⟩ (zr_room y4 hR)) ⟨zB.blind, hrec, hC.pre hP hS _⟩ rfl rfl hl.1 hst (lv_room hW) hdg hcs
  intro w hw
  rcases List.mem_append.mp hw with h | h
  · simp only [List.mem_cons, List.not_mem_nil, or_false] at h
    rcases h with rfl | rfl | rfl | rfl <;> assumption
  · rcases List.mem_cons.mp h with rfl | h
    · exact y1
    · exact h
theorem z_runS {y : MethodName} {cc' : ByteArray} {nL' : Nat} {ret : Option FieldType} {d index : Nat} {As : List Value} {Qc : Array Value → State → Outcome → State → Prop} (hC : zX p s m args c cc nL own D K q A)
    (hM : Met l y (.code y cc' nL' ret :: zT) (zrm d) (va_Pc As (zB D K q σ)) Qc 0 0 (zA q)) (hY : zY y cc' nL' ret As.length) (hV : zYs own index y) (hR : d + 1 ≤ R.frames ∧ 30 * d + 30 ≤ R.locals) (hcs : ce ≤ R.cells ∧ sl ≤ R.slots) (hst : st = As.reverse ++ rest) (hW : (rest.map fun v => v.category).sum ≤ 8) (hdg : decode cc pc = .ok (.invokestatic index, 3)) :
    ∀ (H : Heap) (locs : List Loc) (ls : Array Slot), va_P D zcl (zw K q σ) H → va_S A s.heap H locs → lv_has ls nL lv → va_Run p l e R s m args below meth c H locs ce sl 0 0 (F0 m pc ls st) rest (Qc As.toArray) (zA q) := by
  intro H locs ls hP hS hl
  obtain ⟨y1, y2, y3, y4⟩ := hY
  obtain ⟨v1, v2⟩ := hV
  refine va_runS hC.fix hM (va_cwS As.length hC.t (zT_in ?_) rfl rfl rfl y3 (zr_room y4 hR)) ⟨zB.blind, hC.pre hP hS _⟩ rfl rfl hl.1 hst (lv_room hW) hdg hcs
  intro w hw
  rcases List.mem_append.mp hw with h | h
  · simp only [List.mem_cons, List.not_mem_nil, or_false] at h
    rcases h with rfl | rfl | rfl <;> assumption
  · rcases List.mem_cons.mp h with rfl | h
    · exact y1
    · exact h
theorem z_runN {y : MethodName} {cc' : ByteArray} {nL' : Nat} {ret : Option FieldType} {d index : Nat} {host : String} {As : List Value} {Qc : Array Value → State → Outcome → State → Prop} (hC : zX p s m args c cc nL own D K q A)
    (hM : Met l y (.code y cc' nL' ret :: zT) (zrm d) (va_Pc As (zB D K q σ)) Qc 0 0 (zA q)) (hY : zY y cc' nL' ret As.length) (hV : zYn own index y host) (hR : d + 1 ≤ R.frames ∧ 30 * d + 30 ≤ R.locals) (hcs : ce ≤ R.cells ∧ sl ≤ R.slots) (hst : st = As.reverse ++ rest) (hW : (rest.map fun v => v.category).sum ≤ 8) (hdg : decode cc pc = .ok (.invokestatic index, 3)) :
    ∀ (H : Heap) (locs : List Loc) (ls : Array Slot), va_P D zcl (zw K q σ) H → va_S A s.heap H locs → lv_has ls nL lv → va_Run p l e R s m args below meth c H locs ce sl 0 0 (F0 m pc ls st) rest (Qc As.toArray) (zA q) := by
  intro H locs ls hP hS hl
  obtain ⟨y1, y2, y3, y4⟩ := hY
  obtain ⟨v1, v2⟩ := hV
  have hG : GoodIn zT (Cond.code y cc' nL' ret :: zT) := zT_in (fun w hw => by
    rcases List.mem_cons.mp hw with rfl | h
    · exact y1
    · exact h)
  exact va_runSN (host := host) hC.fix hM ⟨va_cnB As.length hC.t hG rfl rfl rfl (hC.ee.1 _ v1) (hC.t _ y2) y3 (zr_room y4 hR), hC.t _ v2, trivial⟩ ⟨zB.blind, hC.pre hP hS _⟩ rfl rfl hl.1 hst (lv_room hW) hdg hcs
-- the ends of a method
theorem g_iret {post : Int32 → zm → Prop} {v : Int32} (hC : zX p s m args c cc nL own D K q (zA q)) (hr : meth.sig.returnType = some .int) (hk : meth.locks = false) (hdg : decode cc pc = .ok (.ireturn, 1)) (hpo : post v σ) : zG p l e R s m args below meth c D K q (zA q) nL ce sl (MQ below (va_Qi post (zO D K q) (zA q)) args s ce sl (zA q)) σ pc lv [.int v] := fun H locs ls hP hS hl => W.iret hC.1 hC.2.1 hr (fun t ht hW => ⟨⟨v, σ, rfl, hpo, by show va_P D zcl (zw K q σ) t.heap; rw [ht]; exact hP⟩, hS.F ht⟩) hS.2.2 hdg hk
theorem g_zret {post : Int32 → zm → Prop} {v : Int32} (hC : zX p s m args c cc nL own D K q (zA q)) (hr : meth.sig.returnType = some .boolean) (hk : meth.locks = false) (hdg : decode cc pc = .ok (.ireturn, 1)) (hv : v = 0 ∨ v = 1) (hpo : post v σ) : zG p l e R s m args below meth c D K q (zA q) nL ce sl (MQ below (va_Qi post (zO D K q) (zA q)) args s ce sl (zA q)) σ pc lv [.int v] := fun H locs ls hP hS hl => W.zret hC.1 hC.2.1 hr (z_zn hv).1 (fun t ht hW => ⟨⟨v, σ, rfl, hpo, by show va_P D zcl (zw K q σ) t.heap; rw [ht]; exact hP⟩, hS.F ht⟩) hS.2.2 hdg hk
theorem g_vret {post : zm → Prop} (hC : zX p s m args c cc nL own D K q (zA q)) (hr : meth.sig.returnType = none) (hk : meth.locks = false) (hdg : decode cc pc = .ok (.return_, 1)) (hpo : post σ) : zG p l e R s m args below meth c D K q (zA q) nL ce sl (MQ below (va_Qv post (zO D K q) (zA q)) args s ce sl (zA q)) σ pc lv [] := fun H locs ls hP hS hl => W.vret hC.1 hC.2.1 hr (fun t ht hW => ⟨⟨σ, rfl, hpo, by show va_P D zcl (zw K q σ) t.heap; rw [ht]; exact hP⟩, hS.F ht⟩) hS.2.2 hdg hk
end ZM
-- booleans
def zb (b : Bool) : Int32 := if b then 1 else 0
theorem zb01 (b : Bool) : zb b = 0 ∨ zb b = 1 := by cases b <;> simp [zb]
theorem zb_0 {b : Bool} : zb b = 0 ↔ b = false := by cases b <;> decide
theorem zb_n0 {b : Bool} : ¬ zb b = 0 ↔ b = true := by cases b <;> decide
theorem zb_1 {b : Bool} : zb b = 1 ↔ b = true := by cases b <;> decide
section ZBB
variable {p : Program} {l : Launch} {e : Env} {R : Room} {s : State} {m : MethodId} {args : Array Value} {below : List Frame} {meth : Method} {c : Code} {cc : ByteArray} {nL ce sl : Nat} {own : String} {D : va_G} {K : Nat → ClassId} {q : Nat → Nat} {A : Nat → Prop} {Q : State → Prop} {σ : zm} {pc pc' : Nat} {lv lv' : List (Nat × Value)} {st rest : List Value}
theorem g_ifeq_b (hC : zX p s m args c cc nL own D K q A) {b : Bool} {off : Int} (tgt : Nat) (hdg : decode cc pc = .ok (.ifCond .eq off, 3)) (ht : (pc : Int) + off = (tgt : Int)) (hp : pc + 3 = pc') (kt : b = false → zG p l e R s m args below meth c D K q A nL ce sl Q σ tgt lv st) (kf : b = true → zG p l e R s m args below meth c D K q A nL ce sl Q σ pc' lv st) : zG p l e R s m args below meth c D K q A nL ce sl Q σ pc lv (.int (zb b) :: st) := g_if_eq hC tgt hdg ht hp (fun h => kt (zb_0.mp h)) (fun h => kf (zb_n0.mp h))
theorem g_ifne_b (hC : zX p s m args c cc nL own D K q A) {b : Bool} {off : Int} (tgt : Nat) (hdg : decode cc pc = .ok (.ifCond .ne off, 3)) (ht : (pc : Int) + off = (tgt : Int)) (hp : pc + 3 = pc') (kt : b = true → zG p l e R s m args below meth c D K q A nL ce sl Q σ tgt lv st) (kf : b = false → zG p l e R s m args below meth c D K q A nL ce sl Q σ pc' lv st) : zG p l e R s m args below meth c D K q A nL ce sl Q σ pc lv (.int (zb b) :: st) := g_if_ne hC tgt hdg ht hp (fun h => kt (zb_n0.mp h)) (fun h => kf (zb_0.mp h))
end ZBB
end
section
theorem yy_D_app : zY y_D_app b_D_app 4 (some .int) 2 := ⟨kc_D_app, ki_D, ⟨by decide, by decide, by decide +kernel⟩, by decide⟩
theorem yy_D_argumentOf : zY y_D_argumentOf b_D_argumentOf 1 (some .int) 1 := ⟨kc_D_argumentOf, ki_D, ⟨by decide, by decide, by decide +kernel⟩, by decide⟩
theorem yy_D_ask : zY y_D_ask b_D_ask 2 (some .boolean) 1 := ⟨kc_D_ask, ki_D, ⟨by decide, by decide, by decide +kernel⟩, by decide⟩
theorem yy_D_declare : zY y_D_declare b_D_declare 3 (some .boolean) 2 := ⟨kc_D_declare, ki_D, ⟨by decide, by decide, by decide +kernel⟩, by decide⟩
theorem yy_D_declarerOf : zY y_D_declarerOf b_D_declarerOf 3 (some .int) 1 := ⟨kc_D_declarerOf, ki_D, ⟨by decide, by decide, by decide +kernel⟩, by decide⟩
theorem yy_D_deliver : zY y_D_deliver b_D_deliver 6 (some .int) 0 := ⟨kc_D_deliver, ki_D, ⟨by decide, by decide, by decide +kernel⟩, by decide⟩
theorem yy_D_doWord : zY y_D_doWord b_D_doWord 4 (some .boolean) 1 := ⟨kc_D_doWord, ki_D, ⟨by decide, by decide, by decide +kernel⟩, by decide⟩
theorem yy_D_draft : zY y_D_draft b_D_draft 4 (some .boolean) 3 := ⟨kc_D_draft, ki_D, ⟨by decide, by decide, by decide +kernel⟩, by decide⟩
theorem yy_D_grant : zY y_D_grant b_D_grant 3 (some .boolean) 2 := ⟨kc_D_grant, ki_D, ⟨by decide, by decide, by decide +kernel⟩, by decide⟩
theorem yy_D_hasBit : zY y_D_hasBit b_D_hasBit 3 (some .boolean) 3 := ⟨kc_D_hasBit, ki_D, ⟨by decide, by decide, by decide +kernel⟩, by decide⟩
theorem yy_D_holds : zY y_D_holds b_D_holds 5 (some .boolean) 2 := ⟨kc_D_holds, ki_D, ⟨by decide, by decide, by decide +kernel⟩, by decide⟩
theorem yy_D_install : zY y_D_install b_D_install 1 (some .int) 0 := ⟨kc_D_install, ki_D, ⟨by decide, by decide, by decide +kernel⟩, by decide⟩
theorem yy_D_isBelow : zY y_D_isBelow b_D_isBelow 2 (some .boolean) 2 := ⟨kc_D_isBelow, ki_D, ⟨by decide, by decide, by decide +kernel⟩, by decide⟩
theorem yy_D_isDeclaredByOther : zY y_D_isDeclaredByOther b_D_isDeclaredByOther 4 (some .boolean) 2 := ⟨kc_D_isDeclaredByOther, ki_D, ⟨by decide, by decide, by decide +kernel⟩, by decide⟩
theorem yy_D_isInstalled : zY y_D_isInstalled b_D_isInstalled 2 (some .boolean) 1 := ⟨kc_D_isInstalled, ki_D, ⟨by decide, by decide, by decide +kernel⟩, by decide⟩
theorem yy_D_isSound : zY y_D_isSound b_D_isSound 2 (some .boolean) 1 := ⟨kc_D_isSound, ki_D, ⟨by decide, by decide, by decide +kernel⟩, by decide⟩
theorem yy_D_kept : zY y_D_kept b_D_kept 3 (some .int) 2 := ⟨kc_D_kept, ki_D, ⟨by decide, by decide, by decide +kernel⟩, by decide⟩
theorem yy_D_mayEnter : zY y_D_mayEnter b_D_mayEnter 4 (some .boolean) 1 := ⟨kc_D_mayEnter, ki_D, ⟨by decide, by decide, by decide +kernel⟩, by decide⟩
theorem yy_D_nextInTurn : zY y_D_nextInTurn b_D_nextInTurn 3 (some .int) 0 := ⟨kc_D_nextInTurn, ki_D, ⟨by decide, by decide, by decide +kernel⟩, by decide⟩
theorem yy_D_operationOf : zY y_D_operationOf b_D_operationOf 1 (some .int) 1 := ⟨kc_D_operationOf, ki_D, ⟨by decide, by decide, by decide +kernel⟩, by decide⟩
theorem yy_D_part : zY y_D_part b_D_part 5 (some .boolean) 4 := ⟨kc_D_part, ki_D, ⟨by decide, by decide, by decide +kernel⟩, by decide⟩
theorem yy_D_passesGuard : zY y_D_passesGuard b_D_passesGuard 3 (some .boolean) 2 := ⟨kc_D_passesGuard, ki_D, ⟨by decide, by decide, by decide +kernel⟩, by decide⟩
theorem yy_D_placeToBegin : zY y_D_placeToBegin b_D_placeToBegin 8 (some .int) 3 := ⟨kc_D_placeToBegin, ki_D, ⟨by decide, by decide, by decide +kernel⟩, by decide⟩
theorem yy_D_queued : zY y_D_queued b_D_queued 1 (some .int) 0 := ⟨kc_D_queued, ki_D, ⟨by decide, by decide, by decide +kernel⟩, by decide⟩
theorem yy_D_remove : zY y_D_remove b_D_remove 2 (some .boolean) 1 := ⟨kc_D_remove, ki_D, ⟨by decide, by decide, by decide +kernel⟩, by decide⟩
theorem yy_D_revoke : zY y_D_revoke b_D_revoke 3 (some .boolean) 2 := ⟨kc_D_revoke, ki_D, ⟨by decide, by decide, by decide +kernel⟩, by decide⟩
theorem yy_D_seal : zY y_D_seal b_D_seal 2 none 1 := ⟨kc_D_seal, ki_D, ⟨by decide, by decide, by decide +kernel⟩, by decide⟩
theorem yy_D_send : zY y_D_send b_D_send 4 (some .boolean) 3 := ⟨kc_D_send, ki_D, ⟨by decide, by decide, by decide +kernel⟩, by decide⟩
theorem yy_D_sendFromStack : zY y_D_sendFromStack b_D_sendFromStack 5 (some .boolean) 1 := ⟨kc_D_sendFromStack, ki_D, ⟨by decide, by decide, by decide +kernel⟩, by decide⟩
theorem yy_D_sign : zY y_D_sign b_D_sign 1 (some .int) 0 := ⟨kc_D_sign, ki_D, ⟨by decide, by decide, by decide +kernel⟩, by decide⟩
theorem yy_D_step : zY y_D_step b_D_step 2 (some .int) 0 := ⟨kc_D_step, ki_D, ⟨by decide, by decide, by decide +kernel⟩, by decide⟩
theorem yy_D_word : zY y_D_word b_D_word 2 (some .boolean) 1 := ⟨kc_D_word, ki_D, ⟨by decide, by decide, by decide +kernel⟩, by decide⟩
theorem yy_A_begin : zY y_A_begin b_A_begin 4 none 3 := ⟨kc_A_begin, ki_A, ⟨by decide, by decide, by decide +kernel⟩, by decide⟩
theorem yy_A_clearAway : zY y_A_clearAway b_A_clearAway 1 none 0 := ⟨kc_A_clearAway, ki_A, ⟨by decide, by decide, by decide +kernel⟩, by decide⟩
theorem yy_A_doPlainWord : zY y_A_doPlainWord b_A_doPlainWord 4 none 2 := ⟨kc_A_doPlainWord, ki_A, ⟨by decide, by decide, by decide +kernel⟩, by decide⟩
theorem yy_A_doTurn : zY y_A_doTurn b_A_doTurn 4 none 2 := ⟨kc_A_doTurn, ki_A, ⟨by decide, by decide, by decide +kernel⟩, by decide⟩
theorem yy_A_getKept : zY y_A_getKept b_A_getKept 2 (some .boolean) 0 := ⟨kc_A_getKept, ki_A, ⟨by decide, by decide, by decide +kernel⟩, by decide⟩
theorem yy_A_keepUppermost : zY y_A_keepUppermost b_A_keepUppermost 2 (some .boolean) 0 := ⟨kc_A_keepUppermost, ki_A, ⟨by decide, by decide, by decide +kernel⟩, by decide⟩
theorem yy_A_keepsUnder : zY y_A_keepsUnder b_A_keepsUnder 2 (some .boolean) 1 := ⟨kc_A_keepsUnder, ki_A, ⟨by decide, by decide, by decide +kernel⟩, by decide⟩
theorem yy_A_pop : zY y_A_pop b_A_pop 2 (some .int) 0 := ⟨kc_A_pop, ki_A, ⟨by decide, by decide, by decide +kernel⟩, by decide⟩
theorem yy_A_push : zY y_A_push b_A_push 2 none 1 := ⟨kc_A_push, ki_A, ⟨by decide, by decide, by decide +kernel⟩, by decide⟩
theorem yy_A_secondUppermost : zY y_A_secondUppermost b_A_secondUppermost 1 (some .int) 0 := ⟨kc_A_secondUppermost, ki_A, ⟨by decide, by decide, by decide +kernel⟩, by decide⟩
theorem yy_A_storeInto : zY y_A_storeInto b_A_storeInto 3 none 2 := ⟨kc_A_storeInto, ki_A, ⟨by decide, by decide, by decide +kernel⟩, by decide⟩
theorem yy_A_takeIn : zY y_A_takeIn b_A_takeIn 2 none 1 := ⟨kc_A_takeIn, ki_A, ⟨by decide, by decide, by decide +kernel⟩, by decide⟩
theorem yy_A_uppermost : zY y_A_uppermost b_A_uppermost 1 (some .int) 0 := ⟨kc_A_uppermost, ki_A, ⟨by decide, by decide, by decide +kernel⟩, by decide⟩
theorem yy_A_valueUnder : zY y_A_valueUnder b_A_valueUnder 2 (some .int) 1 := ⟨kc_A_valueUnder, ki_A, ⟨by decide, by decide, by decide +kernel⟩, by decide⟩
theorem yy_A_wasGranted : zY y_A_wasGranted b_A_wasGranted 2 (some .boolean) 1 := ⟨kc_A_wasGranted, ki_A, ⟨by decide, by decide, by decide +kernel⟩, by decide⟩
theorem yy_A_wordInPlace : zY y_A_wordInPlace b_A_wordInPlace 1 (some .int) 0 := ⟨kc_A_wordInPlace, ki_A, ⟨by decide, by decide, by decide +kernel⟩, by decide⟩
theorem yy_Q_add : zY y_Q_add b_Q_add 4 (some .boolean) 3 := ⟨kc_Q_add, ki_Q, ⟨by decide, by decide, by decide +kernel⟩, by decide⟩
theorem yy_Q_dropAllOf : zY y_Q_dropAllOf b_Q_dropAllOf 4 none 1 := ⟨kc_Q_dropAllOf, ki_Q, ⟨by decide, by decide, by decide +kernel⟩, by decide⟩
theorem yy_Q_dropFirst : zY y_Q_dropFirst b_Q_dropFirst 2 none 0 := ⟨kc_Q_dropFirst, ki_Q, ⟨by decide, by decide, by decide +kernel⟩, by decide⟩
theorem yy_Q_setRow : zY y_Q_setRow b_Q_setRow 5 none 4 := ⟨kc_Q_setRow, ki_Q, ⟨by decide, by decide, by decide +kernel⟩, by decide⟩
theorem yy_P_addPart : zY y_P_addPart b_P_addPart 5 (some .boolean) 4 := ⟨kc_P_addPart, ki_P, ⟨by decide, by decide, by decide +kernel⟩, by decide⟩
theorem yy_P_addWord : zY y_P_addWord b_P_addWord 2 (some .boolean) 1 := ⟨kc_P_addWord, ki_P, ⟨by decide, by decide, by decide +kernel⟩, by decide⟩
theorem yy_P_asksFor : zY y_P_asksFor b_P_asksFor 2 (some .boolean) 1 := ⟨kc_P_asksFor, ki_P, ⟨by decide, by decide, by decide +kernel⟩, by decide⟩
theorem yy_P_beginAnew : zY y_P_beginAnew b_P_beginAnew 4 none 3 := ⟨kc_P_beginAnew, ki_P, ⟨by decide, by decide, by decide +kernel⟩, by decide⟩
theorem yy_P_copyFrom : zY y_P_copyFrom b_P_copyFrom 2 none 1 := ⟨kc_P_copyFrom, ki_P, ⟨by decide, by decide, by decide +kernel⟩, by decide⟩
theorem yy_P_declares : zY y_P_declares b_P_declares 2 (some .boolean) 1 := ⟨kc_P_declares, ki_P, ⟨by decide, by decide, by decide +kernel⟩, by decide⟩
theorem yy_P_digest : zY y_P_digest b_P_digest 3 (some .int) 0 := ⟨kc_P_digest, ki_P, ⟨by decide, by decide, by decide +kernel⟩, by decide⟩
theorem yy_P_mix : zY y_P_mix b_P_mix 3 (some .int) 2 := ⟨kc_P_mix, ki_P, ⟨by decide, by decide, by decide +kernel⟩, by decide⟩
theorem yy_P_sealOfSigner : zY y_P_sealOfSigner b_P_sealOfSigner 1 (some .int) 0 := ⟨kc_P_sealOfSigner, ki_P, ⟨by decide, by decide, by decide +kernel⟩, by decide⟩
theorem yy_V_goesOnWell : zY y_V_goesOnWell b_V_goesOnWell 8 (some .boolean) 2 := ⟨kc_V_goesOnWell, ki_V, ⟨by decide, by decide, by decide +kernel⟩, by decide⟩
theorem yy_V_hasGoodArgument : zY y_V_hasGoodArgument b_V_hasGoodArgument 2 (some .boolean) 2 := ⟨kc_V_hasGoodArgument, ki_V, ⟨by decide, by decide, by decide +kernel⟩, by decide⟩
theorem yy_V_isGood : zY y_V_isGood b_V_isGood 3 (some .boolean) 1 := ⟨kc_V_isGood, ki_V, ⟨by decide, by decide, by decide +kernel⟩, by decide⟩
theorem yy_V_reach : zY y_V_reach b_V_reach 4 (some .boolean) 3 := ⟨kc_V_reach, ki_V, ⟨by decide, by decide, by decide +kernel⟩, by decide⟩
theorem yy_M_acts : zY y_M_acts b_M_acts 7 none 4 := ⟨kc_M_acts, ki_M, ⟨by decide, by decide, by decide +kernel⟩, by decide⟩
theorem yy_M_app : zY y_M_app b_M_app 3 (some .int) 2 := ⟨kc_M_app, ki_M, ⟨by decide, by decide, by decide +kernel⟩, by decide⟩
theorem yy_M_ask : zY y_M_ask b_M_ask 2 (some .boolean) 1 := ⟨kc_M_ask, ki_M, ⟨by decide, by decide, by decide +kernel⟩, by decide⟩
theorem yy_M_bad : zY y_M_bad b_M_bad 3 (some .boolean) 0 := ⟨kc_M_bad, ki_M, ⟨by decide, by decide, by decide +kernel⟩, by decide⟩
theorem yy_M_change : zY y_M_change b_M_change 1 (some .int) 1 := ⟨kc_M_change, ki_M, ⟨by decide, by decide, by decide +kernel⟩, by decide⟩
theorem yy_M_clashes : zY y_M_clashes b_M_clashes 5 (some .boolean) 0 := ⟨kc_M_clashes, ki_M, ⟨by decide, by decide, by decide +kernel⟩, by decide⟩
theorem yy_M_comes : zY y_M_comes b_M_comes 3 (some .boolean) 2 := ⟨kc_M_comes, ki_M, ⟨by decide, by decide, by decide +kernel⟩, by decide⟩
theorem yy_M_declare : zY y_M_declare b_M_declare 3 (some .boolean) 2 := ⟨kc_M_declare, ki_M, ⟨by decide, by decide, by decide +kernel⟩, by decide⟩
theorem yy_M_deliver : zY y_M_deliver b_M_deliver 6 (some .int) 0 := ⟨kc_M_deliver, ki_M, ⟨by decide, by decide, by decide +kernel⟩, by decide⟩
theorem yy_M_does : zY y_M_does b_M_does 8 none 3 := ⟨kc_M_does, ki_M, ⟨by decide, by decide, by decide +kernel⟩, by decide⟩
theorem yy_M_draft : zY y_M_draft b_M_draft 5 (some .boolean) 3 := ⟨kc_M_draft, ki_M, ⟨by decide, by decide, by decide +kernel⟩, by decide⟩
theorem yy_M_fails : zY y_M_fails b_M_fails 4 (some .boolean) 2 := ⟨kc_M_fails, ki_M, ⟨by decide, by decide, by decide +kernel⟩, by decide⟩
theorem yy_M_goesOn : zY y_M_goesOn b_M_goesOn 8 (some .boolean) 1 := ⟨kc_M_goesOn, ki_M, ⟨by decide, by decide, by decide +kernel⟩, by decide⟩
theorem yy_M_good : zY y_M_good b_M_good 4 (some .boolean) 0 := ⟨kc_M_good, ki_M, ⟨by decide, by decide, by decide +kernel⟩, by decide⟩
theorem yy_M_grant : zY y_M_grant b_M_grant 3 (some .boolean) 2 := ⟨kc_M_grant, ki_M, ⟨by decide, by decide, by decide +kernel⟩, by decide⟩
theorem yy_M_holds : zY y_M_holds b_M_holds 3 (some .boolean) 2 := ⟨kc_M_holds, ki_M, ⟨by decide, by decide, by decide +kernel⟩, by decide⟩
theorem yy_M_in : zY y_M_in b_M_in 2 (some .boolean) 2 := ⟨kc_M_in, ki_M, ⟨by decide, by decide, by decide +kernel⟩, by decide⟩
theorem yy_M_install : zY y_M_install b_M_install 3 (some .int) 0 := ⟨kc_M_install, ki_M, ⟨by decide, by decide, by decide +kernel⟩, by decide⟩
theorem yy_M_isApp : zY y_M_isApp b_M_isApp 2 (some .boolean) 1 := ⟨kc_M_isApp, ki_M, ⟨by decide, by decide, by decide +kernel⟩, by decide⟩
theorem yy_M_kept : zY y_M_kept b_M_kept 3 (some .int) 2 := ⟨kc_M_kept, ki_M, ⟨by decide, by decide, by decide +kernel⟩, by decide⟩
theorem yy_M_keys : zY y_M_keys b_M_keys 4 (some .int) 1 := ⟨kc_M_keys, ki_M, ⟨by decide, by decide, by decide +kernel⟩, by decide⟩
theorem yy_M_may : zY y_M_may b_M_may 6 (some .boolean) 2 := ⟨kc_M_may, ki_M, ⟨by decide, by decide, by decide +kernel⟩, by decide⟩
theorem yy_M_mixed : zY y_M_mixed b_M_mixed 3 (some .int) 2 := ⟨kc_M_mixed, ki_M, ⟨by decide, by decide, by decide +kernel⟩, by decide⟩
theorem yy_M_move : zY y_M_move b_M_move 3 none 2 := ⟨kc_M_move, ki_M, ⟨by decide, by decide, by decide +kernel⟩, by decide⟩
theorem yy_M_needs : zY y_M_needs b_M_needs 1 (some .int) 1 := ⟨kc_M_needs, ki_M, ⟨by decide, by decide, by decide +kernel⟩, by decide⟩
theorem yy_M_part : zY y_M_part b_M_part 6 (some .boolean) 4 := ⟨kc_M_part, ki_M, ⟨by decide, by decide, by decide +kernel⟩, by decide⟩
theorem yy_M_post : zY y_M_post b_M_post 4 none 3 := ⟨kc_M_post, ki_M, ⟨by decide, by decide, by decide +kernel⟩, by decide⟩
theorem yy_M_push : zY y_M_push b_M_push 3 none 2 := ⟨kc_M_push, ki_M, ⟨by decide, by decide, by decide +kernel⟩, by decide⟩
theorem yy_M_queued : zY y_M_queued b_M_queued 1 (some .int) 0 := ⟨kc_M_queued, ki_M, ⟨by decide, by decide, by decide +kernel⟩, by decide⟩
theorem yy_M_remove : zY y_M_remove b_M_remove 4 (some .boolean) 1 := ⟨kc_M_remove, ki_M, ⟨by decide, by decide, by decide +kernel⟩, by decide⟩
theorem yy_M_revoke : zY y_M_revoke b_M_revoke 3 (some .boolean) 2 := ⟨kc_M_revoke, ki_M, ⟨by decide, by decide, by decide +kernel⟩, by decide⟩
theorem yy_M_seal : zY y_M_seal b_M_seal 2 none 1 := ⟨kc_M_seal, ki_M, ⟨by decide, by decide, by decide +kernel⟩, by decide⟩
theorem yy_M_sealed : zY y_M_sealed b_M_sealed 3 (some .int) 0 := ⟨kc_M_sealed, ki_M, ⟨by decide, by decide, by decide +kernel⟩, by decide⟩
theorem yy_M_send : zY y_M_send b_M_send 4 (some .boolean) 3 := ⟨kc_M_send, ki_M, ⟨by decide, by decide, by decide +kernel⟩, by decide⟩
theorem yy_M_sign : zY y_M_sign b_M_sign 1 (some .int) 0 := ⟨kc_M_sign, ki_M, ⟨by decide, by decide, by decide +kernel⟩, by decide⟩
theorem yy_M_step : zY y_M_step b_M_step 3 (some .int) 0 := ⟨kc_M_step, ki_M, ⟨by decide, by decide, by decide +kernel⟩, by decide⟩
theorem yy_M_takes : zY y_M_takes b_M_takes 6 (some .boolean) 4 := ⟨kc_M_takes, ki_M, ⟨by decide, by decide, by decide +kernel⟩, by decide⟩
theorem yy_M_thrown : zY y_M_thrown b_M_thrown 1 (some .int) 0 := ⟨kc_M_thrown, ki_M, ⟨by decide, by decide, by decide +kernel⟩, by decide⟩
theorem yy_M_top : zY y_M_top b_M_top 3 (some .int) 2 := ⟨kc_M_top, ki_M, ⟨by decide, by decide, by decide +kernel⟩, by decide⟩
theorem yy_M_word : zY y_M_word b_M_word 2 (some .boolean) 1 := ⟨kc_M_word, ki_M, ⟨by decide, by decide, by decide +kernel⟩, by decide⟩
theorem yy_J_bitCount : zY y_J_bitCount b_J_bitCount 1 (some .int) 1 := ⟨kc_J_bitCount, ki_Integer, ⟨by decide, by decide, by decide +kernel⟩, by decide⟩
theorem yy_J_fill : zY y_J_fill b_J_fill 4 none 2 := ⟨kc_J_fill, ki_Arrays, ⟨by decide, by decide, by decide +kernel⟩, by decide⟩
theorem ys_P_19 : zYs "AppDesk$Pack" 19 y_J_fill := ⟨km_P_19, kt_J_fill⟩
theorem yv_L_24 : zYv "AppDeskLaw" 24 y_D_draft 0 := ⟨km_L_24, kn_D_draft, ks_D_draft, rfl⟩
theorem ys_D_41 : zYs "AppDesk" 41 y_D_isBelow := ⟨km_D_41, kt_D_isBelow⟩
theorem yv_D_45 : zYv "AppDesk" 45 y_P_beginAnew 1 := ⟨km_D_45, kn_P_beginAnew, ks_P_beginAnew, rfl⟩
theorem yv_L_29 : zYv "AppDeskLaw" 29 y_D_word 0 := ⟨km_L_29, kn_D_word, ks_D_word, rfl⟩
theorem yv_D_49 : zYv "AppDesk" 49 y_P_addWord 1 := ⟨km_D_49, kn_P_addWord, ks_P_addWord, rfl⟩
theorem yv_L_34 : zYv "AppDeskLaw" 34 y_D_part 0 := ⟨km_L_34, kn_D_part, ks_D_part, rfl⟩
theorem yv_D_53 : zYv "AppDesk" 53 y_P_addPart 1 := ⟨km_D_53, kn_P_addPart, ks_P_addPart, rfl⟩
theorem yv_L_39 : zYv "AppDeskLaw" 39 y_D_ask 0 := ⟨km_L_39, kn_D_ask, ks_D_ask, rfl⟩
theorem yv_D_57 : zYv "AppDesk" 57 y_P_asksFor 1 := ⟨km_D_57, kn_P_asksFor, ks_P_asksFor, rfl⟩
theorem yn_P_68 : zYn "AppDesk$Pack" 68 y_D_hasBit "AppDesk" := ⟨kw_P_68, kt_D_hasBit⟩
theorem yv_L_43 : zYv "AppDeskLaw" 43 y_D_declare 0 := ⟨km_L_43, kn_D_declare, ks_D_declare, rfl⟩
theorem yv_D_63 : zYv "AppDesk" 63 y_P_declares 1 := ⟨km_D_63, kn_P_declares, ks_P_declares, rfl⟩
theorem yn_P_72 : zYn "AppDesk$Pack" 72 y_D_isBelow "AppDesk" := ⟨kw_P_72, kt_D_isBelow⟩
theorem yv_L_48 : zYv "AppDeskLaw" 48 y_D_sign 0 := ⟨km_L_48, kn_D_sign, ks_D_sign, rfl⟩
theorem yv_D_70 : zYv "AppDesk" 70 y_P_sealOfSigner 1 := ⟨km_D_70, kn_P_sealOfSigner, ks_P_sealOfSigner, rfl⟩
theorem yv_P_76 : zYv "AppDesk$Pack" 76 y_P_digest 1 := ⟨km_P_76, kn_P_digest, ks_P_digest, rfl⟩
theorem ys_P_81 : zYs "AppDesk$Pack" 81 y_P_mix := ⟨km_P_81, kt_P_mix⟩
theorem yv_P_85 : zYv "AppDesk$Pack" 85 y_P_declares 1 := ⟨km_P_85, kn_P_declares, ks_P_declares, rfl⟩
theorem yv_L_52 : zYv "AppDeskLaw" 52 y_D_seal 0 := ⟨km_L_52, kn_D_seal, ks_D_seal, rfl⟩
theorem yv_L_66 : zYv "AppDeskLaw" 66 y_D_remove 0 := ⟨km_L_66, kn_D_remove, ks_D_remove, rfl⟩
theorem yv_D_97 : zYv "AppDesk" 97 y_D_isInstalled 0 := ⟨km_D_97, kn_D_isInstalled, ks_D_isInstalled, rfl⟩
theorem yv_D_100 : zYv "AppDesk" 100 y_A_clearAway 2 := ⟨km_D_100, kn_A_clearAway, ks_A_clearAway, rfl⟩
theorem yv_D_103 : zYv "AppDesk" 103 y_Q_dropAllOf 3 := ⟨km_D_103, kn_Q_dropAllOf, ks_Q_dropAllOf, rfl⟩
theorem yv_Q_25 : zYv "AppDesk$IntentQueue" 25 y_Q_setRow 3 := ⟨km_Q_25, kn_Q_setRow, ks_Q_setRow, rfl⟩
theorem yv_L_70 : zYv "AppDeskLaw" 70 y_D_grant 0 := ⟨km_L_70, kn_D_grant, ks_D_grant, rfl⟩
theorem yv_D_110 : zYv "AppDesk" 110 y_A_wasGranted 2 := ⟨km_D_110, kn_A_wasGranted, ks_A_wasGranted, rfl⟩
theorem yn_A_61 : zYn "AppDesk$App" 61 y_D_hasBit "AppDesk" := ⟨kw_A_61, kt_D_hasBit⟩
theorem yv_L_74 : zYv "AppDeskLaw" 74 y_D_revoke 0 := ⟨km_L_74, kn_D_revoke, ks_D_revoke, rfl⟩
theorem yv_L_78 : zYv "AppDeskLaw" 78 y_D_send 0 := ⟨km_L_78, kn_D_send, ks_D_send, rfl⟩
theorem yv_D_116 : zYv "AppDesk" 116 y_Q_add 3 := ⟨km_D_116, kn_Q_add, ks_Q_add, rfl⟩
theorem yv_L_82 : zYv "AppDeskLaw" 82 y_D_deliver 0 := ⟨km_L_82, kn_D_deliver, ks_D_deliver, rfl⟩
theorem yv_D_132 : zYv "AppDesk" 132 y_Q_dropFirst 3 := ⟨km_D_132, kn_Q_dropFirst, ks_Q_dropFirst, rfl⟩
theorem yv_D_135 : zYv "AppDesk" 135 y_D_placeToBegin 0 := ⟨km_D_135, kn_D_placeToBegin, ks_D_placeToBegin, rfl⟩
theorem yv_D_204 : zYv "AppDesk" 204 y_D_passesGuard 0 := ⟨km_D_204, kn_D_passesGuard, ks_D_passesGuard, rfl⟩
theorem yv_D_210 : zYv "AppDesk" 210 y_D_holds 0 := ⟨km_D_210, kn_D_holds, ks_D_holds, rfl⟩
theorem yv_D_176 : zYv "AppDesk" 176 y_D_declarerOf 0 := ⟨km_D_176, kn_D_declarerOf, ks_D_declarerOf, rfl⟩
theorem yv_D_139 : zYv "AppDesk" 139 y_A_begin 2 := ⟨km_D_139, kn_A_begin, ks_A_begin, rfl⟩
theorem ys_A_55 : zYs "AppDesk$App" 55 y_J_fill := ⟨km_A_55, kt_J_fill⟩
theorem yv_L_89 : zYv "AppDeskLaw" 89 y_D_app 0 := ⟨km_L_89, kn_D_app, ks_D_app, rfl⟩
theorem yv_D_164 : zYv "AppDesk" 164 y_A_uppermost 2 := ⟨km_D_164, kn_A_uppermost, ks_A_uppermost, rfl⟩
theorem yn_A_72 : zYn "AppDesk$App" 72 y_D_isBelow "AppDesk" := ⟨kw_A_72, kt_D_isBelow⟩
theorem ys_D_170 : zYs "AppDesk" 170 y_J_bitCount := ⟨km_D_170, kt_J_bitCount⟩
theorem yv_L_94 : zYv "AppDeskLaw" 94 y_D_holds 0 := ⟨km_L_94, kn_D_holds, ks_D_holds, rfl⟩
theorem yv_L_98 : zYv "AppDeskLaw" 98 y_D_kept 0 := ⟨km_L_98, kn_D_kept, ks_D_kept, rfl⟩
theorem yv_D_179 : zYv "AppDesk" 179 y_A_valueUnder 2 := ⟨km_D_179, kn_A_valueUnder, ks_A_valueUnder, rfl⟩
theorem yv_A_65 : zYv "AppDesk$App" 65 y_A_keepsUnder 2 := ⟨km_A_65, kn_A_keepsUnder, ks_A_keepsUnder, rfl⟩
theorem yv_L_102 : zYv "AppDeskLaw" 102 y_D_queued 0 := ⟨km_L_102, kn_D_queued, ks_D_queued, rfl⟩
theorem yv_L_7 : zYv "AppDeskLaw" 7 y_D_install 0 := ⟨km_L_7, kn_D_install, ks_D_install, rfl⟩
theorem yv_D_77 : zYv "AppDesk" 77 y_D_isSound 0 := ⟨km_D_77, kn_D_isSound, ks_D_isSound, rfl⟩
theorem yv_D_191 : zYv "AppDesk" 191 y_V_isGood 4 := ⟨km_D_191, kn_V_isGood, ks_V_isGood, rfl⟩
theorem ys_V_18 : zYs "AppDesk$Verifier" 18 y_J_fill := ⟨km_V_18, kt_J_fill⟩
theorem yv_V_36 : zYv "AppDesk$Verifier" 36 y_V_reach 4 := ⟨km_V_36, kn_V_reach, ks_V_reach, rfl⟩
theorem yn_V_47 : zYn "AppDesk$Verifier" 47 y_D_isBelow "AppDesk" := ⟨kw_V_47, kt_D_isBelow⟩
theorem yv_V_40 : zYv "AppDesk$Verifier" 40 y_V_goesOnWell 4 := ⟨km_V_40, kn_V_goesOnWell, ks_V_goesOnWell, rfl⟩
theorem yn_V_54 : zYn "AppDesk$Verifier" 54 y_D_operationOf "AppDesk" := ⟨kw_V_54, kt_D_operationOf⟩
theorem yn_V_58 : zYn "AppDesk$Verifier" 58 y_D_argumentOf "AppDesk" := ⟨kw_V_58, kt_D_argumentOf⟩
theorem ys_V_61 : zYs "AppDesk$Verifier" 61 y_V_hasGoodArgument := ⟨km_V_61, kt_V_hasGoodArgument⟩
theorem yv_D_84 : zYv "AppDesk" 84 y_D_mayEnter 0 := ⟨km_D_84, kn_D_mayEnter, ks_D_mayEnter, rfl⟩
theorem yv_D_194 : zYv "AppDesk" 194 y_D_isDeclaredByOther 0 := ⟨km_D_194, kn_D_isDeclaredByOther, ks_D_isDeclaredByOther, rfl⟩
theorem yv_D_93 : zYv "AppDesk" 93 y_A_takeIn 2 := ⟨km_D_93, kn_A_takeIn, ks_A_takeIn, rfl⟩
theorem yv_A_28 : zYv "AppDesk$App" 28 y_P_copyFrom 1 := ⟨km_A_28, kn_P_copyFrom, ks_P_copyFrom, rfl⟩
theorem yv_P_58 : zYv "AppDesk$Pack" 58 y_P_beginAnew 1 := ⟨km_P_58, kn_P_beginAnew, ks_P_beginAnew, rfl⟩
theorem yv_L_17 : zYv "AppDeskLaw" 17 y_D_step 0 := ⟨km_L_17, kn_D_step, ks_D_step, rfl⟩
theorem yv_D_142 : zYv "AppDesk" 142 y_D_nextInTurn 0 := ⟨km_D_142, kn_D_nextInTurn, ks_D_nextInTurn, rfl⟩
theorem yv_D_145 : zYv "AppDesk" 145 y_D_doWord 0 := ⟨km_D_145, kn_D_doWord, ks_D_doWord, rfl⟩
theorem yv_D_213 : zYv "AppDesk" 213 y_A_wordInPlace 2 := ⟨km_D_213, kn_A_wordInPlace, ks_A_wordInPlace, rfl⟩
theorem ys_D_216 : zYs "AppDesk" 216 y_D_operationOf := ⟨km_D_216, kt_D_operationOf⟩
theorem yv_D_219 : zYv "AppDesk" 219 y_D_sendFromStack 0 := ⟨km_D_219, kn_D_sendFromStack, ks_D_sendFromStack, rfl⟩
theorem yv_D_242 : zYv "AppDesk" 242 y_A_secondUppermost 2 := ⟨km_D_242, kn_A_secondUppermost, ks_A_secondUppermost, rfl⟩
theorem yv_D_245 : zYv "AppDesk" 245 y_A_pop 2 := ⟨km_D_245, kn_A_pop, ks_A_pop, rfl⟩
theorem yv_A_79 : zYv "AppDesk$App" 79 y_A_uppermost 2 := ⟨km_A_79, kn_A_uppermost, ks_A_uppermost, rfl⟩
theorem ys_D_222 : zYs "AppDesk" 222 y_D_argumentOf := ⟨km_D_222, kt_D_argumentOf⟩
theorem yv_D_225 : zYv "AppDesk" 225 y_A_push 2 := ⟨km_D_225, kn_A_push, ks_A_push, rfl⟩
theorem yv_D_228 : zYv "AppDesk" 228 y_A_getKept 2 := ⟨km_D_228, kn_A_getKept, ks_A_getKept, rfl⟩
theorem yv_A_89 : zYv "AppDesk$App" 89 y_A_pop 2 := ⟨km_A_89, kn_A_pop, ks_A_pop, rfl⟩
theorem yv_A_100 : zYv "AppDesk$App" 100 y_A_valueUnder 2 := ⟨km_A_100, kn_A_valueUnder, ks_A_valueUnder, rfl⟩
theorem yv_A_92 : zYv "AppDesk$App" 92 y_A_push 2 := ⟨km_A_92, kn_A_push, ks_A_push, rfl⟩
theorem yv_D_232 : zYv "AppDesk" 232 y_A_keepUppermost 2 := ⟨km_D_232, kn_A_keepUppermost, ks_A_keepUppermost, rfl⟩
theorem yv_A_104 : zYv "AppDesk$App" 104 y_A_secondUppermost 2 := ⟨km_A_104, kn_A_secondUppermost, ks_A_secondUppermost, rfl⟩
theorem ys_A_107 : zYs "AppDesk$App" 107 y_J_bitCount := ⟨km_A_107, kt_J_bitCount⟩
theorem yv_D_235 : zYv "AppDesk" 235 y_A_doTurn 2 := ⟨km_D_235, kn_A_doTurn, ks_A_doTurn, rfl⟩
theorem yv_D_239 : zYv "AppDesk" 239 y_A_doPlainWord 2 := ⟨km_D_239, kn_A_doPlainWord, ks_A_doPlainWord, rfl⟩
theorem yv_A_96 : zYv "AppDesk$App" 96 y_A_storeInto 2 := ⟨km_A_96, kn_A_storeInto, ks_A_storeInto, rfl⟩
theorem yv_L_63 : zYv "AppDeskLaw" 63 y_M_thrown 5 := ⟨km_L_63, kn_M_thrown, ks_M_thrown, rfl⟩
theorem yv_L_28 : zYv "AppDeskLaw" 28 y_M_draft 5 := ⟨km_L_28, kn_M_draft, ks_M_draft, rfl⟩
theorem ys_M_93 : zYs "AppDeskModel" 93 y_M_in := ⟨km_M_93, kt_M_in⟩
theorem yv_L_33 : zYv "AppDeskLaw" 33 y_M_word 5 := ⟨km_L_33, kn_M_word, ks_M_word, rfl⟩
theorem yv_L_38 : zYv "AppDeskLaw" 38 y_M_part 5 := ⟨km_L_38, kn_M_part, ks_M_part, rfl⟩
theorem yv_L_42 : zYv "AppDeskLaw" 42 y_M_ask 5 := ⟨km_L_42, kn_M_ask, ks_M_ask, rfl⟩
theorem yv_L_47 : zYv "AppDeskLaw" 47 y_M_declare 5 := ⟨km_L_47, kn_M_declare, ks_M_declare, rfl⟩
theorem yv_L_51 : zYv "AppDeskLaw" 51 y_M_sign 5 := ⟨km_L_51, kn_M_sign, ks_M_sign, rfl⟩
theorem yv_M_105 : zYv "AppDeskModel" 105 y_M_sealed 5 := ⟨km_M_105, kn_M_sealed, ks_M_sealed, rfl⟩
theorem ys_M_100 : zYs "AppDeskModel" 100 y_M_mixed := ⟨km_M_100, kt_M_mixed⟩
theorem yv_L_56 : zYv "AppDeskLaw" 56 y_M_seal 5 := ⟨km_L_56, kn_M_seal, ks_M_seal, rfl⟩
theorem yv_L_62 : zYv "AppDeskLaw" 62 y_M_install 5 := ⟨km_L_62, kn_M_install, ks_M_install, rfl⟩
theorem yv_M_127 : zYv "AppDeskModel" 127 y_M_bad 5 := ⟨km_M_127, kn_M_bad, ks_M_bad, rfl⟩
theorem yv_M_123 : zYv "AppDeskModel" 123 y_M_good 5 := ⟨km_M_123, kn_M_good, ks_M_good, rfl⟩
theorem yv_M_116 : zYv "AppDeskModel" 116 y_M_comes 5 := ⟨km_M_116, kn_M_comes, ks_M_comes, rfl⟩
theorem yv_M_119 : zYv "AppDeskModel" 119 y_M_goesOn 5 := ⟨km_M_119, kn_M_goesOn, ks_M_goesOn, rfl⟩
theorem ys_M_109 : zYs "AppDeskModel" 109 y_M_change := ⟨km_M_109, kt_M_change⟩
theorem ys_M_113 : zYs "AppDeskModel" 113 y_M_needs := ⟨km_M_113, kt_M_needs⟩
theorem yv_M_130 : zYv "AppDeskModel" 130 y_M_clashes 5 := ⟨km_M_130, kn_M_clashes, ks_M_clashes, rfl⟩
theorem yv_L_69 : zYv "AppDeskLaw" 69 y_M_remove 5 := ⟨km_L_69, kn_M_remove, ks_M_remove, rfl⟩
theorem yv_M_133 : zYv "AppDeskModel" 133 y_M_isApp 5 := ⟨km_M_133, kn_M_isApp, ks_M_isApp, rfl⟩
theorem yv_M_139 : zYv "AppDeskModel" 139 y_M_move 5 := ⟨km_M_139, kn_M_move, ks_M_move, rfl⟩
theorem yv_L_73 : zYv "AppDeskLaw" 73 y_M_grant 5 := ⟨km_L_73, kn_M_grant, ks_M_grant, rfl⟩
theorem yv_L_77 : zYv "AppDeskLaw" 77 y_M_revoke 5 := ⟨km_L_77, kn_M_revoke, ks_M_revoke, rfl⟩
theorem yv_L_97 : zYv "AppDeskLaw" 97 y_M_holds 5 := ⟨km_L_97, kn_M_holds, ks_M_holds, rfl⟩
theorem yv_M_143 : zYv "AppDeskModel" 143 y_M_may 5 := ⟨km_M_143, kn_M_may, ks_M_may, rfl⟩
theorem yv_L_81 : zYv "AppDeskLaw" 81 y_M_send 5 := ⟨km_L_81, kn_M_send, ks_M_send, rfl⟩
theorem yv_M_146 : zYv "AppDeskModel" 146 y_M_post 5 := ⟨km_M_146, kn_M_post, ks_M_post, rfl⟩
theorem yv_L_85 : zYv "AppDeskLaw" 85 y_M_deliver 5 := ⟨km_L_85, kn_M_deliver, ks_M_deliver, rfl⟩
theorem yv_M_150 : zYv "AppDeskModel" 150 y_M_takes 5 := ⟨km_M_150, kn_M_takes, ks_M_takes, rfl⟩
theorem yv_L_88 : zYv "AppDeskLaw" 88 y_M_step 5 := ⟨km_L_88, kn_M_step, ks_M_step, rfl⟩
theorem yv_M_160 : zYv "AppDeskModel" 160 y_M_fails 5 := ⟨km_M_160, kn_M_fails, ks_M_fails, rfl⟩
theorem yv_M_154 : zYv "AppDeskModel" 154 y_M_top 5 := ⟨km_M_154, kn_M_top, ks_M_top, rfl⟩
theorem yv_M_157 : zYv "AppDeskModel" 157 y_M_keys 5 := ⟨km_M_157, kn_M_keys, ks_M_keys, rfl⟩
theorem yv_M_163 : zYv "AppDeskModel" 163 y_M_does 5 := ⟨km_M_163, kn_M_does, ks_M_does, rfl⟩
theorem yv_M_166 : zYv "AppDeskModel" 166 y_M_push 5 := ⟨km_M_166, kn_M_push, ks_M_push, rfl⟩
theorem yv_M_169 : zYv "AppDeskModel" 169 y_M_acts 5 := ⟨km_M_169, kn_M_acts, ks_M_acts, rfl⟩
theorem yv_L_93 : zYv "AppDeskLaw" 93 y_M_app 5 := ⟨km_L_93, kn_M_app, ks_M_app, rfl⟩
theorem yv_L_101 : zYv "AppDeskLaw" 101 y_M_kept 5 := ⟨km_L_101, kn_M_kept, ks_M_kept, rfl⟩
theorem yv_L_105 : zYv "AppDeskLaw" 105 y_M_queued 5 := ⟨km_L_105, kn_M_queued, ks_M_queued, rfl⟩
end
section
/-! rows for constants, Math.max, System.arraycopy, the verifier's two static rows -/
theorem km_Q_29 : Cond.methodLink "AppDesk$IntentQueue" 29 Lib.Math.max.name ∈ zT := zk2 72 rfl rfl
theorem km_A_83 : Cond.methodLink "AppDesk$App" 83 Lib.Math.max.name ∈ zT := zk3 58 rfl rfl
theorem kmx_s : Cond.static Lib.Math.max.name ∈ zT := zk2 73 rfl rfl
theorem kmx_c : Cond.code Lib.Math.max.name Lib.Math.max.code 2 (some .int) ∈ zT := zk2 74 rfl rfl
theorem kcp_l : Cond.methodLink "AppDesk$Pack" 62 arraycopyName ∈ zT := zk3 22 rfl rfl
theorem kcp_s : Cond.static arraycopyName ∈ zT := zk3 23 rfl rfl
theorem kcp_n : Cond.native arraycopyName ∈ zT := zk3 24 rfl rfl
section ZJ
variable {p : Program} {l : Launch} {e : Env} {R : Room} {s : State} {m : MethodId} {args : Array Value} {below : List Frame} {meth : Method} {c : Code} {cc : ByteArray} {nL ce sl : Nat} {own : String} {D : va_G} {K : Nat → ClassId} {q : Nat → Nat} {A : Nat → Prop} {Q : State → Prop} {σ : zm} {pc pc' : Nat} {lv lv' : List (Nat × Value)} {st rest : List Value}
theorem g_ldc (hC : zX p s m args c cc nL own D K q A) {index : Nat} (v : Int32) (hdg : decode cc pc = .ok (.ldc index, 2)) (hw : Cond.constant own index v ∈ zT) (hp : pc + 2 = pc') (k : zG p l e R s m args below meth c D K q A nL ce sl Q σ pc' lv (.int v :: st)) : zG p l e R s m args below meth c D K q A nL ce sl Q σ pc lv st := by
  subst hp
  exact fun H locs ls hP hS hl => lv_ldc hC.1 hC.2.1 hC.o (hC.t _ hw) hdg (k H locs ls hP hS hl)
theorem g_ldcw (hC : zX p s m args c cc nL own D K q A) {index : Nat} (v : Int32) (hdg : decode cc pc = .ok (.ldc_w index, 3)) (hw : Cond.constant own index v ∈ zT) (hp : pc + 3 = pc') (k : zG p l e R s m args below meth c D K q A nL ce sl Q σ pc' lv (.int v :: st)) : zG p l e R s m args below meth c D K q A nL ce sl Q σ pc lv st := by
  subst hp
  exact fun H locs ls hP hS hl => lv_ldcw hC.1 hC.2.1 hC.o (hC.t _ hw) hdg (k H locs ls hP hS hl)
def zmax (x y : Int32) : Int32 := if x < y then y else x
theorem g_max (hC : zX p s m args c cc nL own D K q A) {index : Nat} {x y : Int32} (hw : Cond.methodLink own index Lib.Math.max.name ∈ zT) (hdg : decode cc pc = .ok (.invokestatic index, 3)) (hp : pc + 3 = pc') (hR : 1 ≤ R.frames ∧ 30 ≤ R.locals ∧ ce ≤ R.cells ∧ sl ≤ R.slots) (hW : (st.map fun v => v.category).sum ≤ 8) (k : zG p l e R s m args below meth c D K q A nL ce sl Q σ pc' lv (.int (zmax x y) :: st)) : zG p l e R s m args below meth c D K q A nL ce sl Q σ pc lv (.int y :: .int x :: st) := by
  subst hp
  exact fun H locs ls hP hS hl => va_mmax hC.1 hC.2.1 (hC.2.2.1.trans hl.1.symm) hC.o (hC.t _ hw) (hC.t _ kmx_s) (hC.t _ ki_Math) (hC.t _ kmx_c) hR.1 (by omega) hR.2.2.1 hR.2.2.2 hdg (k H locs ls hP hS hl)
theorem g_copy (hC : zX p s m args c cc nL own D K q A) {index : Nat} (j0 j1 n0 n1 k : Nat) {fl0 fl1 : List (Option Nat)} {n : Int32} (hw : Cond.methodLink own index arraycopyName ∈ zT) (hj0 : j0 < zN) (hs0 : zS j0 = (1, n0, fl0)) (hj1 : j1 < zN) (hs1 : zS j1 = (1, n1, fl1)) (hn : n = nI k) (hk : k < 2 ^ 31) (h0 : k ≤ n0) (h1 : k ≤ n1) (hR : 1 ≤ R.frames ∧ 30 ≤ R.locals) (hW : (st.map fun v => v.category).sum ≤ 8) (hdg : decode cc pc = .ok (.invokestatic index, 3)) (hp : pc + 3 = pc') (kk : zG p l e R s m args below meth c D K q A nL ce sl Q (zr σ j1 (va_cpy (σ j0) (σ j1) 0 0 k)) pc' lv st) : zG p l e R s m args below meth c D K q A nL ce sl Q σ pc lv (.int n :: .int 0 :: .ref (q j1) :: .int 0 :: .ref (q j0) :: st) := by
  subst hp
  subst hn
  have hnw : nativeFrameWords "java/lang/System" "arraycopy" 5 = 7 := by decide +kernel
  have e0 : (0 : Int32).toNatClampNeg = 0 := by decide
  refine fun H locs ls hP hS hl => va_copyi (sp := 0) (dp := 0) (n := nI k) hC.1 hC.2.1 (hC.2.2.1.trans hl.1.symm) hC.o (hC.t _ hw) (hC.t _ kcp_n) (hC.t _ kcp_s) (hC.t _ ki_System) hC.k hP hC.dd hS j0 j1 0 0 (zS_int hj0 hs0) (zS_int hj1 hs1) rfl rfl rfl (by decide) (by decide) (nI_pos hk) (by rw [nI_clamp hk, e0]; omega) (by rw [nI_clamp hk, e0]; omega) (fun _ _ => rfl) hR.1 (by rw [hnw]; omega) hdg (fun H1 locs1 hP1 _ hS1 => ?_)
  rw [nI_clamp hk] at hP1
  rw [e0, zset_row hj1 hs1] at hP1
  exact kk H1 locs1 ls hP1 hS1 hl
theorem g_need (hC : zX p s m args c cc nL own D K q A) (hown : own = "AppDesk$Verifier") (hdg : decode cc pc = .ok (.getstatic 64, 3)) (hp : pc + 3 = pc') (k : ∀ t : Nat, va_T .int t 14 (fun k => .int (zNeed k)) A s s.heap → zG p l e R s m args below meth c D K q A nL ce sl Q σ pc' lv (.ref t :: st)) : zG p l e R s m args below meth c D K q A nL ce sl Q σ pc lv st := by
  subst hp
  subst hown
  obtain ⟨t1, t2, h1, h2, h3, h4⟩ := hC.ee.2.1
  exact fun H locs ls hP hS hl => va_gets hC.1 hC.2.1 h1 hS hC.o (hC.t _ kf_V_64) (fun _ h => h) hdg (k t1 h2 H locs ls hP hS hl)
theorem g_leav (hC : zX p s m args c cc nL own D K q A) (hown : own = "AppDesk$Verifier") (hdg : decode cc pc = .ok (.getstatic 67, 3)) (hp : pc + 3 = pc') (k : ∀ t : Nat, va_T .int t 14 (fun k => .int (zLeav k)) A s s.heap → zG p l e R s m args below meth c D K q A nL ce sl Q σ pc' lv (.ref t :: st)) : zG p l e R s m args below meth c D K q A nL ce sl Q σ pc lv st := by
  subst hp
  subst hown
  obtain ⟨t1, t2, h1, h2, h3, h4⟩ := hC.ee.2.1
  exact fun H locs ls hP hS hl => va_gets hC.1 hC.2.1 h3 hS hC.o (hC.t _ kf_V_67) (fun _ h => h) hdg (k t2 h4 H locs ls hP hS hl)
theorem g_tab (hC : zX p s m args c cc nL own D K q A) {t : Nat} {f : Nat → Int32} {i : Int32} (k : Nat) (hT : va_T .int t 14 (fun k => .int (f k)) A s s.heap) (hi : i = nI k) (hk : k < 14) (hdg : decode cc pc = .ok (.iaload, 1)) (hp : pc + 1 = pc') (kk : zG p l e R s m args below meth c D K q A nL ce sl Q σ pc' lv (.int (f k) :: st)) : zG p l e R s m args below meth c D K q A nL ce sl Q σ pc lv (.int i :: .ref t :: st) := by
  subst hp
  exact fun H locs ls hP hS hl => va_ti hC.1 hC.2.1 hT hS (z_nI hi hk (by decide)) (by rw [z_cl hi hk (by decide)]) hdg (kk H locs ls hP hS hl)
end ZJ
-- the words of what the methods say
def zin (x n : Int32) : Bool := decide (0 ≤ x) && decide (x < n)
def zbit (b x : Int32) : Bool := decide ((b >>> (x &&& 31)) &&& 1 = 1)
def zhas (b x n : Int32) : Bool := zin x n && zbit b x
def zmix (h x : Int32) : Int32 := (h * 31 + x) ^^^ ((h * 31 + x).toUInt32 >>> ((13 : Int32).toUInt32 &&& Int32.toUInt32 31)).toInt32
theorem zin_t {x n : Int32} (h1 : ¬ x < 0) (h2 : ¬ n ≤ x) : zin x n = true := by
  unfold zin
  rw [decide_eq_true (Int32.not_lt.mp h1), decide_eq_true (Int32.not_le.mp h2)]
  rfl
theorem zin_f1 {x n : Int32} (h1 : x < 0) : zin x n = false := by
  unfold zin
  rw [decide_eq_false (fun h => absurd h1 (Int32.not_lt.mpr h))]
  rfl
theorem zin_f2 {x n : Int32} (h2 : n ≤ x) : zin x n = false := by
  unfold zin
  rw [decide_eq_false (fun h => absurd h2 (Int32.not_le.mpr h)), Bool.and_false]
theorem zin_of {x : Int32} {n : Nat} (hn : n < 2 ^ 31) (h : zin x (nI n) = true) : ∃ k : Nat, k < n ∧ x = nI k := by
  unfold zin at h
  simp only [Bool.and_eq_true, decide_eq_true_eq] at h
  rcases pk_ix x hn with h1 | h1 | h1
  · exact absurd h1 (Int32.not_lt.mpr h.1)
  · exact absurd h1 (Int32.not_le.mpr h.2)
  · exact h1
theorem zin_nI {k n : Nat} (h : k < n) (hn : n < 2 ^ 31) : zin (nI k) (nI n) = true := zin_t (nI_pos (Nat.lt_trans h hn)) (nI_ge h hn)
end
section
/-! reads with the value named -/
section ZV
variable {p : Program} {l : Launch} {e : Env} {R : Room} {s : State} {m : MethodId} {args : Array Value} {below : List Frame} {meth : Method} {c : Code} {cc : ByteArray} {nL ce sl : Nat} {own : String} {D : va_G} {K : Nat → ClassId} {q : Nat → Nat} {A : Nat → Prop} {Q : State → Prop} {σ : zm} {pc pc' : Nat} {lv lv' : List (Nat × Value)} {st rest : List Value}
theorem g_getV (hC : zX p s m args c cc nL own D K q A) (j ci k : Nat) (v : Int32) (hv : σ j k = v) {fl : List (Option Nat)} {index : Nat} (hj : j < zN) (hs : zS j = (0, ci, fl)) (hf : fl[k]? = some none) (hw : zFl own index ci k) (hdg : decode cc pc = .ok (.getfield index, 3)) (hp : pc + 3 = pc') (kk : zG p l e R s m args below meth c D K q A nL ce sl Q σ pc' lv (.int v :: st)) : zG p l e R s m args below meth c D K q A nL ce sl Q σ pc lv (.ref (q j) :: st) := by
  subst hv
  exact g_getI hC j ci k hj hs hf hw hdg hp kk
theorem g_ialdV (hC : zX p s m args c cc nL own D K q A) (j n k : Nat) (v : Int32) (hv : σ j k = v) {i : Int32} {fl : List (Option Nat)} (hj : j < zN) (hs : zS j = (1, n, fl)) (hi : i = nI k) (hk : k < n) (hn : n < 2 ^ 31) (hdg : decode cc pc = .ok (.iaload, 1)) (hp : pc + 1 = pc') (kk : zG p l e R s m args below meth c D K q A nL ce sl Q σ pc' lv (.int v :: st)) : zG p l e R s m args below meth c D K q A nL ce sl Q σ pc lv (.int i :: .ref (q j) :: st) := by
  subst hv
  exact g_iald hC j n k hj hs hi hk hn hdg hp kk
theorem g_zaldV (hC : zX p s m args c cc nL own D K q A) (j n k : Nat) (v : Int32) (hv : σ j k = v) {i : Int32} {fl : List (Option Nat)} (hj : j < zN) (hs : zS j = (2, n, fl)) (hi : i = nI k) (hk : k < n) (hn : n < 2 ^ 31) (hdg : decode cc pc = .ok (.baload, 1)) (hp : pc + 1 = pc') (kk : zG p l e R s m args below meth c D K q A nL ce sl Q σ pc' lv (.int v :: st)) : zG p l e R s m args below meth c D K q A nL ce sl Q σ pc lv (.int i :: .ref (q j) :: st) := by
  subst hv
  exact g_zald hC j n k hj hs hi hk hn hdg hp kk
/-- the top of the stack, named anew -/
theorem g_top (hC : zX p s m args c cc nL own D K q A) {x : Int32} (v : Int32) (hv : x = v) (kk : zG p l e R s m args below meth c D K q A nL ce sl Q σ pc lv (.int v :: st)) : zG p l e R s m args below meth c D K q A nL ce sl Q σ pc lv (.int x :: st) := by
  subst hv
  exact kk
/-- the memory, named anew -/
theorem g_mem (hC : zX p s m args c cc nL own D K q A) {τ : zm} (hv : σ = τ) (kk : zG p l e R s m args below meth c D K q A nL ce sl Q τ pc lv st) : zG p l e R s m args below meth c D K q A nL ce sl Q σ pc lv st := by
  subst hv
  exact kk
end ZV
end
section
/-! the leaves: numbers, bits, a pack's small methods -/
def zdec (σ : zm) (i : Nat) (x : Int32) : Bool := zin x 8 && !decide (σ (zp i + 1) x.toNatClampNeg = -1)
set_option maxHeartbeats 4000000 in
set_option maxRecDepth 100000 in
theorem c_D_isBelow (l : Launch) (D : va_G) (K : Nat → ClassId) (q : Nat → Nat) (hq : zI q) (x n : Int32) (σ : zm) : zMi l y_D_isBelow b_D_isBelow 2 (some .boolean) 0 D K q [.int (x), .int (n)] σ (fun r σ' => r = zb (zin x n) ∧ σ' = σ) := by
  refine zMi.of (own := "AppDesk") (lv := [(0, .int (x)), (1, .int (n))]) (by decide) rfl hq (Nat.le_of_ble_eq_true rfl) rfl ?_
  intro p e s m below meth c hC hr hlk
  refine g_iload_n hC d_D_isBelow_0 rfl rfl ?_
  refine g_if_lt hC 13 d_D_isBelow_1 rfl rfl (fun h1 => ?_) (fun h1 => ?_)
  ·
    refine g_iconst hC (0) d_D_isBelow_13 (by decide) rfl ?_
    exact g_zret hC hr hlk d_D_isBelow_14 (Or.inl rfl) ⟨by first | (rw [zin_t h1 h6]; rfl) | (rw [zin_f1 h1]; rfl) | (rw [zin_f2 h6]; rfl), rfl⟩
  ·
    refine g_iload_n hC d_D_isBelow_4 rfl rfl ?_
    refine g_iload_n hC d_D_isBelow_5 rfl rfl ?_
    refine g_icmp_ge hC 13 d_D_isBelow_6 rfl rfl (fun h6 => ?_) (fun h6 => ?_)
    ·
      refine g_iconst hC (0) d_D_isBelow_13 (by decide) rfl ?_
      exact g_zret hC hr hlk d_D_isBelow_14 (Or.inl rfl) ⟨by first | (rw [zin_t h1 h6]; rfl) | (rw [zin_f1 h1]; rfl) | (rw [zin_f2 h6]; rfl), rfl⟩
    ·
      refine g_iconst hC (1) d_D_isBelow_9 (by decide) rfl ?_
      refine g_goto hC 14 d_D_isBelow_10 rfl ?_
      exact g_zret hC hr hlk d_D_isBelow_14 (Or.inr rfl) ⟨by first | (rw [zin_t h1 h6]; rfl) | (rw [zin_f1 h1]; rfl) | (rw [zin_f2 h6]; rfl), rfl⟩
set_option maxHeartbeats 4000000 in
set_option maxRecDepth 100000 in
theorem c_M_in (l : Launch) (D : va_G) (K : Nat → ClassId) (q : Nat → Nat) (hq : zI q) (x n : Int32) (σ : zm) : zMi l y_M_in b_M_in 2 (some .boolean) 0 D K q [.int (x), .int (n)] σ (fun r σ' => r = zb (zin x n) ∧ σ' = σ) := by
  refine zMi.of (own := "AppDeskModel") (lv := [(0, .int (x)), (1, .int (n))]) (by decide) rfl hq (Nat.le_of_ble_eq_true rfl) rfl ?_
  intro p e s m below meth c hC hr hlk
  refine g_iload_n hC d_M_in_0 rfl rfl ?_
  refine g_if_lt hC 13 d_M_in_1 rfl rfl (fun h1 => ?_) (fun h1 => ?_)
  ·
    refine g_iconst hC (0) d_M_in_13 (by decide) rfl ?_
    exact g_zret hC hr hlk d_M_in_14 (Or.inl rfl) ⟨by first | (rw [zin_t h1 h6]; rfl) | (rw [zin_f1 h1]; rfl) | (rw [zin_f2 h6]; rfl), rfl⟩
  ·
    refine g_iload_n hC d_M_in_4 rfl rfl ?_
    refine g_iload_n hC d_M_in_5 rfl rfl ?_
    refine g_icmp_ge hC 13 d_M_in_6 rfl rfl (fun h6 => ?_) (fun h6 => ?_)
    ·
      refine g_iconst hC (0) d_M_in_13 (by decide) rfl ?_
      exact g_zret hC hr hlk d_M_in_14 (Or.inl rfl) ⟨by first | (rw [zin_t h1 h6]; rfl) | (rw [zin_f1 h1]; rfl) | (rw [zin_f2 h6]; rfl), rfl⟩
    ·
      refine g_iconst hC (1) d_M_in_9 (by decide) rfl ?_
      refine g_goto hC 14 d_M_in_10 rfl ?_
      exact g_zret hC hr hlk d_M_in_14 (Or.inr rfl) ⟨by first | (rw [zin_t h1 h6]; rfl) | (rw [zin_f1 h1]; rfl) | (rw [zin_f2 h6]; rfl), rfl⟩
set_option maxHeartbeats 4000000 in
set_option maxRecDepth 100000 in
theorem c_D_hasBit (l : Launch) (D : va_G) (K : Nat → ClassId) (q : Nat → Nat) (hq : zI q) (b x n : Int32) (σ : zm) : zMi l y_D_hasBit b_D_hasBit 3 (some .boolean) 1 D K q [.int (b), .int (x), .int (n)] σ (fun r σ' => r = zb (zhas b x n) ∧ σ' = σ) := by
  refine zMi.of (own := "AppDesk") (lv := [(0, .int (b)), (1, .int (x)), (2, .int (n))]) (by decide) rfl hq (Nat.le_of_ble_eq_true rfl) rfl ?_
  intro p e s m below meth c hC hr hlk
  refine g_iload_n hC d_D_hasBit_0 rfl rfl ?_
  refine g_iload_n hC d_D_hasBit_1 rfl rfl ?_
  refine g_goi hC rfl (z_runS hC (c_D_isBelow l D K q hq _ _ _) yy_D_isBelow ys_D_41 ⟨Nat.le_of_ble_eq_true rfl, Nat.le_of_ble_eq_true rfl⟩ ⟨Nat.zero_le _, Nat.zero_le _⟩ rfl (Nat.le_of_ble_eq_true rfl) d_D_hasBit_2) (fun r0 σ0 q0 => ?_)
  obtain ⟨rfl, w0⟩ := q0
  obtain rfl := w0.symm
  refine g_ifeq_b hC 21 d_D_hasBit_5 rfl rfl (fun h5 => ?_) (fun h5 => ?_)
  ·
    refine g_iconst hC (0) d_D_hasBit_21 (by decide) rfl ?_
    exact g_zret hC hr hlk d_D_hasBit_22 (Or.inl rfl) ⟨by first | (simp [zhas, zbit, h5, h14, zb]; done) | (simp [zhas, zbit, h5, zb]; done), rfl⟩
  ·
    refine g_iload_n hC d_D_hasBit_8 rfl rfl ?_
    refine g_iload_n hC d_D_hasBit_9 rfl rfl ?_
    refine g_ishr hC d_D_hasBit_10 rfl ?_
    refine g_iconst hC (1) d_D_hasBit_11 (by decide) rfl ?_
    refine g_iand hC d_D_hasBit_12 rfl ?_
    refine g_iconst hC (1) d_D_hasBit_13 (by decide) rfl ?_
    refine g_icmp_ne hC 21 d_D_hasBit_14 rfl rfl (fun h14 => ?_) (fun h14 => ?_)
    ·
      refine g_iconst hC (0) d_D_hasBit_21 (by decide) rfl ?_
      exact g_zret hC hr hlk d_D_hasBit_22 (Or.inl rfl) ⟨by first | (simp [zhas, zbit, h5, h14, zb]; done) | (simp [zhas, zbit, h5, zb]; done), rfl⟩
    ·
      refine g_iconst hC (1) d_D_hasBit_17 (by decide) rfl ?_
      refine g_goto hC 22 d_D_hasBit_18 rfl ?_
      exact g_zret hC hr hlk d_D_hasBit_22 (Or.inr rfl) ⟨by first | (simp [zhas, zbit, h5, h14, zb]; done) | (simp [zhas, zbit, h5, zb]; done), rfl⟩
set_option maxHeartbeats 4000000 in
set_option maxRecDepth 100000 in
theorem c_D_operationOf (l : Launch) (D : va_G) (K : Nat → ClassId) (q : Nat → Nat) (hq : zI q) (w : Int32) (σ : zm) : zMi l y_D_operationOf b_D_operationOf 1 (some .int) 0 D K q [.int (w)] σ (fun r σ' => r = w &&& 15 ∧ σ' = σ) := by
  refine zMi.of (own := "AppDesk") (lv := [(0, .int (w))]) (by decide) rfl hq (Nat.le_of_ble_eq_true rfl) rfl ?_
  intro p e s m below meth c hC hr hlk
  refine g_iload_n hC d_D_operationOf_0 rfl rfl ?_
  refine g_bipush hC (15) d_D_operationOf_1 (by decide) rfl ?_
  refine g_iand hC d_D_operationOf_3 rfl ?_
  exact g_iret hC hr hlk d_D_operationOf_4 ⟨rfl, rfl⟩
set_option maxHeartbeats 4000000 in
set_option maxRecDepth 100000 in
theorem c_D_argumentOf (l : Launch) (D : va_G) (K : Nat → ClassId) (q : Nat → Nat) (hq : zI q) (w : Int32) (σ : zm) : zMi l y_D_argumentOf b_D_argumentOf 1 (some .int) 0 D K q [.int (w)] σ (fun r σ' => r = w >>> ((4 : Int32) &&& 31) ∧ σ' = σ) := by
  refine zMi.of (own := "AppDesk") (lv := [(0, .int (w))]) (by decide) rfl hq (Nat.le_of_ble_eq_true rfl) rfl ?_
  intro p e s m below meth c hC hr hlk
  refine g_iload_n hC d_D_argumentOf_0 rfl rfl ?_
  refine g_iconst hC (4) d_D_argumentOf_1 (by decide) rfl ?_
  refine g_ishr hC d_D_argumentOf_2 rfl ?_
  exact g_iret hC hr hlk d_D_argumentOf_3 ⟨rfl, rfl⟩
set_option maxHeartbeats 4000000 in
set_option maxRecDepth 100000 in
theorem c_P_mix (l : Launch) (D : va_G) (K : Nat → ClassId) (q : Nat → Nat) (hq : zI q) (h x : Int32) (σ : zm) : zMi l y_P_mix b_P_mix 3 (some .int) 0 D K q [.int (h), .int (x)] σ (fun r σ' => r = zmix h x ∧ σ' = σ) := by
  refine zMi.of (own := "AppDesk$Pack") (lv := [(0, .int (h)), (1, .int (x))]) (by decide) rfl hq (Nat.le_of_ble_eq_true rfl) rfl ?_
  intro p e s m below meth c hC hr hlk
  refine g_iload_n hC d_P_mix_0 rfl rfl ?_
  refine g_bipush hC (31) d_P_mix_1 (by decide) rfl ?_
  refine g_imul hC d_P_mix_3 rfl ?_
  refine g_iload_n hC d_P_mix_4 rfl rfl ?_
  refine g_iadd hC d_P_mix_5 rfl ?_
  refine g_istore_n hC d_P_mix_6 rfl (by decide) ?_
  refine g_iload_n hC d_P_mix_7 rfl rfl ?_
  refine g_iload_n hC d_P_mix_8 rfl rfl ?_
  refine g_bipush hC (13) d_P_mix_9 (by decide) rfl ?_
  refine g_iushr hC d_P_mix_11 rfl ?_
  refine g_ixor hC d_P_mix_12 rfl ?_
  exact g_iret hC hr hlk d_P_mix_13 ⟨rfl, rfl⟩
set_option maxHeartbeats 4000000 in
set_option maxRecDepth 100000 in
theorem c_M_mixed (l : Launch) (D : va_G) (K : Nat → ClassId) (q : Nat → Nat) (hq : zI q) (h x : Int32) (σ : zm) : zMi l y_M_mixed b_M_mixed 3 (some .int) 0 D K q [.int (h), .int (x)] σ (fun r σ' => r = zmix h x ∧ σ' = σ) := by
  refine zMi.of (own := "AppDeskModel") (lv := [(0, .int (h)), (1, .int (x))]) (by decide) rfl hq (Nat.le_of_ble_eq_true rfl) rfl ?_
  intro p e s m below meth c hC hr hlk
  refine g_iload_n hC d_M_mixed_0 rfl rfl ?_
  refine g_bipush hC (31) d_M_mixed_1 (by decide) rfl ?_
  refine g_imul hC d_M_mixed_3 rfl ?_
  refine g_iload_n hC d_M_mixed_4 rfl rfl ?_
  refine g_iadd hC d_M_mixed_5 rfl ?_
  refine g_istore_n hC d_M_mixed_6 rfl (by decide) ?_
  refine g_iload_n hC d_M_mixed_7 rfl rfl ?_
  refine g_iload_n hC d_M_mixed_8 rfl rfl ?_
  refine g_bipush hC (13) d_M_mixed_9 (by decide) rfl ?_
  refine g_iushr hC d_M_mixed_11 rfl ?_
  refine g_ixor hC d_M_mixed_12 rfl ?_
  exact g_iret hC hr hlk d_M_mixed_13 ⟨rfl, rfl⟩
set_option maxHeartbeats 4000000 in
set_option maxRecDepth 100000 in
theorem c_P_asksFor (l : Launch) (D : va_G) (K : Nat → ClassId) (q : Nat → Nat) (hq : zI q) (i : Nat) (hi : i < 9) (x : Int32) (σ : zm) : zMi l y_P_asksFor b_P_asksFor 2 (some .boolean) 2 D K q [.ref (q (zp i)), .int (x)] σ (fun r σ' => r = zb (zhas (σ (zp i) 4) x 8) ∧ σ' = σ) := by
  refine zMi.of (own := "AppDesk$Pack") (lv := [(0, .ref (q (zp i))), (1, .int (x))]) (by decide) rfl hq (Nat.le_of_ble_eq_true rfl) rfl ?_
  intro p e s m below meth c hC hr hlk
  refine g_aload_n hC d_P_asksFor_0 rfl rfl ?_
  refine g_getI hC _ 1 4 (zp_lt hi) (zS_p hi) rfl fl_P_49 d_P_asksFor_1 rfl ?_
  refine g_iload_n hC d_P_asksFor_4 rfl rfl ?_
  refine g_bipush hC (8) d_P_asksFor_5 (by decide) rfl ?_
  refine g_goi hC rfl (z_runN hC (c_D_hasBit l D K q hq _ _ _ _) yy_D_hasBit yn_P_68 ⟨Nat.le_of_ble_eq_true rfl, Nat.le_of_ble_eq_true rfl⟩ ⟨Nat.zero_le _, Nat.zero_le _⟩ rfl (Nat.le_of_ble_eq_true rfl) d_P_asksFor_7) (fun r0 σ0 q0 => ?_)
  obtain ⟨rfl, w0⟩ := q0
  obtain rfl := w0.symm
  exact g_zret hC hr hlk d_P_asksFor_10 (zb01 _) ⟨rfl, rfl⟩
set_option maxHeartbeats 4000000 in
set_option maxRecDepth 100000 in
theorem c_P_declares (l : Launch) (D : va_G) (K : Nat → ClassId) (q : Nat → Nat) (hq : zI q) (i : Nat) (hi : i < 9) (x : Int32) (σ : zm) : zMi l y_P_declares b_P_declares 2 (some .boolean) 1 D K q [.ref (q (zp i)), .int (x)] σ (fun r σ' => r = zb (zdec σ i x) ∧ σ' = σ) := by
  refine zMi.of (own := "AppDesk$Pack") (lv := [(0, .ref (q (zp i))), (1, .int (x))]) (by decide) rfl hq (Nat.le_of_ble_eq_true rfl) rfl ?_
  intro p e s m below meth c hC hr hlk
  refine g_iload_n hC d_P_declares_0 rfl rfl ?_
  refine g_bipush hC (8) d_P_declares_1 (by decide) rfl ?_
  refine g_goi hC rfl (z_runN hC (c_D_isBelow l D K q hq _ _ _) yy_D_isBelow yn_P_72 ⟨Nat.le_of_ble_eq_true rfl, Nat.le_of_ble_eq_true rfl⟩ ⟨Nat.zero_le _, Nat.zero_le _⟩ rfl (Nat.le_of_ble_eq_true rfl) d_P_declares_3) (fun r0 σ0 q0 => ?_)
  obtain ⟨rfl, w0⟩ := q0
  obtain rfl := w0.symm
  refine g_ifeq_b hC 23 d_P_declares_6 rfl rfl (fun h6 => ?_) (fun h6 => ?_)
  ·
    refine g_iconst hC (0) d_P_declares_23 (by decide) rfl ?_
    exact g_zret hC hr hlk d_P_declares_24 (Or.inl rfl) ⟨by first | (simp [zdec, h6, hc, h16, zb]; done) | (simp [zdec, h6, zb]; done), rfl⟩
  ·
    obtain ⟨k, hk, hx⟩ := zin_of (n := 8) (by decide) h6
    have hc : x.toNatClampNeg = k := by rw [hx]; exact nI_clamp (by omega)
    refine g_aload_n hC d_P_declares_9 rfl rfl ?_
    refine g_getR hC _ 1 5 _ (zp_lt hi) (zS_p hi) rfl fl_P_15 d_P_declares_10 rfl ?_
    refine g_iload_n hC d_P_declares_13 rfl rfl ?_
    refine g_iald hC _ _ k (zp_lt' hi 1 (by decide)) (zS_pr hi 1 (by decide)) hx hk (by decide) d_P_declares_14 rfl ?_
    refine g_iconst hC (-1) d_P_declares_15 (by decide) rfl ?_
    refine g_icmp_eq hC 23 d_P_declares_16 rfl rfl (fun h16 => ?_) (fun h16 => ?_)
    ·
      refine g_iconst hC (0) d_P_declares_23 (by decide) rfl ?_
      exact g_zret hC hr hlk d_P_declares_24 (Or.inl rfl) ⟨by first | (simp [zdec, h6, hc, h16, zb]; done) | (simp [zdec, h6, zb]; done), rfl⟩
    ·
      refine g_iconst hC (1) d_P_declares_19 (by decide) rfl ?_
      refine g_goto hC 24 d_P_declares_20 rfl ?_
      exact g_zret hC hr hlk d_P_declares_24 (Or.inr rfl) ⟨by first | (simp [zdec, h6, hc, h16, zb]; done) | (simp [zdec, h6, zb]; done), rfl⟩
set_option maxHeartbeats 4000000 in
set_option maxRecDepth 100000 in
theorem c_P_addWord (l : Launch) (D : va_G) (K : Nat → ClassId) (q : Nat → Nat) (hq : zI q) (i : Nat) (hi : i < 9) (w : Int32) (σ : zm) (n : Nat) (hn : n ≤ 24) (h : σ (zp i) 11 = nI n) : zMi l y_P_addWord b_P_addWord 2 (some .boolean) 0 D K q [.ref (q (zp i)), .int (w)] σ (fun r σ' => r = zb (decide (n < 24)) ∧ σ' = if n < 24 then zu (zu σ (zp i + 6) n w) (zp i) 11 (nI (n + 1)) else σ) := by
  refine zMi.of (own := "AppDesk$Pack") (lv := [(0, .ref (q (zp i))), (1, .int (w))]) (by decide) rfl hq (Nat.le_of_ble_eq_true rfl) rfl ?_
  intro p e s m below meth c hC hr hlk
  refine g_aload_n hC d_P_addWord_0 rfl rfl ?_
  refine g_getV hC _ 1 11 (nI n) (h) (zp_lt hi) (zS_p hi) rfl fl_P_55 d_P_addWord_1 rfl ?_
  refine g_bipush hC (24) d_P_addWord_4 (by decide) rfl ?_
  refine g_icmp_lt hC 11 d_P_addWord_6 rfl rfl (fun h6 => ?_) (fun h6 => ?_)
  ·
    have hlt : n < 24 := (nI_ltI (a := n) (b := 24) (by omega) (by decide)).mp h6
    refine g_aload_n hC d_P_addWord_11 rfl rfl ?_
    refine g_getR hC _ 1 12 _ (zp_lt hi) (zS_p hi) rfl fl_P_37 d_P_addWord_12 rfl ?_
    refine g_aload_n hC d_P_addWord_15 rfl rfl ?_
    refine g_getV hC _ 1 11 (nI n) (h) (zp_lt hi) (zS_p hi) rfl fl_P_55 d_P_addWord_16 rfl ?_
    refine g_iload_n hC d_P_addWord_19 rfl rfl ?_
    refine g_iast hC _ _ (n) (zp_lt' hi 6 (by decide)) (zS_pr hi 6 (by decide)) rfl (by omega) (by decide) d_P_addWord_20 rfl ?_
    refine g_aload_n hC d_P_addWord_21 rfl rfl ?_
    refine g_dup hC d_P_addWord_22 rfl rfl ?_
    refine g_getV hC _ 1 11 (nI n) (by rw [zu_ne _ _ (Or.inl (by omega))]; exact h) (zp_lt hi) (zS_p hi) rfl fl_P_55 d_P_addWord_23 rfl ?_
    refine g_iconst hC (1) d_P_addWord_26 (by decide) rfl ?_
    refine g_iadd hC d_P_addWord_27 rfl ?_
    refine g_top hC (nI (n + 1)) (nI_1 n) ?_
    refine g_putI hC _ 1 11 (zp_lt hi) (zS_p hi) rfl fp_P_55 d_P_addWord_28 rfl ?_
    refine g_iconst hC (1) d_P_addWord_31 (by decide) rfl ?_
    exact g_zret hC hr hlk d_P_addWord_32 (Or.inr rfl) ⟨by rw [decide_eq_true hlt]; rfl, (if_pos hlt).symm⟩
  ·
    have hlt : ¬ n < 24 := fun z => h6 (nI_lt (a := n) (b := 24) z (by decide))
    refine g_iconst hC (0) d_P_addWord_9 (by decide) rfl ?_
    exact g_zret hC hr hlk d_P_addWord_10 (Or.inl rfl) ⟨by rw [decide_eq_false hlt]; rfl, (if_neg hlt).symm⟩
end
section
/-! a pack's methods: a row filled, a draft begun anew, a part, the digest, a copy -/
def zfill (σ : zm) (j n : Nat) (v : Int32) : zm := fun a b => if a = j ∧ b < n then v else σ a b
theorem zfill_0 (σ : zm) (j : Nat) (v : Int32) : zfill σ j 0 v = σ := by funext a b; simp [zfill]
theorem zfill_s (σ : zm) (j i : Nat) (v : Int32) : zu (zfill σ j i v) j i v = zfill σ j (i + 1) v := by
  funext a b
  unfold zu zfill
  by_cases h : a = j
  · subst h
    by_cases hb : b = i
    · subst hb; simp
    · simp only [hb, and_false, if_false, true_and]
      by_cases hl : b < i
      · rw [if_pos hl, if_pos (by omega)]
      · rw [if_neg hl, if_neg (by omega)]
  · simp [h]
def zbeg (σ : zm) (i : Nat) (n v g : Int32) : zm := zu (zu (zfill (zu (zu (zu (zu (zu σ (zp i) 0 n) (zp i) 1 v) (zp i) 2 g) (zp i) 3 0) (zp i) 4 0) (zp i + 1) 8 (-1)) (zp i) 6 0) (zp i) 11 0
def zpar (σ : zm) (i n : Nat) (a b g p : Int32) : zm := zu (zu (zu (zu (zu σ (zp i + 2) n a) (zp i + 3) n b) (zp i + 4) n g) (zp i + 5) n p) (zp i) 6 (nI (n + 1))
def dgL (f : Nat → Int32) (h : Int32) : Nat → Int32
  | 0 => h
  | n + 1 => if f n = -1 then dgL f h n else zmix (dgL f h n) (10 * nI n + f n)
def dgP (a o g p : Nat → Int32) (h : Int32) : Nat → Int32
  | 0 => h
  | n + 1 => zmix (zmix (zmix (zmix (dgP a o g p h n) (a n)) (o n)) (g n)) (p n)
def dgW (w : Nat → Int32) (h : Int32) : Nat → Int32
  | 0 => h
  | n + 1 => zmix (dgW w h n) (w n)
theorem dgL_t {f : Nat → Int32} {h : Int32} {n : Nat} (e : ¬ f n = -1) : dgL f h (n + 1) = zmix (dgL f h n) (10 * nI n + f n) := if_neg e
theorem dgL_f {f : Nat → Int32} {h : Int32} {n : Nat} (e : f n = -1) : dgL f h (n + 1) = dgL f h n := if_pos e
theorem zdec_nI {σ : zm} {i k : Nat} (hk : k < 8) : zdec σ i (nI k) = !decide (σ (zp i + 1) k = -1) := by
  unfold zdec
  rw [show zin (nI k) 8 = true from zin_nI (n := 8) hk (by decide), nI_clamp (by omega), Bool.true_and]
theorem zdec_t {σ : zm} {i k : Nat} (hk : k < 8) (h : zdec σ i (nI k) = true) : ¬ σ (zp i + 1) k = -1 := by
  rw [zdec_nI hk] at h
  simpa using h
theorem zdec_f {σ : zm} {i k : Nat} (hk : k < 8) (h : zdec σ i (nI k) = false) : σ (zp i + 1) k = -1 := by
  rw [zdec_nI hk] at h
  simpa using h
def zdig (σ : zm) (i pn wn : Nat) : Int32 := dgW (σ (zp i + 6)) (dgP (σ (zp i + 2)) (σ (zp i + 3)) (σ (zp i + 4)) (σ (zp i + 5)) (dgL (σ (zp i + 1)) (zmix (zmix (zmix 17 (σ (zp i) 0)) (σ (zp i) 1)) (σ (zp i) 4)) 8) pn) wn
def zsea (σ : zm) (i pn wn : Nat) : Int32 := zdig σ i pn wn ^^^ 1000003 * (σ (zp i) 2 + 1)
theorem zu_col (σ : zm) {j k b : Nat} (v : Int32) (h : b ≠ k) : zu σ j k v j b = σ j b := zu_ne σ v (Or.inr h)
theorem zfill_off (σ : zm) {j n a : Nat} (v : Int32) (h : a ≠ j) : zfill σ j n v a = σ a := by funext b; simp [zfill, h]
theorem zbeg_off (σ : zm) {i a : Nat} (n v g : Int32) (h : a < zp i ∨ zp i + 7 ≤ a) : zbeg σ i n v g a = σ a := by
  unfold zbeg
  simp (disch := omega) only [zu_row, zfill_off]
theorem zbeg_0 (σ : zm) (i : Nat) (n v g : Int32) : zbeg σ i n v g (zp i) 0 = n := by
  unfold zbeg
  simp (disch := omega) only [zu_col, zu_eq, zfill_off]
theorem zbeg_1 (σ : zm) (i : Nat) (n v g : Int32) : zbeg σ i n v g (zp i) 1 = v := by
  unfold zbeg
  simp (disch := omega) only [zu_col, zu_eq, zfill_off]
theorem zbeg_2 (σ : zm) (i : Nat) (n v g : Int32) : zbeg σ i n v g (zp i) 2 = g := by
  unfold zbeg
  simp (disch := omega) only [zu_col, zu_eq, zfill_off]
section ZCR
variable {p : Program} {l : Launch} {e : Env} {R : Room} {s : State} {m : MethodId} {args : Array Value} {below : List Frame} {meth : Method} {c : Code} {cc : ByteArray} {nL ce sl : Nat} {own : String} {D : va_G} {K : Nat → ClassId} {q : Nat → Nat} {A : Nat → Prop} {Q : State → Prop} {σ : zm} {pc pc' : Nat} {lv lv' : List (Nat × Value)} {st rest : List Value}
theorem g_copyR (hC : zX p s m args c cc nL own D K q A) {index : Nat} (j0 j1 n0 n1 k : Nat) {fl0 fl1 : List (Option Nat)} {n : Int32} (hw : Cond.methodLink own index arraycopyName ∈ zT) (hj0 : j0 < zN) (hs0 : zS j0 = (1, n0, fl0)) (hj1 : j1 < zN) (hs1 : zS j1 = (1, n1, fl1)) (hn : n = nI k) (hk : k < 2 ^ 31) (h0 : k ≤ n0) (h1 : k ≤ n1) (hR : 1 ≤ R.frames ∧ 30 ≤ R.locals) (hW : (st.map fun v => v.category).sum ≤ 8) (hdg : decode cc pc = .ok (.invokestatic index, 3)) (hp : pc + 3 = pc') (kk : ∀ τ : zm, (∀ a, a ≠ j1 → τ a = σ a) → (∀ b, b < k → τ j1 b = σ j0 b) → zG p l e R s m args below meth c D K q A nL ce sl Q τ pc' lv st) : zG p l e R s m args below meth c D K q A nL ce sl Q σ pc lv (.int n :: .int 0 :: .ref (q j1) :: .int 0 :: .ref (q j0) :: st) :=
  g_copy hC j0 j1 n0 n1 k hw hj0 hs0 hj1 hs1 hn hk h0 h1 hR hW hdg hp (kk _ (fun a ha => zr_ne σ _ ha) (fun b hb => by rw [zr_eq, pk_cpy_in (Nat.zero_le b) (by omega), Nat.sub_zero, Nat.zero_add]))
end ZCR
/-- pack i is as pack k was, all else is as it was -/
def zPk (σ τ : zm) (i k : Nat) : Prop := (∀ a b, (a < zp i ∨ zp i + 7 ≤ a) → τ a b = σ a b) ∧ (τ (zp i) 0 = σ (zp k) 0 ∧ τ (zp i) 1 = σ (zp k) 1 ∧ τ (zp i) 2 = σ (zp k) 2 ∧ τ (zp i) 3 = σ (zp k) 3 ∧ τ (zp i) 4 = σ (zp k) 4 ∧ τ (zp i) 6 = σ (zp k) 6 ∧ τ (zp i) 11 = σ (zp k) 11) ∧ (∀ b, b < 8 → τ (zp i + 1) b = σ (zp k + 1) b) ∧ (∀ b, b < 4 → τ (zp i + 2) b = σ (zp k + 2) b ∧ τ (zp i + 3) b = σ (zp k + 3) b ∧ τ (zp i + 4) b = σ (zp k + 4) b ∧ τ (zp i + 5) b = σ (zp k + 5) b) ∧ ∀ b, b < 24 → τ (zp i + 6) b = σ (zp k + 6) b
set_option maxHeartbeats 4000000 in
set_option maxRecDepth 100000 in
theorem c_J_fill (l : Launch) (D : va_G) (K : Nat → ClassId) (q : Nat → Nat) (hq : zI q) (j n : Nat) {fl : List (Option Nat)} (hj : j < zN) (hs : zS j = (1, n, fl)) (hn : n < 2 ^ 31) (v : Int32) (σ : zm) : zMv l y_J_fill b_J_fill 4 none 0 D K q [.ref (q (j)), .int (v)] σ (fun σ' => σ' = zfill σ j n v) := by
  refine zMv.of (own := "java/util/Arrays") (lv := [(0, .ref (q (j))), (1, .int (v))]) (by decide) rfl hq (Nat.le_of_ble_eq_true rfl) rfl ?_
  intro p e s m below meth c hC hr hlk
  have J5 : ∀ (f : Nat) (i : Nat) (hif : i + f = n), zG p l e (zrm 0) s m ([.ref (q (j)), .int (v)] : List Value).toArray below meth c D K q (zA q) 4 0 0 (MQ below (va_Qv (fun σ' => σ' = zfill σ j n v) (zO D K q) (zA q)) ([.ref (q (j)), .int (v)] : List Value).toArray s 0 0 (zA q)) (zfill σ j i v) 5 [(0, .ref (q (j))), (1, .int (v)), (2, .int (nI i)), (3, .int (nI n))] [] := by
    intro f
    induction f with
    | zero =>
      intro i hif
      have hin : i = n := by omega
      refine g_iload_n hC d_J_fill_5 rfl rfl ?_
      refine g_iload_n hC d_J_fill_6 rfl rfl ?_
      refine g_icmp_ge hC 20 d_J_fill_7 rfl rfl (fun h7 => ?_) (fun h7 => absurd (nI_le (a := n) (b := i) (by omega) (by omega)) h7)
      exact g_vret hC hr hlk d_J_fill_20 (by rw [hin])
    | succ f ih =>
      intro i hif
      refine g_iload_n hC d_J_fill_5 rfl rfl ?_
      refine g_iload_n hC d_J_fill_6 rfl rfl ?_
      refine g_icmp_ge hC 20 d_J_fill_7 rfl rfl (fun h7 => absurd h7 (nI_ge (a := i) (b := n) (by omega) hn)) (fun h7 => ?_)
      refine g_aload_n hC d_J_fill_10 rfl rfl ?_
      refine g_iload_n hC d_J_fill_11 rfl rfl ?_
      refine g_iload_n hC d_J_fill_12 rfl rfl ?_
      refine g_iast hC _ _ (i) hj hs rfl (by omega) hn d_J_fill_13 rfl ?_
      refine g_iinc hC (nI (i + 1)) d_J_fill_14 rfl rfl (nI_succ _).symm (by decide) ?_
      refine g_goto hC 5 d_J_fill_17 rfl ?_
      exact zG.to (ih (i + 1) (by omega)) (zfill_s σ j i v) rfl ⟨rfl, rfl, rfl, rfl, trivial⟩
  refine g_iconst hC (0) d_J_fill_0 (by decide) rfl ?_
  refine g_istore_n hC d_J_fill_1 rfl (by decide) ?_
  refine g_aload_n hC d_J_fill_2 rfl rfl ?_
  refine g_alenI hC _ _ hj hs hn d_J_fill_3 rfl ?_
  refine g_istore_n hC d_J_fill_4 rfl (by decide) ?_
  exact zG.to (J5 n 0 (by omega)) (zfill_0 σ j v).symm rfl ⟨rfl, rfl, rfl, rfl, trivial⟩
set_option maxHeartbeats 4000000 in
set_option maxRecDepth 100000 in
theorem c_P_beginAnew (l : Launch) (D : va_G) (K : Nat → ClassId) (q : Nat → Nat) (hq : zI q) (i : Nat) (hi : i < 9) (n v g : Int32) (σ : zm) : zMv l y_P_beginAnew b_P_beginAnew 4 none 1 D K q [.ref (q (zp i)), .int (n), .int (v), .int (g)] σ (fun σ' => σ' = zbeg σ i n v g) := by
  refine zMv.of (own := "AppDesk$Pack") (lv := [(0, .ref (q (zp i))), (1, .int (n)), (2, .int (v)), (3, .int (g))]) (by decide) rfl hq (Nat.le_of_ble_eq_true rfl) rfl ?_
  intro p e s m below meth c hC hr hlk
  refine g_aload_n hC d_P_beginAnew_0 rfl rfl ?_
  refine g_iload_n hC d_P_beginAnew_1 rfl rfl ?_
  refine g_putI hC _ 1 0 (zp_lt hi) (zS_p hi) rfl fp_P_40 d_P_beginAnew_2 rfl ?_
  refine g_aload_n hC d_P_beginAnew_5 rfl rfl ?_
  refine g_iload_n hC d_P_beginAnew_6 rfl rfl ?_
  refine g_putI hC _ 1 1 (zp_lt hi) (zS_p hi) rfl fp_P_9 d_P_beginAnew_7 rfl ?_
  refine g_aload_n hC d_P_beginAnew_10 rfl rfl ?_
  refine g_iload_n hC d_P_beginAnew_11 rfl rfl ?_
  refine g_putI hC _ 1 2 (zp_lt hi) (zS_p hi) rfl fp_P_43 d_P_beginAnew_12 rfl ?_
  refine g_aload_n hC d_P_beginAnew_15 rfl rfl ?_
  refine g_iconst hC (0) d_P_beginAnew_16 (by decide) rfl ?_
  refine g_putI hC _ 1 3 (zp_lt hi) (zS_p hi) rfl fp_P_46 d_P_beginAnew_17 rfl ?_
  refine g_aload_n hC d_P_beginAnew_20 rfl rfl ?_
  refine g_iconst hC (0) d_P_beginAnew_21 (by decide) rfl ?_
  refine g_putI hC _ 1 4 (zp_lt hi) (zS_p hi) rfl fp_P_49 d_P_beginAnew_22 rfl ?_
  refine g_aload_n hC d_P_beginAnew_25 rfl rfl ?_
  refine g_getR hC _ 1 5 _ (zp_lt hi) (zS_p hi) rfl fl_P_15 d_P_beginAnew_26 rfl ?_
  refine g_iconst hC (-1) d_P_beginAnew_29 (by decide) rfl ?_
  refine g_gov hC rfl (z_runS hC (c_J_fill l D K q hq _ _ (zp_lt' hi 1 (by decide)) (zS_pr hi 1 (by decide)) (by decide) _ _) yy_J_fill ys_P_19 ⟨Nat.le_of_ble_eq_true rfl, Nat.le_of_ble_eq_true rfl⟩ ⟨Nat.zero_le _, Nat.zero_le _⟩ rfl (Nat.le_of_ble_eq_true rfl) d_P_beginAnew_30) (fun σ0 q0 => ?_)
  obtain rfl := q0.symm
  refine g_aload_n hC d_P_beginAnew_33 rfl rfl ?_
  refine g_iconst hC (0) d_P_beginAnew_34 (by decide) rfl ?_
  refine g_putI hC _ 1 6 (zp_lt hi) (zS_p hi) rfl fp_P_52 d_P_beginAnew_35 rfl ?_
  refine g_aload_n hC d_P_beginAnew_38 rfl rfl ?_
  refine g_iconst hC (0) d_P_beginAnew_39 (by decide) rfl ?_
  refine g_putI hC _ 1 11 (zp_lt hi) (zS_p hi) rfl fp_P_55 d_P_beginAnew_40 rfl ?_
  exact g_vret hC hr hlk d_P_beginAnew_43 rfl
set_option maxHeartbeats 4000000 in
set_option maxRecDepth 100000 in
theorem c_P_addPart (l : Launch) (D : va_G) (K : Nat → ClassId) (q : Nat → Nat) (hq : zI q) (i : Nat) (hi : i < 9) (a : Int32) (b : Bool) (g p0 : Int32) (σ : zm) (n : Nat) (hn : n ≤ 4) (h : σ (zp i) 6 = nI n) : zMi l y_P_addPart b_P_addPart 5 (some .boolean) 0 D K q [.ref (q (zp i)), .int (a), .int (zb b), .int (g), .int (p0)] σ (fun r σ' => r = zb (decide (n < 4)) ∧ σ' = if n < 4 then zpar σ i n a (zb b) g p0 else σ) := by
  refine zMi.of (own := "AppDesk$Pack") (lv := [(0, .ref (q (zp i))), (1, .int (a)), (2, .int (zb b)), (3, .int (g)), (4, .int (p0))]) (by decide) rfl hq (Nat.le_of_ble_eq_true rfl) rfl ?_
  intro p e s m below meth c hC hr hlk
  refine g_aload_n hC d_P_addPart_0 rfl rfl ?_
  refine g_getV hC _ 1 6 (nI n) (h) (zp_lt hi) (zS_p hi) rfl fl_P_52 d_P_addPart_1 rfl ?_
  refine g_iconst hC (4) d_P_addPart_4 (by decide) rfl ?_
  refine g_icmp_lt hC 10 d_P_addPart_5 rfl rfl (fun h5 => ?_) (fun h5 => ?_)
  ·
    have hlt : n < 4 := (nI_ltI (a := n) (b := 4) (by omega) (by decide)).mp h5
    refine g_aload_n hC d_P_addPart_10 rfl rfl ?_
    refine g_getR hC _ 1 7 _ (zp_lt hi) (zS_p hi) rfl fl_P_25 d_P_addPart_11 rfl ?_
    refine g_aload_n hC d_P_addPart_14 rfl rfl ?_
    refine g_getV hC _ 1 6 (nI n) (by simp [zu, h]) (zp_lt hi) (zS_p hi) rfl fl_P_52 d_P_addPart_15 rfl ?_
    refine g_iload_n hC d_P_addPart_18 rfl rfl ?_
    refine g_iast hC _ _ (n) (zp_lt' hi 2 (by decide)) (zS_pr hi 2 (by decide)) rfl (by omega) (by decide) d_P_addPart_19 rfl ?_
    refine g_aload_n hC d_P_addPart_20 rfl rfl ?_
    refine g_getR hC _ 1 8 _ (zp_lt hi) (zS_p hi) rfl fl_P_28 d_P_addPart_21 rfl ?_
    refine g_aload_n hC d_P_addPart_24 rfl rfl ?_
    refine g_getV hC _ 1 6 (nI n) (by simp [zu, h]) (zp_lt hi) (zS_p hi) rfl fl_P_52 d_P_addPart_25 rfl ?_
    refine g_iload_n hC d_P_addPart_28 rfl rfl ?_
    refine g_ifeq_b hC 36 d_P_addPart_29 rfl rfl (fun h29 => ?_) (fun h29 => ?_)
    ·
      refine g_iconst hC (0) d_P_addPart_36 (by decide) rfl ?_
      refine g_top hC (zb b) (by rw [h29] <;> rfl) ?_
      refine g_iast hC _ _ (n) (zp_lt' hi 3 (by decide)) (zS_pr hi 3 (by decide)) rfl (by omega) (by decide) d_P_addPart_37 rfl ?_
      refine g_aload_n hC d_P_addPart_38 rfl rfl ?_
      refine g_getR hC _ 1 9 _ (zp_lt hi) (zS_p hi) rfl fl_P_31 d_P_addPart_39 rfl ?_
      refine g_aload_n hC d_P_addPart_42 rfl rfl ?_
      refine g_getV hC _ 1 6 (nI n) (by simp [zu, h]) (zp_lt hi) (zS_p hi) rfl fl_P_52 d_P_addPart_43 rfl ?_
      refine g_iload_n hC d_P_addPart_46 rfl rfl ?_
      refine g_iast hC _ _ (n) (zp_lt' hi 4 (by decide)) (zS_pr hi 4 (by decide)) rfl (by omega) (by decide) d_P_addPart_47 rfl ?_
      refine g_aload_n hC d_P_addPart_48 rfl rfl ?_
      refine g_getR hC _ 1 10 _ (zp_lt hi) (zS_p hi) rfl fl_P_34 d_P_addPart_49 rfl ?_
      refine g_aload_n hC d_P_addPart_52 rfl rfl ?_
      refine g_getV hC _ 1 6 (nI n) (by simp [zu, h]) (zp_lt hi) (zS_p hi) rfl fl_P_52 d_P_addPart_53 rfl ?_
      refine g_iload hC d_P_addPart_56 rfl rfl ?_
      refine g_iast hC _ _ (n) (zp_lt' hi 5 (by decide)) (zS_pr hi 5 (by decide)) rfl (by omega) (by decide) d_P_addPart_58 rfl ?_
      refine g_aload_n hC d_P_addPart_59 rfl rfl ?_
      refine g_dup hC d_P_addPart_60 rfl rfl ?_
      refine g_getV hC _ 1 6 (nI n) (by simp [zu, h]) (zp_lt hi) (zS_p hi) rfl fl_P_52 d_P_addPart_61 rfl ?_
      refine g_iconst hC (1) d_P_addPart_64 (by decide) rfl ?_
      refine g_iadd hC d_P_addPart_65 rfl ?_
      refine g_top hC (nI (n + 1)) (nI_1 n) ?_
      refine g_putI hC _ 1 6 (zp_lt hi) (zS_p hi) rfl fp_P_52 d_P_addPart_66 rfl ?_
      refine g_iconst hC (1) d_P_addPart_69 (by decide) rfl ?_
      exact g_zret hC hr hlk d_P_addPart_70 (Or.inr rfl) ⟨by rw [decide_eq_true hlt]; rfl, (if_pos hlt).symm⟩
    ·
      refine g_iconst hC (1) d_P_addPart_32 (by decide) rfl ?_
      refine g_top hC (zb b) (by rw [h29] <;> rfl) ?_
      refine g_goto hC 37 d_P_addPart_33 rfl ?_
      refine g_iast hC _ _ (n) (zp_lt' hi 3 (by decide)) (zS_pr hi 3 (by decide)) rfl (by omega) (by decide) d_P_addPart_37 rfl ?_
      refine g_aload_n hC d_P_addPart_38 rfl rfl ?_
      refine g_getR hC _ 1 9 _ (zp_lt hi) (zS_p hi) rfl fl_P_31 d_P_addPart_39 rfl ?_
      refine g_aload_n hC d_P_addPart_42 rfl rfl ?_
      refine g_getV hC _ 1 6 (nI n) (by simp [zu, h]) (zp_lt hi) (zS_p hi) rfl fl_P_52 d_P_addPart_43 rfl ?_
      refine g_iload_n hC d_P_addPart_46 rfl rfl ?_
      refine g_iast hC _ _ (n) (zp_lt' hi 4 (by decide)) (zS_pr hi 4 (by decide)) rfl (by omega) (by decide) d_P_addPart_47 rfl ?_
      refine g_aload_n hC d_P_addPart_48 rfl rfl ?_
      refine g_getR hC _ 1 10 _ (zp_lt hi) (zS_p hi) rfl fl_P_34 d_P_addPart_49 rfl ?_
      refine g_aload_n hC d_P_addPart_52 rfl rfl ?_
      refine g_getV hC _ 1 6 (nI n) (by simp [zu, h]) (zp_lt hi) (zS_p hi) rfl fl_P_52 d_P_addPart_53 rfl ?_
      refine g_iload hC d_P_addPart_56 rfl rfl ?_
      refine g_iast hC _ _ (n) (zp_lt' hi 5 (by decide)) (zS_pr hi 5 (by decide)) rfl (by omega) (by decide) d_P_addPart_58 rfl ?_
      refine g_aload_n hC d_P_addPart_59 rfl rfl ?_
      refine g_dup hC d_P_addPart_60 rfl rfl ?_
      refine g_getV hC _ 1 6 (nI n) (by simp [zu, h]) (zp_lt hi) (zS_p hi) rfl fl_P_52 d_P_addPart_61 rfl ?_
      refine g_iconst hC (1) d_P_addPart_64 (by decide) rfl ?_
      refine g_iadd hC d_P_addPart_65 rfl ?_
      refine g_top hC (nI (n + 1)) (nI_1 n) ?_
      refine g_putI hC _ 1 6 (zp_lt hi) (zS_p hi) rfl fp_P_52 d_P_addPart_66 rfl ?_
      refine g_iconst hC (1) d_P_addPart_69 (by decide) rfl ?_
      exact g_zret hC hr hlk d_P_addPart_70 (Or.inr rfl) ⟨by rw [decide_eq_true hlt]; rfl, (if_pos hlt).symm⟩
  ·
    have hlt : ¬ n < 4 := fun z => h5 (nI_lt (a := n) (b := 4) z (by decide))
    refine g_iconst hC (0) d_P_addPart_8 (by decide) rfl ?_
    exact g_zret hC hr hlk d_P_addPart_9 (Or.inl rfl) ⟨by rw [decide_eq_false hlt]; rfl, (if_neg hlt).symm⟩
set_option maxHeartbeats 4000000 in
set_option maxRecDepth 100000 in
theorem c_P_digest (l : Launch) (D : va_G) (K : Nat → ClassId) (q : Nat → Nat) (hq : zI q) (i : Nat) (hi : i < 9) (σ : zm) (pn wn : Nat) (hpn : pn ≤ 4) (hwn : wn ≤ 24) (h6 : σ (zp i) 6 = nI pn) (h11 : σ (zp i) 11 = nI wn) : zMi l y_P_digest b_P_digest 3 (some .int) 2 D K q [.ref (q (zp i))] σ (fun r σ' => r = zdig σ i pn wn ∧ σ' = σ) := by
  refine zMi.of (own := "AppDesk$Pack") (lv := [(0, .ref (q (zp i)))]) (by decide) rfl hq (Nat.le_of_ble_eq_true rfl) rfl ?_
  intro p e s m below meth c hC hr hlk
  have J118 : ∀ (f : Nat) (k : Nat) (hif : k + f = wn), zG p l e (zrm 2) s m ([.ref (q (zp i))] : List Value).toArray below meth c D K q (zA q) 3 0 0 (MQ below (va_Qi (fun r σ' => r = zdig σ i pn wn ∧ σ' = σ) (zO D K q) (zA q)) ([.ref (q (zp i))] : List Value).toArray s 0 0 (zA q)) σ 118 [(0, .ref (q (zp i))), (1, .int (dgW (σ (zp i + 6)) (dgP (σ (zp i + 2)) (σ (zp i + 3)) (σ (zp i + 4)) (σ (zp i + 5)) (dgL (σ (zp i + 1)) (zmix (zmix (zmix 17 (σ (zp i) 0)) (σ (zp i) 1)) (σ (zp i) 4)) 8) pn) k)), (2, .int (nI k))] [] := by
    intro f
    induction f with
    | zero =>
      intro k hif
      have hin : k = wn := by omega
      refine g_iload_n hC d_P_digest_118 rfl rfl ?_
      refine g_aload_n hC d_P_digest_119 rfl rfl ?_
      refine g_getV hC _ 1 11 (nI wn) (h11) (zp_lt hi) (zS_p hi) rfl fl_P_55 d_P_digest_120 rfl ?_
      refine g_icmp_ge hC 143 d_P_digest_123 rfl rfl (fun h123 => ?_) (fun h123 => absurd (nI_le (by omega) (by omega)) h123)
      refine g_iload_n hC d_P_digest_143 rfl rfl ?_
      exact g_iret hC hr hlk d_P_digest_144 ⟨by rw [hin]; rfl, rfl⟩
    | succ f ih =>
      intro k hif
      refine g_iload_n hC d_P_digest_118 rfl rfl ?_
      refine g_aload_n hC d_P_digest_119 rfl rfl ?_
      refine g_getV hC _ 1 11 (nI wn) (h11) (zp_lt hi) (zS_p hi) rfl fl_P_55 d_P_digest_120 rfl ?_
      refine g_icmp_ge hC 143 d_P_digest_123 rfl rfl (fun h123 => absurd h123 (nI_ge (by omega) (by omega))) (fun h123 => ?_)
      refine g_iload_n hC d_P_digest_126 rfl rfl ?_
      refine g_aload_n hC d_P_digest_127 rfl rfl ?_
      refine g_getR hC _ 1 12 _ (zp_lt hi) (zS_p hi) rfl fl_P_37 d_P_digest_128 rfl ?_
      refine g_iload_n hC d_P_digest_131 rfl rfl ?_
      refine g_iald hC _ _ (k) (zp_lt' hi 6 (by decide)) (zS_pr hi 6 (by decide)) rfl (by omega) (by decide) d_P_digest_132 rfl ?_
      refine g_goi hC rfl (z_runS hC (c_P_mix l D K q hq _ _ _) yy_P_mix ys_P_81 ⟨Nat.le_of_ble_eq_true rfl, Nat.le_of_ble_eq_true rfl⟩ ⟨Nat.zero_le _, Nat.zero_le _⟩ rfl (Nat.le_of_ble_eq_true rfl) d_P_digest_133) (fun r0 σ0 q0 => ?_)
      obtain ⟨rfl, w0⟩ := q0
      obtain rfl := w0.symm
      refine g_istore_n hC d_P_digest_136 rfl (by decide) ?_
      refine g_iinc hC (nI (k + 1)) d_P_digest_137 rfl rfl (nI_succ _).symm (by decide) ?_
      refine g_goto hC 118 d_P_digest_140 rfl ?_
      exact zG.to (ih (k + 1) (by omega)) rfl rfl ⟨rfl, rfl, rfl, trivial⟩
  have J64 : ∀ (f : Nat) (k : Nat) (hif : k + f = pn), zG p l e (zrm 2) s m ([.ref (q (zp i))] : List Value).toArray below meth c D K q (zA q) 3 0 0 (MQ below (va_Qi (fun r σ' => r = zdig σ i pn wn ∧ σ' = σ) (zO D K q) (zA q)) ([.ref (q (zp i))] : List Value).toArray s 0 0 (zA q)) σ 64 [(0, .ref (q (zp i))), (1, .int (dgP (σ (zp i + 2)) (σ (zp i + 3)) (σ (zp i + 4)) (σ (zp i + 5)) (dgL (σ (zp i + 1)) (zmix (zmix (zmix 17 (σ (zp i) 0)) (σ (zp i) 1)) (σ (zp i) 4)) 8) k)), (2, .int (nI k))] [] := by
    intro f
    induction f with
    | zero =>
      intro k hif
      have hin : k = pn := by omega
      refine g_iload_n hC d_P_digest_64 rfl rfl ?_
      refine g_aload_n hC d_P_digest_65 rfl rfl ?_
      refine g_getV hC _ 1 6 (nI pn) (h6) (zp_lt hi) (zS_p hi) rfl fl_P_52 d_P_digest_66 rfl ?_
      refine g_icmp_ge hC 116 d_P_digest_69 rfl rfl (fun h69 => ?_) (fun h69 => absurd (nI_le (by omega) (by omega)) h69)
      refine g_iconst hC (0) d_P_digest_116 (by decide) rfl ?_
      refine g_istore_n hC d_P_digest_117 rfl (by decide) ?_
      exact zG.to (J118 wn 0 (by omega)) rfl rfl ⟨rfl, by rw [hin]; rfl, rfl, trivial⟩
    | succ f ih =>
      intro k hif
      refine g_iload_n hC d_P_digest_64 rfl rfl ?_
      refine g_aload_n hC d_P_digest_65 rfl rfl ?_
      refine g_getV hC _ 1 6 (nI pn) (h6) (zp_lt hi) (zS_p hi) rfl fl_P_52 d_P_digest_66 rfl ?_
      refine g_icmp_ge hC 116 d_P_digest_69 rfl rfl (fun h69 => absurd h69 (nI_ge (by omega) (by omega))) (fun h69 => ?_)
      refine g_iload_n hC d_P_digest_72 rfl rfl ?_
      refine g_aload_n hC d_P_digest_73 rfl rfl ?_
      refine g_getR hC _ 1 7 _ (zp_lt hi) (zS_p hi) rfl fl_P_25 d_P_digest_74 rfl ?_
      refine g_iload_n hC d_P_digest_77 rfl rfl ?_
      refine g_iald hC _ _ (k) (zp_lt' hi 2 (by decide)) (zS_pr hi 2 (by decide)) rfl (by omega) (by decide) d_P_digest_78 rfl ?_
      refine g_goi hC rfl (z_runS hC (c_P_mix l D K q hq _ _ _) yy_P_mix ys_P_81 ⟨Nat.le_of_ble_eq_true rfl, Nat.le_of_ble_eq_true rfl⟩ ⟨Nat.zero_le _, Nat.zero_le _⟩ rfl (Nat.le_of_ble_eq_true rfl) d_P_digest_79) (fun r1 σ1 q1 => ?_)
      obtain ⟨rfl, w1⟩ := q1
      obtain rfl := w1.symm
      refine g_aload_n hC d_P_digest_82 rfl rfl ?_
      refine g_getR hC _ 1 8 _ (zp_lt hi) (zS_p hi) rfl fl_P_28 d_P_digest_83 rfl ?_
      refine g_iload_n hC d_P_digest_86 rfl rfl ?_
      refine g_iald hC _ _ (k) (zp_lt' hi 3 (by decide)) (zS_pr hi 3 (by decide)) rfl (by omega) (by decide) d_P_digest_87 rfl ?_
      refine g_goi hC rfl (z_runS hC (c_P_mix l D K q hq _ _ _) yy_P_mix ys_P_81 ⟨Nat.le_of_ble_eq_true rfl, Nat.le_of_ble_eq_true rfl⟩ ⟨Nat.zero_le _, Nat.zero_le _⟩ rfl (Nat.le_of_ble_eq_true rfl) d_P_digest_88) (fun r2 σ2 q2 => ?_)
      obtain ⟨rfl, w2⟩ := q2
      obtain rfl := w2.symm
      refine g_aload_n hC d_P_digest_91 rfl rfl ?_
      refine g_getR hC _ 1 9 _ (zp_lt hi) (zS_p hi) rfl fl_P_31 d_P_digest_92 rfl ?_
      refine g_iload_n hC d_P_digest_95 rfl rfl ?_
      refine g_iald hC _ _ (k) (zp_lt' hi 4 (by decide)) (zS_pr hi 4 (by decide)) rfl (by omega) (by decide) d_P_digest_96 rfl ?_
      refine g_goi hC rfl (z_runS hC (c_P_mix l D K q hq _ _ _) yy_P_mix ys_P_81 ⟨Nat.le_of_ble_eq_true rfl, Nat.le_of_ble_eq_true rfl⟩ ⟨Nat.zero_le _, Nat.zero_le _⟩ rfl (Nat.le_of_ble_eq_true rfl) d_P_digest_97) (fun r3 σ3 q3 => ?_)
      obtain ⟨rfl, w3⟩ := q3
      obtain rfl := w3.symm
      refine g_aload_n hC d_P_digest_100 rfl rfl ?_
      refine g_getR hC _ 1 10 _ (zp_lt hi) (zS_p hi) rfl fl_P_34 d_P_digest_101 rfl ?_
      refine g_iload_n hC d_P_digest_104 rfl rfl ?_
      refine g_iald hC _ _ (k) (zp_lt' hi 5 (by decide)) (zS_pr hi 5 (by decide)) rfl (by omega) (by decide) d_P_digest_105 rfl ?_
      refine g_goi hC rfl (z_runS hC (c_P_mix l D K q hq _ _ _) yy_P_mix ys_P_81 ⟨Nat.le_of_ble_eq_true rfl, Nat.le_of_ble_eq_true rfl⟩ ⟨Nat.zero_le _, Nat.zero_le _⟩ rfl (Nat.le_of_ble_eq_true rfl) d_P_digest_106) (fun r4 σ4 q4 => ?_)
      obtain ⟨rfl, w4⟩ := q4
      obtain rfl := w4.symm
      refine g_istore_n hC d_P_digest_109 rfl (by decide) ?_
      refine g_iinc hC (nI (k + 1)) d_P_digest_110 rfl rfl (nI_succ _).symm (by decide) ?_
      refine g_goto hC 64 d_P_digest_113 rfl ?_
      exact zG.to (ih (k + 1) (by omega)) rfl rfl ⟨rfl, rfl, rfl, trivial⟩
  have J26 : ∀ (f : Nat) (k : Nat) (hif : k + f = 8), zG p l e (zrm 2) s m ([.ref (q (zp i))] : List Value).toArray below meth c D K q (zA q) 3 0 0 (MQ below (va_Qi (fun r σ' => r = zdig σ i pn wn ∧ σ' = σ) (zO D K q) (zA q)) ([.ref (q (zp i))] : List Value).toArray s 0 0 (zA q)) σ 26 [(0, .ref (q (zp i))), (1, .int (dgL (σ (zp i + 1)) (zmix (zmix (zmix 17 (σ (zp i) 0)) (σ (zp i) 1)) (σ (zp i) 4)) k)), (2, .int (nI k))] [] := by
    intro f
    induction f with
    | zero =>
      intro k hif
      have hin : k = 8 := by omega
      refine g_iload_n hC d_P_digest_26 rfl rfl ?_
      refine g_bipush hC (8) d_P_digest_27 (by decide) rfl ?_
      refine g_icmp_ge hC 62 d_P_digest_29 rfl rfl (fun h29 => ?_) (fun h29 => absurd (nI_le (a := 8) (b := k) (by omega) (by omega)) h29)
      refine g_iconst hC (0) d_P_digest_62 (by decide) rfl ?_
      refine g_istore_n hC d_P_digest_63 rfl (by decide) ?_
      exact zG.to (J64 pn 0 (by omega)) rfl rfl ⟨rfl, by rw [hin]; rfl, rfl, trivial⟩
    | succ f ih =>
      intro k hif
      have hk8 : k < 8 := by omega
      refine g_iload_n hC d_P_digest_26 rfl rfl ?_
      refine g_bipush hC (8) d_P_digest_27 (by decide) rfl ?_
      refine g_icmp_ge hC 62 d_P_digest_29 rfl rfl (fun h29 => absurd h29 (nI_ge (a := k) (b := 8) (by omega) (by omega))) (fun h29 => ?_)
      refine g_aload_n hC d_P_digest_32 rfl rfl ?_
      refine g_iload_n hC d_P_digest_33 rfl rfl ?_
      refine g_goi hC rfl (z_runV hC (c_P_declares l D K q hq _ hi _ _) yy_P_declares yv_P_85 (zp_lt hi) (zS_p hi) ⟨Nat.le_of_ble_eq_true rfl, Nat.le_of_ble_eq_true rfl⟩ ⟨Nat.zero_le _, Nat.zero_le _⟩ rfl (Nat.le_of_ble_eq_true rfl) d_P_digest_34) (fun r5 σ5 q5 => ?_)
      obtain ⟨rfl, w5⟩ := q5
      obtain rfl := w5.symm
      refine g_ifeq_b hC 56 d_P_digest_37 rfl rfl (fun h37 => ?_) (fun h37 => ?_)
      ·
        refine g_iinc hC (nI (k + 1)) d_P_digest_56 rfl rfl (nI_succ _).symm (by decide) ?_
        refine g_goto hC 26 d_P_digest_59 rfl ?_
        first | exact zG.to (ih (k + 1) (by omega)) rfl rfl ⟨rfl, congrArg (fun z => some (Value.int z)) (dgL_t (zdec_t hk8 h37)).symm, rfl, trivial⟩ | exact zG.to (ih (k + 1) (by omega)) rfl rfl ⟨rfl, congrArg (fun z => some (Value.int z)) (dgL_f (zdec_f hk8 h37)).symm, rfl, trivial⟩
      ·
        refine g_iload_n hC d_P_digest_40 rfl rfl ?_
        refine g_bipush hC (10) d_P_digest_41 (by decide) rfl ?_
        refine g_iload_n hC d_P_digest_43 rfl rfl ?_
        refine g_imul hC d_P_digest_44 rfl ?_
        refine g_aload_n hC d_P_digest_45 rfl rfl ?_
        refine g_getR hC _ 1 5 _ (zp_lt hi) (zS_p hi) rfl fl_P_15 d_P_digest_46 rfl ?_
        refine g_iload_n hC d_P_digest_49 rfl rfl ?_
        refine g_iald hC _ _ (k) (zp_lt' hi 1 (by decide)) (zS_pr hi 1 (by decide)) rfl (by omega) (by decide) d_P_digest_50 rfl ?_
        refine g_iadd hC d_P_digest_51 rfl ?_
        refine g_goi hC rfl (z_runS hC (c_P_mix l D K q hq _ _ _) yy_P_mix ys_P_81 ⟨Nat.le_of_ble_eq_true rfl, Nat.le_of_ble_eq_true rfl⟩ ⟨Nat.zero_le _, Nat.zero_le _⟩ rfl (Nat.le_of_ble_eq_true rfl) d_P_digest_52) (fun r6 σ6 q6 => ?_)
        obtain ⟨rfl, w6⟩ := q6
        obtain rfl := w6.symm
        refine g_istore_n hC d_P_digest_55 rfl (by decide) ?_
        refine g_iinc hC (nI (k + 1)) d_P_digest_56 rfl rfl (nI_succ _).symm (by decide) ?_
        refine g_goto hC 26 d_P_digest_59 rfl ?_
        first | exact zG.to (ih (k + 1) (by omega)) rfl rfl ⟨rfl, congrArg (fun z => some (Value.int z)) (dgL_t (zdec_t hk8 h37)).symm, rfl, trivial⟩ | exact zG.to (ih (k + 1) (by omega)) rfl rfl ⟨rfl, congrArg (fun z => some (Value.int z)) (dgL_f (zdec_f hk8 h37)).symm, rfl, trivial⟩
  refine g_bipush hC (17) d_P_digest_0 (by decide) rfl ?_
  refine g_aload_n hC d_P_digest_2 rfl rfl ?_
  refine g_getI hC _ 1 0 (zp_lt hi) (zS_p hi) rfl fl_P_40 d_P_digest_3 rfl ?_
  refine g_goi hC rfl (z_runS hC (c_P_mix l D K q hq _ _ _) yy_P_mix ys_P_81 ⟨Nat.le_of_ble_eq_true rfl, Nat.le_of_ble_eq_true rfl⟩ ⟨Nat.zero_le _, Nat.zero_le _⟩ rfl (Nat.le_of_ble_eq_true rfl) d_P_digest_6) (fun r7 σ7 q7 => ?_)
  obtain ⟨rfl, w7⟩ := q7
  obtain rfl := w7.symm
  refine g_aload_n hC d_P_digest_9 rfl rfl ?_
  refine g_getI hC _ 1 1 (zp_lt hi) (zS_p hi) rfl fl_P_9 d_P_digest_10 rfl ?_
  refine g_goi hC rfl (z_runS hC (c_P_mix l D K q hq _ _ _) yy_P_mix ys_P_81 ⟨Nat.le_of_ble_eq_true rfl, Nat.le_of_ble_eq_true rfl⟩ ⟨Nat.zero_le _, Nat.zero_le _⟩ rfl (Nat.le_of_ble_eq_true rfl) d_P_digest_13) (fun r8 σ8 q8 => ?_)
  obtain ⟨rfl, w8⟩ := q8
  obtain rfl := w8.symm
  refine g_aload_n hC d_P_digest_16 rfl rfl ?_
  refine g_getI hC _ 1 4 (zp_lt hi) (zS_p hi) rfl fl_P_49 d_P_digest_17 rfl ?_
  refine g_goi hC rfl (z_runS hC (c_P_mix l D K q hq _ _ _) yy_P_mix ys_P_81 ⟨Nat.le_of_ble_eq_true rfl, Nat.le_of_ble_eq_true rfl⟩ ⟨Nat.zero_le _, Nat.zero_le _⟩ rfl (Nat.le_of_ble_eq_true rfl) d_P_digest_20) (fun r9 σ9 q9 => ?_)
  obtain ⟨rfl, w9⟩ := q9
  obtain rfl := w9.symm
  refine g_istore_n hC d_P_digest_23 rfl (by decide) ?_
  refine g_iconst hC (0) d_P_digest_24 (by decide) rfl ?_
  refine g_istore_n hC d_P_digest_25 rfl (by decide) ?_
  exact zG.to (J26 8 0 (by omega)) rfl rfl ⟨rfl, rfl, rfl, trivial⟩
set_option maxHeartbeats 4000000 in
set_option maxRecDepth 100000 in
theorem c_P_sealOfSigner (l : Launch) (D : va_G) (K : Nat → ClassId) (q : Nat → Nat) (hq : zI q) (i : Nat) (hi : i < 9) (σ : zm) (pn wn : Nat) (hpn : pn ≤ 4) (hwn : wn ≤ 24) (h6 : σ (zp i) 6 = nI pn) (h11 : σ (zp i) 11 = nI wn) : zMi l y_P_sealOfSigner b_P_sealOfSigner 1 (some .int) 3 D K q [.ref (q (zp i))] σ (fun r σ' => r = zsea σ i pn wn ∧ σ' = σ) := by
  refine zMi.of (own := "AppDesk$Pack") (lv := [(0, .ref (q (zp i)))]) (by decide) rfl hq (Nat.le_of_ble_eq_true rfl) rfl ?_
  intro p e s m below meth c hC hr hlk
  refine g_aload_n hC d_P_sealOfSigner_0 rfl rfl ?_
  refine g_goi hC rfl (z_runV hC (c_P_digest l D K q hq _ hi _ pn wn hpn hwn h6 h11) yy_P_digest yv_P_76 (zp_lt hi) (zS_p hi) ⟨Nat.le_of_ble_eq_true rfl, Nat.le_of_ble_eq_true rfl⟩ ⟨Nat.zero_le _, Nat.zero_le _⟩ rfl (Nat.le_of_ble_eq_true rfl) d_P_sealOfSigner_1) (fun r0 σ0 q0 => ?_)
  obtain ⟨rfl, w0⟩ := q0
  obtain rfl := w0.symm
  refine g_ldc hC _ d_P_sealOfSigner_4 (by exact kk_P_80) rfl ?_
  refine g_aload_n hC d_P_sealOfSigner_6 rfl rfl ?_
  refine g_getI hC _ 1 2 (zp_lt hi) (zS_p hi) rfl fl_P_43 d_P_sealOfSigner_7 rfl ?_
  refine g_iconst hC (1) d_P_sealOfSigner_10 (by decide) rfl ?_
  refine g_iadd hC d_P_sealOfSigner_11 rfl ?_
  refine g_imul hC d_P_sealOfSigner_12 rfl ?_
  refine g_ixor hC d_P_sealOfSigner_13 rfl ?_
  exact g_iret hC hr hlk d_P_sealOfSigner_14 ⟨rfl, rfl⟩
set_option maxHeartbeats 4000000 in
set_option maxRecDepth 100000 in
theorem c_P_copyFrom (l : Launch) (D : va_G) (K : Nat → ClassId) (q : Nat → Nat) (hq : zI q) (i : Nat) (hi : i < 9) (k : Nat) (hk : k < 9) (hne : i ≠ k) (σ : zm) : zMv l y_P_copyFrom b_P_copyFrom 2 none 2 D K q [.ref (q (zp i)), .ref (q (zp k))] σ (fun σ' => zPk σ σ' i k) := by
  refine zMv.of (own := "AppDesk$Pack") (lv := [(0, .ref (q (zp i))), (1, .ref (q (zp k)))]) (by decide) rfl hq (Nat.le_of_ble_eq_true rfl) rfl ?_
  intro p e s m below meth c hC hr hlk
  have hz : zp i + 7 ≤ zp k ∨ zp k + 7 ≤ zp i := by unfold zp; omega
  refine g_aload_n hC d_P_copyFrom_0 rfl rfl ?_
  refine g_aload_n hC d_P_copyFrom_1 rfl rfl ?_
  refine g_getI hC _ 1 0 (zp_lt hk) (zS_p hk) rfl fl_P_40 d_P_copyFrom_2 rfl ?_
  refine g_aload_n hC d_P_copyFrom_5 rfl rfl ?_
  refine g_getI hC _ 1 1 (zp_lt hk) (zS_p hk) rfl fl_P_9 d_P_copyFrom_6 rfl ?_
  refine g_aload_n hC d_P_copyFrom_9 rfl rfl ?_
  refine g_getI hC _ 1 2 (zp_lt hk) (zS_p hk) rfl fl_P_43 d_P_copyFrom_10 rfl ?_
  refine g_gov hC rfl (z_runV hC (c_P_beginAnew l D K q hq _ hi _ _ _ _) yy_P_beginAnew yv_P_58 (zp_lt hi) (zS_p hi) ⟨Nat.le_of_ble_eq_true rfl, Nat.le_of_ble_eq_true rfl⟩ ⟨Nat.zero_le _, Nat.zero_le _⟩ rfl (Nat.le_of_ble_eq_true rfl) d_P_copyFrom_13) (fun σ0 q0 => ?_)
  obtain rfl := q0.symm
  refine g_aload_n hC d_P_copyFrom_16 rfl rfl ?_
  refine g_aload_n hC d_P_copyFrom_17 rfl rfl ?_
  refine g_getV hC _ 1 3 (σ (zp k) 3) (by simp (disch := omega) only [zu_row, zbeg_off]) (zp_lt hk) (zS_p hk) rfl fl_P_46 d_P_copyFrom_18 rfl ?_
  refine g_putI hC _ 1 3 (zp_lt hi) (zS_p hi) rfl fp_P_46 d_P_copyFrom_21 rfl ?_
  refine g_aload_n hC d_P_copyFrom_24 rfl rfl ?_
  refine g_aload_n hC d_P_copyFrom_25 rfl rfl ?_
  refine g_getV hC _ 1 4 (σ (zp k) 4) (by simp (disch := omega) only [zu_row, zbeg_off]) (zp_lt hk) (zS_p hk) rfl fl_P_49 d_P_copyFrom_26 rfl ?_
  refine g_putI hC _ 1 4 (zp_lt hi) (zS_p hi) rfl fp_P_49 d_P_copyFrom_29 rfl ?_
  refine g_aload_n hC d_P_copyFrom_32 rfl rfl ?_
  refine g_getR hC _ 1 5 _ (zp_lt hk) (zS_p hk) rfl fl_P_15 d_P_copyFrom_33 rfl ?_
  refine g_iconst hC (0) d_P_copyFrom_36 (by decide) rfl ?_
  refine g_aload_n hC d_P_copyFrom_37 rfl rfl ?_
  refine g_getR hC _ 1 5 _ (zp_lt hi) (zS_p hi) rfl fl_P_15 d_P_copyFrom_38 rfl ?_
  refine g_iconst hC (0) d_P_copyFrom_41 (by decide) rfl ?_
  refine g_bipush hC (8) d_P_copyFrom_42 (by decide) rfl ?_
  refine g_copyR hC _ _ _ _ 8 kcp_l (zp_lt' hk 1 (by decide)) (zS_pr hk 1 (by decide)) (zp_lt' hi 1 (by decide)) (zS_pr hi 1 (by decide)) (by decide) (by decide) (by decide) (by decide) ⟨Nat.le_of_ble_eq_true rfl, Nat.le_of_ble_eq_true rfl⟩ (Nat.le_of_ble_eq_true rfl) d_P_copyFrom_44 rfl (fun τ1 o1 e1 => ?_)
  refine g_aload_n hC d_P_copyFrom_47 rfl rfl ?_
  refine g_aload_n hC d_P_copyFrom_48 rfl rfl ?_
  refine g_getV hC _ 1 6 (σ (zp k) 6) (by simp (disch := omega) only [zu_row, zbeg_off, o1]) (zp_lt hk) (zS_p hk) rfl fl_P_52 d_P_copyFrom_49 rfl ?_
  refine g_putI hC _ 1 6 (zp_lt hi) (zS_p hi) rfl fp_P_52 d_P_copyFrom_52 rfl ?_
  refine g_aload_n hC d_P_copyFrom_55 rfl rfl ?_
  refine g_getR hC _ 1 7 _ (zp_lt hk) (zS_p hk) rfl fl_P_25 d_P_copyFrom_56 rfl ?_
  refine g_iconst hC (0) d_P_copyFrom_59 (by decide) rfl ?_
  refine g_aload_n hC d_P_copyFrom_60 rfl rfl ?_
  refine g_getR hC _ 1 7 _ (zp_lt hi) (zS_p hi) rfl fl_P_25 d_P_copyFrom_61 rfl ?_
  refine g_iconst hC (0) d_P_copyFrom_64 (by decide) rfl ?_
  refine g_iconst hC (4) d_P_copyFrom_65 (by decide) rfl ?_
  refine g_copyR hC _ _ _ _ 4 kcp_l (zp_lt' hk 2 (by decide)) (zS_pr hk 2 (by decide)) (zp_lt' hi 2 (by decide)) (zS_pr hi 2 (by decide)) (by decide) (by decide) (by decide) (by decide) ⟨Nat.le_of_ble_eq_true rfl, Nat.le_of_ble_eq_true rfl⟩ (Nat.le_of_ble_eq_true rfl) d_P_copyFrom_66 rfl (fun τ2 o2 e2 => ?_)
  refine g_aload_n hC d_P_copyFrom_69 rfl rfl ?_
  refine g_getR hC _ 1 8 _ (zp_lt hk) (zS_p hk) rfl fl_P_28 d_P_copyFrom_70 rfl ?_
  refine g_iconst hC (0) d_P_copyFrom_73 (by decide) rfl ?_
  refine g_aload_n hC d_P_copyFrom_74 rfl rfl ?_
  refine g_getR hC _ 1 8 _ (zp_lt hi) (zS_p hi) rfl fl_P_28 d_P_copyFrom_75 rfl ?_
  refine g_iconst hC (0) d_P_copyFrom_78 (by decide) rfl ?_
  refine g_iconst hC (4) d_P_copyFrom_79 (by decide) rfl ?_
  refine g_copyR hC _ _ _ _ 4 kcp_l (zp_lt' hk 3 (by decide)) (zS_pr hk 3 (by decide)) (zp_lt' hi 3 (by decide)) (zS_pr hi 3 (by decide)) (by decide) (by decide) (by decide) (by decide) ⟨Nat.le_of_ble_eq_true rfl, Nat.le_of_ble_eq_true rfl⟩ (Nat.le_of_ble_eq_true rfl) d_P_copyFrom_80 rfl (fun τ3 o3 e3 => ?_)
  refine g_aload_n hC d_P_copyFrom_83 rfl rfl ?_
  refine g_getR hC _ 1 9 _ (zp_lt hk) (zS_p hk) rfl fl_P_31 d_P_copyFrom_84 rfl ?_
  refine g_iconst hC (0) d_P_copyFrom_87 (by decide) rfl ?_
  refine g_aload_n hC d_P_copyFrom_88 rfl rfl ?_
  refine g_getR hC _ 1 9 _ (zp_lt hi) (zS_p hi) rfl fl_P_31 d_P_copyFrom_89 rfl ?_
  refine g_iconst hC (0) d_P_copyFrom_92 (by decide) rfl ?_
  refine g_iconst hC (4) d_P_copyFrom_93 (by decide) rfl ?_
  refine g_copyR hC _ _ _ _ 4 kcp_l (zp_lt' hk 4 (by decide)) (zS_pr hk 4 (by decide)) (zp_lt' hi 4 (by decide)) (zS_pr hi 4 (by decide)) (by decide) (by decide) (by decide) (by decide) ⟨Nat.le_of_ble_eq_true rfl, Nat.le_of_ble_eq_true rfl⟩ (Nat.le_of_ble_eq_true rfl) d_P_copyFrom_94 rfl (fun τ4 o4 e4 => ?_)
  refine g_aload_n hC d_P_copyFrom_97 rfl rfl ?_
  refine g_getR hC _ 1 10 _ (zp_lt hk) (zS_p hk) rfl fl_P_34 d_P_copyFrom_98 rfl ?_
  refine g_iconst hC (0) d_P_copyFrom_101 (by decide) rfl ?_
  refine g_aload_n hC d_P_copyFrom_102 rfl rfl ?_
  refine g_getR hC _ 1 10 _ (zp_lt hi) (zS_p hi) rfl fl_P_34 d_P_copyFrom_103 rfl ?_
  refine g_iconst hC (0) d_P_copyFrom_106 (by decide) rfl ?_
  refine g_iconst hC (4) d_P_copyFrom_107 (by decide) rfl ?_
  refine g_copyR hC _ _ _ _ 4 kcp_l (zp_lt' hk 5 (by decide)) (zS_pr hk 5 (by decide)) (zp_lt' hi 5 (by decide)) (zS_pr hi 5 (by decide)) (by decide) (by decide) (by decide) (by decide) ⟨Nat.le_of_ble_eq_true rfl, Nat.le_of_ble_eq_true rfl⟩ (Nat.le_of_ble_eq_true rfl) d_P_copyFrom_108 rfl (fun τ5 o5 e5 => ?_)
  refine g_aload_n hC d_P_copyFrom_111 rfl rfl ?_
  refine g_aload_n hC d_P_copyFrom_112 rfl rfl ?_
  refine g_getV hC _ 1 11 (σ (zp k) 11) (by simp (disch := omega) only [zu_row, zbeg_off, o1, o2, o3, o4, o5]) (zp_lt hk) (zS_p hk) rfl fl_P_55 d_P_copyFrom_113 rfl ?_
  refine g_putI hC _ 1 11 (zp_lt hi) (zS_p hi) rfl fp_P_55 d_P_copyFrom_116 rfl ?_
  refine g_aload_n hC d_P_copyFrom_119 rfl rfl ?_
  refine g_getR hC _ 1 12 _ (zp_lt hk) (zS_p hk) rfl fl_P_37 d_P_copyFrom_120 rfl ?_
  refine g_iconst hC (0) d_P_copyFrom_123 (by decide) rfl ?_
  refine g_aload_n hC d_P_copyFrom_124 rfl rfl ?_
  refine g_getR hC _ 1 12 _ (zp_lt hi) (zS_p hi) rfl fl_P_37 d_P_copyFrom_125 rfl ?_
  refine g_iconst hC (0) d_P_copyFrom_128 (by decide) rfl ?_
  refine g_bipush hC (24) d_P_copyFrom_129 (by decide) rfl ?_
  refine g_copyR hC _ _ _ _ 24 kcp_l (zp_lt' hk 6 (by decide)) (zS_pr hk 6 (by decide)) (zp_lt' hi 6 (by decide)) (zS_pr hi 6 (by decide)) (by decide) (by decide) (by decide) (by decide) ⟨Nat.le_of_ble_eq_true rfl, Nat.le_of_ble_eq_true rfl⟩ (Nat.le_of_ble_eq_true rfl) d_P_copyFrom_131 rfl (fun τ6 o6 e6 => ?_)
  exact g_vret hC hr hlk d_P_copyFrom_134 (by
    refine ⟨fun a b ha => ?_, ⟨?_, ?_, ?_, ?_, ?_, ?_, ?_⟩, fun b hb => ?_, fun b hb => ⟨?_, ?_, ?_, ?_⟩, fun b hb => ?_⟩
    · simp (disch := omega) only [zu_row, zu_col, zu_eq, zbeg_off, zbeg_0, zbeg_1, zbeg_2, o1, o2, o3, o4, o5, o6]
    · simp (disch := omega) only [zu_row, zu_col, zu_eq, zbeg_off, zbeg_0, zbeg_1, zbeg_2, o1, o2, o3, o4, o5, o6]
    · simp (disch := omega) only [zu_row, zu_col, zu_eq, zbeg_off, zbeg_0, zbeg_1, zbeg_2, o1, o2, o3, o4, o5, o6]
    · simp (disch := omega) only [zu_row, zu_col, zu_eq, zbeg_off, zbeg_0, zbeg_1, zbeg_2, o1, o2, o3, o4, o5, o6]
    · simp (disch := omega) only [zu_row, zu_col, zu_eq, zbeg_off, zbeg_0, zbeg_1, zbeg_2, o1, o2, o3, o4, o5, o6]
    · simp (disch := omega) only [zu_row, zu_col, zu_eq, zbeg_off, zbeg_0, zbeg_1, zbeg_2, o1, o2, o3, o4, o5, o6]
    · simp (disch := omega) only [zu_row, zu_col, zu_eq, zbeg_off, zbeg_0, zbeg_1, zbeg_2, o1, o2, o3, o4, o5, o6]
    · simp (disch := omega) only [zu_row, zu_col, zu_eq, zbeg_off, zbeg_0, zbeg_1, zbeg_2, o1, o2, o3, o4, o5, o6]
    · simp (disch := omega) only [zu_row, zu_col, zu_eq, zbeg_off, zbeg_0, zbeg_1, zbeg_2, o1, o2, o3, o4, o5, o6, e1]
    · simp (disch := omega) only [zu_row, zu_col, zu_eq, zbeg_off, zbeg_0, zbeg_1, zbeg_2, o1, o2, o3, o4, o5, o6, e2]
    · simp (disch := omega) only [zu_row, zu_col, zu_eq, zbeg_off, zbeg_0, zbeg_1, zbeg_2, o1, o2, o3, o4, o5, o6, e3]
    · simp (disch := omega) only [zu_row, zu_col, zu_eq, zbeg_off, zbeg_0, zbeg_1, zbeg_2, o1, o2, o3, o4, o5, o6, e4]
    · simp (disch := omega) only [zu_row, zu_col, zu_eq, zbeg_off, zbeg_0, zbeg_1, zbeg_2, o1, o2, o3, o4, o5, o6, e5]
    · simp (disch := omega) only [zu_row, zu_col, zu_eq, zbeg_off, zbeg_0, zbeg_1, zbeg_2, o1, o2, o3, o4, o5, o6, e6])
end
section
/-! an app's methods -/
theorem zif_f {b : Bool} (h : b = false) : ¬ b = true := by rw [h]; decide
theorem zhas_in {b x n : Int32} (h : zhas b x n = true) : zin x n = true := by
  unfold zhas at h
  exact (Bool.and_eq_true _ _ ▸ h).1
def zsr (x k : Int32) : Int32 := (x.toUInt32 >>> (k.toUInt32 &&& Int32.toUInt32 31)).toInt32
def zbc1 (x : Int32) : Int32 := x - (zsr x 1 &&& 1431655765)
def zbc2 (x : Int32) : Int32 := (x &&& 858993459) + (zsr x 2 &&& 858993459)
def zbc3 (x : Int32) : Int32 := (x + zsr x 4) &&& 252645135
def zbc4 (x : Int32) : Int32 := x + zsr x 8
def zbc5 (x : Int32) : Int32 := x + zsr x 16
def zbc (x : Int32) : Int32 := zbc5 (zbc4 (zbc3 (zbc2 (zbc1 x)))) &&& 63
def zclr (σ : zm) (a : Nat) : zm := zu (zu (zu (zu σ (za a) 0 0) (za a) 2 0) (za a) 3 0) (za a) 5 0
def zrun (σ : zm) (a : Nat) (p v g : Int32) : zm := zu (zu (zfill (zu (zu (zu σ (za a) 5 1) (za a) 6 p) (za a) 7 0) (za a + 3) 4 0) (za a + 3) 0 v) (za a + 3) 1 g
def zvu (σ : zm) (a : Nat) (x : Int32) : Int32 := if zhas (σ (za a) 3) x 8 then σ (za a + 1) x.toNatClampNeg else 0
def zwip (σ : zm) (a wn : Nat) : Int32 := if zin (σ (za a) 6) (nI wn) then σ (zp a + 6) (σ (za a) 6).toNatClampNeg else 0
def zup (σ : zm) (a : Nat) : Int32 := if zin (σ (za a) 7 - 1) 6 then σ (za a + 2) (σ (za a) 7 - 1).toNatClampNeg else 0
def zup2 (σ : zm) (a : Nat) : Int32 := if zin (σ (za a) 7 - 2) 6 then σ (za a + 2) (σ (za a) 7 - 2).toNatClampNeg else 0
def zpsh (σ : zm) (a : Nat) (v : Int32) : zm := if zin (σ (za a) 7) 6 then zu (zu σ (za a + 2) (σ (za a) 7).toNatClampNeg v) (za a) 7 (σ (za a) 7 + 1) else σ
def zpop (σ : zm) (a : Nat) : zm := zu σ (za a) 7 (zmax (σ (za a) 7 - 1) 0)
theorem zpop_6 (σ : zm) (a : Nat) : zpop σ a (za a) 6 = σ (za a) 6 := zu_ne _ _ (Or.inr (by decide))
def zturn (σ : zm) (a : Nat) (op n : Int32) : zm := if op = 0 then zu σ (za a) 5 0 else if op = 8 then zu σ (za a) 6 (σ (za a) 6 + n) else if zup σ a = 0 then zu (zpop σ a) (za a) 6 (σ (za a) 6 + n) else zu (zpop σ a) (za a) 6 (σ (za a) 6 + 1)
def zsto (σ : zm) (a : Nat) (n v : Int32) : zm := if zin n 4 then zu σ (za a + 3) n.toNatClampNeg v else σ
def zpl (σ : zm) (a : Nat) (op n : Int32) : zm :=
  if op = 1 then zpsh σ a n
  else if op = 2 then zpsh (zpop (zpop σ a) a) a (zup σ a + zup (zpop σ a) a)
  else if op = 3 then zpsh (zpop (zpop σ a) a) a (zup (zpop σ a) a - zup σ a)
  else if op = 4 then zpsh σ a (zup σ a)
  else if op = 5 then zpop σ a
  else if op = 6 then zpsh σ a (if zin n 4 then σ (za a + 3) n.toNatClampNeg else 0)
  else if op = 7 then zsto (zpop σ a) a n (zup σ a)
  else σ
theorem zpl_6 (σ : zm) (a : Nat) (n : Int32) : zpl σ a 6 n = zpsh σ a (if zin n 4 then σ (za a + 3) n.toNatClampNeg else 0) := rfl
def zgot (σ : zm) (a : Nat) : zm := zu (zpsh (zpop σ a) a (zvu (zpop σ a) a (zup σ a))) (za a) 6 (zpsh (zpop σ a) a (zvu (zpop σ a) a (zup σ a)) (za a) 6 + 1)
def zkok (σ : zm) (a : Nat) : Bool := zin (zup2 σ a) 8 && (zhas (σ (za a) 3) (zup2 σ a) 8 || decide (zbc (σ (za a) 3) < 3))
def zkp1 (σ : zm) (a : Nat) : zm := zu σ (za a) 3 (σ (za a) 3 ||| (1 <<< (zup2 σ a &&& 31)))
def zkp2 (σ : zm) (a : Nat) : zm := zpop (zu (zpop (zkp1 σ a) a) (za a + 1) (zup2 σ a).toNatClampNeg (zup (zkp1 σ a) a)) a
def zkep (σ : zm) (a : Nat) : zm := zu (zkp2 σ a) (za a) 6 (zkp2 σ a (za a) 6 + 1)
set_option maxHeartbeats 4000000 in
set_option maxRecDepth 100000 in
theorem c_J_bitCount (l : Launch) (D : va_G) (K : Nat → ClassId) (q : Nat → Nat) (hq : zI q) (x : Int32) (σ : zm) : zMi l y_J_bitCount b_J_bitCount 1 (some .int) 0 D K q [.int (x)] σ (fun r σ' => r = zbc x ∧ σ' = σ) := by
  refine zMi.of (own := "java/lang/Integer") (lv := [(0, .int (x))]) (by decide) rfl hq (Nat.le_of_ble_eq_true rfl) rfl ?_
  intro p e s m below meth c hC hr hlk
  refine g_iload_n hC d_J_bitCount_0 rfl rfl ?_
  refine g_iload_n hC d_J_bitCount_1 rfl rfl ?_
  refine g_iconst hC (1) d_J_bitCount_2 (by decide) rfl ?_
  refine g_iushr hC d_J_bitCount_3 rfl ?_
  refine g_ldcw hC _ d_J_bitCount_4 (by exact kk_J_265) rfl ?_
  refine g_iand hC d_J_bitCount_7 rfl ?_
  refine g_isub hC d_J_bitCount_8 rfl ?_
  refine g_istore_n hC d_J_bitCount_9 rfl (by decide) ?_
  refine g_iload_n hC d_J_bitCount_10 rfl rfl ?_
  refine g_ldcw hC _ d_J_bitCount_11 (by exact kk_J_266) rfl ?_
  refine g_iand hC d_J_bitCount_14 rfl ?_
  refine g_iload_n hC d_J_bitCount_15 rfl rfl ?_
  refine g_iconst hC (2) d_J_bitCount_16 (by decide) rfl ?_
  refine g_iushr hC d_J_bitCount_17 rfl ?_
  refine g_ldcw hC _ d_J_bitCount_18 (by exact kk_J_266) rfl ?_
  refine g_iand hC d_J_bitCount_21 rfl ?_
  refine g_iadd hC d_J_bitCount_22 rfl ?_
  refine g_istore_n hC d_J_bitCount_23 rfl (by decide) ?_
  refine g_iload_n hC d_J_bitCount_24 rfl rfl ?_
  refine g_iload_n hC d_J_bitCount_25 rfl rfl ?_
  refine g_iconst hC (4) d_J_bitCount_26 (by decide) rfl ?_
  refine g_iushr hC d_J_bitCount_27 rfl ?_
  refine g_iadd hC d_J_bitCount_28 rfl ?_
  refine g_ldcw hC _ d_J_bitCount_29 (by exact kk_J_267) rfl ?_
  refine g_iand hC d_J_bitCount_32 rfl ?_
  refine g_istore_n hC d_J_bitCount_33 rfl (by decide) ?_
  refine g_iload_n hC d_J_bitCount_34 rfl rfl ?_
  refine g_iload_n hC d_J_bitCount_35 rfl rfl ?_
  refine g_bipush hC (8) d_J_bitCount_36 (by decide) rfl ?_
  refine g_iushr hC d_J_bitCount_38 rfl ?_
  refine g_iadd hC d_J_bitCount_39 rfl ?_
  refine g_istore_n hC d_J_bitCount_40 rfl (by decide) ?_
  refine g_iload_n hC d_J_bitCount_41 rfl rfl ?_
  refine g_iload_n hC d_J_bitCount_42 rfl rfl ?_
  refine g_bipush hC (16) d_J_bitCount_43 (by decide) rfl ?_
  refine g_iushr hC d_J_bitCount_45 rfl ?_
  refine g_iadd hC d_J_bitCount_46 rfl ?_
  refine g_istore_n hC d_J_bitCount_47 rfl (by decide) ?_
  refine g_iload_n hC d_J_bitCount_48 rfl rfl ?_
  refine g_bipush hC (63) d_J_bitCount_49 (by decide) rfl ?_
  refine g_iand hC d_J_bitCount_51 rfl ?_
  exact g_iret hC hr hlk d_J_bitCount_52 ⟨rfl, rfl⟩
set_option maxHeartbeats 4000000 in
set_option maxRecDepth 100000 in
theorem c_A_wasGranted (l : Launch) (D : va_G) (K : Nat → ClassId) (q : Nat → Nat) (hq : zI q) (a : Nat) (ha : a < 8) (x : Int32) (σ : zm) : zMi l y_A_wasGranted b_A_wasGranted 2 (some .boolean) 2 D K q [.ref (q (za a)), .int (x)] σ (fun r σ' => r = zb (zhas (σ (za a) 2) x 8) ∧ σ' = σ) := by
  refine zMi.of (own := "AppDesk$App") (lv := [(0, .ref (q (za a))), (1, .int (x))]) (by decide) rfl hq (Nat.le_of_ble_eq_true rfl) rfl ?_
  intro p e s m below meth c hC hr hlk
  refine g_aload_n hC d_A_wasGranted_0 rfl rfl ?_
  refine g_getI hC _ 2 2 (za_lt ha) (zS_a ha) rfl fl_A_32 d_A_wasGranted_1 rfl ?_
  refine g_iload_n hC d_A_wasGranted_4 rfl rfl ?_
  refine g_bipush hC (8) d_A_wasGranted_5 (by decide) rfl ?_
  refine g_goi hC rfl (z_runN hC (c_D_hasBit l D K q hq _ _ _ _) yy_D_hasBit yn_A_61 ⟨Nat.le_of_ble_eq_true rfl, Nat.le_of_ble_eq_true rfl⟩ ⟨Nat.zero_le _, Nat.zero_le _⟩ rfl (Nat.le_of_ble_eq_true rfl) d_A_wasGranted_7) (fun r0 σ0 q0 => ?_)
  obtain ⟨rfl, w0⟩ := q0
  obtain rfl := w0.symm
  exact g_zret hC hr hlk d_A_wasGranted_10 (zb01 _) ⟨rfl, rfl⟩
set_option maxHeartbeats 4000000 in
set_option maxRecDepth 100000 in
theorem c_A_keepsUnder (l : Launch) (D : va_G) (K : Nat → ClassId) (q : Nat → Nat) (hq : zI q) (a : Nat) (ha : a < 8) (x : Int32) (σ : zm) : zMi l y_A_keepsUnder b_A_keepsUnder 2 (some .boolean) 2 D K q [.ref (q (za a)), .int (x)] σ (fun r σ' => r = zb (zhas (σ (za a) 3) x 8) ∧ σ' = σ) := by
  refine zMi.of (own := "AppDesk$App") (lv := [(0, .ref (q (za a))), (1, .int (x))]) (by decide) rfl hq (Nat.le_of_ble_eq_true rfl) rfl ?_
  intro p e s m below meth c hC hr hlk
  refine g_aload_n hC d_A_keepsUnder_0 rfl rfl ?_
  refine g_getI hC _ 2 3 (za_lt ha) (zS_a ha) rfl fl_A_46 d_A_keepsUnder_1 rfl ?_
  refine g_iload_n hC d_A_keepsUnder_4 rfl rfl ?_
  refine g_bipush hC (8) d_A_keepsUnder_5 (by decide) rfl ?_
  refine g_goi hC rfl (z_runN hC (c_D_hasBit l D K q hq _ _ _ _) yy_D_hasBit yn_A_61 ⟨Nat.le_of_ble_eq_true rfl, Nat.le_of_ble_eq_true rfl⟩ ⟨Nat.zero_le _, Nat.zero_le _⟩ rfl (Nat.le_of_ble_eq_true rfl) d_A_keepsUnder_7) (fun r0 σ0 q0 => ?_)
  obtain ⟨rfl, w0⟩ := q0
  obtain rfl := w0.symm
  exact g_zret hC hr hlk d_A_keepsUnder_10 (zb01 _) ⟨rfl, rfl⟩
set_option maxHeartbeats 4000000 in
set_option maxRecDepth 100000 in
theorem c_A_takeIn (l : Launch) (D : va_G) (K : Nat → ClassId) (q : Nat → Nat) (hq : zI q) (a : Nat) (ha : a < 8) (k : Nat) (hk : k < 9) (hne : a ≠ k) (σ : zm) : zMv l y_A_takeIn b_A_takeIn 2 none 3 D K q [.ref (q (za a)), .ref (q (zp k))] σ (fun σ' => ∃ τ, zPk σ τ a k ∧ σ' = zu (zu (zu τ (za a) 2 (σ (za a) 2 &&& σ (zp k) 4)) (za a) 5 0) (za a) 0 1) := by
  refine zMv.of (own := "AppDesk$App") (lv := [(0, .ref (q (za a))), (1, .ref (q (zp k)))]) (by decide) rfl hq (Nat.le_of_ble_eq_true rfl) rfl ?_
  intro p e s m below meth c hC hr hlk
  refine g_aload_n hC d_A_takeIn_0 rfl rfl ?_
  refine g_getR hC _ 2 1 _ (za_lt ha) (zS_a ha) rfl fl_A_12 d_A_takeIn_1 rfl ?_
  refine g_aload_n hC d_A_takeIn_4 rfl rfl ?_
  refine g_gov hC rfl (z_runV hC (c_P_copyFrom l D K q hq _ (Nat.lt_succ_of_lt ha) _ hk hne _) yy_P_copyFrom yv_A_28 (zp_lt (Nat.lt_succ_of_lt ha)) (zS_p (Nat.lt_succ_of_lt ha)) ⟨Nat.le_of_ble_eq_true rfl, Nat.le_of_ble_eq_true rfl⟩ ⟨Nat.zero_le _, Nat.zero_le _⟩ rfl (Nat.le_of_ble_eq_true rfl) d_A_takeIn_5) (fun σ0 q0 => ?_)
  have w0 := q0.1
  refine g_aload_n hC d_A_takeIn_8 rfl rfl ?_
  refine g_dup hC d_A_takeIn_9 rfl rfl ?_
  refine g_getV hC _ 2 2 (σ (za a) 2) (w0 _ _ (by unfold zp za; omega)) (za_lt ha) (zS_a ha) rfl fl_A_32 d_A_takeIn_10 rfl ?_
  refine g_aload_n hC d_A_takeIn_13 rfl rfl ?_
  refine g_getV hC _ 1 4 (σ (zp k) 4) (w0 _ _ (by unfold zp; omega)) (zp_lt hk) (zS_p hk) rfl fl_A_36 d_A_takeIn_14 rfl ?_
  refine g_iand hC d_A_takeIn_17 rfl ?_
  refine g_putI hC _ 2 2 (za_lt ha) (zS_a ha) rfl fp_A_32 d_A_takeIn_18 rfl ?_
  refine g_aload_n hC d_A_takeIn_21 rfl rfl ?_
  refine g_iconst hC (0) d_A_takeIn_22 (by decide) rfl ?_
  refine g_putZ hC _ 2 5 (za_lt ha) (zS_a ha) rfl fp_A_39 (Or.inl rfl) d_A_takeIn_23 rfl ?_
  refine g_aload_n hC d_A_takeIn_26 rfl rfl ?_
  refine g_iconst hC (1) d_A_takeIn_27 (by decide) rfl ?_
  refine g_putZ hC _ 2 0 (za_lt ha) (zS_a ha) rfl fp_A_43 (Or.inr rfl) d_A_takeIn_28 rfl ?_
  exact g_vret hC hr hlk d_A_takeIn_31 ⟨_, q0, rfl⟩
set_option maxHeartbeats 4000000 in
set_option maxRecDepth 100000 in
theorem c_A_clearAway (l : Launch) (D : va_G) (K : Nat → ClassId) (q : Nat → Nat) (hq : zI q) (a : Nat) (ha : a < 8) (σ : zm) : zMv l y_A_clearAway b_A_clearAway 1 none 0 D K q [.ref (q (za a))] σ (fun σ' => σ' = zclr σ a) := by
  refine zMv.of (own := "AppDesk$App") (lv := [(0, .ref (q (za a)))]) (by decide) rfl hq (Nat.le_of_ble_eq_true rfl) rfl ?_
  intro p e s m below meth c hC hr hlk
  refine g_aload_n hC d_A_clearAway_0 rfl rfl ?_
  refine g_iconst hC (0) d_A_clearAway_1 (by decide) rfl ?_
  refine g_putZ hC _ 2 0 (za_lt ha) (zS_a ha) rfl fp_A_43 (Or.inl rfl) d_A_clearAway_2 rfl ?_
  refine g_aload_n hC d_A_clearAway_5 rfl rfl ?_
  refine g_iconst hC (0) d_A_clearAway_6 (by decide) rfl ?_
  refine g_putI hC _ 2 2 (za_lt ha) (zS_a ha) rfl fp_A_32 d_A_clearAway_7 rfl ?_
  refine g_aload_n hC d_A_clearAway_10 rfl rfl ?_
  refine g_iconst hC (0) d_A_clearAway_11 (by decide) rfl ?_
  refine g_putI hC _ 2 3 (za_lt ha) (zS_a ha) rfl fp_A_46 d_A_clearAway_12 rfl ?_
  refine g_aload_n hC d_A_clearAway_15 rfl rfl ?_
  refine g_iconst hC (0) d_A_clearAway_16 (by decide) rfl ?_
  refine g_putZ hC _ 2 5 (za_lt ha) (zS_a ha) rfl fp_A_39 (Or.inl rfl) d_A_clearAway_17 rfl ?_
  exact g_vret hC hr hlk d_A_clearAway_20 rfl
set_option maxHeartbeats 4000000 in
set_option maxRecDepth 100000 in
theorem c_A_begin (l : Launch) (D : va_G) (K : Nat → ClassId) (q : Nat → Nat) (hq : zI q) (a : Nat) (ha : a < 8) (p0 v g : Int32) (σ : zm) : zMv l y_A_begin b_A_begin 4 none 1 D K q [.ref (q (za a)), .int (p0), .int (v), .int (g)] σ (fun σ' => σ' = zrun σ a p0 v g) := by
  refine zMv.of (own := "AppDesk$App") (lv := [(0, .ref (q (za a))), (1, .int (p0)), (2, .int (v)), (3, .int (g))]) (by decide) rfl hq (Nat.le_of_ble_eq_true rfl) rfl ?_
  intro p e s m below meth c hC hr hlk
  refine g_aload_n hC d_A_begin_0 rfl rfl ?_
  refine g_iconst hC (1) d_A_begin_1 (by decide) rfl ?_
  refine g_putZ hC _ 2 5 (za_lt ha) (zS_a ha) rfl fp_A_39 (Or.inr rfl) d_A_begin_2 rfl ?_
  refine g_aload_n hC d_A_begin_5 rfl rfl ?_
  refine g_iload_n hC d_A_begin_6 rfl rfl ?_
  refine g_putI hC _ 2 6 (za_lt ha) (zS_a ha) rfl fp_A_49 d_A_begin_7 rfl ?_
  refine g_aload_n hC d_A_begin_10 rfl rfl ?_
  refine g_iconst hC (0) d_A_begin_11 (by decide) rfl ?_
  refine g_putI hC _ 2 7 (za_lt ha) (zS_a ha) rfl fp_A_52 d_A_begin_12 rfl ?_
  refine g_aload_n hC d_A_begin_15 rfl rfl ?_
  refine g_getR hC _ 2 9 _ (za_lt ha) (zS_a ha) rfl fl_A_25 d_A_begin_16 rfl ?_
  refine g_iconst hC (0) d_A_begin_19 (by decide) rfl ?_
  refine g_gov hC rfl (z_runS hC (c_J_fill l D K q hq _ _ (za_lt' ha 3 (by decide)) (zS_ar ha 3 (by decide)) (by decide) _ _) yy_J_fill ys_A_55 ⟨Nat.le_of_ble_eq_true rfl, Nat.le_of_ble_eq_true rfl⟩ ⟨Nat.zero_le _, Nat.zero_le _⟩ rfl (Nat.le_of_ble_eq_true rfl) d_A_begin_20) (fun σ0 q0 => ?_)
  obtain rfl := q0.symm
  refine g_aload_n hC d_A_begin_23 rfl rfl ?_
  refine g_getR hC _ 2 9 _ (za_lt ha) (zS_a ha) rfl fl_A_25 d_A_begin_24 rfl ?_
  refine g_iconst hC (0) d_A_begin_27 (by decide) rfl ?_
  refine g_iload_n hC d_A_begin_28 rfl rfl ?_
  refine g_iast hC _ _ 0 (za_lt' ha 3 (by decide)) (zS_ar ha 3 (by decide)) (by decide) (by decide) (by decide) d_A_begin_29 rfl ?_
  refine g_aload_n hC d_A_begin_30 rfl rfl ?_
  refine g_getR hC _ 2 9 _ (za_lt ha) (zS_a ha) rfl fl_A_25 d_A_begin_31 rfl ?_
  refine g_iconst hC (1) d_A_begin_34 (by decide) rfl ?_
  refine g_iload_n hC d_A_begin_35 rfl rfl ?_
  refine g_iast hC _ _ 1 (za_lt' ha 3 (by decide)) (zS_ar ha 3 (by decide)) (by decide) (by decide) (by decide) d_A_begin_36 rfl ?_
  exact g_vret hC hr hlk d_A_begin_37 rfl
set_option maxHeartbeats 4000000 in
set_option maxRecDepth 100000 in
theorem c_A_valueUnder (l : Launch) (D : va_G) (K : Nat → ClassId) (q : Nat → Nat) (hq : zI q) (a : Nat) (ha : a < 8) (x : Int32) (σ : zm) : zMi l y_A_valueUnder b_A_valueUnder 2 (some .int) 3 D K q [.ref (q (za a)), .int (x)] σ (fun r σ' => r = zvu σ a x ∧ σ' = σ) := by
  refine zMi.of (own := "AppDesk$App") (lv := [(0, .ref (q (za a))), (1, .int (x))]) (by decide) rfl hq (Nat.le_of_ble_eq_true rfl) rfl ?_
  intro p e s m below meth c hC hr hlk
  refine g_aload_n hC d_A_valueUnder_0 rfl rfl ?_
  refine g_iload_n hC d_A_valueUnder_1 rfl rfl ?_
  refine g_goi hC rfl (z_runV hC (c_A_keepsUnder l D K q hq _ ha _ _ ) yy_A_keepsUnder yv_A_65 (za_lt ha) (zS_a ha) ⟨Nat.le_of_ble_eq_true rfl, Nat.le_of_ble_eq_true rfl⟩ ⟨Nat.zero_le _, Nat.zero_le _⟩ rfl (Nat.le_of_ble_eq_true rfl) d_A_valueUnder_2) (fun r0 σ0 q0 => ?_)
  obtain ⟨rfl, w0⟩ := q0
  obtain rfl := w0.symm
  refine g_ifeq_b hC 17 d_A_valueUnder_5 rfl rfl (fun h5 => ?_) (fun h5 => ?_)
  ·
    refine g_iconst hC (0) d_A_valueUnder_17 (by decide) rfl ?_
    exact g_iret hC hr hlk d_A_valueUnder_18 ⟨by first | (unfold zvu; rw [if_pos h5, hc]) | (unfold zvu; rw [if_neg (zif_f h5)]), rfl⟩
  ·
    obtain ⟨k, hk, hx⟩ := zin_of (n := 8) (by decide) (zhas_in h5)
    have hc : x.toNatClampNeg = k := by rw [hx]; exact nI_clamp (by omega)
    refine g_aload_n hC d_A_valueUnder_8 rfl rfl ?_
    refine g_getR hC _ 2 4 _ (za_lt ha) (zS_a ha) rfl fl_A_18 d_A_valueUnder_9 rfl ?_
    refine g_iload_n hC d_A_valueUnder_12 rfl rfl ?_
    refine g_iald hC _ _ k (za_lt' ha 1 (by decide)) (zS_ar ha 1 (by decide)) hx hk (by decide) d_A_valueUnder_13 rfl ?_
    refine g_goto hC 18 d_A_valueUnder_14 rfl ?_
    exact g_iret hC hr hlk d_A_valueUnder_18 ⟨by first | (unfold zvu; rw [if_pos h5, hc]) | (unfold zvu; rw [if_neg (zif_f h5)]), rfl⟩
set_option maxHeartbeats 4000000 in
set_option maxRecDepth 100000 in
theorem c_A_wordInPlace (l : Launch) (D : va_G) (K : Nat → ClassId) (q : Nat → Nat) (hq : zI q) (a : Nat) (ha : a < 8) (σ : zm) (wn : Nat) (hwn : wn ≤ 24) (h11 : σ (zp a) 11 = nI wn) : zMi l y_A_wordInPlace b_A_wordInPlace 1 (some .int) 1 D K q [.ref (q (za a))] σ (fun r σ' => r = zwip σ a wn ∧ σ' = σ) := by
  refine zMi.of (own := "AppDesk$App") (lv := [(0, .ref (q (za a)))]) (by decide) rfl hq (Nat.le_of_ble_eq_true rfl) rfl ?_
  intro p e s m below meth c hC hr hlk
  refine g_aload_n hC d_A_wordInPlace_0 rfl rfl ?_
  refine g_getI hC _ 2 6 (za_lt ha) (zS_a ha) rfl fl_A_49 d_A_wordInPlace_1 rfl ?_
  refine g_aload_n hC d_A_wordInPlace_4 rfl rfl ?_
  refine g_getR hC _ 2 1 _ (za_lt ha) (zS_a ha) rfl fl_A_12 d_A_wordInPlace_5 rfl ?_
  refine g_getV hC _ 1 11 (nI wn) (h11) (zp_lt (Nat.lt_succ_of_lt ha)) (zS_p (Nat.lt_succ_of_lt ha)) rfl fl_A_69 d_A_wordInPlace_8 rfl ?_
  refine g_goi hC rfl (z_runN hC (c_D_isBelow l D K q hq _ _ _) yy_D_isBelow yn_A_72 ⟨Nat.le_of_ble_eq_true rfl, Nat.le_of_ble_eq_true rfl⟩ ⟨Nat.zero_le _, Nat.zero_le _⟩ rfl (Nat.le_of_ble_eq_true rfl) d_A_wordInPlace_11) (fun r0 σ0 q0 => ?_)
  obtain ⟨rfl, w0⟩ := q0
  obtain rfl := w0.symm
  refine g_ifeq_b hC 32 d_A_wordInPlace_14 rfl rfl (fun h14 => ?_) (fun h14 => ?_)
  ·
    refine g_iconst hC (0) d_A_wordInPlace_32 (by decide) rfl ?_
    exact g_iret hC hr hlk d_A_wordInPlace_33 ⟨by first | (unfold zwip; rw [if_pos h14, hc]) | (unfold zwip; rw [if_neg (zif_f h14)]), rfl⟩
  ·
    obtain ⟨k, hk, hx⟩ := zin_of (n := wn) (by omega) h14
    have hc : (σ (za a) 6).toNatClampNeg = k := by rw [hx]; exact nI_clamp (by omega)
    refine g_aload_n hC d_A_wordInPlace_17 rfl rfl ?_
    refine g_getR hC _ 2 1 _ (za_lt ha) (zS_a ha) rfl fl_A_12 d_A_wordInPlace_18 rfl ?_
    refine g_getR hC _ 1 12 _ (zp_lt (Nat.lt_succ_of_lt ha)) (zS_p (Nat.lt_succ_of_lt ha)) rfl fl_A_76 d_A_wordInPlace_21 rfl ?_
    refine g_aload_n hC d_A_wordInPlace_24 rfl rfl ?_
    refine g_getI hC _ 2 6 (za_lt ha) (zS_a ha) rfl fl_A_49 d_A_wordInPlace_25 rfl ?_
    refine g_iald hC _ _ k (zp_lt' (Nat.lt_succ_of_lt ha) 6 (by decide)) (zS_pr (Nat.lt_succ_of_lt ha) 6 (by decide)) hx (by show k < 24; omega) (by decide) d_A_wordInPlace_28 rfl ?_
    refine g_goto hC 33 d_A_wordInPlace_29 rfl ?_
    exact g_iret hC hr hlk d_A_wordInPlace_33 ⟨by first | (unfold zwip; rw [if_pos h14, hc]) | (unfold zwip; rw [if_neg (zif_f h14)]), rfl⟩
set_option maxHeartbeats 4000000 in
set_option maxRecDepth 100000 in
theorem c_A_uppermost (l : Launch) (D : va_G) (K : Nat → ClassId) (q : Nat → Nat) (hq : zI q) (a : Nat) (ha : a < 8) (σ : zm) : zMi l y_A_uppermost b_A_uppermost 1 (some .int) 1 D K q [.ref (q (za a))] σ (fun r σ' => r = zup σ a ∧ σ' = σ) := by
  refine zMi.of (own := "AppDesk$App") (lv := [(0, .ref (q (za a)))]) (by decide) rfl hq (Nat.le_of_ble_eq_true rfl) rfl ?_
  intro p e s m below meth c hC hr hlk
  refine g_aload_n hC d_A_uppermost_0 rfl rfl ?_
  refine g_getI hC _ 2 7 (za_lt ha) (zS_a ha) rfl fl_A_52 d_A_uppermost_1 rfl ?_
  refine g_iconst hC (1) d_A_uppermost_4 (by decide) rfl ?_
  refine g_isub hC d_A_uppermost_5 rfl ?_
  refine g_bipush hC (6) d_A_uppermost_6 (by decide) rfl ?_
  refine g_goi hC rfl (z_runN hC (c_D_isBelow l D K q hq _ _ _) yy_D_isBelow yn_A_72 ⟨Nat.le_of_ble_eq_true rfl, Nat.le_of_ble_eq_true rfl⟩ ⟨Nat.zero_le _, Nat.zero_le _⟩ rfl (Nat.le_of_ble_eq_true rfl) d_A_uppermost_8) (fun r0 σ0 q0 => ?_)
  obtain ⟨rfl, w0⟩ := q0
  obtain rfl := w0.symm
  refine g_ifeq_b hC 28 d_A_uppermost_11 rfl rfl (fun h11 => ?_) (fun h11 => ?_)
  ·
    refine g_iconst hC (0) d_A_uppermost_28 (by decide) rfl ?_
    exact g_iret hC hr hlk d_A_uppermost_29 ⟨by first | (unfold zup; rw [if_pos h11, hc]) | (unfold zup; rw [if_neg (zif_f h11)]), rfl⟩
  ·
    obtain ⟨k, hk, hx⟩ := zin_of (n := 6) (by decide) h11
    have hc : (σ (za a) 7 - 1).toNatClampNeg = k := by rw [hx]; exact nI_clamp (by omega)
    refine g_aload_n hC d_A_uppermost_14 rfl rfl ?_
    refine g_getR hC _ 2 8 _ (za_lt ha) (zS_a ha) rfl fl_A_22 d_A_uppermost_15 rfl ?_
    refine g_aload_n hC d_A_uppermost_18 rfl rfl ?_
    refine g_getI hC _ 2 7 (za_lt ha) (zS_a ha) rfl fl_A_52 d_A_uppermost_19 rfl ?_
    refine g_iconst hC (1) d_A_uppermost_22 (by decide) rfl ?_
    refine g_isub hC d_A_uppermost_23 rfl ?_
    refine g_iald hC _ _ k (za_lt' ha 2 (by decide)) (zS_ar ha 2 (by decide)) hx hk (by decide) d_A_uppermost_24 rfl ?_
    refine g_goto hC 29 d_A_uppermost_25 rfl ?_
    exact g_iret hC hr hlk d_A_uppermost_29 ⟨by first | (unfold zup; rw [if_pos h11, hc]) | (unfold zup; rw [if_neg (zif_f h11)]), rfl⟩
set_option maxHeartbeats 4000000 in
set_option maxRecDepth 100000 in
theorem c_A_secondUppermost (l : Launch) (D : va_G) (K : Nat → ClassId) (q : Nat → Nat) (hq : zI q) (a : Nat) (ha : a < 8) (σ : zm) : zMi l y_A_secondUppermost b_A_secondUppermost 1 (some .int) 1 D K q [.ref (q (za a))] σ (fun r σ' => r = zup2 σ a ∧ σ' = σ) := by
  refine zMi.of (own := "AppDesk$App") (lv := [(0, .ref (q (za a)))]) (by decide) rfl hq (Nat.le_of_ble_eq_true rfl) rfl ?_
  intro p e s m below meth c hC hr hlk
  refine g_aload_n hC d_A_secondUppermost_0 rfl rfl ?_
  refine g_getI hC _ 2 7 (za_lt ha) (zS_a ha) rfl fl_A_52 d_A_secondUppermost_1 rfl ?_
  refine g_iconst hC (2) d_A_secondUppermost_4 (by decide) rfl ?_
  refine g_isub hC d_A_secondUppermost_5 rfl ?_
  refine g_bipush hC (6) d_A_secondUppermost_6 (by decide) rfl ?_
  refine g_goi hC rfl (z_runN hC (c_D_isBelow l D K q hq _ _ _) yy_D_isBelow yn_A_72 ⟨Nat.le_of_ble_eq_true rfl, Nat.le_of_ble_eq_true rfl⟩ ⟨Nat.zero_le _, Nat.zero_le _⟩ rfl (Nat.le_of_ble_eq_true rfl) d_A_secondUppermost_8) (fun r0 σ0 q0 => ?_)
  obtain ⟨rfl, w0⟩ := q0
  obtain rfl := w0.symm
  refine g_ifeq_b hC 28 d_A_secondUppermost_11 rfl rfl (fun h11 => ?_) (fun h11 => ?_)
  ·
    refine g_iconst hC (0) d_A_secondUppermost_28 (by decide) rfl ?_
    exact g_iret hC hr hlk d_A_secondUppermost_29 ⟨by first | (unfold zup2; rw [if_pos h11, hc]) | (unfold zup2; rw [if_neg (zif_f h11)]), rfl⟩
  ·
    obtain ⟨k, hk, hx⟩ := zin_of (n := 6) (by decide) h11
    have hc : (σ (za a) 7 - 2).toNatClampNeg = k := by rw [hx]; exact nI_clamp (by omega)
    refine g_aload_n hC d_A_secondUppermost_14 rfl rfl ?_
    refine g_getR hC _ 2 8 _ (za_lt ha) (zS_a ha) rfl fl_A_22 d_A_secondUppermost_15 rfl ?_
    refine g_aload_n hC d_A_secondUppermost_18 rfl rfl ?_
    refine g_getI hC _ 2 7 (za_lt ha) (zS_a ha) rfl fl_A_52 d_A_secondUppermost_19 rfl ?_
    refine g_iconst hC (2) d_A_secondUppermost_22 (by decide) rfl ?_
    refine g_isub hC d_A_secondUppermost_23 rfl ?_
    refine g_iald hC _ _ k (za_lt' ha 2 (by decide)) (zS_ar ha 2 (by decide)) hx hk (by decide) d_A_secondUppermost_24 rfl ?_
    refine g_goto hC 29 d_A_secondUppermost_25 rfl ?_
    exact g_iret hC hr hlk d_A_secondUppermost_29 ⟨by first | (unfold zup2; rw [if_pos h11, hc]) | (unfold zup2; rw [if_neg (zif_f h11)]), rfl⟩
set_option maxHeartbeats 4000000 in
set_option maxRecDepth 100000 in
theorem c_A_push (l : Launch) (D : va_G) (K : Nat → ClassId) (q : Nat → Nat) (hq : zI q) (a : Nat) (ha : a < 8) (v : Int32) (σ : zm) : zMv l y_A_push b_A_push 2 none 1 D K q [.ref (q (za a)), .int (v)] σ (fun σ' => σ' = zpsh σ a v) := by
  refine zMv.of (own := "AppDesk$App") (lv := [(0, .ref (q (za a))), (1, .int (v))]) (by decide) rfl hq (Nat.le_of_ble_eq_true rfl) rfl ?_
  intro p e s m below meth c hC hr hlk
  refine g_aload_n hC d_A_push_0 rfl rfl ?_
  refine g_getI hC _ 2 7 (za_lt ha) (zS_a ha) rfl fl_A_52 d_A_push_1 rfl ?_
  refine g_bipush hC (6) d_A_push_4 (by decide) rfl ?_
  refine g_goi hC rfl (z_runN hC (c_D_isBelow l D K q hq _ _ _) yy_D_isBelow yn_A_72 ⟨Nat.le_of_ble_eq_true rfl, Nat.le_of_ble_eq_true rfl⟩ ⟨Nat.zero_le _, Nat.zero_le _⟩ rfl (Nat.le_of_ble_eq_true rfl) d_A_push_6) (fun r0 σ0 q0 => ?_)
  obtain ⟨rfl, w0⟩ := q0
  obtain rfl := w0.symm
  refine g_ifeq_b hC 32 d_A_push_9 rfl rfl (fun h9 => ?_) (fun h9 => ?_)
  ·
    exact g_vret hC hr hlk d_A_push_32 (by first | (unfold zpsh; rw [if_pos h9, hc]) | (unfold zpsh; rw [if_neg (zif_f h9)]))
  ·
    obtain ⟨k, hk, hx⟩ := zin_of (n := 6) (by decide) h9
    have hc : (σ (za a) 7).toNatClampNeg = k := by rw [hx]; exact nI_clamp (by omega)
    refine g_aload_n hC d_A_push_12 rfl rfl ?_
    refine g_getR hC _ 2 8 _ (za_lt ha) (zS_a ha) rfl fl_A_22 d_A_push_13 rfl ?_
    refine g_aload_n hC d_A_push_16 rfl rfl ?_
    refine g_getI hC _ 2 7 (za_lt ha) (zS_a ha) rfl fl_A_52 d_A_push_17 rfl ?_
    refine g_iload_n hC d_A_push_20 rfl rfl ?_
    refine g_iast hC _ _ k (za_lt' ha 2 (by decide)) (zS_ar ha 2 (by decide)) hx hk (by decide) d_A_push_21 rfl ?_
    refine g_aload_n hC d_A_push_22 rfl rfl ?_
    refine g_dup hC d_A_push_23 rfl rfl ?_
    refine g_getV hC _ 2 7 (σ (za a) 7) (zu_ne _ _ (Or.inl (by omega))) (za_lt ha) (zS_a ha) rfl fl_A_52 d_A_push_24 rfl ?_
    refine g_iconst hC (1) d_A_push_27 (by decide) rfl ?_
    refine g_iadd hC d_A_push_28 rfl ?_
    refine g_putI hC _ 2 7 (za_lt ha) (zS_a ha) rfl fp_A_52 d_A_push_29 rfl ?_
    exact g_vret hC hr hlk d_A_push_32 (by first | (unfold zpsh; rw [if_pos h9, hc]) | (unfold zpsh; rw [if_neg (zif_f h9)]))
set_option maxHeartbeats 4000000 in
set_option maxRecDepth 100000 in
theorem c_A_pop (l : Launch) (D : va_G) (K : Nat → ClassId) (q : Nat → Nat) (hq : zI q) (a : Nat) (ha : a < 8) (σ : zm) : zMi l y_A_pop b_A_pop 2 (some .int) 2 D K q [.ref (q (za a))] σ (fun r σ' => r = zup σ a ∧ σ' = zpop σ a) := by
  refine zMi.of (own := "AppDesk$App") (lv := [(0, .ref (q (za a)))]) (by decide) rfl hq (Nat.le_of_ble_eq_true rfl) rfl ?_
  intro p e s m below meth c hC hr hlk
  refine g_aload_n hC d_A_pop_0 rfl rfl ?_
  refine g_goi hC rfl (z_runV hC (c_A_uppermost l D K q hq _ ha _ ) yy_A_uppermost yv_A_79 (za_lt ha) (zS_a ha) ⟨Nat.le_of_ble_eq_true rfl, Nat.le_of_ble_eq_true rfl⟩ ⟨Nat.zero_le _, Nat.zero_le _⟩ rfl (Nat.le_of_ble_eq_true rfl) d_A_pop_1) (fun r0 σ0 q0 => ?_)
  obtain ⟨rfl, w0⟩ := q0
  obtain rfl := w0.symm
  refine g_istore_n hC d_A_pop_4 rfl (by decide) ?_
  refine g_aload_n hC d_A_pop_5 rfl rfl ?_
  refine g_aload_n hC d_A_pop_6 rfl rfl ?_
  refine g_getI hC _ 2 7 (za_lt ha) (zS_a ha) rfl fl_A_52 d_A_pop_7 rfl ?_
  refine g_iconst hC (1) d_A_pop_10 (by decide) rfl ?_
  refine g_isub hC d_A_pop_11 rfl ?_
  refine g_iconst hC (0) d_A_pop_12 (by decide) rfl ?_
  refine g_max hC km_A_83 d_A_pop_13 rfl ⟨Nat.le_of_ble_eq_true rfl, Nat.le_of_ble_eq_true rfl, Nat.zero_le _, Nat.zero_le _⟩ (Nat.le_of_ble_eq_true rfl) ?_
  refine g_putI hC _ 2 7 (za_lt ha) (zS_a ha) rfl fp_A_52 d_A_pop_16 rfl ?_
  refine g_iload_n hC d_A_pop_19 rfl rfl ?_
  exact g_iret hC hr hlk d_A_pop_20 ⟨rfl, rfl⟩
set_option maxHeartbeats 4000000 in
set_option maxRecDepth 100000 in
theorem c_A_doTurn (l : Launch) (D : va_G) (K : Nat → ClassId) (q : Nat → Nat) (hq : zI q) (a : Nat) (ha : a < 8) (op n : Int32) (σ : zm) : zMv l y_A_doTurn b_A_doTurn 4 none 3 D K q [.ref (q (za a)), .int (op), .int (n)] σ (fun σ' => σ' = zturn σ a op n) := by
  refine zMv.of (own := "AppDesk$App") (lv := [(0, .ref (q (za a))), (1, .int (op)), (2, .int (n))]) (by decide) rfl hq (Nat.le_of_ble_eq_true rfl) rfl ?_
  intro p e s m below meth c hC hr hlk
  refine g_iload_n hC d_A_doTurn_0 rfl rfl ?_
  refine g_if_ne hC 10 d_A_doTurn_1 rfl rfl (fun h1 => ?_) (fun h1 => ?_)
  ·
    refine g_iload_n hC d_A_doTurn_10 rfl rfl ?_
    refine g_bipush hC (8) d_A_doTurn_11 (by decide) rfl ?_
    refine g_icmp_eq hC 23 d_A_doTurn_13 rfl rfl (fun h13 => ?_) (fun h13 => ?_)
    ·
      refine g_iconst hC (1) d_A_doTurn_23 (by decide) rfl ?_
      refine g_goto hC 28 d_A_doTurn_24 rfl ?_
      refine g_istore_n hC d_A_doTurn_28 rfl (by decide) ?_
      refine g_aload_n hC d_A_doTurn_29 rfl rfl ?_
      refine g_dup hC d_A_doTurn_30 rfl rfl ?_
      refine g_getI hC _ 2 6 (za_lt ha) (zS_a ha) rfl fl_A_49 d_A_doTurn_31 rfl ?_
      refine g_iload_n hC d_A_doTurn_34 rfl rfl ?_
      refine g_if_eq hC 42 d_A_doTurn_35 rfl rfl (fun h35 => absurd h35 (by decide)) (fun h35 => ?_)
      refine g_iload_n hC d_A_doTurn_38 rfl rfl ?_
      refine g_goto hC 43 d_A_doTurn_39 rfl ?_
      refine g_iadd hC d_A_doTurn_43 rfl ?_
      refine g_putI hC _ 2 6 (za_lt ha) (zS_a ha) rfl fp_A_49 d_A_doTurn_44 rfl ?_
      exact g_vret hC hr hlk d_A_doTurn_47 (by first | (unfold zturn; rw [if_pos h1]; done) | (unfold zturn; rw [if_neg h1, if_pos h13]; done) | (unfold zturn; rw [if_neg h1, if_neg h13, if_pos h20, zpop_6]; done) | (unfold zturn; rw [if_neg h1, if_neg h13, if_neg h20, zpop_6]; done))
    ·
      refine g_aload_n hC d_A_doTurn_16 rfl rfl ?_
      refine g_goi hC rfl (z_runV hC (c_A_pop l D K q hq _ ha _ ) yy_A_pop yv_A_89 (za_lt ha) (zS_a ha) ⟨Nat.le_of_ble_eq_true rfl, Nat.le_of_ble_eq_true rfl⟩ ⟨Nat.zero_le _, Nat.zero_le _⟩ rfl (Nat.le_of_ble_eq_true rfl) d_A_doTurn_17) (fun r0 σ0 q0 => ?_)
      obtain ⟨rfl, w0⟩ := q0
      obtain rfl := w0.symm
      refine g_if_ne hC 27 d_A_doTurn_20 rfl rfl (fun h20 => ?_) (fun h20 => ?_)
      ·
        refine g_iconst hC (0) d_A_doTurn_27 (by decide) rfl ?_
        refine g_istore_n hC d_A_doTurn_28 rfl (by decide) ?_
        refine g_aload_n hC d_A_doTurn_29 rfl rfl ?_
        refine g_dup hC d_A_doTurn_30 rfl rfl ?_
        refine g_getI hC _ 2 6 (za_lt ha) (zS_a ha) rfl fl_A_49 d_A_doTurn_31 rfl ?_
        refine g_iload_n hC d_A_doTurn_34 rfl rfl ?_
        refine g_if_eq hC 42 d_A_doTurn_35 rfl rfl (fun h35 => ?_) (fun h35 => absurd (by decide) h35)
        refine g_iconst hC (1) d_A_doTurn_42 (by decide) rfl ?_
        refine g_iadd hC d_A_doTurn_43 rfl ?_
        refine g_putI hC _ 2 6 (za_lt ha) (zS_a ha) rfl fp_A_49 d_A_doTurn_44 rfl ?_
        exact g_vret hC hr hlk d_A_doTurn_47 (by first | (unfold zturn; rw [if_pos h1]; done) | (unfold zturn; rw [if_neg h1, if_pos h13]; done) | (unfold zturn; rw [if_neg h1, if_neg h13, if_pos h20, zpop_6]; done) | (unfold zturn; rw [if_neg h1, if_neg h13, if_neg h20, zpop_6]; done))
      ·
        refine g_iconst hC (1) d_A_doTurn_23 (by decide) rfl ?_
        refine g_goto hC 28 d_A_doTurn_24 rfl ?_
        refine g_istore_n hC d_A_doTurn_28 rfl (by decide) ?_
        refine g_aload_n hC d_A_doTurn_29 rfl rfl ?_
        refine g_dup hC d_A_doTurn_30 rfl rfl ?_
        refine g_getI hC _ 2 6 (za_lt ha) (zS_a ha) rfl fl_A_49 d_A_doTurn_31 rfl ?_
        refine g_iload_n hC d_A_doTurn_34 rfl rfl ?_
        refine g_if_eq hC 42 d_A_doTurn_35 rfl rfl (fun h35 => absurd h35 (by decide)) (fun h35 => ?_)
        refine g_iload_n hC d_A_doTurn_38 rfl rfl ?_
        refine g_goto hC 43 d_A_doTurn_39 rfl ?_
        refine g_iadd hC d_A_doTurn_43 rfl ?_
        refine g_putI hC _ 2 6 (za_lt ha) (zS_a ha) rfl fp_A_49 d_A_doTurn_44 rfl ?_
        exact g_vret hC hr hlk d_A_doTurn_47 (by first | (unfold zturn; rw [if_pos h1]; done) | (unfold zturn; rw [if_neg h1, if_pos h13]; done) | (unfold zturn; rw [if_neg h1, if_neg h13, if_pos h20, zpop_6]; done) | (unfold zturn; rw [if_neg h1, if_neg h13, if_neg h20, zpop_6]; done))
  ·
    refine g_aload_n hC d_A_doTurn_4 rfl rfl ?_
    refine g_iconst hC (0) d_A_doTurn_5 (by decide) rfl ?_
    refine g_putZ hC _ 2 5 (za_lt ha) (zS_a ha) rfl fp_A_39 (Or.inl rfl) d_A_doTurn_6 rfl ?_
    exact g_vret hC hr hlk d_A_doTurn_9 (by first | (unfold zturn; rw [if_pos h1]; done) | (unfold zturn; rw [if_neg h1, if_pos h13]; done) | (unfold zturn; rw [if_neg h1, if_neg h13, if_pos h20, zpop_6]; done) | (unfold zturn; rw [if_neg h1, if_neg h13, if_neg h20, zpop_6]; done))
set_option maxHeartbeats 4000000 in
set_option maxRecDepth 100000 in
theorem c_A_storeInto (l : Launch) (D : va_G) (K : Nat → ClassId) (q : Nat → Nat) (hq : zI q) (a : Nat) (ha : a < 8) (n v : Int32) (σ : zm) : zMv l y_A_storeInto b_A_storeInto 3 none 1 D K q [.ref (q (za a)), .int (n), .int (v)] σ (fun σ' => σ' = zsto σ a n v) := by
  refine zMv.of (own := "AppDesk$App") (lv := [(0, .ref (q (za a))), (1, .int (n)), (2, .int (v))]) (by decide) rfl hq (Nat.le_of_ble_eq_true rfl) rfl ?_
  intro p e s m below meth c hC hr hlk
  refine g_iload_n hC d_A_storeInto_0 rfl rfl ?_
  refine g_iconst hC (4) d_A_storeInto_1 (by decide) rfl ?_
  refine g_goi hC rfl (z_runN hC (c_D_isBelow l D K q hq _ _ _) yy_D_isBelow yn_A_72 ⟨Nat.le_of_ble_eq_true rfl, Nat.le_of_ble_eq_true rfl⟩ ⟨Nat.zero_le _, Nat.zero_le _⟩ rfl (Nat.le_of_ble_eq_true rfl) d_A_storeInto_2) (fun r0 σ0 q0 => ?_)
  obtain ⟨rfl, w0⟩ := q0
  obtain rfl := w0.symm
  refine g_ifeq_b hC 15 d_A_storeInto_5 rfl rfl (fun h5 => ?_) (fun h5 => ?_)
  ·
    exact g_vret hC hr hlk d_A_storeInto_15 (by first | (unfold zsto; rw [if_pos h5, hc]) | (unfold zsto; rw [if_neg (zif_f h5)]))
  ·
    obtain ⟨k, hk, hx⟩ := zin_of (n := 4) (by decide) h5
    have hc : n.toNatClampNeg = k := by rw [hx]; exact nI_clamp (by omega)
    refine g_aload_n hC d_A_storeInto_8 rfl rfl ?_
    refine g_getR hC _ 2 9 _ (za_lt ha) (zS_a ha) rfl fl_A_25 d_A_storeInto_9 rfl ?_
    refine g_iload_n hC d_A_storeInto_12 rfl rfl ?_
    refine g_iload_n hC d_A_storeInto_13 rfl rfl ?_
    refine g_iast hC _ _ k (za_lt' ha 3 (by decide)) (zS_ar ha 3 (by decide)) hx hk (by decide) d_A_storeInto_14 rfl ?_
    exact g_vret hC hr hlk d_A_storeInto_15 (by first | (unfold zsto; rw [if_pos h5, hc]) | (unfold zsto; rw [if_neg (zif_f h5)]))
set_option maxHeartbeats 4000000 in
set_option maxRecDepth 100000 in
theorem c_A_doPlainWord (l : Launch) (D : va_G) (K : Nat → ClassId) (q : Nat → Nat) (hq : zI q) (a : Nat) (ha : a < 8) (op n : Int32) (σ : zm) : zMv l y_A_doPlainWord b_A_doPlainWord 4 none 3 D K q [.ref (q (za a)), .int (op), .int (n)] σ (fun σ' => σ' = zu (zpl σ a op n) (za a) 6 (zpl σ a op n (za a) 6 + 1)) := by
  refine zMv.of (own := "AppDesk$App") (lv := [(0, .ref (q (za a))), (1, .int (op)), (2, .int (n))]) (by decide) rfl hq (Nat.le_of_ble_eq_true rfl) rfl ?_
  intro p e s m below meth c hC hr hlk
  have J142 : ∀ (τ : zm) (hτ : zpl σ a op n = τ), zG p l e (zrm 3) s m ([.ref (q (za a)), .int (op), .int (n)] : List Value).toArray below meth c D K q (zA q) 4 0 0 (MQ below (va_Qv (fun σ' => σ' = zu (zpl σ a op n) (za a) 6 (zpl σ a op n (za a) 6 + 1)) (zO D K q) (zA q)) ([.ref (q (za a)), .int (op), .int (n)] : List Value).toArray s 0 0 (zA q)) τ 142 [(0, .ref (q (za a)))] [] := by
    intro τ hτ
    refine g_aload_n hC d_A_doPlainWord_142 rfl rfl ?_
    refine g_dup hC d_A_doPlainWord_143 rfl rfl ?_
    refine g_getI hC _ 2 6 (za_lt ha) (zS_a ha) rfl fl_A_49 d_A_doPlainWord_144 rfl ?_
    refine g_iconst hC (1) d_A_doPlainWord_147 (by decide) rfl ?_
    refine g_iadd hC d_A_doPlainWord_148 rfl ?_
    refine g_putI hC _ 2 6 (za_lt ha) (zS_a ha) rfl fp_A_49 d_A_doPlainWord_149 rfl ?_
    exact g_vret hC hr hlk d_A_doPlainWord_152 (by rw [hτ])
  refine g_iload_n hC d_A_doPlainWord_0 rfl rfl ?_
  by_cases t1_1 : op = 1
  ·
    refine g_tableIn hC 44 d_A_doPlainWord_1 (by rw [t1_1]; decide) (by rw [t1_1]; decide) (by rw [t1_1]; rfl) rfl ?_
    refine g_aload_n hC d_A_doPlainWord_44 rfl rfl ?_
    refine g_iload_n hC d_A_doPlainWord_45 rfl rfl ?_
    refine g_gov hC rfl (z_runV hC (c_A_push l D K q hq _ ha _ _ ) yy_A_push yv_A_92 (za_lt ha) (zS_a ha) ⟨Nat.le_of_ble_eq_true rfl, Nat.le_of_ble_eq_true rfl⟩ ⟨Nat.zero_le _, Nat.zero_le _⟩ rfl (Nat.le_of_ble_eq_true rfl) d_A_doPlainWord_46) (fun σ0 q0 => ?_)
    obtain rfl := q0.symm
    refine g_goto hC 142 d_A_doPlainWord_49 rfl ?_
    exact zG.to (J142 _ (by first | (rw [t1_1]; rfl) | (rw [t1_2]; rfl) | (rw [t1_3]; rfl) | (rw [t1_4]; rfl) | (rw [t1_5]; rfl) | (rw [t1_6, zpl_6, if_pos h111, hc]) | (rw [t1_6, zpl_6, if_neg (zif_f h111)]) | (rw [t1_7]; rfl) | (unfold zpl; rw [if_neg t1_1, if_neg t1_2, if_neg t1_3, if_neg t1_4, if_neg t1_5, if_neg t1_6, if_neg t1_7]))) rfl rfl ⟨rfl, trivial⟩
  by_cases t1_2 : op = 2
  ·
    refine g_tableIn hC 52 d_A_doPlainWord_1 (by rw [t1_2]; decide) (by rw [t1_2]; decide) (by rw [t1_2]; rfl) rfl ?_
    refine g_aload_n hC d_A_doPlainWord_52 rfl rfl ?_
    refine g_aload_n hC d_A_doPlainWord_53 rfl rfl ?_
    refine g_goi hC rfl (z_runV hC (c_A_pop l D K q hq _ ha _ ) yy_A_pop yv_A_89 (za_lt ha) (zS_a ha) ⟨Nat.le_of_ble_eq_true rfl, Nat.le_of_ble_eq_true rfl⟩ ⟨Nat.zero_le _, Nat.zero_le _⟩ rfl (Nat.le_of_ble_eq_true rfl) d_A_doPlainWord_54) (fun r1 σ1 q1 => ?_)
    obtain ⟨rfl, w1⟩ := q1
    obtain rfl := w1.symm
    refine g_aload_n hC d_A_doPlainWord_57 rfl rfl ?_
    refine g_goi hC rfl (z_runV hC (c_A_pop l D K q hq _ ha _ ) yy_A_pop yv_A_89 (za_lt ha) (zS_a ha) ⟨Nat.le_of_ble_eq_true rfl, Nat.le_of_ble_eq_true rfl⟩ ⟨Nat.zero_le _, Nat.zero_le _⟩ rfl (Nat.le_of_ble_eq_true rfl) d_A_doPlainWord_58) (fun r2 σ2 q2 => ?_)
    obtain ⟨rfl, w2⟩ := q2
    obtain rfl := w2.symm
    refine g_iadd hC d_A_doPlainWord_61 rfl ?_
    refine g_gov hC rfl (z_runV hC (c_A_push l D K q hq _ ha _ _ ) yy_A_push yv_A_92 (za_lt ha) (zS_a ha) ⟨Nat.le_of_ble_eq_true rfl, Nat.le_of_ble_eq_true rfl⟩ ⟨Nat.zero_le _, Nat.zero_le _⟩ rfl (Nat.le_of_ble_eq_true rfl) d_A_doPlainWord_62) (fun σ3 q3 => ?_)
    obtain rfl := q3.symm
    refine g_goto hC 142 d_A_doPlainWord_65 rfl ?_
    exact zG.to (J142 _ (by first | (rw [t1_1]; rfl) | (rw [t1_2]; rfl) | (rw [t1_3]; rfl) | (rw [t1_4]; rfl) | (rw [t1_5]; rfl) | (rw [t1_6, zpl_6, if_pos h111, hc]) | (rw [t1_6, zpl_6, if_neg (zif_f h111)]) | (rw [t1_7]; rfl) | (unfold zpl; rw [if_neg t1_1, if_neg t1_2, if_neg t1_3, if_neg t1_4, if_neg t1_5, if_neg t1_6, if_neg t1_7]))) rfl rfl ⟨rfl, trivial⟩
  by_cases t1_3 : op = 3
  ·
    refine g_tableIn hC 68 d_A_doPlainWord_1 (by rw [t1_3]; decide) (by rw [t1_3]; decide) (by rw [t1_3]; rfl) rfl ?_
    refine g_aload_n hC d_A_doPlainWord_68 rfl rfl ?_
    refine g_goi hC rfl (z_runV hC (c_A_pop l D K q hq _ ha _ ) yy_A_pop yv_A_89 (za_lt ha) (zS_a ha) ⟨Nat.le_of_ble_eq_true rfl, Nat.le_of_ble_eq_true rfl⟩ ⟨Nat.zero_le _, Nat.zero_le _⟩ rfl (Nat.le_of_ble_eq_true rfl) d_A_doPlainWord_69) (fun r4 σ4 q4 => ?_)
    obtain ⟨rfl, w4⟩ := q4
    obtain rfl := w4.symm
    refine g_istore_n hC d_A_doPlainWord_72 rfl (by decide) ?_
    refine g_aload_n hC d_A_doPlainWord_73 rfl rfl ?_
    refine g_aload_n hC d_A_doPlainWord_74 rfl rfl ?_
    refine g_goi hC rfl (z_runV hC (c_A_pop l D K q hq _ ha _ ) yy_A_pop yv_A_89 (za_lt ha) (zS_a ha) ⟨Nat.le_of_ble_eq_true rfl, Nat.le_of_ble_eq_true rfl⟩ ⟨Nat.zero_le _, Nat.zero_le _⟩ rfl (Nat.le_of_ble_eq_true rfl) d_A_doPlainWord_75) (fun r5 σ5 q5 => ?_)
    obtain ⟨rfl, w5⟩ := q5
    obtain rfl := w5.symm
    refine g_iload_n hC d_A_doPlainWord_78 rfl rfl ?_
    refine g_isub hC d_A_doPlainWord_79 rfl ?_
    refine g_gov hC rfl (z_runV hC (c_A_push l D K q hq _ ha _ _ ) yy_A_push yv_A_92 (za_lt ha) (zS_a ha) ⟨Nat.le_of_ble_eq_true rfl, Nat.le_of_ble_eq_true rfl⟩ ⟨Nat.zero_le _, Nat.zero_le _⟩ rfl (Nat.le_of_ble_eq_true rfl) d_A_doPlainWord_80) (fun σ6 q6 => ?_)
    obtain rfl := q6.symm
    refine g_goto hC 142 d_A_doPlainWord_83 rfl ?_
    exact zG.to (J142 _ (by first | (rw [t1_1]; rfl) | (rw [t1_2]; rfl) | (rw [t1_3]; rfl) | (rw [t1_4]; rfl) | (rw [t1_5]; rfl) | (rw [t1_6, zpl_6, if_pos h111, hc]) | (rw [t1_6, zpl_6, if_neg (zif_f h111)]) | (rw [t1_7]; rfl) | (unfold zpl; rw [if_neg t1_1, if_neg t1_2, if_neg t1_3, if_neg t1_4, if_neg t1_5, if_neg t1_6, if_neg t1_7]))) rfl rfl ⟨rfl, trivial⟩
  by_cases t1_4 : op = 4
  ·
    refine g_tableIn hC 86 d_A_doPlainWord_1 (by rw [t1_4]; decide) (by rw [t1_4]; decide) (by rw [t1_4]; rfl) rfl ?_
    refine g_aload_n hC d_A_doPlainWord_86 rfl rfl ?_
    refine g_aload_n hC d_A_doPlainWord_87 rfl rfl ?_
    refine g_goi hC rfl (z_runV hC (c_A_uppermost l D K q hq _ ha _ ) yy_A_uppermost yv_A_79 (za_lt ha) (zS_a ha) ⟨Nat.le_of_ble_eq_true rfl, Nat.le_of_ble_eq_true rfl⟩ ⟨Nat.zero_le _, Nat.zero_le _⟩ rfl (Nat.le_of_ble_eq_true rfl) d_A_doPlainWord_88) (fun r7 σ7 q7 => ?_)
    obtain ⟨rfl, w7⟩ := q7
    obtain rfl := w7.symm
    refine g_gov hC rfl (z_runV hC (c_A_push l D K q hq _ ha _ _ ) yy_A_push yv_A_92 (za_lt ha) (zS_a ha) ⟨Nat.le_of_ble_eq_true rfl, Nat.le_of_ble_eq_true rfl⟩ ⟨Nat.zero_le _, Nat.zero_le _⟩ rfl (Nat.le_of_ble_eq_true rfl) d_A_doPlainWord_91) (fun σ8 q8 => ?_)
    obtain rfl := q8.symm
    refine g_goto hC 142 d_A_doPlainWord_94 rfl ?_
    exact zG.to (J142 _ (by first | (rw [t1_1]; rfl) | (rw [t1_2]; rfl) | (rw [t1_3]; rfl) | (rw [t1_4]; rfl) | (rw [t1_5]; rfl) | (rw [t1_6, zpl_6, if_pos h111, hc]) | (rw [t1_6, zpl_6, if_neg (zif_f h111)]) | (rw [t1_7]; rfl) | (unfold zpl; rw [if_neg t1_1, if_neg t1_2, if_neg t1_3, if_neg t1_4, if_neg t1_5, if_neg t1_6, if_neg t1_7]))) rfl rfl ⟨rfl, trivial⟩
  by_cases t1_5 : op = 5
  ·
    refine g_tableIn hC 97 d_A_doPlainWord_1 (by rw [t1_5]; decide) (by rw [t1_5]; decide) (by rw [t1_5]; rfl) rfl ?_
    refine g_aload_n hC d_A_doPlainWord_97 rfl rfl ?_
    refine g_goi hC rfl (z_runV hC (c_A_pop l D K q hq _ ha _ ) yy_A_pop yv_A_89 (za_lt ha) (zS_a ha) ⟨Nat.le_of_ble_eq_true rfl, Nat.le_of_ble_eq_true rfl⟩ ⟨Nat.zero_le _, Nat.zero_le _⟩ rfl (Nat.le_of_ble_eq_true rfl) d_A_doPlainWord_98) (fun r9 σ9 q9 => ?_)
    obtain ⟨rfl, w9⟩ := q9
    obtain rfl := w9.symm
    refine g_pop hC d_A_doPlainWord_101 rfl rfl ?_
    refine g_goto hC 142 d_A_doPlainWord_102 rfl ?_
    exact zG.to (J142 _ (by first | (rw [t1_1]; rfl) | (rw [t1_2]; rfl) | (rw [t1_3]; rfl) | (rw [t1_4]; rfl) | (rw [t1_5]; rfl) | (rw [t1_6, zpl_6, if_pos h111, hc]) | (rw [t1_6, zpl_6, if_neg (zif_f h111)]) | (rw [t1_7]; rfl) | (unfold zpl; rw [if_neg t1_1, if_neg t1_2, if_neg t1_3, if_neg t1_4, if_neg t1_5, if_neg t1_6, if_neg t1_7]))) rfl rfl ⟨rfl, trivial⟩
  by_cases t1_6 : op = 6
  ·
    refine g_tableIn hC 105 d_A_doPlainWord_1 (by rw [t1_6]; decide) (by rw [t1_6]; decide) (by rw [t1_6]; rfl) rfl ?_
    refine g_aload_n hC d_A_doPlainWord_105 rfl rfl ?_
    refine g_iload_n hC d_A_doPlainWord_106 rfl rfl ?_
    refine g_iconst hC (4) d_A_doPlainWord_107 (by decide) rfl ?_
    refine g_goi hC rfl (z_runN hC (c_D_isBelow l D K q hq _ _ _) yy_D_isBelow yn_A_72 ⟨Nat.le_of_ble_eq_true rfl, Nat.le_of_ble_eq_true rfl⟩ ⟨Nat.zero_le _, Nat.zero_le _⟩ rfl (Nat.le_of_ble_eq_true rfl) d_A_doPlainWord_108) (fun r10 σ10 q10 => ?_)
    obtain ⟨rfl, w10⟩ := q10
    obtain rfl := w10.symm
    refine g_ifeq_b hC 123 d_A_doPlainWord_111 rfl rfl (fun h111 => ?_) (fun h111 => ?_)
    ·
      refine g_iconst hC (0) d_A_doPlainWord_123 (by decide) rfl ?_
      refine g_gov hC rfl (z_runV hC (c_A_push l D K q hq _ ha _ _ ) yy_A_push yv_A_92 (za_lt ha) (zS_a ha) ⟨Nat.le_of_ble_eq_true rfl, Nat.le_of_ble_eq_true rfl⟩ ⟨Nat.zero_le _, Nat.zero_le _⟩ rfl (Nat.le_of_ble_eq_true rfl) d_A_doPlainWord_124) (fun σ11 q11 => ?_)
      obtain rfl := q11.symm
      refine g_goto hC 142 d_A_doPlainWord_127 rfl ?_
      exact zG.to (J142 _ (by first | (rw [t1_1]; rfl) | (rw [t1_2]; rfl) | (rw [t1_3]; rfl) | (rw [t1_4]; rfl) | (rw [t1_5]; rfl) | (rw [t1_6, zpl_6, if_pos h111, hc]) | (rw [t1_6, zpl_6, if_neg (zif_f h111)]) | (rw [t1_7]; rfl) | (unfold zpl; rw [if_neg t1_1, if_neg t1_2, if_neg t1_3, if_neg t1_4, if_neg t1_5, if_neg t1_6, if_neg t1_7]))) rfl rfl ⟨rfl, trivial⟩
    ·
      obtain ⟨k, hk, hx⟩ := zin_of (n := 4) (by decide) h111
      have hc : n.toNatClampNeg = k := by rw [hx]; exact nI_clamp (by omega)
      refine g_aload_n hC d_A_doPlainWord_114 rfl rfl ?_
      refine g_getR hC _ 2 9 _ (za_lt ha) (zS_a ha) rfl fl_A_25 d_A_doPlainWord_115 rfl ?_
      refine g_iload_n hC d_A_doPlainWord_118 rfl rfl ?_
      refine g_iald hC _ _ k (za_lt' ha 3 (by decide)) (zS_ar ha 3 (by decide)) hx hk (by decide) d_A_doPlainWord_119 rfl ?_
      refine g_goto hC 124 d_A_doPlainWord_120 rfl ?_
      refine g_gov hC rfl (z_runV hC (c_A_push l D K q hq _ ha _ _ ) yy_A_push yv_A_92 (za_lt ha) (zS_a ha) ⟨Nat.le_of_ble_eq_true rfl, Nat.le_of_ble_eq_true rfl⟩ ⟨Nat.zero_le _, Nat.zero_le _⟩ rfl (Nat.le_of_ble_eq_true rfl) d_A_doPlainWord_124) (fun σ12 q12 => ?_)
      obtain rfl := q12.symm
      refine g_goto hC 142 d_A_doPlainWord_127 rfl ?_
      exact zG.to (J142 _ (by first | (rw [t1_1]; rfl) | (rw [t1_2]; rfl) | (rw [t1_3]; rfl) | (rw [t1_4]; rfl) | (rw [t1_5]; rfl) | (rw [t1_6, zpl_6, if_pos h111, hc]) | (rw [t1_6, zpl_6, if_neg (zif_f h111)]) | (rw [t1_7]; rfl) | (unfold zpl; rw [if_neg t1_1, if_neg t1_2, if_neg t1_3, if_neg t1_4, if_neg t1_5, if_neg t1_6, if_neg t1_7]))) rfl rfl ⟨rfl, trivial⟩
  by_cases t1_7 : op = 7
  ·
    refine g_tableIn hC 130 d_A_doPlainWord_1 (by rw [t1_7]; decide) (by rw [t1_7]; decide) (by rw [t1_7]; rfl) rfl ?_
    refine g_aload_n hC d_A_doPlainWord_130 rfl rfl ?_
    refine g_iload_n hC d_A_doPlainWord_131 rfl rfl ?_
    refine g_aload_n hC d_A_doPlainWord_132 rfl rfl ?_
    refine g_goi hC rfl (z_runV hC (c_A_pop l D K q hq _ ha _ ) yy_A_pop yv_A_89 (za_lt ha) (zS_a ha) ⟨Nat.le_of_ble_eq_true rfl, Nat.le_of_ble_eq_true rfl⟩ ⟨Nat.zero_le _, Nat.zero_le _⟩ rfl (Nat.le_of_ble_eq_true rfl) d_A_doPlainWord_133) (fun r13 σ13 q13 => ?_)
    obtain ⟨rfl, w13⟩ := q13
    obtain rfl := w13.symm
    refine g_gov hC rfl (z_runV hC (c_A_storeInto l D K q hq _ ha _ _ _ ) yy_A_storeInto yv_A_96 (za_lt ha) (zS_a ha) ⟨Nat.le_of_ble_eq_true rfl, Nat.le_of_ble_eq_true rfl⟩ ⟨Nat.zero_le _, Nat.zero_le _⟩ rfl (Nat.le_of_ble_eq_true rfl) d_A_doPlainWord_136) (fun σ14 q14 => ?_)
    obtain rfl := q14.symm
    refine g_goto hC 142 d_A_doPlainWord_139 rfl ?_
    exact zG.to (J142 _ (by first | (rw [t1_1]; rfl) | (rw [t1_2]; rfl) | (rw [t1_3]; rfl) | (rw [t1_4]; rfl) | (rw [t1_5]; rfl) | (rw [t1_6, zpl_6, if_pos h111, hc]) | (rw [t1_6, zpl_6, if_neg (zif_f h111)]) | (rw [t1_7]; rfl) | (unfold zpl; rw [if_neg t1_1, if_neg t1_2, if_neg t1_3, if_neg t1_4, if_neg t1_5, if_neg t1_6, if_neg t1_7]))) rfl rfl ⟨rfl, trivial⟩
  refine g_tableOut hC 142 d_A_doPlainWord_1 (by have u1 := lv_neT t1_1 (a := 1) (by decide); have u2 := lv_neT t1_2 (a := 2) (by decide); have u3 := lv_neT t1_3 (a := 3) (by decide); have u4 := lv_neT t1_4 (a := 4) (by decide); have u5 := lv_neT t1_5 (a := 5) (by decide); have u6 := lv_neT t1_6 (a := 6) (by decide); have u7 := lv_neT t1_7 (a := 7) (by decide); omega) rfl ?_
  exact zG.to (J142 _ (by first | (rw [t1_1]; rfl) | (rw [t1_2]; rfl) | (rw [t1_3]; rfl) | (rw [t1_4]; rfl) | (rw [t1_5]; rfl) | (rw [t1_6, zpl_6, if_pos h111, hc]) | (rw [t1_6, zpl_6, if_neg (zif_f h111)]) | (rw [t1_7]; rfl) | (unfold zpl; rw [if_neg t1_1, if_neg t1_2, if_neg t1_3, if_neg t1_4, if_neg t1_5, if_neg t1_6, if_neg t1_7]))) rfl rfl ⟨rfl, trivial⟩
set_option maxHeartbeats 4000000 in
set_option maxRecDepth 100000 in
theorem c_A_getKept (l : Launch) (D : va_G) (K : Nat → ClassId) (q : Nat → Nat) (hq : zI q) (a : Nat) (ha : a < 8) (σ : zm) : zMi l y_A_getKept b_A_getKept 2 (some .boolean) 4 D K q [.ref (q (za a))] σ (fun r σ' => r = zb (zin (zup σ a) 8) ∧ σ' = if zin (zup σ a) 8 then zgot σ a else σ) := by
  refine zMi.of (own := "AppDesk$App") (lv := [(0, .ref (q (za a)))]) (by decide) rfl hq (Nat.le_of_ble_eq_true rfl) rfl ?_
  intro p e s m below meth c hC hr hlk
  refine g_aload_n hC d_A_getKept_0 rfl rfl ?_
  refine g_goi hC rfl (z_runV hC (c_A_uppermost l D K q hq _ ha _ ) yy_A_uppermost yv_A_79 (za_lt ha) (zS_a ha) ⟨Nat.le_of_ble_eq_true rfl, Nat.le_of_ble_eq_true rfl⟩ ⟨Nat.zero_le _, Nat.zero_le _⟩ rfl (Nat.le_of_ble_eq_true rfl) d_A_getKept_1) (fun r0 σ0 q0 => ?_)
  obtain ⟨rfl, w0⟩ := q0
  obtain rfl := w0.symm
  refine g_istore_n hC d_A_getKept_4 rfl (by decide) ?_
  refine g_iload_n hC d_A_getKept_5 rfl rfl ?_
  refine g_bipush hC (8) d_A_getKept_6 (by decide) rfl ?_
  refine g_goi hC rfl (z_runN hC (c_D_isBelow l D K q hq _ _ _) yy_D_isBelow yn_A_72 ⟨Nat.le_of_ble_eq_true rfl, Nat.le_of_ble_eq_true rfl⟩ ⟨Nat.zero_le _, Nat.zero_le _⟩ rfl (Nat.le_of_ble_eq_true rfl) d_A_getKept_8) (fun r1 σ1 q1 => ?_)
  obtain ⟨rfl, w1⟩ := q1
  obtain rfl := w1.symm
  refine g_ifne_b hC 16 d_A_getKept_11 rfl rfl (fun h11 => ?_) (fun h11 => ?_)
  ·
    refine g_aload_n hC d_A_getKept_16 rfl rfl ?_
    refine g_goi hC rfl (z_runV hC (c_A_pop l D K q hq _ ha _ ) yy_A_pop yv_A_89 (za_lt ha) (zS_a ha) ⟨Nat.le_of_ble_eq_true rfl, Nat.le_of_ble_eq_true rfl⟩ ⟨Nat.zero_le _, Nat.zero_le _⟩ rfl (Nat.le_of_ble_eq_true rfl) d_A_getKept_17) (fun r2 σ2 q2 => ?_)
    obtain ⟨rfl, w2⟩ := q2
    obtain rfl := w2.symm
    refine g_pop hC d_A_getKept_20 rfl rfl ?_
    refine g_aload_n hC d_A_getKept_21 rfl rfl ?_
    refine g_aload_n hC d_A_getKept_22 rfl rfl ?_
    refine g_iload_n hC d_A_getKept_23 rfl rfl ?_
    refine g_goi hC rfl (z_runV hC (c_A_valueUnder l D K q hq _ ha _ _ ) yy_A_valueUnder yv_A_100 (za_lt ha) (zS_a ha) ⟨Nat.le_of_ble_eq_true rfl, Nat.le_of_ble_eq_true rfl⟩ ⟨Nat.zero_le _, Nat.zero_le _⟩ rfl (Nat.le_of_ble_eq_true rfl) d_A_getKept_24) (fun r3 σ3 q3 => ?_)
    obtain ⟨rfl, w3⟩ := q3
    obtain rfl := w3.symm
    refine g_gov hC rfl (z_runV hC (c_A_push l D K q hq _ ha _ _ ) yy_A_push yv_A_92 (za_lt ha) (zS_a ha) ⟨Nat.le_of_ble_eq_true rfl, Nat.le_of_ble_eq_true rfl⟩ ⟨Nat.zero_le _, Nat.zero_le _⟩ rfl (Nat.le_of_ble_eq_true rfl) d_A_getKept_27) (fun σ4 q4 => ?_)
    obtain rfl := q4.symm
    refine g_aload_n hC d_A_getKept_30 rfl rfl ?_
    refine g_dup hC d_A_getKept_31 rfl rfl ?_
    refine g_getI hC _ 2 6 (za_lt ha) (zS_a ha) rfl fl_A_49 d_A_getKept_32 rfl ?_
    refine g_iconst hC (1) d_A_getKept_35 (by decide) rfl ?_
    refine g_iadd hC d_A_getKept_36 rfl ?_
    refine g_putI hC _ 2 6 (za_lt ha) (zS_a ha) rfl fp_A_49 d_A_getKept_37 rfl ?_
    refine g_iconst hC (1) d_A_getKept_40 (by decide) rfl ?_
    exact g_zret hC hr hlk d_A_getKept_41 (Or.inr rfl) ⟨by rw [h11]; rfl, (if_pos h11).symm⟩
  ·
    refine g_iconst hC (0) d_A_getKept_14 (by decide) rfl ?_
    exact g_zret hC hr hlk d_A_getKept_15 (Or.inl rfl) ⟨by rw [h11]; rfl, (if_neg (zif_f h11)).symm⟩
set_option maxHeartbeats 4000000 in
set_option maxRecDepth 100000 in
theorem c_A_keepUppermost (l : Launch) (D : va_G) (K : Nat → ClassId) (q : Nat → Nat) (hq : zI q) (a : Nat) (ha : a < 8) (σ : zm) : zMi l y_A_keepUppermost b_A_keepUppermost 2 (some .boolean) 4 D K q [.ref (q (za a))] σ (fun r σ' => r = zb (zkok σ a) ∧ σ' = if zkok σ a then zkep σ a else σ) := by
  refine zMi.of (own := "AppDesk$App") (lv := [(0, .ref (q (za a)))]) (by decide) rfl hq (Nat.le_of_ble_eq_true rfl) rfl ?_
  intro p e s m below meth c hC hr hlk
  refine g_aload_n hC d_A_keepUppermost_0 rfl rfl ?_
  refine g_goi hC rfl (z_runV hC (c_A_secondUppermost l D K q hq _ ha _ ) yy_A_secondUppermost yv_A_104 (za_lt ha) (zS_a ha) ⟨Nat.le_of_ble_eq_true rfl, Nat.le_of_ble_eq_true rfl⟩ ⟨Nat.zero_le _, Nat.zero_le _⟩ rfl (Nat.le_of_ble_eq_true rfl) d_A_keepUppermost_1) (fun r0 σ0 q0 => ?_)
  obtain ⟨rfl, w0⟩ := q0
  obtain rfl := w0.symm
  refine g_istore_n hC d_A_keepUppermost_4 rfl (by decide) ?_
  refine g_iload_n hC d_A_keepUppermost_5 rfl rfl ?_
  refine g_bipush hC (8) d_A_keepUppermost_6 (by decide) rfl ?_
  refine g_goi hC rfl (z_runN hC (c_D_isBelow l D K q hq _ _ _) yy_D_isBelow yn_A_72 ⟨Nat.le_of_ble_eq_true rfl, Nat.le_of_ble_eq_true rfl⟩ ⟨Nat.zero_le _, Nat.zero_le _⟩ rfl (Nat.le_of_ble_eq_true rfl) d_A_keepUppermost_8) (fun r1 σ1 q1 => ?_)
  obtain ⟨rfl, w1⟩ := q1
  obtain rfl := w1.symm
  refine g_ifeq_b hC 33 d_A_keepUppermost_11 rfl rfl (fun h11 => ?_) (fun h11 => ?_)
  ·
    have hok : zkok σ a = false := by first | (simp [zkok, h11]; done) | (simp [zkok, h11, h19, h30]; done)
    refine g_iconst hC (0) d_A_keepUppermost_33 (by decide) rfl ?_
    exact g_zret hC hr hlk d_A_keepUppermost_34 (Or.inl rfl) ⟨by rw [hok]; rfl, (if_neg (zif_f hok)).symm⟩
  ·
    refine g_aload_n hC d_A_keepUppermost_14 rfl rfl ?_
    refine g_iload_n hC d_A_keepUppermost_15 rfl rfl ?_
    refine g_goi hC rfl (z_runV hC (c_A_keepsUnder l D K q hq _ ha _ _ ) yy_A_keepsUnder yv_A_65 (za_lt ha) (zS_a ha) ⟨Nat.le_of_ble_eq_true rfl, Nat.le_of_ble_eq_true rfl⟩ ⟨Nat.zero_le _, Nat.zero_le _⟩ rfl (Nat.le_of_ble_eq_true rfl) d_A_keepUppermost_16) (fun r2 σ2 q2 => ?_)
    obtain ⟨rfl, w2⟩ := q2
    obtain rfl := w2.symm
    refine g_ifne_b hC 35 d_A_keepUppermost_19 rfl rfl (fun h19 => ?_) (fun h19 => ?_)
    ·
      have hin : zin (zup2 σ a) 8 = true := h11
      obtain ⟨k, hk, hx⟩ := zin_of (n := 8) (by decide) hin
      have hc : (zup2 σ a).toNatClampNeg = k := by rw [hx]; exact nI_clamp (by omega)
      have hok : zkok σ a = true := by first | (simp [zkok, h11, h19]; done) | (simp [zkok, h11, h19, h30]; done)
      refine g_aload_n hC d_A_keepUppermost_35 rfl rfl ?_
      refine g_dup hC d_A_keepUppermost_36 rfl rfl ?_
      refine g_getI hC _ 2 3 (za_lt ha) (zS_a ha) rfl fl_A_46 d_A_keepUppermost_37 rfl ?_
      refine g_iconst hC (1) d_A_keepUppermost_40 (by decide) rfl ?_
      refine g_iload_n hC d_A_keepUppermost_41 rfl rfl ?_
      refine g_ishl hC d_A_keepUppermost_42 rfl ?_
      refine g_ior hC d_A_keepUppermost_43 rfl ?_
      refine g_putI hC _ 2 3 (za_lt ha) (zS_a ha) rfl fp_A_46 d_A_keepUppermost_44 rfl ?_
      refine g_aload_n hC d_A_keepUppermost_47 rfl rfl ?_
      refine g_getR hC _ 2 4 _ (za_lt ha) (zS_a ha) rfl fl_A_18 d_A_keepUppermost_48 rfl ?_
      refine g_iload_n hC d_A_keepUppermost_51 rfl rfl ?_
      refine g_aload_n hC d_A_keepUppermost_52 rfl rfl ?_
      refine g_goi hC rfl (z_runV hC (c_A_pop l D K q hq _ ha _ ) yy_A_pop yv_A_89 (za_lt ha) (zS_a ha) ⟨Nat.le_of_ble_eq_true rfl, Nat.le_of_ble_eq_true rfl⟩ ⟨Nat.zero_le _, Nat.zero_le _⟩ rfl (Nat.le_of_ble_eq_true rfl) d_A_keepUppermost_53) (fun r3 σ3 q3 => ?_)
      obtain ⟨rfl, w3⟩ := q3
      obtain rfl := w3.symm
      refine g_iast hC _ _ k (za_lt' ha 1 (by decide)) (zS_ar ha 1 (by decide)) hx hk (by decide) d_A_keepUppermost_56 rfl ?_
      refine g_aload_n hC d_A_keepUppermost_57 rfl rfl ?_
      refine g_goi hC rfl (z_runV hC (c_A_pop l D K q hq _ ha _ ) yy_A_pop yv_A_89 (za_lt ha) (zS_a ha) ⟨Nat.le_of_ble_eq_true rfl, Nat.le_of_ble_eq_true rfl⟩ ⟨Nat.zero_le _, Nat.zero_le _⟩ rfl (Nat.le_of_ble_eq_true rfl) d_A_keepUppermost_58) (fun r4 σ4 q4 => ?_)
      obtain ⟨rfl, w4⟩ := q4
      obtain rfl := w4.symm
      refine g_pop hC d_A_keepUppermost_61 rfl rfl ?_
      refine g_aload_n hC d_A_keepUppermost_62 rfl rfl ?_
      refine g_dup hC d_A_keepUppermost_63 rfl rfl ?_
      refine g_getI hC _ 2 6 (za_lt ha) (zS_a ha) rfl fl_A_49 d_A_keepUppermost_64 rfl ?_
      refine g_iconst hC (1) d_A_keepUppermost_67 (by decide) rfl ?_
      refine g_iadd hC d_A_keepUppermost_68 rfl ?_
      refine g_putI hC _ 2 6 (za_lt ha) (zS_a ha) rfl fp_A_49 d_A_keepUppermost_69 rfl ?_
      refine g_iconst hC (1) d_A_keepUppermost_72 (by decide) rfl ?_
      exact g_zret hC hr hlk d_A_keepUppermost_73 (Or.inr rfl) ⟨by rw [hok]; rfl, by rw [if_pos hok]; unfold zkep zkp2 zkp1; rw [hc]⟩
    ·
      refine g_aload_n hC d_A_keepUppermost_22 rfl rfl ?_
      refine g_getI hC _ 2 3 (za_lt ha) (zS_a ha) rfl fl_A_46 d_A_keepUppermost_23 rfl ?_
      refine g_goi hC rfl (z_runS hC (c_J_bitCount l D K q hq _ _) yy_J_bitCount ys_A_107 ⟨Nat.le_of_ble_eq_true rfl, Nat.le_of_ble_eq_true rfl⟩ ⟨Nat.zero_le _, Nat.zero_le _⟩ rfl (Nat.le_of_ble_eq_true rfl) d_A_keepUppermost_26) (fun r5 σ5 q5 => ?_)
      obtain ⟨rfl, w5⟩ := q5
      obtain rfl := w5.symm
      refine g_iconst hC (3) d_A_keepUppermost_29 (by decide) rfl ?_
      refine g_icmp_lt hC 35 d_A_keepUppermost_30 rfl rfl (fun h30 => ?_) (fun h30 => ?_)
      ·
        have hin : zin (zup2 σ a) 8 = true := h11
        obtain ⟨k, hk, hx⟩ := zin_of (n := 8) (by decide) hin
        have hc : (zup2 σ a).toNatClampNeg = k := by rw [hx]; exact nI_clamp (by omega)
        have hok : zkok σ a = true := by first | (simp [zkok, h11, h19]; done) | (simp [zkok, h11, h19, h30]; done)
        refine g_aload_n hC d_A_keepUppermost_35 rfl rfl ?_
        refine g_dup hC d_A_keepUppermost_36 rfl rfl ?_
        refine g_getI hC _ 2 3 (za_lt ha) (zS_a ha) rfl fl_A_46 d_A_keepUppermost_37 rfl ?_
        refine g_iconst hC (1) d_A_keepUppermost_40 (by decide) rfl ?_
        refine g_iload_n hC d_A_keepUppermost_41 rfl rfl ?_
        refine g_ishl hC d_A_keepUppermost_42 rfl ?_
        refine g_ior hC d_A_keepUppermost_43 rfl ?_
        refine g_putI hC _ 2 3 (za_lt ha) (zS_a ha) rfl fp_A_46 d_A_keepUppermost_44 rfl ?_
        refine g_aload_n hC d_A_keepUppermost_47 rfl rfl ?_
        refine g_getR hC _ 2 4 _ (za_lt ha) (zS_a ha) rfl fl_A_18 d_A_keepUppermost_48 rfl ?_
        refine g_iload_n hC d_A_keepUppermost_51 rfl rfl ?_
        refine g_aload_n hC d_A_keepUppermost_52 rfl rfl ?_
        refine g_goi hC rfl (z_runV hC (c_A_pop l D K q hq _ ha _ ) yy_A_pop yv_A_89 (za_lt ha) (zS_a ha) ⟨Nat.le_of_ble_eq_true rfl, Nat.le_of_ble_eq_true rfl⟩ ⟨Nat.zero_le _, Nat.zero_le _⟩ rfl (Nat.le_of_ble_eq_true rfl) d_A_keepUppermost_53) (fun r6 σ6 q6 => ?_)
        obtain ⟨rfl, w6⟩ := q6
        obtain rfl := w6.symm
        refine g_iast hC _ _ k (za_lt' ha 1 (by decide)) (zS_ar ha 1 (by decide)) hx hk (by decide) d_A_keepUppermost_56 rfl ?_
        refine g_aload_n hC d_A_keepUppermost_57 rfl rfl ?_
        refine g_goi hC rfl (z_runV hC (c_A_pop l D K q hq _ ha _ ) yy_A_pop yv_A_89 (za_lt ha) (zS_a ha) ⟨Nat.le_of_ble_eq_true rfl, Nat.le_of_ble_eq_true rfl⟩ ⟨Nat.zero_le _, Nat.zero_le _⟩ rfl (Nat.le_of_ble_eq_true rfl) d_A_keepUppermost_58) (fun r7 σ7 q7 => ?_)
        obtain ⟨rfl, w7⟩ := q7
        obtain rfl := w7.symm
        refine g_pop hC d_A_keepUppermost_61 rfl rfl ?_
        refine g_aload_n hC d_A_keepUppermost_62 rfl rfl ?_
        refine g_dup hC d_A_keepUppermost_63 rfl rfl ?_
        refine g_getI hC _ 2 6 (za_lt ha) (zS_a ha) rfl fl_A_49 d_A_keepUppermost_64 rfl ?_
        refine g_iconst hC (1) d_A_keepUppermost_67 (by decide) rfl ?_
        refine g_iadd hC d_A_keepUppermost_68 rfl ?_
        refine g_putI hC _ 2 6 (za_lt ha) (zS_a ha) rfl fp_A_49 d_A_keepUppermost_69 rfl ?_
        refine g_iconst hC (1) d_A_keepUppermost_72 (by decide) rfl ?_
        exact g_zret hC hr hlk d_A_keepUppermost_73 (Or.inr rfl) ⟨by rw [hok]; rfl, by rw [if_pos hok]; unfold zkep zkp2 zkp1; rw [hc]⟩
      ·
        have hok : zkok σ a = false := by first | (simp [zkok, h11]; done) | (simp [zkok, h11, h19, h30]; done)
        refine g_iconst hC (0) d_A_keepUppermost_33 (by decide) rfl ?_
        exact g_zret hC hr hlk d_A_keepUppermost_34 (Or.inl rfl) ⟨by rw [hok]; rfl, (if_neg (zif_f hok)).symm⟩
end
section
/-! the queue's methods -/
def zrow (σ : zm) (k : Nat) (g1 g2 g3 : Int32) : zm := zu (zu (zu σ 3 k g1) 4 k g2) 5 k g3
theorem zrow_off (σ : zm) (k : Nat) (g1 g2 g3 : Int32) {a : Nat} (h : a ≠ 3 ∧ a ≠ 4 ∧ a ≠ 5) : zrow σ k g1 g2 g3 a = σ a := by
  unfold zrow
  rw [zu_row _ _ h.2.2, zu_row _ _ h.2.1, zu_row _ _ h.1]
/-- the first n rows, each from the one behind it -/
def zsh (σ : zm) : Nat → zm
  | 0 => σ
  | n + 1 => zrow (zsh σ n) n (zsh σ n 3 (n + 1)) (zsh σ n 4 (n + 1)) (zsh σ n 5 (n + 1))
theorem zsh_off (σ : zm) (n : Nat) {a : Nat} (h : a ≠ 3 ∧ a ≠ 4 ∧ a ≠ 5) : zsh σ n a = σ a := by
  induction n with
  | zero => rfl
  | succ n ih => exact (zrow_off _ _ _ _ _ h).trans ih
theorem zmax_pred {n : Nat} (h : 1 ≤ n) (hn : n < 2 ^ 31) : zmax (nI n - 1) 0 = nI (n - 1) := by
  obtain ⟨k, rfl⟩ : ∃ k, n = k + 1 := ⟨n - 1, by omega⟩
  rw [nI_pred]
  unfold zmax
  rw [if_neg (nI_pos (by omega))]
  rfl
/-- the rows whose sender isn't g, moved up: the memory, and how many they are -/
def zdr (σ : zm) (g : Int32) : Nat → zm × Nat
  | 0 => (σ, 0)
  | n + 1 => if (zdr σ g n).1 3 n = g then zdr σ g n else (zrow (zdr σ g n).1 (zdr σ g n).2 ((zdr σ g n).1 3 n) ((zdr σ g n).1 4 n) ((zdr σ g n).1 5 n), (zdr σ g n).2 + 1)
theorem zdr_t {σ : zm} {g : Int32} {n : Nat} (h : (zdr σ g n).1 3 n = g) : zdr σ g (n + 1) = zdr σ g n := if_pos h
theorem zdr_f {σ : zm} {g : Int32} {n : Nat} (h : ¬ (zdr σ g n).1 3 n = g) : zdr σ g (n + 1) = (zrow (zdr σ g n).1 (zdr σ g n).2 ((zdr σ g n).1 3 n) ((zdr σ g n).1 4 n) ((zdr σ g n).1 5 n), (zdr σ g n).2 + 1) := if_neg h
theorem zdr_le (σ : zm) (g : Int32) (n : Nat) : (zdr σ g n).2 ≤ n := by
  induction n with
  | zero => exact Nat.le_refl _
  | succ n ih =>
    by_cases h : (zdr σ g n).1 3 n = g
    · rw [zdr_t h]; omega
    · rw [zdr_f h]; exact Nat.succ_le_succ ih
theorem zdr_off (σ : zm) (g : Int32) (n : Nat) {a : Nat} (ha : a ≠ 3 ∧ a ≠ 4 ∧ a ≠ 5) : (zdr σ g n).1 a = σ a := by
  induction n with
  | zero => rfl
  | succ n ih =>
    by_cases h : (zdr σ g n).1 3 n = g
    · rw [zdr_t h]; exact ih
    · rw [zdr_f h]; exact (zrow_off _ _ _ _ _ ha).trans ih
set_option maxHeartbeats 4000000 in
set_option maxRecDepth 100000 in
theorem c_Q_setRow (l : Launch) (D : va_G) (K : Nat → ClassId) (q : Nat → Nat) (hq : zI q) (k : Nat) (hk : k < 8) (g1 g2 g3 : Int32) (σ : zm) : zMv l y_Q_setRow b_Q_setRow 5 none 0 D K q [.ref (q (2)), .int (nI k), .int (g1), .int (g2), .int (g3)] σ (fun σ' => σ' = zrow σ k g1 g2 g3) := by
  refine zMv.of (own := "AppDesk$IntentQueue") (lv := [(0, .ref (q (2))), (1, .int (nI k)), (2, .int (g1)), (3, .int (g2)), (4, .int (g3))]) (by decide) rfl hq (Nat.le_of_ble_eq_true rfl) rfl ?_
  intro p e s m below meth c hC hr hlk
  refine g_aload_n hC d_Q_setRow_0 rfl rfl ?_
  refine g_getR hC _ 3 1 _ (by decide) rfl rfl fl_Q_9 d_Q_setRow_1 rfl ?_
  refine g_iload_n hC d_Q_setRow_4 rfl rfl ?_
  refine g_iload_n hC d_Q_setRow_5 rfl rfl ?_
  refine g_iast hC _ _ k (by decide) rfl rfl hk (by decide) d_Q_setRow_6 rfl ?_
  refine g_aload_n hC d_Q_setRow_7 rfl rfl ?_
  refine g_getR hC _ 3 2 _ (by decide) rfl rfl fl_Q_15 d_Q_setRow_8 rfl ?_
  refine g_iload_n hC d_Q_setRow_11 rfl rfl ?_
  refine g_iload_n hC d_Q_setRow_12 rfl rfl ?_
  refine g_iast hC _ _ k (by decide) rfl rfl hk (by decide) d_Q_setRow_13 rfl ?_
  refine g_aload_n hC d_Q_setRow_14 rfl rfl ?_
  refine g_getR hC _ 3 3 _ (by decide) rfl rfl fl_Q_18 d_Q_setRow_15 rfl ?_
  refine g_iload_n hC d_Q_setRow_18 rfl rfl ?_
  refine g_iload hC d_Q_setRow_19 rfl rfl ?_
  refine g_iast hC _ _ k (by decide) rfl rfl hk (by decide) d_Q_setRow_21 rfl ?_
  exact g_vret hC hr hlk d_Q_setRow_22 rfl
set_option maxHeartbeats 4000000 in
set_option maxRecDepth 100000 in
theorem c_Q_add (l : Launch) (D : va_G) (K : Nat → ClassId) (q : Nat → Nat) (hq : zI q) (n : Nat) (hn : n ≤ 8) (g1 g2 g3 : Int32) (σ : zm) (h : σ 2 0 = nI n) : zMi l y_Q_add b_Q_add 4 (some .boolean) 1 D K q [.ref (q (2)), .int (g1), .int (g2), .int (g3)] σ (fun r σ' => r = zb (decide (n < 8)) ∧ σ' = if n < 8 then zu (zrow σ n g1 g2 g3) 2 0 (nI (n + 1)) else σ) := by
  refine zMi.of (own := "AppDesk$IntentQueue") (lv := [(0, .ref (q (2))), (1, .int (g1)), (2, .int (g2)), (3, .int (g3))]) (by decide) rfl hq (Nat.le_of_ble_eq_true rfl) rfl ?_
  intro p e s m below meth c hC hr hlk
  refine g_aload_n hC d_Q_add_0 rfl rfl ?_
  refine g_getV hC _ 3 0 (nI n) (h) (by decide) rfl rfl fl_Q_21 d_Q_add_1 rfl ?_
  refine g_bipush hC (8) d_Q_add_4 (by decide) rfl ?_
  refine g_icmp_lt hC 11 d_Q_add_6 rfl rfl (fun h6 => ?_) (fun h6 => ?_)
  ·
    have hlt : n < 8 := (nI_ltI (a := n) (b := 8) (by omega) (by decide)).mp h6
    refine g_aload_n hC d_Q_add_11 rfl rfl ?_
    refine g_aload_n hC d_Q_add_12 rfl rfl ?_
    refine g_getV hC _ 3 0 (nI n) (h) (by decide) rfl rfl fl_Q_21 d_Q_add_13 rfl ?_
    refine g_iload_n hC d_Q_add_16 rfl rfl ?_
    refine g_iload_n hC d_Q_add_17 rfl rfl ?_
    refine g_iload_n hC d_Q_add_18 rfl rfl ?_
    refine g_gov hC rfl (z_runV hC (c_Q_setRow l D K q hq _ hlt _ _ _ _) yy_Q_setRow yv_Q_25 (by decide) rfl ⟨Nat.le_of_ble_eq_true rfl, Nat.le_of_ble_eq_true rfl⟩ ⟨Nat.zero_le _, Nat.zero_le _⟩ rfl (Nat.le_of_ble_eq_true rfl) d_Q_add_19) (fun σ0 q0 => ?_)
    obtain rfl := q0.symm
    refine g_aload_n hC d_Q_add_22 rfl rfl ?_
    refine g_dup hC d_Q_add_23 rfl rfl ?_
    refine g_getV hC _ 3 0 (nI n) (by rw [zrow_off σ _ _ _ _ (by decide)]; exact h) (by decide) rfl rfl fl_Q_21 d_Q_add_24 rfl ?_
    refine g_iconst hC (1) d_Q_add_27 (by decide) rfl ?_
    refine g_iadd hC d_Q_add_28 rfl ?_
    refine g_top hC (nI (n + 1)) (nI_1 n) ?_
    refine g_putI hC _ 3 0 (by decide) rfl rfl fp_Q_21 d_Q_add_29 rfl ?_
    refine g_iconst hC (1) d_Q_add_32 (by decide) rfl ?_
    exact g_zret hC hr hlk d_Q_add_33 (Or.inr rfl) ⟨by rw [decide_eq_true hlt]; rfl, (if_pos hlt).symm⟩
  ·
    have hlt : ¬ n < 8 := fun z => h6 (nI_lt (a := n) (b := 8) z (by decide))
    refine g_iconst hC (0) d_Q_add_9 (by decide) rfl ?_
    exact g_zret hC hr hlk d_Q_add_10 (Or.inl rfl) ⟨by rw [decide_eq_false hlt]; rfl, (if_neg hlt).symm⟩
set_option maxHeartbeats 4000000 in
set_option maxRecDepth 100000 in
theorem c_Q_dropFirst (l : Launch) (D : va_G) (K : Nat → ClassId) (q : Nat → Nat) (hq : zI q) (n : Nat) (hn1 : 1 ≤ n) (hn : n ≤ 8) (σ : zm) (h : σ 2 0 = nI n) : zMv l y_Q_dropFirst b_Q_dropFirst 2 none 1 D K q [.ref (q (2))] σ (fun σ' => σ' = zu (zsh σ (n - 1)) 2 0 (nI (n - 1))) := by
  refine zMv.of (own := "AppDesk$IntentQueue") (lv := [(0, .ref (q (2)))]) (by decide) rfl hq (Nat.le_of_ble_eq_true rfl) rfl ?_
  intro p e s m below meth c hC hr hlk
  have J2 : ∀ (f : Nat) (k : Nat) (hif : k + 1 + f = n), zG p l e (zrm 1) s m ([.ref (q (2))] : List Value).toArray below meth c D K q (zA q) 2 0 0 (MQ below (va_Qv (fun σ' => σ' = zu (zsh σ (n - 1)) 2 0 (nI (n - 1))) (zO D K q) (zA q)) ([.ref (q (2))] : List Value).toArray s 0 0 (zA q)) (zsh σ k) 2 [(0, .ref (q (2))), (1, .int (nI (k + 1)))] [] := by
    intro f
    induction f with
    | zero =>
      intro k hif
      refine g_iload_n hC d_Q_dropFirst_2 rfl rfl ?_
      refine g_aload_n hC d_Q_dropFirst_3 rfl rfl ?_
      refine g_getV hC _ 3 0 (nI n) (by rw [zsh_off σ k (by decide)]; exact h) (by decide) rfl rfl fl_Q_21 d_Q_dropFirst_4 rfl ?_
      refine g_icmp_ge hC 41 d_Q_dropFirst_7 rfl rfl (fun h7 => ?_) (fun h7 => absurd (nI_le (a := n) (b := k + 1) (by omega) (by omega)) h7)
      refine g_aload_n hC d_Q_dropFirst_41 rfl rfl ?_
      refine g_aload_n hC d_Q_dropFirst_42 rfl rfl ?_
      refine g_getV hC _ 3 0 (nI n) (by rw [zsh_off σ k (by decide)]; exact h) (by decide) rfl rfl fl_Q_21 d_Q_dropFirst_43 rfl ?_
      refine g_iconst hC (1) d_Q_dropFirst_46 (by decide) rfl ?_
      refine g_isub hC d_Q_dropFirst_47 rfl ?_
      refine g_iconst hC (0) d_Q_dropFirst_48 (by decide) rfl ?_
      refine g_max hC km_Q_29 d_Q_dropFirst_49 rfl ⟨Nat.le_of_ble_eq_true rfl, Nat.le_of_ble_eq_true rfl, Nat.zero_le _, Nat.zero_le _⟩ (Nat.le_of_ble_eq_true rfl) ?_
      refine g_top hC (nI (n - 1)) (zmax_pred hn1 (by omega)) ?_
      refine g_putI hC _ 3 0 (by decide) rfl rfl fp_Q_21 d_Q_dropFirst_52 rfl ?_
      exact g_vret hC hr hlk d_Q_dropFirst_55 (by rw [show n - 1 = k by omega])
    | succ f ih =>
      intro k hif
      refine g_iload_n hC d_Q_dropFirst_2 rfl rfl ?_
      refine g_aload_n hC d_Q_dropFirst_3 rfl rfl ?_
      refine g_getV hC _ 3 0 (nI n) (by rw [zsh_off σ k (by decide)]; exact h) (by decide) rfl rfl fl_Q_21 d_Q_dropFirst_4 rfl ?_
      refine g_icmp_ge hC 41 d_Q_dropFirst_7 rfl rfl (fun h7 => absurd h7 (nI_ge (a := k + 1) (b := n) (by omega) (by omega))) (fun h7 => ?_)
      refine g_aload_n hC d_Q_dropFirst_10 rfl rfl ?_
      refine g_iload_n hC d_Q_dropFirst_11 rfl rfl ?_
      refine g_iconst hC (1) d_Q_dropFirst_12 (by decide) rfl ?_
      refine g_isub hC d_Q_dropFirst_13 rfl ?_
      refine g_top hC (nI k) (nI_pred k) ?_
      refine g_aload_n hC d_Q_dropFirst_14 rfl rfl ?_
      refine g_getR hC _ 3 1 _ (by decide) rfl rfl fl_Q_9 d_Q_dropFirst_15 rfl ?_
      refine g_iload_n hC d_Q_dropFirst_18 rfl rfl ?_
      refine g_iald hC _ _ ((k + 1)) (by decide) rfl rfl (by omega) (by decide) d_Q_dropFirst_19 rfl ?_
      refine g_aload_n hC d_Q_dropFirst_20 rfl rfl ?_
      refine g_getR hC _ 3 2 _ (by decide) rfl rfl fl_Q_15 d_Q_dropFirst_21 rfl ?_
      refine g_iload_n hC d_Q_dropFirst_24 rfl rfl ?_
      refine g_iald hC _ _ ((k + 1)) (by decide) rfl rfl (by omega) (by decide) d_Q_dropFirst_25 rfl ?_
      refine g_aload_n hC d_Q_dropFirst_26 rfl rfl ?_
      refine g_getR hC _ 3 3 _ (by decide) rfl rfl fl_Q_18 d_Q_dropFirst_27 rfl ?_
      refine g_iload_n hC d_Q_dropFirst_30 rfl rfl ?_
      refine g_iald hC _ _ ((k + 1)) (by decide) rfl rfl (by omega) (by decide) d_Q_dropFirst_31 rfl ?_
      refine g_gov hC rfl (z_runV hC (c_Q_setRow l D K q hq _ (by omega) _ _ _ _) yy_Q_setRow yv_Q_25 (by decide) rfl ⟨Nat.le_of_ble_eq_true rfl, Nat.le_of_ble_eq_true rfl⟩ ⟨Nat.zero_le _, Nat.zero_le _⟩ rfl (Nat.le_of_ble_eq_true rfl) d_Q_dropFirst_32) (fun σ0 q0 => ?_)
      obtain rfl := q0.symm
      refine g_iinc hC (nI (k + 1 + 1)) d_Q_dropFirst_35 rfl rfl (nI_succ _).symm (by decide) ?_
      refine g_goto hC 2 d_Q_dropFirst_38 rfl ?_
      exact zG.to (ih (k + 1) (by omega)) rfl rfl ⟨rfl, rfl, trivial⟩
  refine g_iconst hC (1) d_Q_dropFirst_0 (by decide) rfl ?_
  refine g_istore_n hC d_Q_dropFirst_1 rfl (by decide) ?_
  exact zG.to (J2 (n - 1) 0 (by omega)) rfl rfl ⟨rfl, rfl, trivial⟩
set_option maxHeartbeats 4000000 in
set_option maxRecDepth 100000 in
theorem c_Q_dropAllOf (l : Launch) (D : va_G) (K : Nat → ClassId) (q : Nat → Nat) (hq : zI q) (n : Nat) (hn : n ≤ 8) (g : Int32) (σ : zm) (h : σ 2 0 = nI n) : zMv l y_Q_dropAllOf b_Q_dropAllOf 4 none 1 D K q [.ref (q (2)), .int (g)] σ (fun σ' => σ' = zu (zdr σ g n).1 2 0 (nI (zdr σ g n).2)) := by
  refine zMv.of (own := "AppDesk$IntentQueue") (lv := [(0, .ref (q (2))), (1, .int (g))]) (by decide) rfl hq (Nat.le_of_ble_eq_true rfl) rfl ?_
  intro p e s m below meth c hC hr hlk
  have J4 : ∀ (f : Nat) (k : Nat) (hif : k + f = n), zG p l e (zrm 1) s m ([.ref (q (2)), .int (g)] : List Value).toArray below meth c D K q (zA q) 4 0 0 (MQ below (va_Qv (fun σ' => σ' = zu (zdr σ g n).1 2 0 (nI (zdr σ g n).2)) (zO D K q) (zA q)) ([.ref (q (2)), .int (g)] : List Value).toArray s 0 0 (zA q)) (zdr σ g k).1 4 [(0, .ref (q (2))), (1, .int (g)), (2, .int (nI (zdr σ g k).2)), (3, .int (nI k))] [] := by
    intro f
    induction f with
    | zero =>
      intro k hif
      refine g_iload_n hC d_Q_dropAllOf_4 rfl rfl ?_
      refine g_aload_n hC d_Q_dropAllOf_5 rfl rfl ?_
      refine g_getV hC _ 3 0 (nI n) (by rw [zdr_off σ g k (by decide)]; exact h) (by decide) rfl rfl fl_Q_21 d_Q_dropAllOf_6 rfl ?_
      refine g_icmp_ge hC 54 d_Q_dropAllOf_9 rfl rfl (fun h9 => ?_) (fun h9 => absurd (nI_le (a := n) (b := k) (by omega) (by omega)) h9)
      refine g_aload_n hC d_Q_dropAllOf_54 rfl rfl ?_
      refine g_iload_n hC d_Q_dropAllOf_55 rfl rfl ?_
      refine g_putI hC _ 3 0 (by decide) rfl rfl fp_Q_21 d_Q_dropAllOf_56 rfl ?_
      exact g_vret hC hr hlk d_Q_dropAllOf_59 (by rw [show n = k by omega])
    | succ f ih =>
      intro k hif
      refine g_iload_n hC d_Q_dropAllOf_4 rfl rfl ?_
      refine g_aload_n hC d_Q_dropAllOf_5 rfl rfl ?_
      refine g_getV hC _ 3 0 (nI n) (by rw [zdr_off σ g k (by decide)]; exact h) (by decide) rfl rfl fl_Q_21 d_Q_dropAllOf_6 rfl ?_
      refine g_icmp_ge hC 54 d_Q_dropAllOf_9 rfl rfl (fun h9 => absurd h9 (nI_ge (a := k) (b := n) (by omega) (by omega))) (fun h9 => ?_)
      refine g_aload_n hC d_Q_dropAllOf_12 rfl rfl ?_
      refine g_getR hC _ 3 1 _ (by decide) rfl rfl fl_Q_9 d_Q_dropAllOf_13 rfl ?_
      refine g_iload_n hC d_Q_dropAllOf_16 rfl rfl ?_
      refine g_iald hC _ _ (k) (by decide) rfl rfl (by omega) (by decide) d_Q_dropAllOf_17 rfl ?_
      refine g_iload_n hC d_Q_dropAllOf_18 rfl rfl ?_
      refine g_icmp_eq hC 48 d_Q_dropAllOf_19 rfl rfl (fun h19 => ?_) (fun h19 => ?_)
      ·
        refine g_iinc hC (nI (k + 1)) d_Q_dropAllOf_48 rfl rfl (nI_succ _).symm (by decide) ?_
        refine g_goto hC 4 d_Q_dropAllOf_51 rfl ?_
        first | exact zG.to (ih (k + 1) (by omega)) (congrArg Prod.fst (zdr_t h19)).symm rfl ⟨rfl, rfl, congrArg (fun z => some (Value.int (nI (Prod.snd z)))) (zdr_t h19).symm, rfl, trivial⟩ | exact zG.to (ih (k + 1) (by omega)) (congrArg Prod.fst (zdr_f h19)).symm rfl ⟨rfl, rfl, congrArg (fun z => some (Value.int (nI (Prod.snd z)))) (zdr_f h19).symm, rfl, trivial⟩
      ·
        refine g_aload_n hC d_Q_dropAllOf_22 rfl rfl ?_
        refine g_iload_n hC d_Q_dropAllOf_23 rfl rfl ?_
        refine g_aload_n hC d_Q_dropAllOf_24 rfl rfl ?_
        refine g_getR hC _ 3 1 _ (by decide) rfl rfl fl_Q_9 d_Q_dropAllOf_25 rfl ?_
        refine g_iload_n hC d_Q_dropAllOf_28 rfl rfl ?_
        refine g_iald hC _ _ (k) (by decide) rfl rfl (by omega) (by decide) d_Q_dropAllOf_29 rfl ?_
        refine g_aload_n hC d_Q_dropAllOf_30 rfl rfl ?_
        refine g_getR hC _ 3 2 _ (by decide) rfl rfl fl_Q_15 d_Q_dropAllOf_31 rfl ?_
        refine g_iload_n hC d_Q_dropAllOf_34 rfl rfl ?_
        refine g_iald hC _ _ (k) (by decide) rfl rfl (by omega) (by decide) d_Q_dropAllOf_35 rfl ?_
        refine g_aload_n hC d_Q_dropAllOf_36 rfl rfl ?_
        refine g_getR hC _ 3 3 _ (by decide) rfl rfl fl_Q_18 d_Q_dropAllOf_37 rfl ?_
        refine g_iload_n hC d_Q_dropAllOf_40 rfl rfl ?_
        refine g_iald hC _ _ (k) (by decide) rfl rfl (by omega) (by decide) d_Q_dropAllOf_41 rfl ?_
        refine g_gov hC rfl (z_runV hC (c_Q_setRow l D K q hq _ (by have := zdr_le σ g k; omega) _ _ _ _) yy_Q_setRow yv_Q_25 (by decide) rfl ⟨Nat.le_of_ble_eq_true rfl, Nat.le_of_ble_eq_true rfl⟩ ⟨Nat.zero_le _, Nat.zero_le _⟩ rfl (Nat.le_of_ble_eq_true rfl) d_Q_dropAllOf_42) (fun σ0 q0 => ?_)
        obtain rfl := q0.symm
        refine g_iinc hC (nI ((zdr σ g k).2 + 1)) d_Q_dropAllOf_45 rfl rfl (nI_succ _).symm (by decide) ?_
        refine g_iinc hC (nI (k + 1)) d_Q_dropAllOf_48 rfl rfl (nI_succ _).symm (by decide) ?_
        refine g_goto hC 4 d_Q_dropAllOf_51 rfl ?_
        first | exact zG.to (ih (k + 1) (by omega)) (congrArg Prod.fst (zdr_t h19)).symm rfl ⟨rfl, rfl, congrArg (fun z => some (Value.int (nI (Prod.snd z)))) (zdr_t h19).symm, rfl, trivial⟩ | exact zG.to (ih (k + 1) (by omega)) (congrArg Prod.fst (zdr_f h19)).symm rfl ⟨rfl, rfl, congrArg (fun z => some (Value.int (nI (Prod.snd z)))) (zdr_f h19).symm, rfl, trivial⟩
  refine g_iconst hC (0) d_Q_dropAllOf_0 (by decide) rfl ?_
  refine g_istore_n hC d_Q_dropAllOf_1 rfl (by decide) ?_
  refine g_iconst hC (0) d_Q_dropAllOf_2 (by decide) rfl ?_
  refine g_istore_n hC d_Q_dropAllOf_3 rfl (by decide) ?_
  exact zG.to (J4 n 0 (by omega)) rfl rfl ⟨rfl, rfl, rfl, rfl, trivial⟩
end
section
/-! the verifier's methods -/
def zga (o n : Int32) : Bool := if o = 6 ∨ o = 7 then zin n 4 else if o = 13 then zin n 8 else true
def zrm1 (σ : zm) (x h : Int32) : zm := if σ 7 x.toNatClampNeg = -1 ∧ σ 6 2 < 24 then zu (zu (zu σ 7 x.toNatClampNeg h) 8 (σ 6 2).toNatClampNeg x) 6 2 (σ 6 2 + 1) else σ
def zrc (σ : zm) (wn : Nat) (x h : Int32) : Bool × zm := if zin x (nI wn) then (decide (zrm1 σ x h 7 x.toNatClampNeg = h), zrm1 σ x h) else (false, σ)
theorem zrc_t {σ τ : zm} {wn k : Nat} {x h : Int32} (hz : zin x (nI wn) = true) (hc : x.toNatClampNeg = k) (hτ : zrm1 σ x h = τ) : zrc σ wn x h = (decide (τ 7 k = h), τ) := by
  unfold zrc
  rw [if_pos hz, hc, hτ]
theorem zrm1_off (σ : zm) (x h : Int32) {a : Nat} (ha : a ≠ 6 ∧ a ≠ 7 ∧ a ≠ 8) : zrm1 σ x h a = σ a := by
  unfold zrm1
  split
  · rw [zu_row _ _ ha.1, zu_row _ _ ha.2.2, zu_row _ _ ha.2.1]
  · rfl
theorem zrc_off (σ : zm) (wn : Nat) (x h : Int32) {a : Nat} (ha : a ≠ 6 ∧ a ≠ 7 ∧ a ≠ 8) : (zrc σ wn x h).2 a = σ a := by
  unfold zrc
  split
  · exact zrm1_off σ x h ha
  · rfl
theorem zrc_cn {σ : zm} {wn cn : Nat} {x h : Int32} (hcn : cn ≤ 24) (h62 : σ 6 2 = nI cn) : ∃ c2 : Nat, c2 ≤ 24 ∧ (zrc σ wn x h).2 6 2 = nI c2 := by
  unfold zrc
  split
  · show ∃ c2 : Nat, c2 ≤ 24 ∧ zrm1 σ x h 6 2 = nI c2
    unfold zrm1
    split
    · rename_i hh
      rw [h62] at hh
      have := (nI_ltI (a := cn) (b := 24) (by omega) (by decide)).mp hh.2
      exact ⟨cn + 1, by omega, by rw [zu_eq, h62, nI_1]⟩
    · exact ⟨cn, hcn, h62⟩
  · exact ⟨cn, hcn, h62⟩
def zgx (σ : zm) (wn : Nat) (x n h : Int32) (b g : Bool) : Bool × zm :=
  if (if b then zrc σ wn (x + n) h else (true, σ)).1 then (if g then zrc (if b then zrc σ wn (x + n) h else (true, σ)).2 wn (x + 1) h else (true, (if b then zrc σ wn (x + n) h else (true, σ)).2)) else (false, (if b then zrc σ wn (x + n) h else (true, σ)).2)
theorem zgx_ff {σ : zm} {wn : Nat} {x n h : Int32} : zgx σ wn x n h false false = (true, σ) := rfl
theorem zgx_ft {σ : zm} {wn : Nat} {x n h : Int32} : zgx σ wn x n h false true = zrc σ wn (x + 1) h := rfl
theorem zgx_tF {σ : zm} {wn : Nat} {x n h : Int32} {g : Bool} (e : (zrc σ wn (x + n) h).1 = false) : zgx σ wn x n h true g = (false, (zrc σ wn (x + n) h).2) := by
  unfold zgx
  simp [e]
theorem zgx_tf {σ : zm} {wn : Nat} {x n h : Int32} (e : (zrc σ wn (x + n) h).1 = true) : zgx σ wn x n h true false = (true, (zrc σ wn (x + n) h).2) := by
  unfold zgx
  simp [e]
theorem zgx_tt {σ : zm} {wn : Nat} {x n h : Int32} (e : (zrc σ wn (x + n) h).1 = true) : zgx σ wn x n h true true = zrc (zrc σ wn (x + n) h).2 wn (x + 1) h := by
  unfold zgx
  simp [e]
/-- what a reached word leads to: whether it goes on well, and the verifier's rows behind it -/
def zgw (σ : zm) (i wn k o : Nat) : Bool × zm :=
  if ¬ o < 14 then (false, σ) else if zga (nI o) (σ (zp i + 6) k >>> ((4 : Int32) &&& 31)) = false then (false, σ) else if σ 7 k < zNeed o then (false, σ) else if 6 < σ 7 k - zNeed o + zLeav o then (false, σ)
  else zgx σ wn (nI k) (σ (zp i + 6) k >>> ((4 : Int32) &&& 31)) (σ 7 k - zNeed o + zLeav o) (decide (o = 8 ∨ o = 9)) (decide (o ≠ 0 ∧ o ≠ 8))
theorem zgw_1 {σ : zm} {i wn k o : Nat} (h : ¬ o < 14) : zgw σ i wn k o = (false, σ) := if_pos h
theorem zgw_2 {σ : zm} {i wn k o : Nat} (h : o < 14) (h2 : zga (nI o) (σ (zp i + 6) k >>> ((4 : Int32) &&& 31)) = false) : zgw σ i wn k o = (false, σ) := by
  unfold zgw
  rw [if_neg (fun z => z h), if_pos h2]
theorem zgw_3 {σ : zm} {i wn k o : Nat} (h : o < 14) (h2 : zga (nI o) (σ (zp i + 6) k >>> ((4 : Int32) &&& 31)) = true) (h3 : σ 7 k < zNeed o) : zgw σ i wn k o = (false, σ) := by
  unfold zgw
  rw [if_neg (fun z => z h), if_neg (by rw [h2]; decide), if_pos h3]
theorem zgw_4 {σ : zm} {i wn k o : Nat} (h : o < 14) (h2 : zga (nI o) (σ (zp i + 6) k >>> ((4 : Int32) &&& 31)) = true) (h3 : ¬ σ 7 k < zNeed o) (h4 : 6 < σ 7 k - zNeed o + zLeav o) : zgw σ i wn k o = (false, σ) := by
  unfold zgw
  rw [if_neg (fun z => z h), if_neg (by rw [h2]; decide), if_neg h3, if_pos h4]
theorem zgw_5 {σ : zm} {i wn k o : Nat} (h : o < 14) (h2 : zga (nI o) (σ (zp i + 6) k >>> ((4 : Int32) &&& 31)) = true) (h3 : ¬ σ 7 k < zNeed o) (h4 : ¬ 6 < σ 7 k - zNeed o + zLeav o) : zgw σ i wn k o = zgx σ wn (nI k) (σ (zp i + 6) k >>> ((4 : Int32) &&& 31)) (σ 7 k - zNeed o + zLeav o) (decide (o = 8 ∨ o = 9)) (decide (o ≠ 0 ∧ o ≠ 8)) := by
  unfold zgw
  rw [if_neg (fun z => z h), if_neg (by rw [h2]; decide), if_neg h3, if_neg h4]
set_option maxHeartbeats 4000000 in
set_option maxRecDepth 100000 in
theorem c_V_hasGoodArgument (l : Launch) (D : va_G) (K : Nat → ClassId) (q : Nat → Nat) (hq : zI q) (o n : Int32) (σ : zm) : zMi l y_V_hasGoodArgument b_V_hasGoodArgument 2 (some .boolean) 1 D K q [.int (o), .int (n)] σ (fun r σ' => r = zb (zga o n) ∧ σ' = σ) := by
  refine zMi.of (own := "AppDesk$Verifier") (lv := [(0, .int (o)), (1, .int (n))]) (by decide) rfl hq (Nat.le_of_ble_eq_true rfl) rfl ?_
  intro p e s m below meth c hC hr hlk
  refine g_iload_n hC d_V_hasGoodArgument_0 rfl rfl ?_
  refine g_bipush hC (6) d_V_hasGoodArgument_1 (by decide) rfl ?_
  refine g_icmp_eq hC 12 d_V_hasGoodArgument_3 rfl rfl (fun h3 => ?_) (fun h3 => ?_)
  ·
    refine g_iload_n hC d_V_hasGoodArgument_12 rfl rfl ?_
    refine g_iconst hC (4) d_V_hasGoodArgument_13 (by decide) rfl ?_
    refine g_goi hC rfl (z_runN hC (c_D_isBelow l D K q hq _ _ _) yy_D_isBelow yn_V_47 ⟨Nat.le_of_ble_eq_true rfl, Nat.le_of_ble_eq_true rfl⟩ ⟨Nat.zero_le _, Nat.zero_le _⟩ rfl (Nat.le_of_ble_eq_true rfl) d_V_hasGoodArgument_14) (fun r0 σ0 q0 => ?_)
    obtain ⟨rfl, w0⟩ := q0
    obtain rfl := w0.symm
    exact g_zret hC hr hlk d_V_hasGoodArgument_17 (zb01 _) ⟨by first | (simp [zga, h3]; done) | (simp [zga, h3, h9]; done) | (simp [zga, h3, h9, h21, zb]; done) | (simp [zga, h3, h9, h21, h30, zb]; done), rfl⟩
  ·
    refine g_iload_n hC d_V_hasGoodArgument_6 rfl rfl ?_
    refine g_bipush hC (7) d_V_hasGoodArgument_7 (by decide) rfl ?_
    refine g_icmp_ne hC 18 d_V_hasGoodArgument_9 rfl rfl (fun h9 => ?_) (fun h9 => ?_)
    ·
      refine g_iload_n hC d_V_hasGoodArgument_18 rfl rfl ?_
      refine g_bipush hC (13) d_V_hasGoodArgument_19 (by decide) rfl ?_
      refine g_icmp_ne hC 33 d_V_hasGoodArgument_21 rfl rfl (fun h21 => ?_) (fun h21 => ?_)
      ·
        refine g_iconst hC (1) d_V_hasGoodArgument_33 (by decide) rfl ?_
        refine g_goto hC 38 d_V_hasGoodArgument_34 rfl ?_
        exact g_zret hC hr hlk d_V_hasGoodArgument_38 (Or.inr rfl) ⟨by first | (simp [zga, h3]; done) | (simp [zga, h3, h9]; done) | (simp [zga, h3, h9, h21, zb]; done) | (simp [zga, h3, h9, h21, h30, zb]; done), rfl⟩
      ·
        refine g_iload_n hC d_V_hasGoodArgument_24 rfl rfl ?_
        refine g_bipush hC (8) d_V_hasGoodArgument_25 (by decide) rfl ?_
        refine g_goi hC rfl (z_runN hC (c_D_isBelow l D K q hq _ _ _) yy_D_isBelow yn_V_47 ⟨Nat.le_of_ble_eq_true rfl, Nat.le_of_ble_eq_true rfl⟩ ⟨Nat.zero_le _, Nat.zero_le _⟩ rfl (Nat.le_of_ble_eq_true rfl) d_V_hasGoodArgument_27) (fun r1 σ1 q1 => ?_)
        obtain ⟨rfl, w1⟩ := q1
        obtain rfl := w1.symm
        refine g_ifeq_b hC 37 d_V_hasGoodArgument_30 rfl rfl (fun h30 => ?_) (fun h30 => ?_)
        ·
          refine g_iconst hC (0) d_V_hasGoodArgument_37 (by decide) rfl ?_
          exact g_zret hC hr hlk d_V_hasGoodArgument_38 (Or.inl rfl) ⟨by first | (simp [zga, h3]; done) | (simp [zga, h3, h9]; done) | (simp [zga, h3, h9, h21, zb]; done) | (simp [zga, h3, h9, h21, h30, zb]; done), rfl⟩
        ·
          refine g_iconst hC (1) d_V_hasGoodArgument_33 (by decide) rfl ?_
          refine g_goto hC 38 d_V_hasGoodArgument_34 rfl ?_
          exact g_zret hC hr hlk d_V_hasGoodArgument_38 (Or.inr rfl) ⟨by first | (simp [zga, h3]; done) | (simp [zga, h3, h9]; done) | (simp [zga, h3, h9, h21, zb]; done) | (simp [zga, h3, h9, h21, h30, zb]; done), rfl⟩
    ·
      refine g_iload_n hC d_V_hasGoodArgument_12 rfl rfl ?_
      refine g_iconst hC (4) d_V_hasGoodArgument_13 (by decide) rfl ?_
      refine g_goi hC rfl (z_runN hC (c_D_isBelow l D K q hq _ _ _) yy_D_isBelow yn_V_47 ⟨Nat.le_of_ble_eq_true rfl, Nat.le_of_ble_eq_true rfl⟩ ⟨Nat.zero_le _, Nat.zero_le _⟩ rfl (Nat.le_of_ble_eq_true rfl) d_V_hasGoodArgument_14) (fun r2 σ2 q2 => ?_)
      obtain ⟨rfl, w2⟩ := q2
      obtain rfl := w2.symm
      exact g_zret hC hr hlk d_V_hasGoodArgument_17 (zb01 _) ⟨by first | (simp [zga, h3]; done) | (simp [zga, h3, h9]; done) | (simp [zga, h3, h9, h21, zb]; done) | (simp [zga, h3, h9, h21, h30, zb]; done), rfl⟩
set_option maxHeartbeats 4000000 in
set_option maxRecDepth 100000 in
theorem c_V_reach (l : Launch) (D : va_G) (K : Nat → ClassId) (q : Nat → Nat) (hq : zI q) (i : Nat) (hi : i < 9) (x h0 : Int32) (wn cn : Nat) (hwn : wn ≤ 24) (hcn : cn ≤ 24) (σ : zm) (h11 : σ (zp i) 11 = nI wn) (h62 : σ 6 2 = nI cn) : zMi l y_V_reach b_V_reach 4 (some .boolean) 1 D K q [.ref (q (6)), .ref (q (zp i)), .int (x), .int (h0)] σ (fun r σ' => r = zb (zrc σ wn x h0).1 ∧ σ' = (zrc σ wn x h0).2) := by
  refine zMi.of (own := "AppDesk$Verifier") (lv := [(0, .ref (q (6))), (1, .ref (q (zp i))), (2, .int (x)), (3, .int (h0))]) (by decide) rfl hq (Nat.le_of_ble_eq_true rfl) rfl ?_
  intro p e s m below meth c hC hr hlk
  have J59 : ∀ (k : Nat) (hk : k < wn) (hx : x = nI k) (hc : x.toNatClampNeg = k) (hz0 : zin x (nI wn) = true) (τ : zm) (hτ : zrm1 σ x h0 = τ), zG p l e (zrm 1) s m ([.ref (q (6)), .ref (q (zp i)), .int (x), .int (h0)] : List Value).toArray below meth c D K q (zA q) 4 0 0 (MQ below (va_Qi (fun r σ' => r = zb (zrc σ wn x h0).1 ∧ σ' = (zrc σ wn x h0).2) (zO D K q) (zA q)) ([.ref (q (6)), .ref (q (zp i)), .int (x), .int (h0)] : List Value).toArray s 0 0 (zA q)) τ 59 [(0, .ref (q (6))), (1, .ref (q (zp i))), (2, .int (x)), (3, .int (h0))] [] := by
    intro k hk hx hc hz0 τ hτ
    refine g_aload_n hC d_V_reach_59 rfl rfl ?_
    refine g_getR hC _ 4 0 _ (by decide) rfl rfl fl_V_9 d_V_reach_60 rfl ?_
    refine g_iload_n hC d_V_reach_63 rfl rfl ?_
    refine g_iald hC _ _ k (by decide) rfl hx (by show k < 24; omega) (by decide) d_V_reach_64 rfl ?_
    refine g_iload_n hC d_V_reach_65 rfl rfl ?_
    refine g_icmp_ne hC 73 d_V_reach_66 rfl rfl (fun h66 => ?_) (fun h66 => ?_)
    ·
      refine g_iconst hC (0) d_V_reach_73 (by decide) rfl ?_
      exact g_zret hC hr hlk d_V_reach_74 (Or.inl rfl) ⟨by rw [zrc_t hz0 hc hτ]; first | (rw [decide_eq_true h66]; rfl) | (rw [decide_eq_false h66]; rfl), by rw [zrc_t hz0 hc hτ]⟩
    ·
      refine g_iconst hC (1) d_V_reach_69 (by decide) rfl ?_
      refine g_goto hC 74 d_V_reach_70 rfl ?_
      exact g_zret hC hr hlk d_V_reach_74 (Or.inr rfl) ⟨by rw [zrc_t hz0 hc hτ]; first | (rw [decide_eq_true h66]; rfl) | (rw [decide_eq_false h66]; rfl), by rw [zrc_t hz0 hc hτ]⟩
  refine g_iload_n hC d_V_reach_0 rfl rfl ?_
  refine g_aload_n hC d_V_reach_1 rfl rfl ?_
  refine g_getV hC _ 1 11 (nI wn) (h11) (zp_lt hi) (zS_p hi) rfl fl_V_44 d_V_reach_2 rfl ?_
  refine g_goi hC rfl (z_runN hC (c_D_isBelow l D K q hq _ _ _) yy_D_isBelow yn_V_47 ⟨Nat.le_of_ble_eq_true rfl, Nat.le_of_ble_eq_true rfl⟩ ⟨Nat.zero_le _, Nat.zero_le _⟩ rfl (Nat.le_of_ble_eq_true rfl) d_V_reach_5) (fun r0 σ0 q0 => ?_)
  obtain ⟨rfl, w0⟩ := q0
  obtain rfl := w0.symm
  refine g_ifne_b hC 13 d_V_reach_8 rfl rfl (fun h8 => ?_) (fun h8 => ?_)
  ·
    obtain ⟨k, hk, hx⟩ := zin_of (n := wn) (by omega) h8
    have hc : x.toNatClampNeg = k := by rw [hx]; exact nI_clamp (by omega)
    refine g_aload_n hC d_V_reach_13 rfl rfl ?_
    refine g_getR hC _ 4 0 _ (by decide) rfl rfl fl_V_9 d_V_reach_14 rfl ?_
    refine g_iload_n hC d_V_reach_17 rfl rfl ?_
    refine g_iald hC _ _ k (by decide) rfl hx (by show k < 24; omega) (by decide) d_V_reach_18 rfl ?_
    refine g_iconst hC (-1) d_V_reach_19 (by decide) rfl ?_
    refine g_icmp_ne hC 59 d_V_reach_20 rfl rfl (fun h20 => ?_) (fun h20 => ?_)
    ·
      exact zG.to (J59 k hk hx hc h8 _ (by first | (unfold zrm1; rw [hc, if_neg (fun z => h20 z.1)]; done) | (unfold zrm1; rw [if_neg (fun z => absurd h29 (Int32.not_le.mpr (h62 ▸ z.2)))]; done) | (unfold zrm1; rw [hc, h62, nI_clamp (by omega), if_pos ⟨h20, nI_lt (a := cn) (b := 24) hlt (by decide)⟩, nI_1]; done))) rfl rfl ⟨rfl, rfl, rfl, rfl, trivial⟩
    ·
      refine g_aload_n hC d_V_reach_23 rfl rfl ?_
      refine g_getV hC _ 4 2 (nI cn) (h62) (by decide) rfl rfl fl_V_24 d_V_reach_24 rfl ?_
      refine g_bipush hC (24) d_V_reach_27 (by decide) rfl ?_
      refine g_icmp_ge hC 59 d_V_reach_29 rfl rfl (fun h29 => ?_) (fun h29 => ?_)
      ·
        exact zG.to (J59 k hk hx hc h8 _ (by first | (unfold zrm1; rw [hc, if_neg (fun z => h20 z.1)]; done) | (unfold zrm1; rw [if_neg (fun z => absurd h29 (Int32.not_le.mpr (h62 ▸ z.2)))]; done) | (unfold zrm1; rw [hc, h62, nI_clamp (by omega), if_pos ⟨h20, nI_lt (a := cn) (b := 24) hlt (by decide)⟩, nI_1]; done))) rfl rfl ⟨rfl, rfl, rfl, rfl, trivial⟩
      ·
        have hlt : cn < 24 := Nat.lt_of_not_le (fun z => h29 (nI_le (a := 24) (b := cn) z (by omega)))
        refine g_aload_n hC d_V_reach_32 rfl rfl ?_
        refine g_getR hC _ 4 0 _ (by decide) rfl rfl fl_V_9 d_V_reach_33 rfl ?_
        refine g_iload_n hC d_V_reach_36 rfl rfl ?_
        refine g_iload_n hC d_V_reach_37 rfl rfl ?_
        refine g_iast hC _ _ k (by decide) rfl hx (by show k < 24; omega) (by decide) d_V_reach_38 rfl ?_
        refine g_aload_n hC d_V_reach_39 rfl rfl ?_
        refine g_getR hC _ 4 1 _ (by decide) rfl rfl fl_V_15 d_V_reach_40 rfl ?_
        refine g_aload_n hC d_V_reach_43 rfl rfl ?_
        refine g_getV hC _ 4 2 (nI cn) (by rw [zu_row _ _ (by decide)]; exact h62) (by decide) rfl rfl fl_V_24 d_V_reach_44 rfl ?_
        refine g_iload_n hC d_V_reach_47 rfl rfl ?_
        refine g_iast hC _ _ cn (by decide) rfl rfl hlt (by decide) d_V_reach_48 rfl ?_
        refine g_aload_n hC d_V_reach_49 rfl rfl ?_
        refine g_dup hC d_V_reach_50 rfl rfl ?_
        refine g_getV hC _ 4 2 (nI cn) (by rw [zu_row _ _ (by decide), zu_row _ _ (by decide)]; exact h62) (by decide) rfl rfl fl_V_24 d_V_reach_51 rfl ?_
        refine g_iconst hC (1) d_V_reach_54 (by decide) rfl ?_
        refine g_iadd hC d_V_reach_55 rfl ?_
        refine g_top hC (nI (cn + 1)) (nI_1 cn) ?_
        refine g_putI hC _ 4 2 (by decide) rfl rfl fp_V_24 d_V_reach_56 rfl ?_
        exact zG.to (J59 k hk hx hc h8 _ (by first | (unfold zrm1; rw [hc, if_neg (fun z => h20 z.1)]; done) | (unfold zrm1; rw [if_neg (fun z => absurd h29 (Int32.not_le.mpr (h62 ▸ z.2)))]; done) | (unfold zrm1; rw [hc, h62, nI_clamp (by omega), if_pos ⟨h20, nI_lt (a := cn) (b := 24) hlt (by decide)⟩, nI_1]; done))) rfl rfl ⟨rfl, rfl, rfl, rfl, trivial⟩
  ·
    have hz : zrc σ wn x h0 = (false, σ) := if_neg (zif_f h8)
    refine g_iconst hC (0) d_V_reach_11 (by decide) rfl ?_
    exact g_zret hC hr hlk d_V_reach_12 (Or.inl rfl) ⟨by rw [hz]; rfl, by rw [hz]⟩
set_option maxHeartbeats 4000000 in
set_option maxRecDepth 100000 in
theorem c_V_goesOnWell (l : Launch) (D : va_G) (K : Nat → ClassId) (q : Nat → Nat) (hq : zI q) (i : Nat) (hi : i < 9) (k wn cn o : Nat) (hk : k < wn) (hwn : wn ≤ 24) (hcn : cn ≤ 24) (ho : o < 16) (σ : zm) (hoe : σ (zp i + 6) k &&& 15 = nI o) (h11 : σ (zp i) 11 = nI wn) (h62 : σ 6 2 = nI cn) : zMi l y_V_goesOnWell b_V_goesOnWell 8 (some .boolean) 2 D K q [.ref (q (6)), .ref (q (zp i)), .int (nI k)] σ (fun r σ' => r = zb (zgw σ i wn k o).1 ∧ σ' = (zgw σ i wn k o).2) := by
  refine zMi.of (own := "AppDesk$Verifier") (lv := [(0, .ref (q (6))), (1, .ref (q (zp i))), (2, .int (nI k))]) (by decide) rfl hq (Nat.le_of_ble_eq_true rfl) rfl ?_
  intro p e s m below meth c hC hr hlk
  have J115 : ∀ (b g : Bool) (hb : b = decide (o = 8 ∨ o = 9)) (hg : g = decide (o ≠ 0 ∧ o ≠ 8)) (ho14 : o < 14) (e1 : zgw σ i wn k o = zgx σ wn (nI k) (σ (zp i + 6) k >>> ((4 : Int32) &&& 31)) (σ 7 k - zNeed o + zLeav o) (decide (o = 8 ∨ o = 9)) (decide (o ≠ 0 ∧ o ≠ 8))), zG p l e (zrm 2) s m ([.ref (q (6)), .ref (q (zp i)), .int (nI k)] : List Value).toArray below meth c D K q (zA q) 8 0 0 (MQ below (va_Qi (fun r σ' => r = zb (zgw σ i wn k o).1 ∧ σ' = (zgw σ i wn k o).2) (zO D K q) (zA q)) ([.ref (q (6)), .ref (q (zp i)), .int (nI k)] : List Value).toArray s 0 0 (zA q)) σ 115 [(0, .ref (q (6))), (1, .ref (q (zp i))), (2, .int (nI k)), (3, .int (nI o)), (4, .int ((σ (zp i + 6) k >>> ((4 : Int32) &&& 31)))), (5, .int ((σ 7 k - zNeed o + zLeav o))), (6, .int (zb b))] [.int (zb g)] := by
    intro b g hb hg ho14 e1
    refine g_istore hC d_V_goesOnWell_115 rfl (by decide) ?_
    refine g_iload hC d_V_goesOnWell_117 rfl rfl ?_
    refine g_ifeq_b hC 136 d_V_goesOnWell_119 rfl rfl (fun h119 => ?_) (fun h119 => ?_)
    ·
      refine g_iload hC d_V_goesOnWell_136 rfl rfl ?_
      refine g_ifeq_b hC 154 d_V_goesOnWell_138 rfl rfl (fun h138 => ?_) (fun h138 => ?_)
      ·
        refine g_iconst hC (1) d_V_goesOnWell_154 (by decide) rfl ?_
        refine g_goto hC 159 d_V_goesOnWell_155 rfl ?_
        exact g_zret hC hr hlk d_V_goesOnWell_159 (Or.inr rfl) ⟨by first | (rw [e1, ← hb, ← hg, h119, h138, zgx_ff]; try rfl; done) | (rw [e1, ← hb, ← hg, h119, h138, zgx_ft, h151]; try rfl; done) | (rw [e1, ← hb, h119, zgx_tF h133]; try rfl; done) | (rw [e1, ← hb, ← hg, h119, h138, zgx_tf h133]; try rfl; done) | (rw [e1, ← hb, ← hg, h119, h138, zgx_tt h133, h151]; try rfl; done), by first | (rw [e1, ← hb, ← hg, h119, h138, zgx_ff]; try rfl; done) | (rw [e1, ← hb, ← hg, h119, h138, zgx_ft]; try rfl; done) | (rw [e1, ← hb, h119, zgx_tF h133]; try rfl; done) | (rw [e1, ← hb, ← hg, h119, h138, zgx_tf h133]; try rfl; done) | (rw [e1, ← hb, ← hg, h119, h138, zgx_tt h133]; try rfl; done)⟩
      ·
        refine g_aload_n hC d_V_goesOnWell_141 rfl rfl ?_
        refine g_aload_n hC d_V_goesOnWell_142 rfl rfl ?_
        refine g_iload_n hC d_V_goesOnWell_143 rfl rfl ?_
        refine g_iconst hC (1) d_V_goesOnWell_144 (by decide) rfl ?_
        refine g_iadd hC d_V_goesOnWell_145 rfl ?_
        refine g_iload hC d_V_goesOnWell_146 rfl rfl ?_
        refine g_goi hC rfl (z_runV hC (c_V_reach l D K q hq _ hi _ _ wn cn hwn hcn _ h11 h62) yy_V_reach yv_V_36 (by decide) rfl ⟨Nat.le_of_ble_eq_true rfl, Nat.le_of_ble_eq_true rfl⟩ ⟨Nat.zero_le _, Nat.zero_le _⟩ rfl (Nat.le_of_ble_eq_true rfl) d_V_goesOnWell_148) (fun r0 σ0 q0 => ?_)
        obtain ⟨rfl, w0⟩ := q0
        obtain rfl := w0.symm
        refine g_ifeq_b hC 158 d_V_goesOnWell_151 rfl rfl (fun h151 => ?_) (fun h151 => ?_)
        ·
          refine g_iconst hC (0) d_V_goesOnWell_158 (by decide) rfl ?_
          exact g_zret hC hr hlk d_V_goesOnWell_159 (Or.inl rfl) ⟨by first | (rw [e1, ← hb, ← hg, h119, h138, zgx_ff]; try rfl; done) | (rw [e1, ← hb, ← hg, h119, h138, zgx_ft, h151]; try rfl; done) | (rw [e1, ← hb, h119, zgx_tF h133]; try rfl; done) | (rw [e1, ← hb, ← hg, h119, h138, zgx_tf h133]; try rfl; done) | (rw [e1, ← hb, ← hg, h119, h138, zgx_tt h133, h151]; try rfl; done), by first | (rw [e1, ← hb, ← hg, h119, h138, zgx_ff]; try rfl; done) | (rw [e1, ← hb, ← hg, h119, h138, zgx_ft]; try rfl; done) | (rw [e1, ← hb, h119, zgx_tF h133]; try rfl; done) | (rw [e1, ← hb, ← hg, h119, h138, zgx_tf h133]; try rfl; done) | (rw [e1, ← hb, ← hg, h119, h138, zgx_tt h133]; try rfl; done)⟩
        ·
          refine g_iconst hC (1) d_V_goesOnWell_154 (by decide) rfl ?_
          refine g_goto hC 159 d_V_goesOnWell_155 rfl ?_
          exact g_zret hC hr hlk d_V_goesOnWell_159 (Or.inr rfl) ⟨by first | (rw [e1, ← hb, ← hg, h119, h138, zgx_ff]; try rfl; done) | (rw [e1, ← hb, ← hg, h119, h138, zgx_ft, h151]; try rfl; done) | (rw [e1, ← hb, h119, zgx_tF h133]; try rfl; done) | (rw [e1, ← hb, ← hg, h119, h138, zgx_tf h133]; try rfl; done) | (rw [e1, ← hb, ← hg, h119, h138, zgx_tt h133, h151]; try rfl; done), by first | (rw [e1, ← hb, ← hg, h119, h138, zgx_ff]; try rfl; done) | (rw [e1, ← hb, ← hg, h119, h138, zgx_ft]; try rfl; done) | (rw [e1, ← hb, h119, zgx_tF h133]; try rfl; done) | (rw [e1, ← hb, ← hg, h119, h138, zgx_tf h133]; try rfl; done) | (rw [e1, ← hb, ← hg, h119, h138, zgx_tt h133]; try rfl; done)⟩
    ·
      refine g_aload_n hC d_V_goesOnWell_122 rfl rfl ?_
      refine g_aload_n hC d_V_goesOnWell_123 rfl rfl ?_
      refine g_iload_n hC d_V_goesOnWell_124 rfl rfl ?_
      refine g_iload hC d_V_goesOnWell_125 rfl rfl ?_
      refine g_iadd hC d_V_goesOnWell_127 rfl ?_
      refine g_iload hC d_V_goesOnWell_128 rfl rfl ?_
      refine g_goi hC rfl (z_runV hC (c_V_reach l D K q hq _ hi _ _ wn cn hwn hcn _ h11 h62) yy_V_reach yv_V_36 (by decide) rfl ⟨Nat.le_of_ble_eq_true rfl, Nat.le_of_ble_eq_true rfl⟩ ⟨Nat.zero_le _, Nat.zero_le _⟩ rfl (Nat.le_of_ble_eq_true rfl) d_V_goesOnWell_130) (fun r1 σ1 q1 => ?_)
      obtain ⟨rfl, w1⟩ := q1
      obtain rfl := w1.symm
      obtain ⟨cn, hcn, h62⟩ := zrc_cn (wn := wn) (x := (nI k + (σ (zp i + 6) k >>> ((4 : Int32) &&& 31)))) (h := (σ 7 k - zNeed o + zLeav o)) hcn h62
      have h11 : (zrc σ wn (nI k + (σ (zp i + 6) k >>> ((4 : Int32) &&& 31))) (σ 7 k - zNeed o + zLeav o)).2 (zp i) 11 = nI wn := by rw [zrc_off _ _ _ _ (by unfold zp; omega)]; exact h11
      refine g_ifeq_b hC 158 d_V_goesOnWell_133 rfl rfl (fun h133 => ?_) (fun h133 => ?_)
      ·
        refine g_iconst hC (0) d_V_goesOnWell_158 (by decide) rfl ?_
        exact g_zret hC hr hlk d_V_goesOnWell_159 (Or.inl rfl) ⟨by first | (rw [e1, ← hb, ← hg, h119, h138, zgx_ff]; try rfl; done) | (rw [e1, ← hb, ← hg, h119, h138, zgx_ft, h151]; try rfl; done) | (rw [e1, ← hb, h119, zgx_tF h133]; try rfl; done) | (rw [e1, ← hb, ← hg, h119, h138, zgx_tf h133]; try rfl; done) | (rw [e1, ← hb, ← hg, h119, h138, zgx_tt h133, h151]; try rfl; done), by first | (rw [e1, ← hb, ← hg, h119, h138, zgx_ff]; try rfl; done) | (rw [e1, ← hb, ← hg, h119, h138, zgx_ft]; try rfl; done) | (rw [e1, ← hb, h119, zgx_tF h133]; try rfl; done) | (rw [e1, ← hb, ← hg, h119, h138, zgx_tf h133]; try rfl; done) | (rw [e1, ← hb, ← hg, h119, h138, zgx_tt h133]; try rfl; done)⟩
      ·
        refine g_iload hC d_V_goesOnWell_136 rfl rfl ?_
        refine g_ifeq_b hC 154 d_V_goesOnWell_138 rfl rfl (fun h138 => ?_) (fun h138 => ?_)
        ·
          refine g_iconst hC (1) d_V_goesOnWell_154 (by decide) rfl ?_
          refine g_goto hC 159 d_V_goesOnWell_155 rfl ?_
          exact g_zret hC hr hlk d_V_goesOnWell_159 (Or.inr rfl) ⟨by first | (rw [e1, ← hb, ← hg, h119, h138, zgx_ff]; try rfl; done) | (rw [e1, ← hb, ← hg, h119, h138, zgx_ft, h151]; try rfl; done) | (rw [e1, ← hb, h119, zgx_tF h133]; try rfl; done) | (rw [e1, ← hb, ← hg, h119, h138, zgx_tf h133]; try rfl; done) | (rw [e1, ← hb, ← hg, h119, h138, zgx_tt h133, h151]; try rfl; done), by first | (rw [e1, ← hb, ← hg, h119, h138, zgx_ff]; try rfl; done) | (rw [e1, ← hb, ← hg, h119, h138, zgx_ft]; try rfl; done) | (rw [e1, ← hb, h119, zgx_tF h133]; try rfl; done) | (rw [e1, ← hb, ← hg, h119, h138, zgx_tf h133]; try rfl; done) | (rw [e1, ← hb, ← hg, h119, h138, zgx_tt h133]; try rfl; done)⟩
        ·
          refine g_aload_n hC d_V_goesOnWell_141 rfl rfl ?_
          refine g_aload_n hC d_V_goesOnWell_142 rfl rfl ?_
          refine g_iload_n hC d_V_goesOnWell_143 rfl rfl ?_
          refine g_iconst hC (1) d_V_goesOnWell_144 (by decide) rfl ?_
          refine g_iadd hC d_V_goesOnWell_145 rfl ?_
          refine g_iload hC d_V_goesOnWell_146 rfl rfl ?_
          refine g_goi hC rfl (z_runV hC (c_V_reach l D K q hq _ hi _ _ wn cn hwn hcn _ h11 h62) yy_V_reach yv_V_36 (by decide) rfl ⟨Nat.le_of_ble_eq_true rfl, Nat.le_of_ble_eq_true rfl⟩ ⟨Nat.zero_le _, Nat.zero_le _⟩ rfl (Nat.le_of_ble_eq_true rfl) d_V_goesOnWell_148) (fun r2 σ2 q2 => ?_)
          obtain ⟨rfl, w2⟩ := q2
          obtain rfl := w2.symm
          refine g_ifeq_b hC 158 d_V_goesOnWell_151 rfl rfl (fun h151 => ?_) (fun h151 => ?_)
          ·
            refine g_iconst hC (0) d_V_goesOnWell_158 (by decide) rfl ?_
            exact g_zret hC hr hlk d_V_goesOnWell_159 (Or.inl rfl) ⟨by first | (rw [e1, ← hb, ← hg, h119, h138, zgx_ff]; try rfl; done) | (rw [e1, ← hb, ← hg, h119, h138, zgx_ft, h151]; try rfl; done) | (rw [e1, ← hb, h119, zgx_tF h133]; try rfl; done) | (rw [e1, ← hb, ← hg, h119, h138, zgx_tf h133]; try rfl; done) | (rw [e1, ← hb, ← hg, h119, h138, zgx_tt h133, h151]; try rfl; done), by first | (rw [e1, ← hb, ← hg, h119, h138, zgx_ff]; try rfl; done) | (rw [e1, ← hb, ← hg, h119, h138, zgx_ft]; try rfl; done) | (rw [e1, ← hb, h119, zgx_tF h133]; try rfl; done) | (rw [e1, ← hb, ← hg, h119, h138, zgx_tf h133]; try rfl; done) | (rw [e1, ← hb, ← hg, h119, h138, zgx_tt h133]; try rfl; done)⟩
          ·
            refine g_iconst hC (1) d_V_goesOnWell_154 (by decide) rfl ?_
            refine g_goto hC 159 d_V_goesOnWell_155 rfl ?_
            exact g_zret hC hr hlk d_V_goesOnWell_159 (Or.inr rfl) ⟨by first | (rw [e1, ← hb, ← hg, h119, h138, zgx_ff]; try rfl; done) | (rw [e1, ← hb, ← hg, h119, h138, zgx_ft, h151]; try rfl; done) | (rw [e1, ← hb, h119, zgx_tF h133]; try rfl; done) | (rw [e1, ← hb, ← hg, h119, h138, zgx_tf h133]; try rfl; done) | (rw [e1, ← hb, ← hg, h119, h138, zgx_tt h133, h151]; try rfl; done), by first | (rw [e1, ← hb, ← hg, h119, h138, zgx_ff]; try rfl; done) | (rw [e1, ← hb, ← hg, h119, h138, zgx_ft]; try rfl; done) | (rw [e1, ← hb, h119, zgx_tF h133]; try rfl; done) | (rw [e1, ← hb, ← hg, h119, h138, zgx_tf h133]; try rfl; done) | (rw [e1, ← hb, ← hg, h119, h138, zgx_tt h133]; try rfl; done)⟩
  have J98 : ∀ (b : Bool) (hb : b = decide (o = 8 ∨ o = 9)) (ho14 : o < 14) (e1 : zgw σ i wn k o = zgx σ wn (nI k) (σ (zp i + 6) k >>> ((4 : Int32) &&& 31)) (σ 7 k - zNeed o + zLeav o) (decide (o = 8 ∨ o = 9)) (decide (o ≠ 0 ∧ o ≠ 8))), zG p l e (zrm 2) s m ([.ref (q (6)), .ref (q (zp i)), .int (nI k)] : List Value).toArray below meth c D K q (zA q) 8 0 0 (MQ below (va_Qi (fun r σ' => r = zb (zgw σ i wn k o).1 ∧ σ' = (zgw σ i wn k o).2) (zO D K q) (zA q)) ([.ref (q (6)), .ref (q (zp i)), .int (nI k)] : List Value).toArray s 0 0 (zA q)) σ 98 [(0, .ref (q (6))), (1, .ref (q (zp i))), (2, .int (nI k)), (3, .int (nI o)), (4, .int ((σ (zp i + 6) k >>> ((4 : Int32) &&& 31)))), (5, .int ((σ 7 k - zNeed o + zLeav o)))] [.int (zb b)] := by
    intro b hb ho14 e1
    refine g_istore hC d_V_goesOnWell_98 rfl (by decide) ?_
    refine g_iload_n hC d_V_goesOnWell_100 rfl rfl ?_
    refine g_if_eq hC 114 d_V_goesOnWell_101 rfl rfl (fun h101 => ?_) (fun h101 => ?_)
    ·
      refine g_iconst hC (0) d_V_goesOnWell_114 (by decide) rfl ?_
      exact zG.to (J115 b false hb (by first | (have z8 := (nI_eq (a := o) (b := 0) (by omega) (by decide)).mp h101; rw [z8]; rfl) | (have z9 := (nI_eq (a := o) (b := 8) (by omega) (by decide)).mp h107; rw [z9]; rfl) | (have z8 : ¬ o = 0 := fun z => h101 (by rw [z]; rfl); have z9 : ¬ o = 8 := fun z => h107 (by rw [z]; rfl); simp [z8, z9]; done)) ho14 e1) rfl rfl ⟨rfl, rfl, rfl, rfl, rfl, rfl, rfl, trivial⟩
    ·
      refine g_iload_n hC d_V_goesOnWell_104 rfl rfl ?_
      refine g_bipush hC (8) d_V_goesOnWell_105 (by decide) rfl ?_
      refine g_icmp_eq hC 114 d_V_goesOnWell_107 rfl rfl (fun h107 => ?_) (fun h107 => ?_)
      ·
        refine g_iconst hC (0) d_V_goesOnWell_114 (by decide) rfl ?_
        exact zG.to (J115 b false hb (by first | (have z8 := (nI_eq (a := o) (b := 0) (by omega) (by decide)).mp h101; rw [z8]; rfl) | (have z9 := (nI_eq (a := o) (b := 8) (by omega) (by decide)).mp h107; rw [z9]; rfl) | (have z8 : ¬ o = 0 := fun z => h101 (by rw [z]; rfl); have z9 : ¬ o = 8 := fun z => h107 (by rw [z]; rfl); simp [z8, z9]; done)) ho14 e1) rfl rfl ⟨rfl, rfl, rfl, rfl, rfl, rfl, rfl, trivial⟩
      ·
        refine g_iconst hC (1) d_V_goesOnWell_110 (by decide) rfl ?_
        refine g_goto hC 115 d_V_goesOnWell_111 rfl ?_
        exact zG.to (J115 b true hb (by first | (have z8 := (nI_eq (a := o) (b := 0) (by omega) (by decide)).mp h101; rw [z8]; rfl) | (have z9 := (nI_eq (a := o) (b := 8) (by omega) (by decide)).mp h107; rw [z9]; rfl) | (have z8 : ¬ o = 0 := fun z => h101 (by rw [z]; rfl); have z9 : ¬ o = 8 := fun z => h107 (by rw [z]; rfl); simp [z8, z9]; done)) ho14 e1) rfl rfl ⟨rfl, rfl, rfl, rfl, rfl, rfl, rfl, trivial⟩
  refine g_aload_n hC d_V_goesOnWell_0 rfl rfl ?_
  refine g_getR hC _ 1 12 _ (zp_lt hi) (zS_p hi) rfl fl_V_51 d_V_goesOnWell_1 rfl ?_
  refine g_iload_n hC d_V_goesOnWell_4 rfl rfl ?_
  refine g_iald hC _ _ k (zp_lt' hi 6 (by decide)) (zS_pr hi 6 (by decide)) rfl (by show k < 24; omega) (by decide) d_V_goesOnWell_5 rfl ?_
  refine g_goi hC rfl (z_runN hC (c_D_operationOf l D K q hq _ _) yy_D_operationOf yn_V_54 ⟨Nat.le_of_ble_eq_true rfl, Nat.le_of_ble_eq_true rfl⟩ ⟨Nat.zero_le _, Nat.zero_le _⟩ rfl (Nat.le_of_ble_eq_true rfl) d_V_goesOnWell_6) (fun r3 σ3 q3 => ?_)
  obtain ⟨rfl, w3⟩ := q3
  obtain rfl := w3.symm
  refine g_top hC (nI o) (hoe) ?_
  refine g_istore_n hC d_V_goesOnWell_9 rfl (by decide) ?_
  refine g_aload_n hC d_V_goesOnWell_10 rfl rfl ?_
  refine g_getR hC _ 1 12 _ (zp_lt hi) (zS_p hi) rfl fl_V_51 d_V_goesOnWell_11 rfl ?_
  refine g_iload_n hC d_V_goesOnWell_14 rfl rfl ?_
  refine g_iald hC _ _ k (zp_lt' hi 6 (by decide)) (zS_pr hi 6 (by decide)) rfl (by show k < 24; omega) (by decide) d_V_goesOnWell_15 rfl ?_
  refine g_goi hC rfl (z_runN hC (c_D_argumentOf l D K q hq _ _) yy_D_argumentOf yn_V_58 ⟨Nat.le_of_ble_eq_true rfl, Nat.le_of_ble_eq_true rfl⟩ ⟨Nat.zero_le _, Nat.zero_le _⟩ rfl (Nat.le_of_ble_eq_true rfl) d_V_goesOnWell_16) (fun r4 σ4 q4 => ?_)
  obtain ⟨rfl, w4⟩ := q4
  obtain rfl := w4.symm
  refine g_istore hC d_V_goesOnWell_19 rfl (by decide) ?_
  refine g_iload_n hC d_V_goesOnWell_21 rfl rfl ?_
  refine g_bipush hC (14) d_V_goesOnWell_22 (by decide) rfl ?_
  refine g_icmp_ge hC 50 d_V_goesOnWell_24 rfl rfl (fun h24 => ?_) (fun h24 => ?_)
  ·
    have e0 : zgw σ i wn k o = (false, σ) := by first | (exact zgw_1 (fun z => absurd h24 (nI_ge (a := o) (b := 14) z (by decide)))) | (exact zgw_2 ho14 h33) | (exact zgw_3 ho14 h33 (Int32.not_le.mp h47))
    refine g_iconst hC (0) d_V_goesOnWell_50 (by decide) rfl ?_
    exact g_zret hC hr hlk d_V_goesOnWell_51 (Or.inl rfl) ⟨by rw [e0]; rfl, by rw [e0]⟩
  ·
    have ho14 : o < 14 := Nat.lt_of_not_le (fun z => h24 (nI_le (a := 14) (b := o) z (by omega)))
    refine g_iload_n hC d_V_goesOnWell_27 rfl rfl ?_
    refine g_iload hC d_V_goesOnWell_28 rfl rfl ?_
    refine g_goi hC rfl (z_runS hC (c_V_hasGoodArgument l D K q hq _ _ _) yy_V_hasGoodArgument ys_V_61 ⟨Nat.le_of_ble_eq_true rfl, Nat.le_of_ble_eq_true rfl⟩ ⟨Nat.zero_le _, Nat.zero_le _⟩ rfl (Nat.le_of_ble_eq_true rfl) d_V_goesOnWell_30) (fun r5 σ5 q5 => ?_)
    obtain ⟨rfl, w5⟩ := q5
    obtain rfl := w5.symm
    refine g_ifeq_b hC 50 d_V_goesOnWell_33 rfl rfl (fun h33 => ?_) (fun h33 => ?_)
    ·
      have e0 : zgw σ i wn k o = (false, σ) := by first | (exact zgw_1 (fun z => absurd h24 (nI_ge (a := o) (b := 14) z (by decide)))) | (exact zgw_2 ho14 h33) | (exact zgw_3 ho14 h33 (Int32.not_le.mp h47))
      refine g_iconst hC (0) d_V_goesOnWell_50 (by decide) rfl ?_
      exact g_zret hC hr hlk d_V_goesOnWell_51 (Or.inl rfl) ⟨by rw [e0]; rfl, by rw [e0]⟩
    ·
      refine g_aload_n hC d_V_goesOnWell_36 rfl rfl ?_
      refine g_getR hC _ 4 0 _ (by decide) rfl rfl fl_V_9 d_V_goesOnWell_37 rfl ?_
      refine g_iload_n hC d_V_goesOnWell_40 rfl rfl ?_
      refine g_iald hC _ _ k (by decide) rfl rfl (by show k < 24; omega) (by decide) d_V_goesOnWell_41 rfl ?_
      refine g_need hC rfl d_V_goesOnWell_42 rfl (fun t6 hT6 => ?_)
      refine g_iload_n hC d_V_goesOnWell_45 rfl rfl ?_
      refine g_tab hC o hT6 rfl ho14 d_V_goesOnWell_46 rfl ?_
      refine g_icmp_ge hC 52 d_V_goesOnWell_47 rfl rfl (fun h47 => ?_) (fun h47 => ?_)
      ·
        refine g_aload_n hC d_V_goesOnWell_52 rfl rfl ?_
        refine g_getR hC _ 4 0 _ (by decide) rfl rfl fl_V_9 d_V_goesOnWell_53 rfl ?_
        refine g_iload_n hC d_V_goesOnWell_56 rfl rfl ?_
        refine g_iald hC _ _ k (by decide) rfl rfl (by show k < 24; omega) (by decide) d_V_goesOnWell_57 rfl ?_
        refine g_need hC rfl d_V_goesOnWell_58 rfl (fun t7 hT7 => ?_)
        refine g_iload_n hC d_V_goesOnWell_61 rfl rfl ?_
        refine g_tab hC o hT7 rfl ho14 d_V_goesOnWell_62 rfl ?_
        refine g_isub hC d_V_goesOnWell_63 rfl ?_
        refine g_leav hC rfl d_V_goesOnWell_64 rfl (fun t8 hT8 => ?_)
        refine g_iload_n hC d_V_goesOnWell_67 rfl rfl ?_
        refine g_tab hC o hT8 rfl ho14 d_V_goesOnWell_68 rfl ?_
        refine g_iadd hC d_V_goesOnWell_69 rfl ?_
        refine g_istore hC d_V_goesOnWell_70 rfl (by decide) ?_
        refine g_iload hC d_V_goesOnWell_72 rfl rfl ?_
        refine g_bipush hC (6) d_V_goesOnWell_74 (by decide) rfl ?_
        refine g_icmp_le hC 81 d_V_goesOnWell_76 rfl rfl (fun h76 => ?_) (fun h76 => ?_)
        ·
          have e1 := zgw_5 (i := i) (wn := wn) ho14 h33 (Int32.not_lt.mpr h47) (Int32.not_lt.mpr h76)
          refine g_iload_n hC d_V_goesOnWell_81 rfl rfl ?_
          refine g_bipush hC (8) d_V_goesOnWell_82 (by decide) rfl ?_
          refine g_icmp_eq hC 93 d_V_goesOnWell_84 rfl rfl (fun h84 => ?_) (fun h84 => ?_)
          ·
            refine g_iconst hC (1) d_V_goesOnWell_93 (by decide) rfl ?_
            refine g_goto hC 98 d_V_goesOnWell_94 rfl ?_
            exact zG.to (J98 true (by first | (have z8 := (nI_eq (a := o) (b := 8) (by omega) (by decide)).mp h84; rw [z8]; rfl) | (have z9 := (nI_eq (a := o) (b := 9) (by omega) (by decide)).mp h90; rw [z9]; rfl) | (have z8 : ¬ o = 8 := fun z => h84 (by rw [z]; rfl); have z9 : ¬ o = 9 := fun z => h90 (by rw [z]; rfl); simp [z8, z9]; done)) ho14 e1) rfl rfl ⟨rfl, rfl, rfl, rfl, rfl, rfl, trivial⟩
          ·
            refine g_iload_n hC d_V_goesOnWell_87 rfl rfl ?_
            refine g_bipush hC (9) d_V_goesOnWell_88 (by decide) rfl ?_
            refine g_icmp_ne hC 97 d_V_goesOnWell_90 rfl rfl (fun h90 => ?_) (fun h90 => ?_)
            ·
              refine g_iconst hC (0) d_V_goesOnWell_97 (by decide) rfl ?_
              exact zG.to (J98 false (by first | (have z8 := (nI_eq (a := o) (b := 8) (by omega) (by decide)).mp h84; rw [z8]; rfl) | (have z9 := (nI_eq (a := o) (b := 9) (by omega) (by decide)).mp h90; rw [z9]; rfl) | (have z8 : ¬ o = 8 := fun z => h84 (by rw [z]; rfl); have z9 : ¬ o = 9 := fun z => h90 (by rw [z]; rfl); simp [z8, z9]; done)) ho14 e1) rfl rfl ⟨rfl, rfl, rfl, rfl, rfl, rfl, trivial⟩
            ·
              refine g_iconst hC (1) d_V_goesOnWell_93 (by decide) rfl ?_
              refine g_goto hC 98 d_V_goesOnWell_94 rfl ?_
              exact zG.to (J98 true (by first | (have z8 := (nI_eq (a := o) (b := 8) (by omega) (by decide)).mp h84; rw [z8]; rfl) | (have z9 := (nI_eq (a := o) (b := 9) (by omega) (by decide)).mp h90; rw [z9]; rfl) | (have z8 : ¬ o = 8 := fun z => h84 (by rw [z]; rfl); have z9 : ¬ o = 9 := fun z => h90 (by rw [z]; rfl); simp [z8, z9]; done)) ho14 e1) rfl rfl ⟨rfl, rfl, rfl, rfl, rfl, rfl, trivial⟩
        ·
          have e0 : zgw σ i wn k o = (false, σ) := zgw_4 ho14 h33 (Int32.not_lt.mpr h47) (Int32.not_le.mp h76)
          refine g_iconst hC (0) d_V_goesOnWell_79 (by decide) rfl ?_
          exact g_zret hC hr hlk d_V_goesOnWell_80 (Or.inl rfl) ⟨by rw [e0]; rfl, by rw [e0]⟩
      ·
        have e0 : zgw σ i wn k o = (false, σ) := by first | (exact zgw_1 (fun z => absurd h24 (nI_ge (a := o) (b := 14) z (by decide)))) | (exact zgw_2 ho14 h33) | (exact zgw_3 ho14 h33 (Int32.not_le.mp h47))
        refine g_iconst hC (0) d_V_goesOnWell_50 (by decide) rfl ?_
        exact g_zret hC hr hlk d_V_goesOnWell_51 (Or.inl rfl) ⟨by rw [e0]; rfl, by rw [e0]⟩
end
section
/-! good code: there are heights that fit; what the verifier's rows hold of them -/
def zCk (w : Nat → Int32) (wn : Nat) (H : Nat → Int32) (k : Nat) : Prop := ∃ o : Nat, o < 14 ∧ w k &&& 15 = nI o ∧ zga (nI o) (w k >>> ((4 : Int32) &&& 31)) = true ∧ ¬ H k < zNeed o ∧ ¬ 6 < H k - zNeed o + zLeav o ∧ ((o = 8 ∨ o = 9) → ∃ j, j < wn ∧ nI k + (w k >>> ((4 : Int32) &&& 31)) = nI j ∧ H j = H k - zNeed o + zLeav o) ∧ ((o ≠ 0 ∧ o ≠ 8) → ∃ j, j < wn ∧ nI k + 1 = nI j ∧ H j = H k - zNeed o + zLeav o)
def zCons (w : Nat → Int32) (wn : Nat) (pl : Nat → Int32) (pn : Nat) (H : Nat → Int32) : Prop := (∀ t, t < pn → ∃ j, j < wn ∧ pl t = nI j ∧ H j = 0) ∧ ∀ k, k < wn → H k ≠ -1 → zCk w wn H k
def zcard (f : Nat → Int32) : Nat → Nat
  | 0 => 0
  | n + 1 => zcard f n + (if f n = -1 then 0 else 1)
theorem zcard_le (f : Nat → Int32) (n : Nat) : zcard f n ≤ n := by
  induction n with
  | zero => exact Nat.le_refl _
  | succ n ih =>
    show zcard f n + _ ≤ n + 1
    split <;> omega
theorem zcard_lt {f : Nat → Int32} {n k : Nat} (hk : k < n) (h : f k = -1) : zcard f n < n := by
  induction n with
  | zero => omega
  | succ n ih =>
    show zcard f n + _ < n + 1
    by_cases hkn : k = n
    · subst hkn
      have := zcard_le f k
      rw [if_pos h]
      omega
    · have := ih (by omega)
      split <;> omega
theorem zcard_same {f g : Nat → Int32} {n : Nat} (h : ∀ k, k < n → f k = g k) : zcard f n = zcard g n := by
  induction n with
  | zero => rfl
  | succ n ih =>
    show zcard f n + _ = zcard g n + _
    rw [ih (fun k hk => h k (by omega)), h n (by omega)]
theorem zcard_put {f g : Nat → Int32} {n k : Nat} (hk : k < n) (hf : f k = -1) (hg : ¬ g k = -1) (ho : ∀ j, j ≠ k → g j = f j) : zcard g n = zcard f n + 1 := by
  induction n with
  | zero => omega
  | succ n ih =>
    show zcard g n + _ = zcard f n + _ + 1
    by_cases hkn : k = n
    · subst hkn
      rw [if_pos hf, if_neg hg, zcard_same (fun j hj => ho j (by omega))]
    · rw [ih (by omega), ho n (fun z => hkn z.symm)]
      omega
/-- the verifier's rows: heights (7), the places reached (8), how many (6, 2) -/
def zVI (τ : zm) (wn cn : Nat) : Prop := cn ≤ 24 ∧ τ 6 2 = nI cn ∧ zcard (τ 7) 24 = cn ∧ (∀ t, t < cn → ∃ k, k < wn ∧ τ 8 t = nI k ∧ ¬ τ 7 k = -1) ∧ (∀ k, k < 24 → ¬ τ 7 k = -1 → k < wn ∧ (∃ t, t < cn ∧ τ 8 t = nI k) ∧ ∃ m, m ≤ 6 ∧ τ 7 k = nI m)
def zmk (σ : zm) (cn j : Nat) (h : Int32) : zm := zu (zu (zu σ 7 j h) 8 cn (nI j)) 6 2 (nI (cn + 1))
theorem zmk_7 (σ : zm) (cn j : Nat) (h : Int32) (k : Nat) : zmk σ cn j h 7 k = if k = j then h else σ 7 k := by
  unfold zmk
  rw [zu_row _ _ (by decide), zu_row _ _ (by decide)]
  by_cases hk : k = j
  · rw [if_pos hk, hk, zu_eq]
  · rw [if_neg hk, zu_col _ _ hk]
theorem zmk_8 (σ : zm) (cn j : Nat) (h : Int32) (k : Nat) : zmk σ cn j h 8 k = if k = cn then nI j else σ 8 k := by
  unfold zmk
  rw [zu_row _ _ (by decide)]
  by_cases hk : k = cn
  · rw [if_pos hk, hk, zu_eq]
  · rw [if_neg hk, zu_col _ _ hk, zu_row _ _ (by decide)]
theorem zmk_6 (σ : zm) (cn j : Nat) (h : Int32) : zmk σ cn j h 6 2 = nI (cn + 1) := zu_eq _ _ _ _
theorem nI_m1 {m : Nat} (h : m ≤ 6) : ¬ nI m = -1 := by
  have : ∀ m, m ≤ 6 → ¬ nI m = -1 := by decide +kernel
  exact this m h
theorem zmk_VI {σ : zm} {wn cn j m : Nat} (hV : zVI σ wn cn) (hwn : wn ≤ 24) (hj : j < wn) (h1 : σ 7 j = -1) (hcn : cn < 24) (hm : m ≤ 6) : zVI (zmk σ cn j (nI m)) wn (cn + 1) := by
  obtain ⟨v1, v2, v3, v4, v5⟩ := hV
  refine ⟨by omega, zmk_6 _ _ _ _, ?_, fun t ht => ?_, fun k hk hne => ?_⟩
  · rw [zcard_put (f := σ 7) (k := j) (by omega) h1 (by rw [zmk_7, if_pos rfl]; exact nI_m1 hm) (fun k hk => by rw [zmk_7, if_neg hk]), v3]
  · rw [zmk_8]
    by_cases htc : t = cn
    · exact ⟨j, hj, by rw [if_pos htc], by rw [zmk_7, if_pos rfl]; exact nI_m1 hm⟩
    · obtain ⟨k, k1, k2, k3⟩ := v4 t (by omega)
      have hkj : k ≠ j := fun z => k3 (by rw [z]; exact h1)
      exact ⟨k, k1, by rw [if_neg htc]; exact k2, by rw [zmk_7, if_neg hkj]; exact k3⟩
  · rw [zmk_7] at hne ⊢
    by_cases hkj : k = j
    · rw [if_pos hkj]
      exact ⟨by omega, ⟨cn, by omega, by rw [zmk_8, if_pos rfl, hkj]⟩, m, hm, rfl⟩
    · rw [if_neg hkj] at hne ⊢
      obtain ⟨k1, ⟨t, t1, t2⟩, k3⟩ := v5 k hk hne
      exact ⟨k1, ⟨t, by omega, by rw [zmk_8, if_neg (by omega)]; exact t2⟩, k3⟩
theorem zrc_cases {σ : zm} {wn cn : Nat} (hV : zVI σ wn cn) (hwn : wn ≤ 24) (x h : Int32) : (zrc σ wn x h = (false, σ) ∧ ∀ j, j < wn → ¬ x = nI j) ∨ (∃ j, j < wn ∧ x = nI j ∧ ¬ σ 7 j = -1 ∧ zrc σ wn x h = (decide (σ 7 j = h), σ)) ∨ (∃ j, j < wn ∧ x = nI j ∧ σ 7 j = -1 ∧ cn < 24 ∧ zrc σ wn x h = (true, zmk σ cn j h)) := by
  obtain ⟨v1, v2, v3, v4, v5⟩ := hV
  cases hz : zin x (nI wn) with
  | false =>
    refine Or.inl ⟨if_neg (zif_f hz), fun j hj hx => ?_⟩
    rw [hx, zin_nI hj (by omega)] at hz
    cases hz
  | true =>
    obtain ⟨j, hj, hx⟩ := zin_of (n := wn) (by omega) hz
    have hc : x.toNatClampNeg = j := by rw [hx]; exact nI_clamp (by omega)
    by_cases h1 : σ 7 j = -1
    · have hlt : cn < 24 := by rw [← v3]; exact zcard_lt (by omega) h1
      have hm : zrm1 σ x h = zmk σ cn j h := by
        unfold zrm1
        rw [hc, v2, nI_clamp (by omega), if_pos ⟨h1, nI_lt (a := cn) (b := 24) hlt (by decide)⟩, nI_1, hx]
        rfl
      refine Or.inr (Or.inr ⟨j, hj, hx, h1, hlt, ?_⟩)
      rw [zrc_t hz hc hm, zmk_7, if_pos rfl, decide_eq_true rfl]
    · have hm : zrm1 σ x h = σ := by
        unfold zrm1
        rw [hc, if_neg (fun z => h1 z.1)]
      exact Or.inr (Or.inl ⟨j, hj, hx, h1, zrc_t hz hc hm⟩)
/-- from σ the rows have come to τ: what was reached stays -/
def zGr (σ τ : zm) (wn cn : Nat) : Prop := ∃ c2, zVI τ wn c2 ∧ cn ≤ c2 ∧ (∀ t, t < cn → τ 8 t = σ 8 t) ∧ ∀ k, ¬ σ 7 k = -1 → τ 7 k = σ 7 k
def zAg (τ : zm) (H : Nat → Int32) : Prop := ∀ k, k < 24 → ¬ τ 7 k = -1 → τ 7 k = H k
theorem zGr.rf {σ : zm} {wn cn : Nat} (hV : zVI σ wn cn) : zGr σ σ wn cn := ⟨cn, hV, Nat.le_refl _, fun _ _ => rfl, fun _ _ => rfl⟩
theorem zrc_ok {σ : zm} {wn cn m : Nat} (hV : zVI σ wn cn) (hwn : wn ≤ 24) (x : Int32) (hm : m ≤ 6) : zGr σ (zrc σ wn x (nI m)).2 wn cn ∧ ((zrc σ wn x (nI m)).1 = true → ∃ j, j < wn ∧ x = nI j ∧ (zrc σ wn x (nI m)).2 7 j = nI m) ∧ ∀ H : Nat → Int32, zAg σ H → (∃ j, j < wn ∧ x = nI j ∧ H j = nI m) → (zrc σ wn x (nI m)).1 = true ∧ zAg (zrc σ wn x (nI m)).2 H := by
  rcases zrc_cases hV hwn x (nI m) with ⟨e, hx⟩ | ⟨j, hj, hx, h1, e⟩ | ⟨j, hj, hx, h1, hlt, e⟩
  · rw [e]
    exact ⟨zGr.rf hV, (fun z => by cases z), fun H hA ⟨j, hj, hx2, _⟩ => absurd hx2 (hx j hj)⟩
  · rw [e]
    refine ⟨zGr.rf hV, fun z => ⟨j, hj, hx, by simpa using z⟩, fun H hA ⟨j2, hj2, hx2, hH⟩ => ⟨?_, hA⟩⟩
    have hjj : j2 = j := (nI_eq (by omega) (by omega)).mp (hx2.symm.trans hx)
    rw [hjj] at hH
    rw [decide_eq_true_eq, hA j (by omega) h1, hH]
  · rw [e]
    dsimp only
    refine ⟨⟨cn + 1, zmk_VI hV hwn hj h1 hlt hm, by omega, fun t ht => by rw [zmk_8, if_neg (by omega)], fun k hk => ?_⟩, fun _ => ⟨j, hj, hx, by rw [zmk_7, if_pos rfl]⟩, fun H hA ⟨j2, hj2, hx2, hH⟩ => ⟨rfl, fun k hk hne => ?_⟩⟩
    · rw [zmk_7, if_neg (fun z => hk (by rw [z]; exact h1))]
    · have hjj : j2 = j := (nI_eq (by omega) (by omega)).mp (hx2.symm.trans hx)
      rw [hjj] at hH
      show zmk σ cn j (nI m) 7 k = H k
      have hne2 : ¬ zmk σ cn j (nI m) 7 k = -1 := hne
      rw [zmk_7] at hne2 ⊢
      by_cases hkj : k = j
      · rw [if_pos hkj, hkj, hH]
      · rw [if_neg hkj] at hne2 ⊢
        exact hA k hk hne2
theorem zGr.tr {σ τ ρ : zm} {wn cn : Nat} (h1 : zGr σ τ wn cn) (h2 : ∀ c2, zVI τ wn c2 → zGr τ ρ wn c2) : zGr σ ρ wn cn := by
  obtain ⟨c2, v, l, t, k⟩ := h1
  obtain ⟨c3, v3, l3, t3, k3⟩ := h2 c2 v
  refine ⟨c3, v3, by omega, fun t' ht => (t3 t' (by omega)).trans (t t' ht), fun k' hk => ?_⟩
  have e := k k' hk
  rw [k3 k' (by rw [e]; exact hk), e]
/-- the height behind a word is a small number -/
theorem zhh {m o : Nat} (hm : m ≤ 6) (ho : o < 14) (h3 : ¬ nI m < zNeed o) (h4 : ¬ 6 < nI m - zNeed o + zLeav o) : ∃ m2, m2 ≤ 6 ∧ nI m - zNeed o + zLeav o = nI m2 := by
  have : ∀ m, m ≤ 6 → ∀ o, o < 14 → ¬ nI m < zNeed o → ¬ 6 < nI m - zNeed o + zLeav o → ∃ m2, m2 ≤ 6 ∧ nI m - zNeed o + zLeav o = nI m2 := by decide +kernel
  exact this m hm o ho h3 h4
theorem zCk_o {w : Nat → Int32} {wn : Nat} {H : Nat → Int32} {k o : Nat} (ho : o < 16) (hoe : w k &&& 15 = nI o) (h : zCk w wn H k) : o < 14 ∧ zga (nI o) (w k >>> ((4 : Int32) &&& 31)) = true ∧ ¬ H k < zNeed o ∧ ¬ 6 < H k - zNeed o + zLeav o ∧ ((o = 8 ∨ o = 9) → ∃ j, j < wn ∧ nI k + (w k >>> ((4 : Int32) &&& 31)) = nI j ∧ H j = H k - zNeed o + zLeav o) ∧ ((o ≠ 0 ∧ o ≠ 8) → ∃ j, j < wn ∧ nI k + 1 = nI j ∧ H j = H k - zNeed o + zLeav o) := by
  obtain ⟨o', h1, h2, h3⟩ := h
  have e : o' = o := (nI_eq (by omega) (by omega)).mp (h2.symm.trans hoe)
  subst e
  exact ⟨h1, h3⟩
theorem zgw_ok {σ : zm} {i wn cn k o : Nat} (hV : zVI σ wn cn) (hwn : wn ≤ 24) (hk : k < wn) (hne : ¬ σ 7 k = -1) (ho : o < 16) (hoe : σ (zp i + 6) k &&& 15 = nI o) : zGr σ (zgw σ i wn k o).2 wn cn ∧ ((zgw σ i wn k o).1 = true → zCk (σ (zp i + 6)) wn ((zgw σ i wn k o).2 7) k) ∧ ∀ H : Nat → Int32, zAg σ H → zCk (σ (zp i + 6)) wn H k → (zgw σ i wn k o).1 = true ∧ zAg (zgw σ i wn k o).2 H := by
  obtain ⟨m, hm, hkm⟩ := (hV.2.2.2.2 k (by omega) hne).2.2
  by_cases ho14 : o < 14
  case neg =>
    rw [zgw_1 ho14]
    exact ⟨zGr.rf hV, (fun z => by cases z), fun H hA hc => absurd (zCk_o ho hoe hc).1 ho14⟩
  cases hga : zga (nI o) (σ (zp i + 6) k >>> ((4 : Int32) &&& 31)) with
  | false =>
    rw [zgw_2 ho14 hga]
    refine ⟨zGr.rf hV, (fun z => by cases z), fun H hA hc => ?_⟩
    have := (zCk_o ho hoe hc).2.1
    rw [hga] at this
    cases this
  | true =>
    by_cases h3 : σ 7 k < zNeed o
    · rw [zgw_3 ho14 hga h3]
      refine ⟨zGr.rf hV, (fun z => by cases z), fun H hA hc => ?_⟩
      have := (zCk_o ho hoe hc).2.2.1
      rw [← hA k (by omega) hne] at this
      exact absurd h3 this
    by_cases h4 : 6 < σ 7 k - zNeed o + zLeav o
    · rw [zgw_4 ho14 hga h3 h4]
      refine ⟨zGr.rf hV, (fun z => by cases z), fun H hA hc => ?_⟩
      have := (zCk_o ho hoe hc).2.2.2.1
      rw [← hA k (by omega) hne] at this
      exact absurd h4 this
    rw [zgw_5 ho14 hga h3 h4]
    have h3' := h3
    have h4' := h4
    rw [hkm] at h3' h4'
    obtain ⟨m2, hm2, hh⟩ := zhh hm ho14 h3' h4'
    rw [← hkm] at hh
    have mk : ∀ τ : zm, (∀ k, ¬ σ 7 k = -1 → τ 7 k = σ 7 k) → ((o = 8 ∨ o = 9) → ∃ j, j < wn ∧ nI k + (σ (zp i + 6) k >>> ((4 : Int32) &&& 31)) = nI j ∧ τ 7 j = nI m2) → ((o ≠ 0 ∧ o ≠ 8) → ∃ j, j < wn ∧ nI k + 1 = nI j ∧ τ 7 j = nI m2) → zCk (σ (zp i + 6)) wn (τ 7) k := by
      intro τ h5 h6 h7
      have e5 := h5 k hne
      refine ⟨o, ho14, hoe, hga, by rw [e5]; exact h3, by rw [e5]; exact h4, ?_, ?_⟩
      · rw [e5, hh]; exact h6
      · rw [e5, hh]; exact h7
    have rd : ∀ H : Nat → Int32, zAg σ H → zCk (σ (zp i + 6)) wn H k → ((o = 8 ∨ o = 9) → ∃ j, j < wn ∧ nI k + (σ (zp i + 6) k >>> ((4 : Int32) &&& 31)) = nI j ∧ H j = nI m2) ∧ ((o ≠ 0 ∧ o ≠ 8) → ∃ j, j < wn ∧ nI k + 1 = nI j ∧ H j = nI m2) := by
      intro H hA hc
      have h5 := (zCk_o ho hoe hc).2.2.2.2
      rw [← hA k (by omega) hne, hh] at h5
      exact h5
    rw [hh]
    by_cases hb : o = 8 ∨ o = 9 <;> by_cases hg : o ≠ 0 ∧ o ≠ 8
    · rw [decide_eq_true hb, decide_eq_true hg]
      obtain ⟨a1, a2, a3⟩ := zrc_ok hV hwn (nI k + (σ (zp i + 6) k >>> ((4 : Int32) &&& 31))) hm2
      cases hA1 : (zrc σ wn (nI k + (σ (zp i + 6) k >>> ((4 : Int32) &&& 31))) (nI m2)).1 with
      | false =>
        rw [zgx_tF hA1]
        refine ⟨a1, (fun z => by cases z), fun H hA hc => ?_⟩
        have := (a3 H hA ((rd H hA hc).1 hb)).1
        rw [hA1] at this
        cases this
      | true =>
        rw [zgx_tt hA1]
        obtain ⟨j, hj, hx, hj7⟩ := a2 hA1
        have key : ∀ c2, zVI (zrc σ wn (nI k + (σ (zp i + 6) k >>> ((4 : Int32) &&& 31))) (nI m2)).2 wn c2 → _ := fun c2 v => zrc_ok (m := m2) v hwn (nI k + 1) hm2
        obtain ⟨c2, v2, q1, q2, k2⟩ := a1
        obtain ⟨b1, b2, b3⟩ := key c2 v2
        refine ⟨zGr.tr ⟨c2, v2, q1, q2, k2⟩ (fun c v => (key c v).1), fun z => ?_, fun H hA hc => ?_⟩
        · obtain ⟨j2, hj2, hx2, hj72⟩ := b2 z
          obtain ⟨-, -, -, -, kk⟩ := b1
          refine mk _ (fun k' hk' => ?_) (fun _ => ⟨j, hj, hx, ?_⟩) (fun _ => ⟨j2, hj2, hx2, hj72⟩)
          · have e := k2 k' hk'
            rw [kk k' (by rw [e]; exact hk'), e]
          · rw [kk j (by rw [hj7]; exact nI_m1 hm2), hj7]
        · obtain ⟨r1, r2⟩ := rd H hA hc
          exact b3 H (a3 H hA (r1 hb)).2 (r2 hg)
    · rw [decide_eq_true hb, decide_eq_false hg]
      obtain ⟨a1, a2, a3⟩ := zrc_ok hV hwn (nI k + (σ (zp i + 6) k >>> ((4 : Int32) &&& 31))) hm2
      cases hA1 : (zrc σ wn (nI k + (σ (zp i + 6) k >>> ((4 : Int32) &&& 31))) (nI m2)).1 with
      | false =>
        rw [zgx_tF hA1]
        refine ⟨a1, (fun z => by cases z), fun H hA hc => ?_⟩
        have := (a3 H hA ((rd H hA hc).1 hb)).1
        rw [hA1] at this
        cases this
      | true =>
        rw [zgx_tf hA1]
        refine ⟨a1, fun _ => ?_, fun H hA hc => ⟨rfl, (a3 H hA ((rd H hA hc).1 hb)).2⟩⟩
        obtain ⟨c2, v2, -, -, k2⟩ := a1
        exact mk _ k2 (fun _ => a2 hA1) (fun z => absurd z hg)
    · rw [decide_eq_false hb, decide_eq_true hg, zgx_ft]
      obtain ⟨a1, a2, a3⟩ := zrc_ok hV hwn (nI k + 1) hm2
      refine ⟨a1, fun z => ?_, fun H hA hc => a3 H hA ((rd H hA hc).2 hg)⟩
      obtain ⟨c2, v2, -, -, k2⟩ := a1
      exact mk _ k2 (fun z => absurd z hb) (fun _ => a2 z)
    · rw [decide_eq_false hb, decide_eq_false hg, zgx_ff]
      exact ⟨zGr.rf hV, fun _ => mk _ (fun _ _ => rfl) (fun z => absurd z hb) (fun z => absurd z hg), fun H hA hc => ⟨rfl, hA⟩⟩
theorem zCk_up {w : Nat → Int32} {wn k : Nat} {σ τ : zm} (hne : ¬ σ 7 k = -1) (hm : ∀ j, ¬ σ 7 j = -1 → τ 7 j = σ 7 j) (hs : ∃ m, m ≤ 6 ∧ σ 7 k = nI m) (h : zCk w wn (σ 7) k) : zCk w wn (τ 7) k := by
  obtain ⟨o, h1, h2, h3, h4, h5, h6, h7⟩ := h
  obtain ⟨m, hm1, hkm⟩ := hs
  have h4' := h4
  have h5' := h5
  rw [hkm] at h4' h5'
  obtain ⟨m2, hm2, hh⟩ := zhh hm1 h1 h4' h5'
  rw [← hkm] at hh
  have e := hm k hne
  refine ⟨o, h1, h2, h3, by rw [e]; exact h4, by rw [e]; exact h5, fun z => ?_, fun z => ?_⟩
  · obtain ⟨j, j1, j2, j3⟩ := h6 z
    exact ⟨j, j1, j2, by rw [e, hm j (by rw [j3, hh]; exact nI_m1 hm2)]; exact j3⟩
  · obtain ⟨j, j1, j2, j3⟩ := h7 z
    exact ⟨j, j1, j2, by rw [e, hm j (by rw [j3, hh]; exact nI_m1 hm2)]; exact j3⟩
theorem zgx_off (σ : zm) (wn : Nat) (x n h : Int32) (b g : Bool) {a : Nat} (ha : a ≠ 6 ∧ a ≠ 7 ∧ a ≠ 8) : (zgx σ wn x n h b g).2 a = σ a := by
  cases b with
  | false =>
    cases g with
    | false => rw [zgx_ff]
    | true => rw [zgx_ft]; exact zrc_off _ _ _ _ ha
  | true =>
    cases e : (zrc σ wn (x + n) h).1 with
    | false => rw [zgx_tF e]; exact zrc_off _ _ _ _ ha
    | true =>
      cases g with
      | false => rw [zgx_tf e]; exact zrc_off _ _ _ _ ha
      | true => rw [zgx_tt e]; exact (zrc_off _ _ _ _ ha).trans (zrc_off _ _ _ _ ha)
theorem zgw_off (σ : zm) (i wn k o : Nat) {a : Nat} (ha : a ≠ 6 ∧ a ≠ 7 ∧ a ≠ 8) : (zgw σ i wn k o).2 a = σ a := by
  unfold zgw
  split
  · rfl
  · split
    · rfl
    · split
      · rfl
      · split
        · rfl
        · exact zgx_off _ _ _ _ _ _ _ ha
/-- the verifier's rows at the start of a check -/
def zv0 (σ : zm) : zm := zu (zfill σ 7 24 (-1)) 6 2 0
theorem zv0_7 (σ : zm) {k : Nat} (hk : k < 24) : zv0 σ 7 k = -1 := by
  unfold zv0
  rw [zu_row _ _ (by decide)]
  simp [zfill, hk]
theorem zcard_0 {f : Nat → Int32} {n : Nat} (h : ∀ k, k < n → f k = -1) : zcard f n = 0 := by
  induction n with
  | zero => rfl
  | succ n ih =>
    show zcard f n + _ = 0
    rw [ih (fun k hk => h k (by omega)), if_pos (h n (by omega))]
theorem zv0_VI (σ : zm) (wn : Nat) : zVI (zv0 σ) wn 0 := ⟨by omega, zu_eq _ _ _ _, zcard_0 (fun k hk => zv0_7 σ hk), fun t ht => absurd ht (Nat.not_lt_zero _), fun k hk hne => absurd (zv0_7 σ hk) hne⟩
theorem zv0_off (σ : zm) {a : Nat} (ha : a ≠ 6 ∧ a ≠ 7 ∧ a ≠ 8) : zv0 σ a = σ a := by
  unfold zv0
  rw [zu_row _ _ ha.1, zfill_off _ _ ha.2.1]
def zOf (σ τ : zm) : Prop := ∀ a, (a ≠ 6 ∧ a ≠ 7 ∧ a ≠ 8) → τ a = σ a
theorem zst1 {σ τ : zm} {i wn pn cn t : Nat} (hwn : wn ≤ 24) (ht : t < pn) (hV : zVI τ wn cn) (hO : zOf σ τ) (hA : ∀ H, zCons (σ (zp i + 6)) wn (σ (zp i + 5)) pn H → zAg τ H) (hD : ∀ t', t' < t → ∃ j, j < wn ∧ σ (zp i + 5) t' = nI j ∧ τ 7 j = 0) (hb : (zrc τ wn (σ (zp i + 5) t) 0).1 = true) :
    ∃ c2, zVI (zrc τ wn (σ (zp i + 5) t) 0).2 wn c2 ∧ zOf σ (zrc τ wn (σ (zp i + 5) t) 0).2 ∧ (∀ H, zCons (σ (zp i + 6)) wn (σ (zp i + 5)) pn H → zAg (zrc τ wn (σ (zp i + 5) t) 0).2 H) ∧ ∀ t', t' < t + 1 → ∃ j, j < wn ∧ σ (zp i + 5) t' = nI j ∧ (zrc τ wn (σ (zp i + 5) t) 0).2 7 j = 0 := by
  have z := zrc_ok (m := 0) hV hwn (σ (zp i + 5) t) (by omega)
  rw [nI_0] at z
  obtain ⟨⟨c2, v2, -, -, k2⟩, a2, a3⟩ := z
  refine ⟨c2, v2, fun a ha => (zrc_off _ _ _ _ ha).trans (hO a ha), fun H hH => (a3 H (hA H hH) (hH.1 t ht)).2, fun t' ht' => ?_⟩
  by_cases e : t' = t
  · subst e
    exact a2 hb
  · obtain ⟨j, j1, j2, j3⟩ := hD t' (by omega)
    exact ⟨j, j1, j2, by rw [k2 j (by rw [j3]; decide), j3]⟩
theorem zst1_f {σ τ : zm} {i wn pn cn t : Nat} (hwn : wn ≤ 24) (ht : t < pn) (hV : zVI τ wn cn) (hA : ∀ H, zCons (σ (zp i + 6)) wn (σ (zp i + 5)) pn H → zAg τ H) (hb : (zrc τ wn (σ (zp i + 5) t) 0).1 = false) : ¬ ∃ H, zCons (σ (zp i + 6)) wn (σ (zp i + 5)) pn H := by
  rintro ⟨H, hH⟩
  have z := zrc_ok (m := 0) hV hwn (σ (zp i + 5) t) (by omega)
  rw [nI_0] at z
  have := (z.2.2 H (hA H hH) (hH.1 t ht)).1
  rw [hb] at this
  cases this
theorem zst2 {σ τ : zm} {i wn pn cn t k o : Nat} (hwn : wn ≤ 24) (htc : t < cn) (hV : zVI τ wn cn) (hO : zOf σ τ) (hA : ∀ H, zCons (σ (zp i + 6)) wn (σ (zp i + 5)) pn H → zAg τ H) (hD : ∀ t', t' < pn → ∃ j, j < wn ∧ σ (zp i + 5) t' = nI j ∧ τ 7 j = 0) (hP : ∀ t', t' < t → ∀ k, k < wn → τ 8 t' = nI k → zCk (σ (zp i + 6)) wn (τ 7) k)
    (hk : k < wn) (hk8 : τ 8 t = nI k) (hk7 : ¬ τ 7 k = -1) (ho : o < 16) (hoe : σ (zp i + 6) k &&& 15 = nI o) (hb : (zgw τ i wn k o).1 = true) :
    ∃ c2, zVI (zgw τ i wn k o).2 wn c2 ∧ zOf σ (zgw τ i wn k o).2 ∧ (∀ H, zCons (σ (zp i + 6)) wn (σ (zp i + 5)) pn H → zAg (zgw τ i wn k o).2 H) ∧ (∀ t', t' < pn → ∃ j, j < wn ∧ σ (zp i + 5) t' = nI j ∧ (zgw τ i wn k o).2 7 j = 0) ∧ ∀ t', t' < t + 1 → ∀ k', k' < wn → (zgw τ i wn k o).2 8 t' = nI k' → zCk (σ (zp i + 6)) wn ((zgw τ i wn k o).2 7) k' := by
  have hW : τ (zp i + 6) = σ (zp i + 6) := hO _ (by unfold zp; omega)
  have z := zgw_ok (i := i) hV hwn hk hk7 ho (by rw [hW]; exact hoe)
  rw [hW] at z
  obtain ⟨⟨c2, v2, l2, t2, k2⟩, a2, a3⟩ := z
  refine ⟨c2, v2, fun a ha => (zgw_off _ _ _ _ _ ha).trans (hO a ha), fun H hH => (a3 H (hA H hH) (hH.2 k hk ?_)).2, fun t' ht' => ?_, fun t' ht' k' hk' h8 => ?_⟩
  · rw [← hA H hH k (by omega) hk7]; exact hk7
  · obtain ⟨j, j1, j2, j3⟩ := hD t' ht'
    exact ⟨j, j1, j2, by rw [k2 j (by rw [j3]; decide), j3]⟩
  · rw [t2 t' (by omega)] at h8
    by_cases e : t' = t
    · subst e
      have : k' = k := (nI_eq (by omega) (by omega)).mp (h8.symm.trans hk8)
      subst this
      exact a2 hb
    · obtain ⟨k'', e1, e2, e3⟩ := hV.2.2.2.1 t' (by omega)
      have : k'' = k' := (nI_eq (by omega) (by omega)).mp (e2.symm.trans h8)
      subst this
      exact zCk_up e3 k2 (hV.2.2.2.2 k'' (by omega) e3).2.2 (hP t' (by omega) k'' e1 e2)
theorem zst2_f {σ τ : zm} {i wn pn cn k o : Nat} (hwn : wn ≤ 24) (hV : zVI τ wn cn) (hO : zOf σ τ) (hA : ∀ H, zCons (σ (zp i + 6)) wn (σ (zp i + 5)) pn H → zAg τ H) (hk : k < wn) (hk7 : ¬ τ 7 k = -1) (ho : o < 16) (hoe : σ (zp i + 6) k &&& 15 = nI o) (hb : (zgw τ i wn k o).1 = false) : ¬ ∃ H, zCons (σ (zp i + 6)) wn (σ (zp i + 5)) pn H := by
  rintro ⟨H, hH⟩
  have hW : τ (zp i + 6) = σ (zp i + 6) := hO _ (by unfold zp; omega)
  have z := zgw_ok (i := i) hV hwn hk hk7 ho (by rw [hW]; exact hoe)
  rw [hW] at z
  have := (z.2.2 H (hA H hH) (hH.2 k hk (by rw [← hA H hH k (by omega) hk7]; exact hk7))).1
  rw [hb] at this
  cases this
theorem zst3 {σ τ : zm} {i wn pn cn t : Nat} (hwn : wn ≤ 24) (hct : cn ≤ t) (hV : zVI τ wn cn) (hD : ∀ t', t' < pn → ∃ j, j < wn ∧ σ (zp i + 5) t' = nI j ∧ τ 7 j = 0) (hP : ∀ t', t' < t → ∀ k, k < wn → τ 8 t' = nI k → zCk (σ (zp i + 6)) wn (τ 7) k) : ∃ H, zCons (σ (zp i + 6)) wn (σ (zp i + 5)) pn H := by
  refine ⟨τ 7, hD, fun k hk hne => ?_⟩
  obtain ⟨k1, ⟨t', t1, t2⟩, -⟩ := hV.2.2.2.2 k (by omega) hne
  exact hP t' (by omega) k hk t2
end
section
set_option maxHeartbeats 4000000 in
set_option maxRecDepth 100000 in
theorem c_V_isGood (l : Launch) (D : va_G) (K : Nat → ClassId) (q : Nat → Nat) (hq : zI q) (i : Nat) (hi : i < 9) (pn wn : Nat) (hpn : pn ≤ 4) (hwn : wn ≤ 24) (σ : zm) (h6 : σ (zp i) 6 = nI pn) (h11 : σ (zp i) 11 = nI wn) : zMi l y_V_isGood b_V_isGood 3 (some .boolean) 3 D K q [.ref (q (6)), .ref (q (zp i))] σ (fun r σ' => (∃ b : Bool, r = zb b ∧ (b = true ↔ ∃ H, zCons (σ (zp i + 6)) wn (σ (zp i + 5)) pn H)) ∧ zOf σ σ') := by
  refine zMi.of (own := "AppDesk$Verifier") (lv := [(0, .ref (q (6))), (1, .ref (q (zp i)))]) (by decide) rfl hq (Nat.le_of_ble_eq_true rfl) rfl ?_
  intro p e s m below meth c hC hr hlk
  have J48 : ∀ (f : Nat) (t : Nat) (hif : t + f = 24) (τ : zm) (cn : Nat) (hV : zVI τ wn cn) (hO : zOf σ τ) (hA : ∀ H, zCons (σ (zp i + 6)) wn (σ (zp i + 5)) pn H → zAg τ H) (hD : ∀ t', t' < pn → ∃ j, j < wn ∧ σ (zp i + 5) t' = nI j ∧ τ 7 j = 0) (hP : ∀ t', t' < t → ∀ k, k < wn → τ 8 t' = nI k → zCk (σ (zp i + 6)) wn (τ 7) k), zG p l e (zrm 3) s m ([.ref (q (6)), .ref (q (zp i))] : List Value).toArray below meth c D K q (zA q) 3 0 0 (MQ below (va_Qi (fun r σ' => (∃ b : Bool, r = zb b ∧ (b = true ↔ ∃ H, zCons (σ (zp i + 6)) wn (σ (zp i + 5)) pn H)) ∧ zOf σ σ') (zO D K q) (zA q)) ([.ref (q (6)), .ref (q (zp i))] : List Value).toArray s 0 0 (zA q)) τ 48 [(0, .ref (q (6))), (1, .ref (q (zp i))), (2, .int (nI t))] [] := by
    intro f
    induction f with
    | zero =>
      intro t hif τ cn hV hO hA hD hP
      refine g_iload_n hC d_V_isGood_48 rfl rfl ?_
      refine g_aload_n hC d_V_isGood_49 rfl rfl ?_
      refine g_getV hC _ 4 2 (nI cn) (hV.2.1) (by decide) rfl rfl fl_V_24 d_V_isGood_50 rfl ?_
      refine g_icmp_ge hC 84 d_V_isGood_53 rfl rfl (fun h53 => ?_) (fun h53 => absurd (nI_le (a := cn) (b := t) (by have := hV.1; omega) (by omega)) h53)
      have hct : cn ≤ t := (nI_leI (a := cn) (b := t) (by have := hV.1; omega) (by omega)).mp h53
      refine g_iconst hC (1) d_V_isGood_84 (by decide) rfl ?_
      exact g_zret hC hr hlk d_V_isGood_85 (Or.inr rfl) ⟨⟨true, rfl, ⟨fun _ => zst3 hwn hct hV hD hP, fun _ => rfl⟩⟩, hO⟩
    | succ f ih =>
      intro t hif τ cn hV hO hA hD hP
      refine g_iload_n hC d_V_isGood_48 rfl rfl ?_
      refine g_aload_n hC d_V_isGood_49 rfl rfl ?_
      refine g_getV hC _ 4 2 (nI cn) (hV.2.1) (by decide) rfl rfl fl_V_24 d_V_isGood_50 rfl ?_
      refine g_icmp_ge hC 84 d_V_isGood_53 rfl rfl (fun h53 => ?_) (fun h53 => ?_)
      ·
        have hct : cn ≤ t := (nI_leI (a := cn) (b := t) (by have := hV.1; omega) (by omega)).mp h53
        refine g_iconst hC (1) d_V_isGood_84 (by decide) rfl ?_
        exact g_zret hC hr hlk d_V_isGood_85 (Or.inr rfl) ⟨⟨true, rfl, ⟨fun _ => zst3 hwn hct hV hD hP, fun _ => rfl⟩⟩, hO⟩
      ·
        refine g_iload_n hC d_V_isGood_56 rfl rfl ?_
        refine g_bipush hC (24) d_V_isGood_57 (by decide) rfl ?_
        refine g_icmp_ge hC 84 d_V_isGood_59 rfl rfl (fun h59 => absurd h59 (nI_ge (a := t) (b := 24) (by omega) (by omega))) (fun h59 => ?_)
        have htc : t < cn := Nat.lt_of_not_le (fun z => h53 (nI_le (a := cn) (b := t) z (by omega)))
        obtain ⟨k, hk, hk8, hk7⟩ := hV.2.2.2.1 t htc
        obtain ⟨o, ho, hoe⟩ := pk_andE (σ (zp i + 6) k) (m := 15) 4 (by decide)
        replace ho : o < 16 := ho
        refine g_aload_n hC d_V_isGood_62 rfl rfl ?_
        refine g_aload_n hC d_V_isGood_63 rfl rfl ?_
        refine g_aload_n hC d_V_isGood_64 rfl rfl ?_
        refine g_getR hC _ 4 1 _ (by decide) rfl rfl fl_V_15 d_V_isGood_65 rfl ?_
        refine g_iload_n hC d_V_isGood_68 rfl rfl ?_
        refine g_ialdV hC _ _ (t) (nI k) (hk8) (by decide) rfl rfl (by omega) (by decide) d_V_isGood_69 rfl ?_
        refine g_goi hC rfl (z_runV hC (c_V_goesOnWell l D K q hq _ hi k wn cn o hk hwn hV.1 ho _ (by rw [hO _ (by unfold zp; omega)]; exact hoe) (by rw [hO _ (by unfold zp; omega)]; exact h11) hV.2.1) yy_V_goesOnWell yv_V_40 (by decide) rfl ⟨Nat.le_of_ble_eq_true rfl, Nat.le_of_ble_eq_true rfl⟩ ⟨Nat.zero_le _, Nat.zero_le _⟩ rfl (Nat.le_of_ble_eq_true rfl) d_V_isGood_70) (fun r0 σ0 q0 => ?_)
        obtain ⟨rfl, w0⟩ := q0
        obtain rfl := w0.symm
        refine g_ifne_b hC 78 d_V_isGood_73 rfl rfl (fun h73 => ?_) (fun h73 => ?_)
        ·
          obtain ⟨c2, v2, o2, a2, d2, p2⟩ := zst2 hwn htc hV hO hA hD hP hk hk8 hk7 ho hoe h73
          refine g_iinc hC (nI (t + 1)) d_V_isGood_78 rfl rfl (nI_succ _).symm (by decide) ?_
          refine g_goto hC 48 d_V_isGood_81 rfl ?_
          exact zG.to (ih (t + 1) (by omega) _ c2 v2 o2 a2 d2 p2) rfl rfl ⟨rfl, rfl, rfl, trivial⟩
        ·
          refine g_iconst hC (0) d_V_isGood_76 (by decide) rfl ?_
          exact g_zret hC hr hlk d_V_isGood_77 (Or.inl rfl) ⟨⟨false, rfl, ⟨(fun z => by cases z), fun z => absurd z (zst2_f hwn hV hO hA hk hk7 ho hoe h73)⟩⟩, fun a ha => (zgw_off _ _ _ _ _ ha).trans (hO a ha)⟩
  have J15 : ∀ (f : Nat) (t : Nat) (hif : t + f = pn) (τ : zm) (cn : Nat) (hV : zVI τ wn cn) (hO : zOf σ τ) (hA : ∀ H, zCons (σ (zp i + 6)) wn (σ (zp i + 5)) pn H → zAg τ H) (hD : ∀ t', t' < t → ∃ j, j < wn ∧ σ (zp i + 5) t' = nI j ∧ τ 7 j = 0), zG p l e (zrm 3) s m ([.ref (q (6)), .ref (q (zp i))] : List Value).toArray below meth c D K q (zA q) 3 0 0 (MQ below (va_Qi (fun r σ' => (∃ b : Bool, r = zb b ∧ (b = true ↔ ∃ H, zCons (σ (zp i + 6)) wn (σ (zp i + 5)) pn H)) ∧ zOf σ σ') (zO D K q) (zA q)) ([.ref (q (6)), .ref (q (zp i))] : List Value).toArray s 0 0 (zA q)) τ 15 [(0, .ref (q (6))), (1, .ref (q (zp i))), (2, .int (nI t))] [] := by
    intro f
    induction f with
    | zero =>
      intro t hif τ cn hV hO hA hD
      refine g_iload_n hC d_V_isGood_15 rfl rfl ?_
      refine g_aload_n hC d_V_isGood_16 rfl rfl ?_
      refine g_getV hC _ 1 6 (nI pn) (by rw [hO _ (by unfold zp; omega)]; exact h6) (zp_lt hi) (zS_p hi) rfl fl_V_28 d_V_isGood_17 rfl ?_
      refine g_icmp_ge hC 46 d_V_isGood_20 rfl rfl (fun h20 => ?_) (fun h20 => absurd (nI_le (a := pn) (b := t) (by omega) (by omega)) h20)
      refine g_iconst hC (0) d_V_isGood_46 (by decide) rfl ?_
      refine g_istore_n hC d_V_isGood_47 rfl (by decide) ?_
      exact zG.to (J48 24 0 (by omega) τ cn hV hO hA (fun t' ht' => hD t' (by omega)) (fun t' ht' => absurd ht' (Nat.not_lt_zero _))) rfl rfl ⟨rfl, rfl, rfl, trivial⟩
    | succ f ih =>
      intro t hif τ cn hV hO hA hD
      refine g_iload_n hC d_V_isGood_15 rfl rfl ?_
      refine g_aload_n hC d_V_isGood_16 rfl rfl ?_
      refine g_getV hC _ 1 6 (nI pn) (by rw [hO _ (by unfold zp; omega)]; exact h6) (zp_lt hi) (zS_p hi) rfl fl_V_28 d_V_isGood_17 rfl ?_
      refine g_icmp_ge hC 46 d_V_isGood_20 rfl rfl (fun h20 => absurd h20 (nI_ge (a := t) (b := pn) (by omega) (by omega))) (fun h20 => ?_)
      refine g_aload_n hC d_V_isGood_23 rfl rfl ?_
      refine g_aload_n hC d_V_isGood_24 rfl rfl ?_
      refine g_aload_n hC d_V_isGood_25 rfl rfl ?_
      refine g_getR hC _ 1 10 _ (zp_lt hi) (zS_p hi) rfl fl_V_33 d_V_isGood_26 rfl ?_
      refine g_iload_n hC d_V_isGood_29 rfl rfl ?_
      refine g_ialdV hC _ _ (t) (σ (zp i + 5) t) (by rw [hO _ (by unfold zp; omega)]) (zp_lt' hi 5 (by decide)) (zS_pr hi 5 (by decide)) rfl (by omega) (by decide) d_V_isGood_30 rfl ?_
      refine g_iconst hC (0) d_V_isGood_31 (by decide) rfl ?_
      refine g_goi hC rfl (z_runV hC (c_V_reach l D K q hq _ hi _ _ wn cn hwn hV.1 _ (by rw [hO _ (by unfold zp; omega)]; exact h11) hV.2.1) yy_V_reach yv_V_36 (by decide) rfl ⟨Nat.le_of_ble_eq_true rfl, Nat.le_of_ble_eq_true rfl⟩ ⟨Nat.zero_le _, Nat.zero_le _⟩ rfl (Nat.le_of_ble_eq_true rfl) d_V_isGood_32) (fun r1 σ1 q1 => ?_)
      obtain ⟨rfl, w1⟩ := q1
      obtain rfl := w1.symm
      refine g_ifne_b hC 40 d_V_isGood_35 rfl rfl (fun h35 => ?_) (fun h35 => ?_)
      ·
        obtain ⟨c2, v2, o2, a2, d2⟩ := zst1 hwn (by omega) hV hO hA hD h35
        refine g_iinc hC (nI (t + 1)) d_V_isGood_40 rfl rfl (nI_succ _).symm (by decide) ?_
        refine g_goto hC 15 d_V_isGood_43 rfl ?_
        exact zG.to (ih (t + 1) (by omega) _ c2 v2 o2 a2 d2) rfl rfl ⟨rfl, rfl, rfl, trivial⟩
      ·
        refine g_iconst hC (0) d_V_isGood_38 (by decide) rfl ?_
        exact g_zret hC hr hlk d_V_isGood_39 (Or.inl rfl) ⟨⟨false, rfl, ⟨(fun z => by cases z), fun z => absurd z (zst1_f hwn (by omega) hV hA h35)⟩⟩, fun a ha => (zrc_off _ _ _ _ ha).trans (hO a ha)⟩
  refine g_aload_n hC d_V_isGood_0 rfl rfl ?_
  refine g_getR hC _ 4 0 _ (by decide) rfl rfl fl_V_9 d_V_isGood_1 rfl ?_
  refine g_iconst hC (-1) d_V_isGood_4 (by decide) rfl ?_
  refine g_gov hC rfl (z_runS hC (c_J_fill l D K q hq _ _ (by decide) rfl (by decide) _ _) yy_J_fill ys_V_18 ⟨Nat.le_of_ble_eq_true rfl, Nat.le_of_ble_eq_true rfl⟩ ⟨Nat.zero_le _, Nat.zero_le _⟩ rfl (Nat.le_of_ble_eq_true rfl) d_V_isGood_5) (fun σ2 q2 => ?_)
  obtain rfl := q2.symm
  refine g_aload_n hC d_V_isGood_8 rfl rfl ?_
  refine g_iconst hC (0) d_V_isGood_9 (by decide) rfl ?_
  refine g_putI hC _ 4 2 (by decide) rfl rfl fp_V_24 d_V_isGood_10 rfl ?_
  refine g_iconst hC (0) d_V_isGood_13 (by decide) rfl ?_
  refine g_istore_n hC d_V_isGood_14 rfl (by decide) ?_
  exact zG.to (J15 pn 0 (by omega) (zv0 σ) 0 (zv0_VI σ wn) (fun a ha => zv0_off σ ha) (fun H hH k hk hne => absurd (zv0_7 σ hk) hne) (fun t' ht' => absurd ht' (Nat.not_lt_zero _))) rfl rfl ⟨rfl, rfl, rfl, trivial⟩
end
section
/-! the desk's methods -/
def zdok (n v g : Int32) : Bool := zin n 8 && zin g 4 && decide (1 ≤ v)
def zpok (a g : Int32) (n : Nat) : Bool := zin a 10 && (decide (g = -1) || zin g 8) && decide (n < 4)
def zaok (σ : zm) (x : Int32) : Bool := zin x 8 && !zhas (σ (zp 8) 4) x 8
def zeok (σ : zm) (x v : Int32) : Bool := zin x 8 && zin v 3 && !zdec σ 8 x
def zinst (σ : zm) (x : Int32) : Bool := zin x 8 && !decide (σ (za x.toNatClampNeg) 0 = 0)
theorem zinst_in {σ : zm} {x : Int32} (h : zinst σ x = true) : zin x 8 = true := by
  unfold zinst at h
  exact (Bool.and_eq_true _ _ ▸ h).1
/-- the first of f numbers from i on that P has; -1 if there is none -/
def zfst (P : Nat → Bool) : Nat → Nat → Int32
  | 0, _ => -1
  | f + 1, i => if P i then nI i else zfst P f (i + 1)
theorem zfst_t {P : Nat → Bool} {f i : Nat} (h : P i = true) : zfst P (f + 1) i = nI i := if_pos h
theorem zfst_f {P : Nat → Bool} {f i : Nat} (h : P i = false) : zfst P (f + 1) i = zfst P f (i + 1) := if_neg (zif_f h)
theorem zfst_of {P : Nat → Bool} : ∀ {f i : Nat}, ¬ zfst P f i = -1 → ∃ k, i ≤ k ∧ k < i + f ∧ zfst P f i = nI k ∧ P k = true
  | 0, _, h => absurd rfl h
  | f + 1, i, h => by
    cases hp : P i with
    | true => exact ⟨i, by omega, by omega, zfst_t hp, hp⟩
    | false =>
      rw [zfst_f hp] at h ⊢
      obtain ⟨k, h1, h2, h3⟩ := zfst_of h
      exact ⟨k, by omega, by omega, h3⟩
def zhit (σ : zm) (x : Int32) (n : Nat) : Bool := !decide (σ (za n) 0 = 0) && zdec σ n x
def zdcl (σ : zm) (x : Int32) : Int32 := zfst (zhit σ x) 8 0
theorem zdcl_of {σ : zm} {x : Int32} (h : ¬ zdcl σ x = -1) : ∃ d, d < 8 ∧ zdcl σ x = nI d := by
  obtain ⟨k, -, h2, h3, -⟩ := zfst_of h
  exact ⟨k, by omega, h3⟩
def zoth (σ : zm) (x n : Int32) : Bool := !decide (zdcl σ x = -1) && !decide (zdcl σ x = n)
def zhold (σ : zm) (n x : Int32) : Bool := zinst σ n && zhas (σ (zp n.toNatClampNeg) 4) x 8 && !decide (zdcl σ x = -1) && (if σ (zp (zdcl σ x).toNatClampNeg + 1) x.toNatClampNeg = 0 then true else if σ (zp (zdcl σ x).toNatClampNeg + 1) x.toNatClampNeg = 1 then zhas (σ (za n.toNatClampNeg) 2) x 8 else decide (σ (zp n.toNatClampNeg) 2 = σ (zp (zdcl σ x).toNatClampNeg) 2))
theorem zhold_1 {σ : zm} {n x : Int32} (h : zinst σ n = false) : zhold σ n x = false := by simp [zhold, h]
theorem zhold_2 {σ : zm} {n x : Int32} {k : Nat} (hc : n.toNatClampNeg = k) (h : zhas (σ (zp k) 4) x 8 = false) : zhold σ n x = false := by simp [zhold, hc, h]
theorem zhold_3 {σ : zm} {n x : Int32} (h : zdcl σ x = -1) : zhold σ n x = false := by simp [zhold, h]
theorem zhold_4 {σ : zm} {n x : Int32} {k d j : Nat} (h1 : zinst σ n = true) (hc : n.toNatClampNeg = k) (h2 : zhas (σ (zp k) 4) x 8 = true) (h3 : ¬ zdcl σ x = -1) (hd : (zdcl σ x).toNatClampNeg = d) (hj : x.toNatClampNeg = j) (h4 : σ (zp d + 1) j = 0) : zhold σ n x = true := by simp [zhold, h1, hc, h2, h3, hd, hj, h4]
theorem zhold_5 {σ : zm} {n x : Int32} {k d j : Nat} (h1 : zinst σ n = true) (hc : n.toNatClampNeg = k) (h2 : zhas (σ (zp k) 4) x 8 = true) (h3 : ¬ zdcl σ x = -1) (hd : (zdcl σ x).toNatClampNeg = d) (hj : x.toNatClampNeg = j) (h4 : ¬ σ (zp d + 1) j = 0) (h5 : σ (zp d + 1) j = 1) : zhold σ n x = zhas (σ (za k) 2) x 8 := by
  unfold zhold
  rw [hc, hd, hj, h1, h2, decide_eq_false h3, if_neg h4, if_pos h5]
  rfl
theorem zhold_6 {σ : zm} {n x : Int32} {k d j : Nat} (h1 : zinst σ n = true) (hc : n.toNatClampNeg = k) (h2 : zhas (σ (zp k) 4) x 8 = true) (h3 : ¬ zdcl σ x = -1) (hd : (zdcl σ x).toNatClampNeg = d) (hj : x.toNatClampNeg = j) (h4 : ¬ σ (zp d + 1) j = 0) (h5 : ¬ σ (zp d + 1) j = 1) : zhold σ n x = decide (σ (zp k) 2 = σ (zp d) 2) := by
  unfold zhold
  rw [hc, hd, hj, h1, h2, decide_eq_false h3, if_neg h4, if_neg h5]
  rfl
def zgua (σ : zm) (n x : Int32) : Bool := decide (x = -1) || zhold σ n x
set_option maxHeartbeats 4000000 in
set_option maxRecDepth 100000 in
theorem c_D_draft (l : Launch) (D : va_G) (K : Nat → ClassId) (q : Nat → Nat) (hq : zI q) (n v g : Int32) (σ : zm) : zMi l y_D_draft b_D_draft 4 (some .boolean) 2 D K q [.ref (q (0)), .int (n), .int (v), .int (g)] σ (fun r σ' => r = zb (zdok n v g) ∧ σ' = if zdok n v g then zbeg σ 8 n v g else σ) := by
  refine zMi.of (own := "AppDesk") (lv := [(0, .ref (q (0))), (1, .int (n)), (2, .int (v)), (3, .int (g))]) (by decide) rfl hq (Nat.le_of_ble_eq_true rfl) rfl ?_
  intro p e s m below meth c hC hr hlk
  refine g_iload_n hC d_D_draft_0 rfl rfl ?_
  refine g_bipush hC (8) d_D_draft_1 (by decide) rfl ?_
  refine g_goi hC rfl (z_runS hC (c_D_isBelow l D K q hq _ _ _) yy_D_isBelow ys_D_41 ⟨Nat.le_of_ble_eq_true rfl, Nat.le_of_ble_eq_true rfl⟩ ⟨Nat.zero_le _, Nat.zero_le _⟩ rfl (Nat.le_of_ble_eq_true rfl) d_D_draft_3) (fun r0 σ0 q0 => ?_)
  obtain ⟨rfl, w0⟩ := q0
  obtain rfl := w0.symm
  refine g_ifeq_b hC 22 d_D_draft_6 rfl rfl (fun h6 => ?_) (fun h6 => ?_)
  ·
    have hok : zdok n v g = false := by first | (simp [zdok, h6]; done) | (simp [zdok, h6, h14]; done) | (simp [zdok, h6, h14, h19]; done)
    refine g_iconst hC (0) d_D_draft_22 (by decide) rfl ?_
    exact g_zret hC hr hlk d_D_draft_23 (Or.inl rfl) ⟨by rw [hok]; rfl, (if_neg (zif_f hok)).symm⟩
  ·
    refine g_iload_n hC d_D_draft_9 rfl rfl ?_
    refine g_iconst hC (4) d_D_draft_10 (by decide) rfl ?_
    refine g_goi hC rfl (z_runS hC (c_D_isBelow l D K q hq _ _ _) yy_D_isBelow ys_D_41 ⟨Nat.le_of_ble_eq_true rfl, Nat.le_of_ble_eq_true rfl⟩ ⟨Nat.zero_le _, Nat.zero_le _⟩ rfl (Nat.le_of_ble_eq_true rfl) d_D_draft_11) (fun r1 σ1 q1 => ?_)
    obtain ⟨rfl, w1⟩ := q1
    obtain rfl := w1.symm
    refine g_ifeq_b hC 22 d_D_draft_14 rfl rfl (fun h14 => ?_) (fun h14 => ?_)
    ·
      have hok : zdok n v g = false := by first | (simp [zdok, h6]; done) | (simp [zdok, h6, h14]; done) | (simp [zdok, h6, h14, h19]; done)
      refine g_iconst hC (0) d_D_draft_22 (by decide) rfl ?_
      exact g_zret hC hr hlk d_D_draft_23 (Or.inl rfl) ⟨by rw [hok]; rfl, (if_neg (zif_f hok)).symm⟩
    ·
      refine g_iload_n hC d_D_draft_17 rfl rfl ?_
      refine g_iconst hC (1) d_D_draft_18 (by decide) rfl ?_
      refine g_icmp_ge hC 24 d_D_draft_19 rfl rfl (fun h19 => ?_) (fun h19 => ?_)
      ·
        have hok : zdok n v g = true := by simp [zdok, h6, h14, h19]
        refine g_aload_n hC d_D_draft_24 rfl rfl ?_
        refine g_getR hC _ 0 0 _ (by decide) rfl rfl fl_D_10 d_D_draft_25 rfl ?_
        refine g_iload_n hC d_D_draft_28 rfl rfl ?_
        refine g_iload_n hC d_D_draft_29 rfl rfl ?_
        refine g_iload_n hC d_D_draft_30 rfl rfl ?_
        refine g_gov hC rfl (z_runV hC (c_P_beginAnew l D K q hq _ (by decide : 8 < 9) _ _ _ _) yy_P_beginAnew yv_D_45 (zp_lt (by decide : 8 < 9)) (zS_p (by decide : 8 < 9)) ⟨Nat.le_of_ble_eq_true rfl, Nat.le_of_ble_eq_true rfl⟩ ⟨Nat.zero_le _, Nat.zero_le _⟩ rfl (Nat.le_of_ble_eq_true rfl) d_D_draft_31) (fun σ2 q2 => ?_)
        obtain rfl := q2.symm
        refine g_iconst hC (1) d_D_draft_34 (by decide) rfl ?_
        exact g_zret hC hr hlk d_D_draft_35 (Or.inr rfl) ⟨by rw [hok]; rfl, (if_pos hok).symm⟩
      ·
        have hok : zdok n v g = false := by first | (simp [zdok, h6]; done) | (simp [zdok, h6, h14]; done) | (simp [zdok, h6, h14, h19]; done)
        refine g_iconst hC (0) d_D_draft_22 (by decide) rfl ?_
        exact g_zret hC hr hlk d_D_draft_23 (Or.inl rfl) ⟨by rw [hok]; rfl, (if_neg (zif_f hok)).symm⟩
set_option maxHeartbeats 4000000 in
set_option maxRecDepth 100000 in
theorem c_D_word (l : Launch) (D : va_G) (K : Nat → ClassId) (q : Nat → Nat) (hq : zI q) (w : Int32) (σ : zm) (n : Nat) (hn : n ≤ 24) (h : σ (zp 8) 11 = nI n) : zMi l y_D_word b_D_word 2 (some .boolean) 1 D K q [.ref (q (0)), .int (w)] σ (fun r σ' => r = zb (decide (n < 24)) ∧ σ' = if n < 24 then zu (zu σ (zp 8 + 6) n w) (zp 8) 11 (nI (n + 1)) else σ) := by
  refine zMi.of (own := "AppDesk") (lv := [(0, .ref (q (0))), (1, .int (w))]) (by decide) rfl hq (Nat.le_of_ble_eq_true rfl) rfl ?_
  intro p e s m below meth c hC hr hlk
  refine g_aload_n hC d_D_word_0 rfl rfl ?_
  refine g_getR hC _ 0 0 _ (by decide) rfl rfl fl_D_10 d_D_word_1 rfl ?_
  refine g_iload_n hC d_D_word_4 rfl rfl ?_
  refine g_goi hC rfl (z_runV hC (c_P_addWord l D K q hq _ (by decide : 8 < 9) _ _ n hn h) yy_P_addWord yv_D_49 (zp_lt (by decide : 8 < 9)) (zS_p (by decide : 8 < 9)) ⟨Nat.le_of_ble_eq_true rfl, Nat.le_of_ble_eq_true rfl⟩ ⟨Nat.zero_le _, Nat.zero_le _⟩ rfl (Nat.le_of_ble_eq_true rfl) d_D_word_5) (fun r0 σ0 q0 => ?_)
  obtain ⟨rfl, w0⟩ := q0
  obtain rfl := w0.symm
  exact g_zret hC hr hlk d_D_word_8 (zb01 _) ⟨rfl, rfl⟩
set_option maxHeartbeats 4000000 in
set_option maxRecDepth 100000 in
theorem c_D_part (l : Launch) (D : va_G) (K : Nat → ClassId) (q : Nat → Nat) (hq : zI q) (a : Int32) (b : Bool) (g p0 : Int32) (σ : zm) (n : Nat) (hn : n ≤ 4) (h : σ (zp 8) 6 = nI n) : zMi l y_D_part b_D_part 5 (some .boolean) 1 D K q [.ref (q (0)), .int (a), .int (zb b), .int (g), .int (p0)] σ (fun r σ' => r = zb (zpok a g n) ∧ σ' = if zpok a g n then zpar σ 8 n a (zb b) g p0 else σ) := by
  refine zMi.of (own := "AppDesk") (lv := [(0, .ref (q (0))), (1, .int (a)), (2, .int (zb b)), (3, .int (g)), (4, .int (p0))]) (by decide) rfl hq (Nat.le_of_ble_eq_true rfl) rfl ?_
  intro p e s m below meth c hC hr hlk
  refine g_iload_n hC d_D_part_0 rfl rfl ?_
  refine g_bipush hC (10) d_D_part_1 (by decide) rfl ?_
  refine g_goi hC rfl (z_runS hC (c_D_isBelow l D K q hq _ _ _) yy_D_isBelow ys_D_41 ⟨Nat.le_of_ble_eq_true rfl, Nat.le_of_ble_eq_true rfl⟩ ⟨Nat.zero_le _, Nat.zero_le _⟩ rfl (Nat.le_of_ble_eq_true rfl) d_D_part_3) (fun r0 σ0 q0 => ?_)
  obtain ⟨rfl, w0⟩ := q0
  obtain rfl := w0.symm
  refine g_ifeq_b hC 23 d_D_part_6 rfl rfl (fun h6 => ?_) (fun h6 => ?_)
  ·
    have hok : zpok a g n = false := by first | (simp [zpok, h6]; done) | (simp [zpok, h6, h11, h20]; done)
    refine g_iconst hC (0) d_D_part_23 (by decide) rfl ?_
    exact g_zret hC hr hlk d_D_part_24 (Or.inl rfl) ⟨by rw [hok]; rfl, (if_neg (zif_f hok)).symm⟩
  ·
    refine g_iload_n hC d_D_part_9 rfl rfl ?_
    refine g_iconst hC (-1) d_D_part_10 (by decide) rfl ?_
    refine g_icmp_eq hC 25 d_D_part_11 rfl rfl (fun h11 => ?_) (fun h11 => ?_)
    ·
      have hok : zpok a g n = decide (n < 4) := by first | (simp [zpok, h6, h11]; done) | (simp [zpok, h6, h11, h20]; done)
      refine g_aload_n hC d_D_part_25 rfl rfl ?_
      refine g_getR hC _ 0 0 _ (by decide) rfl rfl fl_D_10 d_D_part_26 rfl ?_
      refine g_iload_n hC d_D_part_29 rfl rfl ?_
      refine g_iload_n hC d_D_part_30 rfl rfl ?_
      refine g_iload_n hC d_D_part_31 rfl rfl ?_
      refine g_iload hC d_D_part_32 rfl rfl ?_
      refine g_goi hC rfl (z_runV hC (c_P_addPart l D K q hq _ (by decide : 8 < 9) _ _ _ _ _ n hn h) yy_P_addPart yv_D_53 (zp_lt (by decide : 8 < 9)) (zS_p (by decide : 8 < 9)) ⟨Nat.le_of_ble_eq_true rfl, Nat.le_of_ble_eq_true rfl⟩ ⟨Nat.zero_le _, Nat.zero_le _⟩ rfl (Nat.le_of_ble_eq_true rfl) d_D_part_34) (fun r1 σ1 q1 => ?_)
      obtain ⟨rfl, w1⟩ := q1
      obtain rfl := w1.symm
      exact g_zret hC hr hlk d_D_part_37 (zb01 _) ⟨by rw [hok], by rw [hok]; by_cases z : n < 4 <;> simp [z]⟩
    ·
      refine g_iload_n hC d_D_part_14 rfl rfl ?_
      refine g_bipush hC (8) d_D_part_15 (by decide) rfl ?_
      refine g_goi hC rfl (z_runS hC (c_D_isBelow l D K q hq _ _ _) yy_D_isBelow ys_D_41 ⟨Nat.le_of_ble_eq_true rfl, Nat.le_of_ble_eq_true rfl⟩ ⟨Nat.zero_le _, Nat.zero_le _⟩ rfl (Nat.le_of_ble_eq_true rfl) d_D_part_17) (fun r2 σ2 q2 => ?_)
      obtain ⟨rfl, w2⟩ := q2
      obtain rfl := w2.symm
      refine g_ifne_b hC 25 d_D_part_20 rfl rfl (fun h20 => ?_) (fun h20 => ?_)
      ·
        have hok : zpok a g n = decide (n < 4) := by first | (simp [zpok, h6, h11]; done) | (simp [zpok, h6, h11, h20]; done)
        refine g_aload_n hC d_D_part_25 rfl rfl ?_
        refine g_getR hC _ 0 0 _ (by decide) rfl rfl fl_D_10 d_D_part_26 rfl ?_
        refine g_iload_n hC d_D_part_29 rfl rfl ?_
        refine g_iload_n hC d_D_part_30 rfl rfl ?_
        refine g_iload_n hC d_D_part_31 rfl rfl ?_
        refine g_iload hC d_D_part_32 rfl rfl ?_
        refine g_goi hC rfl (z_runV hC (c_P_addPart l D K q hq _ (by decide : 8 < 9) _ _ _ _ _ n hn h) yy_P_addPart yv_D_53 (zp_lt (by decide : 8 < 9)) (zS_p (by decide : 8 < 9)) ⟨Nat.le_of_ble_eq_true rfl, Nat.le_of_ble_eq_true rfl⟩ ⟨Nat.zero_le _, Nat.zero_le _⟩ rfl (Nat.le_of_ble_eq_true rfl) d_D_part_34) (fun r3 σ3 q3 => ?_)
        obtain ⟨rfl, w3⟩ := q3
        obtain rfl := w3.symm
        exact g_zret hC hr hlk d_D_part_37 (zb01 _) ⟨by rw [hok], by rw [hok]; by_cases z : n < 4 <;> simp [z]⟩
      ·
        have hok : zpok a g n = false := by first | (simp [zpok, h6]; done) | (simp [zpok, h6, h11, h20]; done)
        refine g_iconst hC (0) d_D_part_23 (by decide) rfl ?_
        exact g_zret hC hr hlk d_D_part_24 (Or.inl rfl) ⟨by rw [hok]; rfl, (if_neg (zif_f hok)).symm⟩
set_option maxHeartbeats 4000000 in
set_option maxRecDepth 100000 in
theorem c_D_ask (l : Launch) (D : va_G) (K : Nat → ClassId) (q : Nat → Nat) (hq : zI q) (x : Int32) (σ : zm) : zMi l y_D_ask b_D_ask 2 (some .boolean) 3 D K q [.ref (q (0)), .int (x)] σ (fun r σ' => r = zb (zaok σ x) ∧ σ' = if zaok σ x then zu σ (zp 8) 4 (σ (zp 8) 4 ||| (1 <<< (x &&& 31))) else σ) := by
  refine zMi.of (own := "AppDesk") (lv := [(0, .ref (q (0))), (1, .int (x))]) (by decide) rfl hq (Nat.le_of_ble_eq_true rfl) rfl ?_
  intro p e s m below meth c hC hr hlk
  refine g_iload_n hC d_D_ask_0 rfl rfl ?_
  refine g_bipush hC (8) d_D_ask_1 (by decide) rfl ?_
  refine g_goi hC rfl (z_runS hC (c_D_isBelow l D K q hq _ _ _) yy_D_isBelow ys_D_41 ⟨Nat.le_of_ble_eq_true rfl, Nat.le_of_ble_eq_true rfl⟩ ⟨Nat.zero_le _, Nat.zero_le _⟩ rfl (Nat.le_of_ble_eq_true rfl) d_D_ask_3) (fun r0 σ0 q0 => ?_)
  obtain ⟨rfl, w0⟩ := q0
  obtain rfl := w0.symm
  refine g_ifeq_b hC 20 d_D_ask_6 rfl rfl (fun h6 => ?_) (fun h6 => ?_)
  ·
    have hok : zaok σ x = false := by first | (simp [zaok, h6]; done) | (simp [zaok, h6, h17]; done)
    refine g_iconst hC (0) d_D_ask_20 (by decide) rfl ?_
    exact g_zret hC hr hlk d_D_ask_21 (Or.inl rfl) ⟨by rw [hok]; rfl, (if_neg (zif_f hok)).symm⟩
  ·
    refine g_aload_n hC d_D_ask_9 rfl rfl ?_
    refine g_getR hC _ 0 0 _ (by decide) rfl rfl fl_D_10 d_D_ask_10 rfl ?_
    refine g_iload_n hC d_D_ask_13 rfl rfl ?_
    refine g_goi hC rfl (z_runV hC (c_P_asksFor l D K q hq _ (by decide : 8 < 9) _ _) yy_P_asksFor yv_D_57 (zp_lt (by decide : 8 < 9)) (zS_p (by decide : 8 < 9)) ⟨Nat.le_of_ble_eq_true rfl, Nat.le_of_ble_eq_true rfl⟩ ⟨Nat.zero_le _, Nat.zero_le _⟩ rfl (Nat.le_of_ble_eq_true rfl) d_D_ask_14) (fun r1 σ1 q1 => ?_)
    obtain ⟨rfl, w1⟩ := q1
    obtain rfl := w1.symm
    refine g_ifeq_b hC 22 d_D_ask_17 rfl rfl (fun h17 => ?_) (fun h17 => ?_)
    ·
      have hok : zaok σ x = true := by simp [zaok, h6, h17]
      refine g_aload_n hC d_D_ask_22 rfl rfl ?_
      refine g_getR hC _ 0 0 _ (by decide) rfl rfl fl_D_10 d_D_ask_23 rfl ?_
      refine g_dup hC d_D_ask_26 rfl rfl ?_
      refine g_getI hC _ 1 4 (zp_lt (by decide : 8 < 9)) (zS_p (by decide : 8 < 9)) rfl fl_D_60 d_D_ask_27 rfl ?_
      refine g_iconst hC (1) d_D_ask_30 (by decide) rfl ?_
      refine g_iload_n hC d_D_ask_31 rfl rfl ?_
      refine g_ishl hC d_D_ask_32 rfl ?_
      refine g_ior hC d_D_ask_33 rfl ?_
      refine g_putI hC _ 1 4 (zp_lt (by decide : 8 < 9)) (zS_p (by decide : 8 < 9)) rfl fp_D_60 d_D_ask_34 rfl ?_
      refine g_iconst hC (1) d_D_ask_37 (by decide) rfl ?_
      exact g_zret hC hr hlk d_D_ask_38 (Or.inr rfl) ⟨by rw [hok]; rfl, (if_pos hok).symm⟩
    ·
      have hok : zaok σ x = false := by first | (simp [zaok, h6]; done) | (simp [zaok, h6, h17]; done)
      refine g_iconst hC (0) d_D_ask_20 (by decide) rfl ?_
      exact g_zret hC hr hlk d_D_ask_21 (Or.inl rfl) ⟨by rw [hok]; rfl, (if_neg (zif_f hok)).symm⟩
set_option maxHeartbeats 4000000 in
set_option maxRecDepth 100000 in
theorem c_D_declare (l : Launch) (D : va_G) (K : Nat → ClassId) (q : Nat → Nat) (hq : zI q) (x v : Int32) (σ : zm) : zMi l y_D_declare b_D_declare 3 (some .boolean) 2 D K q [.ref (q (0)), .int (x), .int (v)] σ (fun r σ' => r = zb (zeok σ x v) ∧ σ' = if zeok σ x v then zu σ (zp 8 + 1) x.toNatClampNeg v else σ) := by
  refine zMi.of (own := "AppDesk") (lv := [(0, .ref (q (0))), (1, .int (x)), (2, .int (v))]) (by decide) rfl hq (Nat.le_of_ble_eq_true rfl) rfl ?_
  intro p e s m below meth c hC hr hlk
  refine g_iload_n hC d_D_declare_0 rfl rfl ?_
  refine g_bipush hC (8) d_D_declare_1 (by decide) rfl ?_
  refine g_goi hC rfl (z_runS hC (c_D_isBelow l D K q hq _ _ _) yy_D_isBelow ys_D_41 ⟨Nat.le_of_ble_eq_true rfl, Nat.le_of_ble_eq_true rfl⟩ ⟨Nat.zero_le _, Nat.zero_le _⟩ rfl (Nat.le_of_ble_eq_true rfl) d_D_declare_3) (fun r0 σ0 q0 => ?_)
  obtain ⟨rfl, w0⟩ := q0
  obtain rfl := w0.symm
  refine g_ifeq_b hC 28 d_D_declare_6 rfl rfl (fun h6 => ?_) (fun h6 => ?_)
  ·
    have hok : zeok σ x v = false := by first | (simp [zeok, h6]; done) | (simp [zeok, h6, h14]; done) | (simp [zeok, h6, h14, h25]; done)
    refine g_iconst hC (0) d_D_declare_28 (by decide) rfl ?_
    exact g_zret hC hr hlk d_D_declare_29 (Or.inl rfl) ⟨by rw [hok]; rfl, (if_neg (zif_f hok)).symm⟩
  ·
    refine g_iload_n hC d_D_declare_9 rfl rfl ?_
    refine g_iconst hC (3) d_D_declare_10 (by decide) rfl ?_
    refine g_goi hC rfl (z_runS hC (c_D_isBelow l D K q hq _ _ _) yy_D_isBelow ys_D_41 ⟨Nat.le_of_ble_eq_true rfl, Nat.le_of_ble_eq_true rfl⟩ ⟨Nat.zero_le _, Nat.zero_le _⟩ rfl (Nat.le_of_ble_eq_true rfl) d_D_declare_11) (fun r1 σ1 q1 => ?_)
    obtain ⟨rfl, w1⟩ := q1
    obtain rfl := w1.symm
    refine g_ifeq_b hC 28 d_D_declare_14 rfl rfl (fun h14 => ?_) (fun h14 => ?_)
    ·
      have hok : zeok σ x v = false := by first | (simp [zeok, h6]; done) | (simp [zeok, h6, h14]; done) | (simp [zeok, h6, h14, h25]; done)
      refine g_iconst hC (0) d_D_declare_28 (by decide) rfl ?_
      exact g_zret hC hr hlk d_D_declare_29 (Or.inl rfl) ⟨by rw [hok]; rfl, (if_neg (zif_f hok)).symm⟩
    ·
      refine g_aload_n hC d_D_declare_17 rfl rfl ?_
      refine g_getR hC _ 0 0 _ (by decide) rfl rfl fl_D_10 d_D_declare_18 rfl ?_
      refine g_iload_n hC d_D_declare_21 rfl rfl ?_
      refine g_goi hC rfl (z_runV hC (c_P_declares l D K q hq _ (by decide : 8 < 9) _ _) yy_P_declares yv_D_63 (zp_lt (by decide : 8 < 9)) (zS_p (by decide : 8 < 9)) ⟨Nat.le_of_ble_eq_true rfl, Nat.le_of_ble_eq_true rfl⟩ ⟨Nat.zero_le _, Nat.zero_le _⟩ rfl (Nat.le_of_ble_eq_true rfl) d_D_declare_22) (fun r2 σ2 q2 => ?_)
      obtain ⟨rfl, w2⟩ := q2
      obtain rfl := w2.symm
      refine g_ifeq_b hC 30 d_D_declare_25 rfl rfl (fun h25 => ?_) (fun h25 => ?_)
      ·
        have hok : zeok σ x v = true := by simp [zeok, h6, h14, h25]
        obtain ⟨k, hk, hx⟩ := zin_of (n := 8) (by decide) h6
        have hc : (x).toNatClampNeg = k := by rw [hx]; exact nI_clamp (by omega)
        refine g_aload_n hC d_D_declare_30 rfl rfl ?_
        refine g_getR hC _ 0 0 _ (by decide) rfl rfl fl_D_10 d_D_declare_31 rfl ?_
        refine g_getR hC _ 1 5 _ (zp_lt (by decide : 8 < 9)) (zS_p (by decide : 8 < 9)) rfl fl_D_66 d_D_declare_34 rfl ?_
        refine g_iload_n hC d_D_declare_37 rfl rfl ?_
        refine g_iload_n hC d_D_declare_38 rfl rfl ?_
        refine g_iast hC _ _ k (zp_lt' (by decide : 8 < 9) 1 (by decide)) (zS_pr (by decide : 8 < 9) 1 (by decide)) hx hk (by decide) d_D_declare_39 rfl ?_
        refine g_iconst hC (1) d_D_declare_40 (by decide) rfl ?_
        exact g_zret hC hr hlk d_D_declare_41 (Or.inr rfl) ⟨by rw [hok]; rfl, by rw [if_pos hok, hc]⟩
      ·
        have hok : zeok σ x v = false := by first | (simp [zeok, h6]; done) | (simp [zeok, h6, h14]; done) | (simp [zeok, h6, h14, h25]; done)
        refine g_iconst hC (0) d_D_declare_28 (by decide) rfl ?_
        exact g_zret hC hr hlk d_D_declare_29 (Or.inl rfl) ⟨by rw [hok]; rfl, (if_neg (zif_f hok)).symm⟩
set_option maxHeartbeats 4000000 in
set_option maxRecDepth 100000 in
theorem c_D_sign (l : Launch) (D : va_G) (K : Nat → ClassId) (q : Nat → Nat) (hq : zI q) (σ : zm) (pn wn : Nat) (hpn : pn ≤ 4) (hwn : wn ≤ 24) (h6 : σ (zp 8) 6 = nI pn) (h11 : σ (zp 8) 11 = nI wn) : zMi l y_D_sign b_D_sign 1 (some .int) 4 D K q [.ref (q (0))] σ (fun r σ' => r = zsea σ 8 pn wn ∧ σ' = zu σ (zp 8) 3 (zsea σ 8 pn wn)) := by
  refine zMi.of (own := "AppDesk") (lv := [(0, .ref (q (0)))]) (by decide) rfl hq (Nat.le_of_ble_eq_true rfl) rfl ?_
  intro p e s m below meth c hC hr hlk
  refine g_aload_n hC d_D_sign_0 rfl rfl ?_
  refine g_getR hC _ 0 0 _ (by decide) rfl rfl fl_D_10 d_D_sign_1 rfl ?_
  refine g_aload_n hC d_D_sign_4 rfl rfl ?_
  refine g_getR hC _ 0 0 _ (by decide) rfl rfl fl_D_10 d_D_sign_5 rfl ?_
  refine g_goi hC rfl (z_runV hC (c_P_sealOfSigner l D K q hq _ (by decide : 8 < 9) _ pn wn hpn hwn h6 h11) yy_P_sealOfSigner yv_D_70 (zp_lt (by decide : 8 < 9)) (zS_p (by decide : 8 < 9)) ⟨Nat.le_of_ble_eq_true rfl, Nat.le_of_ble_eq_true rfl⟩ ⟨Nat.zero_le _, Nat.zero_le _⟩ rfl (Nat.le_of_ble_eq_true rfl) d_D_sign_8) (fun r0 σ0 q0 => ?_)
  obtain ⟨rfl, w0⟩ := q0
  obtain rfl := w0.symm
  refine g_putI hC _ 1 3 (zp_lt (by decide : 8 < 9)) (zS_p (by decide : 8 < 9)) rfl fp_D_74 d_D_sign_11 rfl ?_
  refine g_aload_n hC d_D_sign_14 rfl rfl ?_
  refine g_getR hC _ 0 0 _ (by decide) rfl rfl fl_D_10 d_D_sign_15 rfl ?_
  refine g_getV hC _ 1 3 (zsea σ 8 pn wn) (zu_eq _ _ _ _) (zp_lt (by decide : 8 < 9)) (zS_p (by decide : 8 < 9)) rfl fl_D_74 d_D_sign_18 rfl ?_
  exact g_iret hC hr hlk d_D_sign_21 ⟨rfl, rfl⟩
set_option maxHeartbeats 4000000 in
set_option maxRecDepth 100000 in
theorem c_D_seal (l : Launch) (D : va_G) (K : Nat → ClassId) (q : Nat → Nat) (hq : zI q) (x : Int32) (σ : zm) : zMv l y_D_seal b_D_seal 2 none 0 D K q [.ref (q (0)), .int (x)] σ (fun σ' => σ' = zu σ (zp 8) 3 x) := by
  refine zMv.of (own := "AppDesk") (lv := [(0, .ref (q (0))), (1, .int (x))]) (by decide) rfl hq (Nat.le_of_ble_eq_true rfl) rfl ?_
  intro p e s m below meth c hC hr hlk
  refine g_aload_n hC d_D_seal_0 rfl rfl ?_
  refine g_getR hC _ 0 0 _ (by decide) rfl rfl fl_D_10 d_D_seal_1 rfl ?_
  refine g_iload_n hC d_D_seal_4 rfl rfl ?_
  refine g_putI hC _ 1 3 (zp_lt (by decide : 8 < 9)) (zS_p (by decide : 8 < 9)) rfl fp_D_74 d_D_seal_5 rfl ?_
  exact g_vret hC hr hlk d_D_seal_8 rfl
set_option maxHeartbeats 4000000 in
set_option maxRecDepth 100000 in
theorem c_D_isInstalled (l : Launch) (D : va_G) (K : Nat → ClassId) (q : Nat → Nat) (hq : zI q) (x : Int32) (σ : zm) : zMi l y_D_isInstalled b_D_isInstalled 2 (some .boolean) 1 D K q [.ref (q (0)), .int (x)] σ (fun r σ' => r = zb (zinst σ x) ∧ σ' = σ) := by
  refine zMi.of (own := "AppDesk") (lv := [(0, .ref (q (0))), (1, .int (x))]) (by decide) rfl hq (Nat.le_of_ble_eq_true rfl) rfl ?_
  intro p e s m below meth c hC hr hlk
  refine g_iload_n hC d_D_isInstalled_0 rfl rfl ?_
  refine g_bipush hC (8) d_D_isInstalled_1 (by decide) rfl ?_
  refine g_goi hC rfl (z_runS hC (c_D_isBelow l D K q hq _ _ _) yy_D_isBelow ys_D_41 ⟨Nat.le_of_ble_eq_true rfl, Nat.le_of_ble_eq_true rfl⟩ ⟨Nat.zero_le _, Nat.zero_le _⟩ rfl (Nat.le_of_ble_eq_true rfl) d_D_isInstalled_3) (fun r0 σ0 q0 => ?_)
  obtain ⟨rfl, w0⟩ := q0
  obtain rfl := w0.symm
  refine g_ifeq_b hC 25 d_D_isInstalled_6 rfl rfl (fun h6 => ?_) (fun h6 => ?_)
  ·
    refine g_iconst hC (0) d_D_isInstalled_25 (by decide) rfl ?_
    exact g_zret hC hr hlk d_D_isInstalled_26 (Or.inl rfl) ⟨by first | (simp [zinst, h6, hc, h18, zb]; done) | (simp [zinst, h6, zb]; done), rfl⟩
  ·
    obtain ⟨k, hk, hx⟩ := zin_of (n := 8) (by decide) h6
    have hc : (x).toNatClampNeg = k := by rw [hx]; exact nI_clamp (by omega)
    refine g_aload_n hC d_D_isInstalled_9 rfl rfl ?_
    refine g_getR hC _ 0 1 _ (by decide) rfl rfl fl_D_18 d_D_isInstalled_10 rfl ?_
    refine g_iload_n hC d_D_isInstalled_13 rfl rfl ?_
    refine g_aald hC _ _ k _ (by decide) rfl hx hk (by decide) (zS_app hk) d_D_isInstalled_14 rfl ?_
    refine g_getI hC _ 2 0 (za_lt hk) (zS_a hk) rfl fl_D_182 d_D_isInstalled_15 rfl ?_
    refine g_if_eq hC 25 d_D_isInstalled_18 rfl rfl (fun h18 => ?_) (fun h18 => ?_)
    ·
      refine g_iconst hC (0) d_D_isInstalled_25 (by decide) rfl ?_
      exact g_zret hC hr hlk d_D_isInstalled_26 (Or.inl rfl) ⟨by first | (simp [zinst, h6, hc, h18, zb]; done) | (simp [zinst, h6, zb]; done), rfl⟩
    ·
      refine g_iconst hC (1) d_D_isInstalled_21 (by decide) rfl ?_
      refine g_goto hC 26 d_D_isInstalled_22 rfl ?_
      exact g_zret hC hr hlk d_D_isInstalled_26 (Or.inr rfl) ⟨by first | (simp [zinst, h6, hc, h18, zb]; done) | (simp [zinst, h6, zb]; done), rfl⟩
set_option maxHeartbeats 4000000 in
set_option maxRecDepth 100000 in
theorem c_D_declarerOf (l : Launch) (D : va_G) (K : Nat → ClassId) (q : Nat → Nat) (hq : zI q) (x : Int32) (σ : zm) : zMi l y_D_declarerOf b_D_declarerOf 3 (some .int) 2 D K q [.ref (q (0)), .int (x)] σ (fun r σ' => r = zdcl σ x ∧ σ' = σ) := by
  refine zMi.of (own := "AppDesk") (lv := [(0, .ref (q (0))), (1, .int (x))]) (by decide) rfl hq (Nat.le_of_ble_eq_true rfl) rfl ?_
  intro p e s m below meth c hC hr hlk
  have J2 : ∀ (f : Nat) (k : Nat) (hif : k + f = 8) (he : zdcl σ x = zfst (zhit σ x) f k), zG p l e (zrm 2) s m ([.ref (q (0)), .int (x)] : List Value).toArray below meth c D K q (zA q) 3 0 0 (MQ below (va_Qi (fun r σ' => r = zdcl σ x ∧ σ' = σ) (zO D K q) (zA q)) ([.ref (q (0)), .int (x)] : List Value).toArray s 0 0 (zA q)) σ 2 [(0, .ref (q (0))), (1, .int (x)), (2, .int (nI k))] [] := by
    intro f
    induction f with
    | zero =>
      intro k hif he
      refine g_iload_n hC d_D_declarerOf_2 rfl rfl ?_
      refine g_bipush hC (8) d_D_declarerOf_3 (by decide) rfl ?_
      refine g_icmp_ge hC 44 d_D_declarerOf_5 rfl rfl (fun h5 => ?_) (fun h5 => absurd (nI_le (a := 8) (b := k) (by omega) (by omega)) h5)
      refine g_iconst hC (-1) d_D_declarerOf_44 (by decide) rfl ?_
      exact g_iret hC hr hlk d_D_declarerOf_45 ⟨he.symm, rfl⟩
    | succ f ih =>
      intro k hif he
      have hk8 : k < 8 := by omega
      refine g_iload_n hC d_D_declarerOf_2 rfl rfl ?_
      refine g_bipush hC (8) d_D_declarerOf_3 (by decide) rfl ?_
      refine g_icmp_ge hC 44 d_D_declarerOf_5 rfl rfl (fun h5 => absurd h5 (nI_ge (a := k) (b := 8) (by omega) (by omega))) (fun h5 => ?_)
      refine g_aload_n hC d_D_declarerOf_8 rfl rfl ?_
      refine g_getR hC _ 0 1 _ (by decide) rfl rfl fl_D_18 d_D_declarerOf_9 rfl ?_
      refine g_iload_n hC d_D_declarerOf_12 rfl rfl ?_
      refine g_aald hC _ _ k _ (by decide) rfl rfl hk8 (by decide) (zS_app hk8) d_D_declarerOf_13 rfl ?_
      refine g_getI hC _ 2 0 (za_lt hk8) (zS_a hk8) rfl fl_D_182 d_D_declarerOf_14 rfl ?_
      refine g_if_eq hC 38 d_D_declarerOf_17 rfl rfl (fun h17 => ?_) (fun h17 => ?_)
      ·
        refine g_iinc hC (nI (k + 1)) d_D_declarerOf_38 rfl rfl (nI_succ _).symm (by decide) ?_
        refine g_goto hC 2 d_D_declarerOf_41 rfl ?_
        exact zG.to (ih (k + 1) (by omega) (he.trans (zfst_f (by first | (simp [zhit, h17]; done) | (simp [zhit, h17, h33]; done))))) rfl rfl ⟨rfl, rfl, rfl, trivial⟩
      ·
        refine g_aload_n hC d_D_declarerOf_20 rfl rfl ?_
        refine g_getR hC _ 0 1 _ (by decide) rfl rfl fl_D_18 d_D_declarerOf_21 rfl ?_
        refine g_iload_n hC d_D_declarerOf_24 rfl rfl ?_
        refine g_aald hC _ _ k _ (by decide) rfl rfl hk8 (by decide) (zS_app hk8) d_D_declarerOf_25 rfl ?_
        refine g_getR hC _ 2 1 _ (za_lt hk8) (zS_a hk8) rfl fl_D_107 d_D_declarerOf_26 rfl ?_
        refine g_iload_n hC d_D_declarerOf_29 rfl rfl ?_
        refine g_goi hC rfl (z_runV hC (c_P_declares l D K q hq _ (Nat.lt_succ_of_lt hk8) _ _) yy_P_declares yv_D_63 (zp_lt (Nat.lt_succ_of_lt hk8)) (zS_p (Nat.lt_succ_of_lt hk8)) ⟨Nat.le_of_ble_eq_true rfl, Nat.le_of_ble_eq_true rfl⟩ ⟨Nat.zero_le _, Nat.zero_le _⟩ rfl (Nat.le_of_ble_eq_true rfl) d_D_declarerOf_30) (fun r0 σ0 q0 => ?_)
        obtain ⟨rfl, w0⟩ := q0
        obtain rfl := w0.symm
        refine g_ifeq_b hC 38 d_D_declarerOf_33 rfl rfl (fun h33 => ?_) (fun h33 => ?_)
        ·
          refine g_iinc hC (nI (k + 1)) d_D_declarerOf_38 rfl rfl (nI_succ _).symm (by decide) ?_
          refine g_goto hC 2 d_D_declarerOf_41 rfl ?_
          exact zG.to (ih (k + 1) (by omega) (he.trans (zfst_f (by first | (simp [zhit, h17]; done) | (simp [zhit, h17, h33]; done))))) rfl rfl ⟨rfl, rfl, rfl, trivial⟩
        ·
          refine g_iload_n hC d_D_declarerOf_36 rfl rfl ?_
          exact g_iret hC hr hlk d_D_declarerOf_37 ⟨by rw [he, zfst_t (by simp [zhit, h17, h33])], rfl⟩
  refine g_iconst hC (0) d_D_declarerOf_0 (by decide) rfl ?_
  refine g_istore_n hC d_D_declarerOf_1 rfl (by decide) ?_
  exact zG.to (J2 8 0 (by omega) rfl) rfl rfl ⟨rfl, rfl, rfl, trivial⟩
set_option maxHeartbeats 4000000 in
set_option maxRecDepth 100000 in
theorem c_D_isDeclaredByOther (l : Launch) (D : va_G) (K : Nat → ClassId) (q : Nat → Nat) (hq : zI q) (x n : Int32) (σ : zm) : zMi l y_D_isDeclaredByOther b_D_isDeclaredByOther 4 (some .boolean) 3 D K q [.ref (q (0)), .int (x), .int (n)] σ (fun r σ' => r = zb (zoth σ x n) ∧ σ' = σ) := by
  refine zMi.of (own := "AppDesk") (lv := [(0, .ref (q (0))), (1, .int (x)), (2, .int (n))]) (by decide) rfl hq (Nat.le_of_ble_eq_true rfl) rfl ?_
  intro p e s m below meth c hC hr hlk
  refine g_aload_n hC d_D_isDeclaredByOther_0 rfl rfl ?_
  refine g_iload_n hC d_D_isDeclaredByOther_1 rfl rfl ?_
  refine g_goi hC rfl (z_runV hC (c_D_declarerOf l D K q hq _ _ ) yy_D_declarerOf yv_D_176 (by decide) rfl ⟨Nat.le_of_ble_eq_true rfl, Nat.le_of_ble_eq_true rfl⟩ ⟨Nat.zero_le _, Nat.zero_le _⟩ rfl (Nat.le_of_ble_eq_true rfl) d_D_isDeclaredByOther_2) (fun r0 σ0 q0 => ?_)
  obtain ⟨rfl, w0⟩ := q0
  obtain rfl := w0.symm
  refine g_istore_n hC d_D_isDeclaredByOther_5 rfl (by decide) ?_
  refine g_iload_n hC d_D_isDeclaredByOther_6 rfl rfl ?_
  refine g_iconst hC (-1) d_D_isDeclaredByOther_7 (by decide) rfl ?_
  refine g_icmp_eq hC 20 d_D_isDeclaredByOther_8 rfl rfl (fun h8 => ?_) (fun h8 => ?_)
  ·
    refine g_iconst hC (0) d_D_isDeclaredByOther_20 (by decide) rfl ?_
    exact g_zret hC hr hlk d_D_isDeclaredByOther_21 (Or.inl rfl) ⟨by first | (simp [zoth, h8, zb]; done) | (simp [zoth, h8, h13, zb]; done), rfl⟩
  ·
    refine g_iload_n hC d_D_isDeclaredByOther_11 rfl rfl ?_
    refine g_iload_n hC d_D_isDeclaredByOther_12 rfl rfl ?_
    refine g_icmp_eq hC 20 d_D_isDeclaredByOther_13 rfl rfl (fun h13 => ?_) (fun h13 => ?_)
    ·
      refine g_iconst hC (0) d_D_isDeclaredByOther_20 (by decide) rfl ?_
      exact g_zret hC hr hlk d_D_isDeclaredByOther_21 (Or.inl rfl) ⟨by first | (simp [zoth, h8, zb]; done) | (simp [zoth, h8, h13, zb]; done), rfl⟩
    ·
      refine g_iconst hC (1) d_D_isDeclaredByOther_16 (by decide) rfl ?_
      refine g_goto hC 21 d_D_isDeclaredByOther_17 rfl ?_
      exact g_zret hC hr hlk d_D_isDeclaredByOther_21 (Or.inr rfl) ⟨by first | (simp [zoth, h8, zb]; done) | (simp [zoth, h8, h13, zb]; done), rfl⟩
set_option maxHeartbeats 4000000 in
set_option maxRecDepth 100000 in
theorem c_D_holds (l : Launch) (D : va_G) (K : Nat → ClassId) (q : Nat → Nat) (hq : zI q) (n x : Int32) (σ : zm) : zMi l y_D_holds b_D_holds 5 (some .boolean) 3 D K q [.ref (q (0)), .int (n), .int (x)] σ (fun r σ' => r = zb (zhold σ n x) ∧ σ' = σ) := by
  refine zMi.of (own := "AppDesk") (lv := [(0, .ref (q (0))), (1, .int (n)), (2, .int (x))]) (by decide) rfl hq (Nat.le_of_ble_eq_true rfl) rfl ?_
  intro p e s m below meth c hC hr hlk
  refine g_aload_n hC d_D_holds_0 rfl rfl ?_
  refine g_iload_n hC d_D_holds_1 rfl rfl ?_
  refine g_goi hC rfl (z_runV hC (c_D_isInstalled l D K q hq _ _ ) yy_D_isInstalled yv_D_97 (by decide) rfl ⟨Nat.le_of_ble_eq_true rfl, Nat.le_of_ble_eq_true rfl⟩ ⟨Nat.zero_le _, Nat.zero_le _⟩ rfl (Nat.le_of_ble_eq_true rfl) d_D_holds_2) (fun r0 σ0 q0 => ?_)
  obtain ⟨rfl, w0⟩ := q0
  obtain rfl := w0.symm
  refine g_ifeq_b hC 24 d_D_holds_5 rfl rfl (fun h5 => ?_) (fun h5 => ?_)
  ·
    have ho : zhold σ n x = false := by first | (exact zhold_1 h5) | (exact zhold_2 hc h21)
    refine g_iconst hC (0) d_D_holds_24 (by decide) rfl ?_
    exact g_zret hC hr hlk d_D_holds_25 (Or.inl rfl) ⟨by rw [ho]; rfl, rfl⟩
  ·
    obtain ⟨k, hk, hx⟩ := zin_of (n := 8) (by decide) (zinst_in h5)
    have hc : (n).toNatClampNeg = k := by rw [hx]; exact nI_clamp (by omega)
    refine g_aload_n hC d_D_holds_8 rfl rfl ?_
    refine g_getR hC _ 0 1 _ (by decide) rfl rfl fl_D_18 d_D_holds_9 rfl ?_
    refine g_iload_n hC d_D_holds_12 rfl rfl ?_
    refine g_aald hC _ _ k _ (by decide) rfl hx hk (by decide) (zS_app hk) d_D_holds_13 rfl ?_
    refine g_getR hC _ 2 1 _ (za_lt hk) (zS_a hk) rfl fl_D_107 d_D_holds_14 rfl ?_
    refine g_iload_n hC d_D_holds_17 rfl rfl ?_
    refine g_goi hC rfl (z_runV hC (c_P_asksFor l D K q hq _ (Nat.lt_succ_of_lt hk) _ _) yy_P_asksFor yv_D_57 (zp_lt (Nat.lt_succ_of_lt hk)) (zS_p (Nat.lt_succ_of_lt hk)) ⟨Nat.le_of_ble_eq_true rfl, Nat.le_of_ble_eq_true rfl⟩ ⟨Nat.zero_le _, Nat.zero_le _⟩ rfl (Nat.le_of_ble_eq_true rfl) d_D_holds_18) (fun r1 σ1 q1 => ?_)
    obtain ⟨rfl, w1⟩ := q1
    obtain rfl := w1.symm
    refine g_ifne_b hC 26 d_D_holds_21 rfl rfl (fun h21 => ?_) (fun h21 => ?_)
    ·
      refine g_aload_n hC d_D_holds_26 rfl rfl ?_
      refine g_iload_n hC d_D_holds_27 rfl rfl ?_
      refine g_goi hC rfl (z_runV hC (c_D_declarerOf l D K q hq _ _ ) yy_D_declarerOf yv_D_176 (by decide) rfl ⟨Nat.le_of_ble_eq_true rfl, Nat.le_of_ble_eq_true rfl⟩ ⟨Nat.zero_le _, Nat.zero_le _⟩ rfl (Nat.le_of_ble_eq_true rfl) d_D_holds_28) (fun r2 σ2 q2 => ?_)
      obtain ⟨rfl, w2⟩ := q2
      obtain rfl := w2.symm
      refine g_istore_n hC d_D_holds_31 rfl (by decide) ?_
      refine g_iload_n hC d_D_holds_32 rfl rfl ?_
      refine g_iconst hC (-1) d_D_holds_33 (by decide) rfl ?_
      refine g_icmp_ne hC 39 d_D_holds_34 rfl rfl (fun h34 => ?_) (fun h34 => ?_)
      ·
        obtain ⟨d, hd, hde⟩ := zdcl_of h34
        have hdc : (zdcl σ x).toNatClampNeg = d := by rw [hde]; exact nI_clamp (by omega)
        obtain ⟨j, hj, hxj⟩ := zin_of (n := 8) (by decide) (zhas_in h21)
        have hcj : (x).toNatClampNeg = j := by rw [hxj]; exact nI_clamp (by omega)
        refine g_aload_n hC d_D_holds_39 rfl rfl ?_
        refine g_getR hC _ 0 1 _ (by decide) rfl rfl fl_D_18 d_D_holds_40 rfl ?_
        refine g_iload_n hC d_D_holds_43 rfl rfl ?_
        refine g_aald hC _ _ d _ (by decide) rfl hde hd (by decide) (zS_app hd) d_D_holds_44 rfl ?_
        refine g_getR hC _ 2 1 _ (za_lt hd) (zS_a hd) rfl fl_D_107 d_D_holds_45 rfl ?_
        refine g_getR hC _ 1 5 _ (zp_lt (Nat.lt_succ_of_lt hd)) (zS_p (Nat.lt_succ_of_lt hd)) rfl fl_D_66 d_D_holds_48 rfl ?_
        refine g_iload_n hC d_D_holds_51 rfl rfl ?_
        refine g_iald hC _ _ j (zp_lt' (Nat.lt_succ_of_lt hd) 1 (by decide)) (zS_pr (Nat.lt_succ_of_lt hd) 1 (by decide)) hxj hj (by decide) d_D_holds_52 rfl ?_
        refine g_istore hC d_D_holds_53 rfl (by decide) ?_
        refine g_iload hC d_D_holds_55 rfl rfl ?_
        refine g_if_ne hC 62 d_D_holds_57 rfl rfl (fun h57 => ?_) (fun h57 => ?_)
        ·
          refine g_iload hC d_D_holds_62 rfl rfl ?_
          refine g_iconst hC (1) d_D_holds_64 (by decide) rfl ?_
          refine g_icmp_ne hC 79 d_D_holds_65 rfl rfl (fun h65 => ?_) (fun h65 => ?_)
          ·
            have ho := zhold_6 h5 hc h21 h34 hdc hcj h57 h65
            refine g_aload_n hC d_D_holds_79 rfl rfl ?_
            refine g_getR hC _ 0 1 _ (by decide) rfl rfl fl_D_18 d_D_holds_80 rfl ?_
            refine g_iload_n hC d_D_holds_83 rfl rfl ?_
            refine g_aald hC _ _ k _ (by decide) rfl hx hk (by decide) (zS_app hk) d_D_holds_84 rfl ?_
            refine g_getR hC _ 2 1 _ (za_lt hk) (zS_a hk) rfl fl_D_107 d_D_holds_85 rfl ?_
            refine g_getI hC _ 1 2 (zp_lt (Nat.lt_succ_of_lt hk)) (zS_p (Nat.lt_succ_of_lt hk)) rfl fl_D_155 d_D_holds_88 rfl ?_
            refine g_aload_n hC d_D_holds_91 rfl rfl ?_
            refine g_getR hC _ 0 1 _ (by decide) rfl rfl fl_D_18 d_D_holds_92 rfl ?_
            refine g_iload_n hC d_D_holds_95 rfl rfl ?_
            refine g_aald hC _ _ d _ (by decide) rfl hde hd (by decide) (zS_app hd) d_D_holds_96 rfl ?_
            refine g_getR hC _ 2 1 _ (za_lt hd) (zS_a hd) rfl fl_D_107 d_D_holds_97 rfl ?_
            refine g_getI hC _ 1 2 (zp_lt (Nat.lt_succ_of_lt hd)) (zS_p (Nat.lt_succ_of_lt hd)) rfl fl_D_155 d_D_holds_100 rfl ?_
            refine g_icmp_ne hC 110 d_D_holds_103 rfl rfl (fun h103 => ?_) (fun h103 => ?_)
            ·
              refine g_iconst hC (0) d_D_holds_110 (by decide) rfl ?_
              exact g_zret hC hr hlk d_D_holds_111 (Or.inl rfl) ⟨by rw [ho]; first | (rw [decide_eq_true h103]; rfl) | (rw [decide_eq_false h103]; rfl), rfl⟩
            ·
              refine g_iconst hC (1) d_D_holds_106 (by decide) rfl ?_
              refine g_goto hC 111 d_D_holds_107 rfl ?_
              exact g_zret hC hr hlk d_D_holds_111 (Or.inr rfl) ⟨by rw [ho]; first | (rw [decide_eq_true h103]; rfl) | (rw [decide_eq_false h103]; rfl), rfl⟩
          ·
            have ho : zhold σ n x = zhas (σ (za k) 2) x 8 := zhold_5 h5 hc h21 h34 hdc hcj h57 h65
            refine g_aload_n hC d_D_holds_68 rfl rfl ?_
            refine g_getR hC _ 0 1 _ (by decide) rfl rfl fl_D_18 d_D_holds_69 rfl ?_
            refine g_iload_n hC d_D_holds_72 rfl rfl ?_
            refine g_aald hC _ _ k _ (by decide) rfl hx hk (by decide) (zS_app hk) d_D_holds_73 rfl ?_
            refine g_iload_n hC d_D_holds_74 rfl rfl ?_
            refine g_goi hC rfl (z_runV hC (c_A_wasGranted l D K q hq _ hk _ _ ) yy_A_wasGranted yv_D_110 (za_lt hk) (zS_a hk) ⟨Nat.le_of_ble_eq_true rfl, Nat.le_of_ble_eq_true rfl⟩ ⟨Nat.zero_le _, Nat.zero_le _⟩ rfl (Nat.le_of_ble_eq_true rfl) d_D_holds_75) (fun r3 σ3 q3 => ?_)
            obtain ⟨rfl, w3⟩ := q3
            obtain rfl := w3.symm
            exact g_zret hC hr hlk d_D_holds_78 (zb01 _) ⟨by rw [ho], rfl⟩
        ·
          have ho : zhold σ n x = true := zhold_4 h5 hc h21 h34 hdc hcj h57
          refine g_iconst hC (1) d_D_holds_60 (by decide) rfl ?_
          exact g_zret hC hr hlk d_D_holds_61 (Or.inr rfl) ⟨by rw [ho]; rfl, rfl⟩
      ·
        have ho : zhold σ n x = false := zhold_3 h34
        refine g_iconst hC (0) d_D_holds_37 (by decide) rfl ?_
        exact g_zret hC hr hlk d_D_holds_38 (Or.inl rfl) ⟨by rw [ho]; rfl, rfl⟩
    ·
      have ho : zhold σ n x = false := by first | (exact zhold_1 h5) | (exact zhold_2 hc h21)
      refine g_iconst hC (0) d_D_holds_24 (by decide) rfl ?_
      exact g_zret hC hr hlk d_D_holds_25 (Or.inl rfl) ⟨by rw [ho]; rfl, rfl⟩
set_option maxHeartbeats 4000000 in
set_option maxRecDepth 100000 in
theorem c_D_passesGuard (l : Launch) (D : va_G) (K : Nat → ClassId) (q : Nat → Nat) (hq : zI q) (n x : Int32) (σ : zm) : zMi l y_D_passesGuard b_D_passesGuard 3 (some .boolean) 4 D K q [.ref (q (0)), .int (n), .int (x)] σ (fun r σ' => r = zb (zgua σ n x) ∧ σ' = σ) := by
  refine zMi.of (own := "AppDesk") (lv := [(0, .ref (q (0))), (1, .int (n)), (2, .int (x))]) (by decide) rfl hq (Nat.le_of_ble_eq_true rfl) rfl ?_
  intro p e s m below meth c hC hr hlk
  refine g_iload_n hC d_D_passesGuard_0 rfl rfl ?_
  refine g_iconst hC (-1) d_D_passesGuard_1 (by decide) rfl ?_
  refine g_icmp_eq hC 14 d_D_passesGuard_2 rfl rfl (fun h2 => ?_) (fun h2 => ?_)
  ·
    refine g_iconst hC (1) d_D_passesGuard_14 (by decide) rfl ?_
    refine g_goto hC 19 d_D_passesGuard_15 rfl ?_
    exact g_zret hC hr hlk d_D_passesGuard_19 (Or.inr rfl) ⟨by first | (simp [zgua, h2, zb]; done) | (simp [zgua, h2, h11, zb]; done), rfl⟩
  ·
    refine g_aload_n hC d_D_passesGuard_5 rfl rfl ?_
    refine g_iload_n hC d_D_passesGuard_6 rfl rfl ?_
    refine g_iload_n hC d_D_passesGuard_7 rfl rfl ?_
    refine g_goi hC rfl (z_runV hC (c_D_holds l D K q hq _ _ _ ) yy_D_holds yv_D_210 (by decide) rfl ⟨Nat.le_of_ble_eq_true rfl, Nat.le_of_ble_eq_true rfl⟩ ⟨Nat.zero_le _, Nat.zero_le _⟩ rfl (Nat.le_of_ble_eq_true rfl) d_D_passesGuard_8) (fun r0 σ0 q0 => ?_)
    obtain ⟨rfl, w0⟩ := q0
    obtain rfl := w0.symm
    refine g_ifeq_b hC 18 d_D_passesGuard_11 rfl rfl (fun h11 => ?_) (fun h11 => ?_)
    ·
      refine g_iconst hC (0) d_D_passesGuard_18 (by decide) rfl ?_
      exact g_zret hC hr hlk d_D_passesGuard_19 (Or.inl rfl) ⟨by first | (simp [zgua, h2, zb]; done) | (simp [zgua, h2, h11, zb]; done), rfl⟩
    ·
      refine g_iconst hC (1) d_D_passesGuard_14 (by decide) rfl ?_
      refine g_goto hC 19 d_D_passesGuard_15 rfl ?_
      exact g_zret hC hr hlk d_D_passesGuard_19 (Or.inr rfl) ⟨by first | (simp [zgua, h2, zb]; done) | (simp [zgua, h2, h11, zb]; done), rfl⟩
end
section
/-! the desk's methods, second half -/
theorem zclr_off (σ : zm) {n a : Nat} (h : a ≠ za n) : zclr σ n a = σ a := by
  unfold zclr
  rw [zu_row _ _ h, zu_row _ _ h, zu_row _ _ h, zu_row _ _ h]
theorem zpop_off (σ : zm) {n a : Nat} (h : a ≠ za n) : zpop σ n a = σ a := zu_row _ _ h
def zgrok (σ : zm) (n x : Int32) : Bool := zinst σ n && zhas (σ (zp n.toNatClampNeg) 4) x 8 && !zhas (σ (za n.toNatClampNeg) 2) x 8
def zrvok (σ : zm) (n x : Int32) : Bool := zinst σ n && zhas (σ (za n.toNatClampNeg) 2) x 8
def zsnok (σ : zm) (n x : Int32) (z : Nat) : Bool := zinst σ n && zin x 10 && decide (z < 8)
def zap1 (σ : zm) (k : Nat) (x : Int32) : Int32 := if x = 0 then σ (zp k) 1 else if x = 1 then σ (zp k) 2 else if x = 2 then (if σ (za k) 5 = 0 then 0 else 1) else if x = 3 then (if σ (za k) 5 = 0 then 0 else σ (za k) 6) else if x = 4 then (if σ (za k) 5 = 0 then 0 else σ (za k) 7) else if x = 5 then (if σ (za k) 5 = 0 then 0 else zup σ k) else if x = 6 then zbc (σ (za k) 3) else -1
def zapp (σ : zm) (n x : Int32) : Int32 := if zinst σ n then zap1 σ n.toNatClampNeg x else -1
theorem zapp_t {σ : zm} {n x : Int32} {k : Nat} (h : zinst σ n = true) (hc : n.toNatClampNeg = k) : zapp σ n x = zap1 σ k x := by
  unfold zapp
  rw [if_pos h, hc]
def zkpt (σ : zm) (n x : Int32) : Int32 := if zinst σ n then zvu σ n.toNatClampNeg x else 0
def zSnd (σ : zm) (i pn wn : Nat) : Prop := 0 < pn ∧ 0 < wn ∧ σ (zp i) 3 = zsea σ i pn wn ∧ ∃ H, zCons (σ (zp i + 6)) wn (σ (zp i + 5)) pn H
def zall (P : Nat → Bool) : Nat → Nat → Bool
  | 0, _ => true
  | f + 1, i => P i && zall P f (i + 1)
theorem zall_t {P : Nat → Bool} {f i : Nat} (h : P i = true) : zall P (f + 1) i = zall P f (i + 1) := by
  show (P i && _) = _
  rw [h, Bool.true_and]
theorem zall_f {P : Nat → Bool} {f i : Nat} (h : P i = false) : zall P (f + 1) i = false := by
  show (P i && _) = _
  rw [h, Bool.false_and]
def zenp (σ : zm) (i nm p : Nat) : Bool := !(zdec σ i (nI p) && zoth σ (nI p) (nI nm))
def zent (σ : zm) (i nm : Nat) : Bool := !(!decide (σ (za nm) 0 = 0) && (!decide (σ (zp nm) 2 = σ (zp i) 2) || decide (σ (zp i) 1 ≤ σ (zp nm) 1))) && zall (zenp σ i nm) 8 0
def zmat (σ : zm) (a : Nat) (g ac : Int32) (k : Nat) : Bool := decide (σ (zp a + 2) k = ac) && (decide (σ (zp a + 3) k = 1) || decide (nI a = g)) && zgua σ g (σ (zp a + 4) k)
def zptl (σ : zm) (a : Nat) (g ac : Int32) : Nat → Nat → Int32
  | 0, _ => -1
  | f + 1, i => if zmat σ a g ac i then σ (zp a + 5) i else zptl σ a g ac f (i + 1)
theorem zptl_t {σ : zm} {a f i : Nat} {g ac : Int32} (h : zmat σ a g ac i = true) : zptl σ a g ac (f + 1) i = σ (zp a + 5) i := if_pos h
theorem zptl_f {σ : zm} {a f i : Nat} {g ac : Int32} (h : zmat σ a g ac i = false) : zptl σ a g ac (f + 1) i = zptl σ a g ac f (i + 1) := if_neg (zif_f h)
def zptb (σ : zm) (a : Nat) (g ac : Int32) (pn : Nat) : Int32 := if σ (za a) 0 = 0 ∨ ¬ σ (za a) 5 = 0 then -1 else zptl σ a g ac pn 0
def zdf (σ : zm) (z : Nat) : zm := zu (zsh σ (z - 1)) 2 0 (nI (z - 1))
theorem zdf_off (σ : zm) (z : Nat) {a : Nat} (h : a ≠ 2 ∧ a ≠ 3 ∧ a ≠ 4 ∧ a ≠ 5) : zdf σ z a = σ a := by
  unfold zdf
  rw [zu_row _ _ h.1, zsh_off _ _ h.2]
def zdlv (τ : zm) (g ac v : Int32) (pf : Nat → Nat) : Nat → Nat → Int32 × zm
  | 0, _ => (-1, τ)
  | f + 1, i => if zptb τ i g ac (pf i) = -1 then zdlv τ g ac v pf f (i + 1) else (nI i, zrun τ i (zptb τ i g ac (pf i)) v g)
theorem zdlv_t {τ : zm} {g ac v : Int32} {pf : Nat → Nat} {f i : Nat} (h : ¬ zptb τ i g ac (pf i) = -1) : zdlv τ g ac v pf (f + 1) i = (nI i, zrun τ i (zptb τ i g ac (pf i)) v g) := if_neg h
theorem zdlv_f {τ : zm} {g ac v : Int32} {pf : Nat → Nat} {f i : Nat} (h : zptb τ i g ac (pf i) = -1) : zdlv τ g ac v pf (f + 1) i = zdlv τ g ac v pf f (i + 1) := if_pos h
def zdel (σ : zm) (z : Nat) (pf : Nat → Nat) : Int32 × zm := if z = 0 then (-1, σ) else zdlv (zdf σ z) (σ 3 0) (σ 4 0) (σ 5 0) pf 8 0
def zqad (σ : zm) (z : Nat) (g1 g2 g3 : Int32) : zm := if z < 8 then zu (zrow σ z g1 g2 g3) 2 0 (nI (z + 1)) else σ
def zsfs (σ : zm) (a z : Nat) : zm := zu (zqad (zpop (zpop σ a) a) z (nI a) (zup2 σ a) (zup σ a)) (za a) 6 (zqad (zpop (zpop σ a) a) z (nI a) (zup2 σ a) (zup σ a) (za a) 6 + 1)
def zpsp (σ : zm) (a : Nat) (v : Int32) : zm := zu (zpsh σ a v) (za a) 6 (zpsh σ a v (za a) 6 + 1)
def zdo (σ : zm) (a wn z : Nat) : Bool × zm :=
  if zwip σ a wn &&& 15 = 12 then (zin (zup2 σ a) 10, if zin (zup2 σ a) 10 then zsfs σ a z else σ)
  else if zwip σ a wn &&& 15 = 13 then (true, zpsp σ a (zb (zhold σ (nI a) (zwip σ a wn >>> ((4 : Int32) &&& 31)))))
  else if zwip σ a wn &&& 15 = 10 then (zin (zup σ a) 8, if zin (zup σ a) 8 then zgot σ a else σ)
  else if zwip σ a wn &&& 15 = 11 then (zkok σ a, if zkok σ a then zkep σ a else σ)
  else if zwip σ a wn &&& 15 = 0 ∨ zwip σ a wn &&& 15 = 8 ∨ zwip σ a wn &&& 15 = 9 then (true, zturn σ a (zwip σ a wn &&& 15) (zwip σ a wn >>> ((4 : Int32) &&& 31)))
  else (true, zu (zpl σ a (zwip σ a wn &&& 15) (zwip σ a wn >>> ((4 : Int32) &&& 31))) (za a) 6 (zpl σ a (zwip σ a wn &&& 15) (zwip σ a wn >>> ((4 : Int32) &&& 31)) (za a) 6 + 1))
theorem zdo_12 {σ : zm} {a wn z : Nat} (h : zwip σ a wn &&& 15 = 12) : zdo σ a wn z = (zin (zup2 σ a) 10, if zin (zup2 σ a) 10 then zsfs σ a z else σ) := if_pos h
theorem zdo_13 {σ : zm} {a wn z : Nat} (h : zwip σ a wn &&& 15 = 13) : zdo σ a wn z = (true, zpsp σ a (zb (zhold σ (nI a) (zwip σ a wn >>> ((4 : Int32) &&& 31))))) := by
  unfold zdo
  rw [if_neg (by rw [h]; decide), if_pos h]
theorem zdo_10 {σ : zm} {a wn z : Nat} (h : zwip σ a wn &&& 15 = 10) : zdo σ a wn z = (zin (zup σ a) 8, if zin (zup σ a) 8 then zgot σ a else σ) := by
  unfold zdo
  rw [if_neg (by rw [h]; decide), if_neg (by rw [h]; decide), if_pos h]
theorem zdo_11 {σ : zm} {a wn z : Nat} (h : zwip σ a wn &&& 15 = 11) : zdo σ a wn z = (zkok σ a, if zkok σ a then zkep σ a else σ) := by
  unfold zdo
  rw [if_neg (by rw [h]; decide), if_neg (by rw [h]; decide), if_neg (by rw [h]; decide), if_pos h]
theorem zdo_j {σ : zm} {a wn z : Nat} (h : zwip σ a wn &&& 15 = 0 ∨ zwip σ a wn &&& 15 = 8 ∨ zwip σ a wn &&& 15 = 9) : zdo σ a wn z = (true, zturn σ a (zwip σ a wn &&& 15) (zwip σ a wn >>> ((4 : Int32) &&& 31))) := by
  have hn : ∀ v : Int32, (v = 12 ∨ v = 13 ∨ v = 10 ∨ v = 11) → ¬ zwip σ a wn &&& 15 = v := by
    intro v hv e
    rw [e] at h
    rcases hv with rfl | rfl | rfl | rfl <;> exact absurd h (by decide)
  unfold zdo
  rw [if_neg (hn _ (by decide)), if_neg (hn _ (by decide)), if_neg (hn _ (by decide)), if_neg (hn _ (by decide)), if_pos h]
theorem zdo_p {σ : zm} {a wn z : Nat} (h : ¬ zwip σ a wn &&& 15 = 12 ∧ ¬ zwip σ a wn &&& 15 = 13 ∧ ¬ zwip σ a wn &&& 15 = 10 ∧ ¬ zwip σ a wn &&& 15 = 11 ∧ ¬ zwip σ a wn &&& 15 = 0 ∧ ¬ zwip σ a wn &&& 15 = 8 ∧ ¬ zwip σ a wn &&& 15 = 9) : zdo σ a wn z = (true, zu (zpl σ a (zwip σ a wn &&& 15) (zwip σ a wn >>> ((4 : Int32) &&& 31))) (za a) 6 (zpl σ a (zwip σ a wn &&& 15) (zwip σ a wn >>> ((4 : Int32) &&& 31)) (za a) 6 + 1)) := by
  obtain ⟨h1, h2, h3, h4, h5, h6, h7⟩ := h
  unfold zdo
  rw [if_neg h1, if_neg h2, if_neg h3, if_neg h4, if_neg (fun q => q.elim h5 (fun q => q.elim h6 h7))]
/-- whose turn it is: the first that runs, of f names from the one behind the last on -/
def znx (σ : zm) (L : Nat) : Nat → Nat → Int32
  | 0, _ => -1
  | f + 1, i => if σ (za ((L + i - 1) % 8)) 5 = 0 then znx σ L f (i + 1) else nI ((L + i - 1) % 8)
theorem znx_t {σ : zm} {L f i : Nat} (h : ¬ σ (za ((L + i - 1) % 8)) 5 = 0) : znx σ L (f + 1) i = nI ((L + i - 1) % 8) := if_neg h
theorem znx_f {σ : zm} {L f i : Nat} (h : σ (za ((L + i - 1) % 8)) 5 = 0) : znx σ L (f + 1) i = znx σ L f (i + 1) := if_pos h
theorem znx_i {L k : Nat} (h : 1 ≤ k) : nI L - 1 + nI k = nI (L + k - 1) := by
  obtain ⟨j, rfl⟩ : ∃ j, k = j + 1 := ⟨k - 1, by omega⟩
  rw [← nI_1 j, show L + (j + 1) - 1 = L + j by omega, ← nI_add]
  generalize nI L = x
  generalize nI j = y
  rw [Int32.sub_eq_add_neg, Int32.add_assoc]
  congr 1
  rw [Int32.add_comm y 1, ← Int32.add_assoc, show (-1 : Int32) + 1 = 0 by decide, Int32.zero_add]
set_option maxHeartbeats 4000000 in
set_option maxRecDepth 100000 in
theorem c_D_grant (l : Launch) (D : va_G) (K : Nat → ClassId) (q : Nat → Nat) (hq : zI q) (n x : Int32) (σ : zm) : zMi l y_D_grant b_D_grant 3 (some .boolean) 3 D K q [.ref (q (0)), .int (n), .int (x)] σ (fun r σ' => r = zb (zgrok σ n x) ∧ σ' = if zgrok σ n x then zu σ (za n.toNatClampNeg) 2 (σ (za n.toNatClampNeg) 2 ||| (1 <<< (x &&& 31))) else σ) := by
  refine zMi.of (own := "AppDesk") (lv := [(0, .ref (q (0))), (1, .int (n)), (2, .int (x))]) (by decide) rfl hq (Nat.le_of_ble_eq_true rfl) rfl ?_
  intro p e s m below meth c hC hr hlk
  refine g_aload_n hC d_D_grant_0 rfl rfl ?_
  refine g_iload_n hC d_D_grant_1 rfl rfl ?_
  refine g_goi hC rfl (z_runV hC (c_D_isInstalled l D K q hq _ _ ) yy_D_isInstalled yv_D_97 (by decide) rfl ⟨Nat.le_of_ble_eq_true rfl, Nat.le_of_ble_eq_true rfl⟩ ⟨Nat.zero_le _, Nat.zero_le _⟩ rfl (Nat.le_of_ble_eq_true rfl) d_D_grant_2) (fun r0 σ0 q0 => ?_)
  obtain ⟨rfl, w0⟩ := q0
  obtain rfl := w0.symm
  refine g_ifeq_b hC 37 d_D_grant_5 rfl rfl (fun h5 => ?_) (fun h5 => ?_)
  ·
    have hok : zgrok σ n x = false := by first | (simp [zgrok, h5]; done) | (simp [zgrok, h5, hc, h21]; done) | (simp [zgrok, h5, hc, h21, h34]; done)
    refine g_iconst hC (0) d_D_grant_37 (by decide) rfl ?_
    exact g_zret hC hr hlk d_D_grant_38 (Or.inl rfl) ⟨by rw [hok]; rfl, (if_neg (zif_f hok)).symm⟩
  ·
    obtain ⟨k, hk, hx⟩ := zin_of (n := 8) (by decide) (zinst_in h5)
    have hc : (n).toNatClampNeg = k := by rw [hx]; exact nI_clamp (by omega)
    refine g_aload_n hC d_D_grant_8 rfl rfl ?_
    refine g_getR hC _ 0 1 _ (by decide) rfl rfl fl_D_18 d_D_grant_9 rfl ?_
    refine g_iload_n hC d_D_grant_12 rfl rfl ?_
    refine g_aald hC _ _ k _ (by decide) rfl hx hk (by decide) (zS_app hk) d_D_grant_13 rfl ?_
    refine g_getR hC _ 2 1 _ (za_lt hk) (zS_a hk) rfl fl_D_107 d_D_grant_14 rfl ?_
    refine g_iload_n hC d_D_grant_17 rfl rfl ?_
    refine g_goi hC rfl (z_runV hC (c_P_asksFor l D K q hq _ (Nat.lt_succ_of_lt hk) _ _) yy_P_asksFor yv_D_57 (zp_lt (Nat.lt_succ_of_lt hk)) (zS_p (Nat.lt_succ_of_lt hk)) ⟨Nat.le_of_ble_eq_true rfl, Nat.le_of_ble_eq_true rfl⟩ ⟨Nat.zero_le _, Nat.zero_le _⟩ rfl (Nat.le_of_ble_eq_true rfl) d_D_grant_18) (fun r1 σ1 q1 => ?_)
    obtain ⟨rfl, w1⟩ := q1
    obtain rfl := w1.symm
    refine g_ifeq_b hC 37 d_D_grant_21 rfl rfl (fun h21 => ?_) (fun h21 => ?_)
    ·
      have hok : zgrok σ n x = false := by first | (simp [zgrok, h5]; done) | (simp [zgrok, h5, hc, h21]; done) | (simp [zgrok, h5, hc, h21, h34]; done)
      refine g_iconst hC (0) d_D_grant_37 (by decide) rfl ?_
      exact g_zret hC hr hlk d_D_grant_38 (Or.inl rfl) ⟨by rw [hok]; rfl, (if_neg (zif_f hok)).symm⟩
    ·
      refine g_aload_n hC d_D_grant_24 rfl rfl ?_
      refine g_getR hC _ 0 1 _ (by decide) rfl rfl fl_D_18 d_D_grant_25 rfl ?_
      refine g_iload_n hC d_D_grant_28 rfl rfl ?_
      refine g_aald hC _ _ k _ (by decide) rfl hx hk (by decide) (zS_app hk) d_D_grant_29 rfl ?_
      refine g_iload_n hC d_D_grant_30 rfl rfl ?_
      refine g_goi hC rfl (z_runV hC (c_A_wasGranted l D K q hq _ hk _ _ ) yy_A_wasGranted yv_D_110 (za_lt hk) (zS_a hk) ⟨Nat.le_of_ble_eq_true rfl, Nat.le_of_ble_eq_true rfl⟩ ⟨Nat.zero_le _, Nat.zero_le _⟩ rfl (Nat.le_of_ble_eq_true rfl) d_D_grant_31) (fun r2 σ2 q2 => ?_)
      obtain ⟨rfl, w2⟩ := q2
      obtain rfl := w2.symm
      refine g_ifeq_b hC 39 d_D_grant_34 rfl rfl (fun h34 => ?_) (fun h34 => ?_)
      ·
        have hok : zgrok σ n x = true := by simp [zgrok, h5, hc, h21, h34]
        refine g_aload_n hC d_D_grant_39 rfl rfl ?_
        refine g_getR hC _ 0 1 _ (by decide) rfl rfl fl_D_18 d_D_grant_40 rfl ?_
        refine g_iload_n hC d_D_grant_43 rfl rfl ?_
        refine g_aald hC _ _ k _ (by decide) rfl hx hk (by decide) (zS_app hk) d_D_grant_44 rfl ?_
        refine g_dup hC d_D_grant_45 rfl rfl ?_
        refine g_getI hC _ 2 2 (za_lt hk) (zS_a hk) rfl fl_D_113 d_D_grant_46 rfl ?_
        refine g_iconst hC (1) d_D_grant_49 (by decide) rfl ?_
        refine g_iload_n hC d_D_grant_50 rfl rfl ?_
        refine g_ishl hC d_D_grant_51 rfl ?_
        refine g_ior hC d_D_grant_52 rfl ?_
        refine g_putI hC _ 2 2 (za_lt hk) (zS_a hk) rfl fp_D_113 d_D_grant_53 rfl ?_
        refine g_iconst hC (1) d_D_grant_56 (by decide) rfl ?_
        exact g_zret hC hr hlk d_D_grant_57 (Or.inr rfl) ⟨by rw [hok]; rfl, by rw [if_pos hok, hc]⟩
      ·
        have hok : zgrok σ n x = false := by first | (simp [zgrok, h5]; done) | (simp [zgrok, h5, hc, h21]; done) | (simp [zgrok, h5, hc, h21, h34]; done)
        refine g_iconst hC (0) d_D_grant_37 (by decide) rfl ?_
        exact g_zret hC hr hlk d_D_grant_38 (Or.inl rfl) ⟨by rw [hok]; rfl, (if_neg (zif_f hok)).symm⟩
set_option maxHeartbeats 4000000 in
set_option maxRecDepth 100000 in
theorem c_D_revoke (l : Launch) (D : va_G) (K : Nat → ClassId) (q : Nat → Nat) (hq : zI q) (n x : Int32) (σ : zm) : zMi l y_D_revoke b_D_revoke 3 (some .boolean) 3 D K q [.ref (q (0)), .int (n), .int (x)] σ (fun r σ' => r = zb (zrvok σ n x) ∧ σ' = if zrvok σ n x then zu σ (za n.toNatClampNeg) 2 (σ (za n.toNatClampNeg) 2 &&& ((1 <<< (x &&& 31)) ^^^ (-1))) else σ) := by
  refine zMi.of (own := "AppDesk") (lv := [(0, .ref (q (0))), (1, .int (n)), (2, .int (x))]) (by decide) rfl hq (Nat.le_of_ble_eq_true rfl) rfl ?_
  intro p e s m below meth c hC hr hlk
  refine g_aload_n hC d_D_revoke_0 rfl rfl ?_
  refine g_iload_n hC d_D_revoke_1 rfl rfl ?_
  refine g_goi hC rfl (z_runV hC (c_D_isInstalled l D K q hq _ _ ) yy_D_isInstalled yv_D_97 (by decide) rfl ⟨Nat.le_of_ble_eq_true rfl, Nat.le_of_ble_eq_true rfl⟩ ⟨Nat.zero_le _, Nat.zero_le _⟩ rfl (Nat.le_of_ble_eq_true rfl) d_D_revoke_2) (fun r0 σ0 q0 => ?_)
  obtain ⟨rfl, w0⟩ := q0
  obtain rfl := w0.symm
  refine g_ifeq_b hC 21 d_D_revoke_5 rfl rfl (fun h5 => ?_) (fun h5 => ?_)
  ·
    have hok : zrvok σ n x = false := by first | (simp [zrvok, h5]; done) | (simp [zrvok, h5, hc, h18]; done)
    refine g_iconst hC (0) d_D_revoke_21 (by decide) rfl ?_
    exact g_zret hC hr hlk d_D_revoke_22 (Or.inl rfl) ⟨by rw [hok]; rfl, (if_neg (zif_f hok)).symm⟩
  ·
    obtain ⟨k, hk, hx⟩ := zin_of (n := 8) (by decide) (zinst_in h5)
    have hc : (n).toNatClampNeg = k := by rw [hx]; exact nI_clamp (by omega)
    refine g_aload_n hC d_D_revoke_8 rfl rfl ?_
    refine g_getR hC _ 0 1 _ (by decide) rfl rfl fl_D_18 d_D_revoke_9 rfl ?_
    refine g_iload_n hC d_D_revoke_12 rfl rfl ?_
    refine g_aald hC _ _ k _ (by decide) rfl hx hk (by decide) (zS_app hk) d_D_revoke_13 rfl ?_
    refine g_iload_n hC d_D_revoke_14 rfl rfl ?_
    refine g_goi hC rfl (z_runV hC (c_A_wasGranted l D K q hq _ hk _ _ ) yy_A_wasGranted yv_D_110 (za_lt hk) (zS_a hk) ⟨Nat.le_of_ble_eq_true rfl, Nat.le_of_ble_eq_true rfl⟩ ⟨Nat.zero_le _, Nat.zero_le _⟩ rfl (Nat.le_of_ble_eq_true rfl) d_D_revoke_15) (fun r1 σ1 q1 => ?_)
    obtain ⟨rfl, w1⟩ := q1
    obtain rfl := w1.symm
    refine g_ifne_b hC 23 d_D_revoke_18 rfl rfl (fun h18 => ?_) (fun h18 => ?_)
    ·
      have hok : zrvok σ n x = true := by simp [zrvok, h5, hc, h18]
      refine g_aload_n hC d_D_revoke_23 rfl rfl ?_
      refine g_getR hC _ 0 1 _ (by decide) rfl rfl fl_D_18 d_D_revoke_24 rfl ?_
      refine g_iload_n hC d_D_revoke_27 rfl rfl ?_
      refine g_aald hC _ _ k _ (by decide) rfl hx hk (by decide) (zS_app hk) d_D_revoke_28 rfl ?_
      refine g_dup hC d_D_revoke_29 rfl rfl ?_
      refine g_getI hC _ 2 2 (za_lt hk) (zS_a hk) rfl fl_D_113 d_D_revoke_30 rfl ?_
      refine g_iconst hC (1) d_D_revoke_33 (by decide) rfl ?_
      refine g_iload_n hC d_D_revoke_34 rfl rfl ?_
      refine g_ishl hC d_D_revoke_35 rfl ?_
      refine g_iconst hC (-1) d_D_revoke_36 (by decide) rfl ?_
      refine g_ixor hC d_D_revoke_37 rfl ?_
      refine g_iand hC d_D_revoke_38 rfl ?_
      refine g_putI hC _ 2 2 (za_lt hk) (zS_a hk) rfl fp_D_113 d_D_revoke_39 rfl ?_
      refine g_iconst hC (1) d_D_revoke_42 (by decide) rfl ?_
      exact g_zret hC hr hlk d_D_revoke_43 (Or.inr rfl) ⟨by rw [hok]; rfl, by rw [if_pos hok, hc]⟩
    ·
      have hok : zrvok σ n x = false := by first | (simp [zrvok, h5]; done) | (simp [zrvok, h5, hc, h18]; done)
      refine g_iconst hC (0) d_D_revoke_21 (by decide) rfl ?_
      exact g_zret hC hr hlk d_D_revoke_22 (Or.inl rfl) ⟨by rw [hok]; rfl, (if_neg (zif_f hok)).symm⟩
set_option maxHeartbeats 4000000 in
set_option maxRecDepth 100000 in
theorem c_D_send (l : Launch) (D : va_G) (K : Nat → ClassId) (q : Nat → Nat) (hq : zI q) (n x v : Int32) (σ : zm) (z : Nat) (hz : z ≤ 8) (h : σ 2 0 = nI z) : zMi l y_D_send b_D_send 4 (some .boolean) 2 D K q [.ref (q (0)), .int (n), .int (x), .int (v)] σ (fun r σ' => r = zb (zsnok σ n x z) ∧ σ' = if zsnok σ n x z then zu (zrow σ z n x v) 2 0 (nI (z + 1)) else σ) := by
  refine zMi.of (own := "AppDesk") (lv := [(0, .ref (q (0))), (1, .int (n)), (2, .int (x)), (3, .int (v))]) (by decide) rfl hq (Nat.le_of_ble_eq_true rfl) rfl ?_
  intro p e s m below meth c hC hr hlk
  refine g_aload_n hC d_D_send_0 rfl rfl ?_
  refine g_iload_n hC d_D_send_1 rfl rfl ?_
  refine g_goi hC rfl (z_runV hC (c_D_isInstalled l D K q hq _ _ ) yy_D_isInstalled yv_D_97 (by decide) rfl ⟨Nat.le_of_ble_eq_true rfl, Nat.le_of_ble_eq_true rfl⟩ ⟨Nat.zero_le _, Nat.zero_le _⟩ rfl (Nat.le_of_ble_eq_true rfl) d_D_send_2) (fun r0 σ0 q0 => ?_)
  obtain ⟨rfl, w0⟩ := q0
  obtain rfl := w0.symm
  refine g_ifeq_b hC 17 d_D_send_5 rfl rfl (fun h5 => ?_) (fun h5 => ?_)
  ·
    have hok : zsnok σ n x z = false := by first | (simp [zsnok, h5]; done) | (simp [zsnok, h5, h14]; done)
    refine g_iconst hC (0) d_D_send_17 (by decide) rfl ?_
    exact g_zret hC hr hlk d_D_send_18 (Or.inl rfl) ⟨by rw [hok]; rfl, (if_neg (zif_f hok)).symm⟩
  ·
    refine g_iload_n hC d_D_send_8 rfl rfl ?_
    refine g_bipush hC (10) d_D_send_9 (by decide) rfl ?_
    refine g_goi hC rfl (z_runS hC (c_D_isBelow l D K q hq _ _ _) yy_D_isBelow ys_D_41 ⟨Nat.le_of_ble_eq_true rfl, Nat.le_of_ble_eq_true rfl⟩ ⟨Nat.zero_le _, Nat.zero_le _⟩ rfl (Nat.le_of_ble_eq_true rfl) d_D_send_11) (fun r1 σ1 q1 => ?_)
    obtain ⟨rfl, w1⟩ := q1
    obtain rfl := w1.symm
    refine g_ifne_b hC 19 d_D_send_14 rfl rfl (fun h14 => ?_) (fun h14 => ?_)
    ·
      have hok : zsnok σ n x z = decide (z < 8) := by simp [zsnok, h5, h14]
      refine g_aload_n hC d_D_send_19 rfl rfl ?_
      refine g_getR hC _ 0 2 _ (by decide) rfl rfl fl_D_26 d_D_send_20 rfl ?_
      refine g_iload_n hC d_D_send_23 rfl rfl ?_
      refine g_iload_n hC d_D_send_24 rfl rfl ?_
      refine g_iload_n hC d_D_send_25 rfl rfl ?_
      refine g_goi hC rfl (z_runV hC (c_Q_add l D K q hq _ hz _ _ _ _ h) yy_Q_add yv_D_116 (by decide) rfl ⟨Nat.le_of_ble_eq_true rfl, Nat.le_of_ble_eq_true rfl⟩ ⟨Nat.zero_le _, Nat.zero_le _⟩ rfl (Nat.le_of_ble_eq_true rfl) d_D_send_26) (fun r2 σ2 q2 => ?_)
      obtain ⟨rfl, w2⟩ := q2
      obtain rfl := w2.symm
      exact g_zret hC hr hlk d_D_send_29 (zb01 _) ⟨by rw [hok], by rw [hok]; by_cases z8 : z < 8 <;> simp [z8]⟩
    ·
      have hok : zsnok σ n x z = false := by first | (simp [zsnok, h5]; done) | (simp [zsnok, h5, h14]; done)
      refine g_iconst hC (0) d_D_send_17 (by decide) rfl ?_
      exact g_zret hC hr hlk d_D_send_18 (Or.inl rfl) ⟨by rw [hok]; rfl, (if_neg (zif_f hok)).symm⟩
set_option maxHeartbeats 4000000 in
set_option maxRecDepth 100000 in
theorem c_D_remove (l : Launch) (D : va_G) (K : Nat → ClassId) (q : Nat → Nat) (hq : zI q) (n : Int32) (σ : zm) (z : Nat) (hz : z ≤ 8) (h : σ 2 0 = nI z) : zMi l y_D_remove b_D_remove 2 (some .boolean) 2 D K q [.ref (q (0)), .int (n)] σ (fun r σ' => r = zb (zinst σ n) ∧ σ' = if zinst σ n then zu (zdr (zclr σ n.toNatClampNeg) n z).1 2 0 (nI (zdr (zclr σ n.toNatClampNeg) n z).2) else σ) := by
  refine zMi.of (own := "AppDesk") (lv := [(0, .ref (q (0))), (1, .int (n))]) (by decide) rfl hq (Nat.le_of_ble_eq_true rfl) rfl ?_
  intro p e s m below meth c hC hr hlk
  refine g_aload_n hC d_D_remove_0 rfl rfl ?_
  refine g_iload_n hC d_D_remove_1 rfl rfl ?_
  refine g_goi hC rfl (z_runV hC (c_D_isInstalled l D K q hq _ _ ) yy_D_isInstalled yv_D_97 (by decide) rfl ⟨Nat.le_of_ble_eq_true rfl, Nat.le_of_ble_eq_true rfl⟩ ⟨Nat.zero_le _, Nat.zero_le _⟩ rfl (Nat.le_of_ble_eq_true rfl) d_D_remove_2) (fun r0 σ0 q0 => ?_)
  obtain ⟨rfl, w0⟩ := q0
  obtain rfl := w0.symm
  refine g_ifne_b hC 10 d_D_remove_5 rfl rfl (fun h5 => ?_) (fun h5 => ?_)
  ·
    obtain ⟨k, hk, hx⟩ := zin_of (n := 8) (by decide) (zinst_in h5)
    have hc : (n).toNatClampNeg = k := by rw [hx]; exact nI_clamp (by omega)
    refine g_aload_n hC d_D_remove_10 rfl rfl ?_
    refine g_getR hC _ 0 1 _ (by decide) rfl rfl fl_D_18 d_D_remove_11 rfl ?_
    refine g_iload_n hC d_D_remove_14 rfl rfl ?_
    refine g_aald hC _ _ k _ (by decide) rfl hx hk (by decide) (zS_app hk) d_D_remove_15 rfl ?_
    refine g_gov hC rfl (z_runV hC (c_A_clearAway l D K q hq _ hk _ ) yy_A_clearAway yv_D_100 (za_lt hk) (zS_a hk) ⟨Nat.le_of_ble_eq_true rfl, Nat.le_of_ble_eq_true rfl⟩ ⟨Nat.zero_le _, Nat.zero_le _⟩ rfl (Nat.le_of_ble_eq_true rfl) d_D_remove_16) (fun σ1 q1 => ?_)
    obtain rfl := q1.symm
    refine g_aload_n hC d_D_remove_19 rfl rfl ?_
    refine g_getR hC _ 0 2 _ (by decide) rfl rfl fl_D_26 d_D_remove_20 rfl ?_
    refine g_iload_n hC d_D_remove_23 rfl rfl ?_
    refine g_gov hC rfl (z_runV hC (c_Q_dropAllOf l D K q hq _ hz _ _ (by rw [zclr_off _ (by unfold za; omega)]; exact h)) yy_Q_dropAllOf yv_D_103 (by decide) rfl ⟨Nat.le_of_ble_eq_true rfl, Nat.le_of_ble_eq_true rfl⟩ ⟨Nat.zero_le _, Nat.zero_le _⟩ rfl (Nat.le_of_ble_eq_true rfl) d_D_remove_24) (fun σ2 q2 => ?_)
    obtain rfl := q2.symm
    refine g_iconst hC (1) d_D_remove_27 (by decide) rfl ?_
    exact g_zret hC hr hlk d_D_remove_28 (Or.inr rfl) ⟨by rw [h5]; rfl, by rw [if_pos h5, hc]⟩
  ·
    refine g_iconst hC (0) d_D_remove_8 (by decide) rfl ?_
    exact g_zret hC hr hlk d_D_remove_9 (Or.inl rfl) ⟨by rw [h5]; rfl, (if_neg (zif_f h5)).symm⟩
set_option maxHeartbeats 4000000 in
set_option maxRecDepth 100000 in
theorem c_D_app (l : Launch) (D : va_G) (K : Nat → ClassId) (q : Nat → Nat) (hq : zI q) (n x : Int32) (σ : zm) : zMi l y_D_app b_D_app 4 (some .int) 2 D K q [.ref (q (0)), .int (n), .int (x)] σ (fun r σ' => r = zapp σ n x ∧ σ' = σ) := by
  refine zMi.of (own := "AppDesk") (lv := [(0, .ref (q (0))), (1, .int (n)), (2, .int (x))]) (by decide) rfl hq (Nat.le_of_ble_eq_true rfl) rfl ?_
  intro p e s m below meth c hC hr hlk
  refine g_aload_n hC d_D_app_0 rfl rfl ?_
  refine g_iload_n hC d_D_app_1 rfl rfl ?_
  refine g_goi hC rfl (z_runV hC (c_D_isInstalled l D K q hq _ _ ) yy_D_isInstalled yv_D_97 (by decide) rfl ⟨Nat.le_of_ble_eq_true rfl, Nat.le_of_ble_eq_true rfl⟩ ⟨Nat.zero_le _, Nat.zero_le _⟩ rfl (Nat.le_of_ble_eq_true rfl) d_D_app_2) (fun r0 σ0 q0 => ?_)
  obtain ⟨rfl, w0⟩ := q0
  obtain rfl := w0.symm
  refine g_ifne_b hC 10 d_D_app_5 rfl rfl (fun h5 => ?_) (fun h5 => ?_)
  ·
    obtain ⟨k, hk, hx⟩ := zin_of (n := 8) (by decide) (zinst_in h5)
    have hc : (n).toNatClampNeg = k := by rw [hx]; exact nI_clamp (by omega)
    refine g_aload_n hC d_D_app_10 rfl rfl ?_
    refine g_getR hC _ 0 1 _ (by decide) rfl rfl fl_D_18 d_D_app_11 rfl ?_
    refine g_iload_n hC d_D_app_14 rfl rfl ?_
    refine g_aald hC _ _ k _ (by decide) rfl hx hk (by decide) (zS_app hk) d_D_app_15 rfl ?_
    refine g_astore_n hC d_D_app_16 rfl (by decide) ?_
    refine g_iload_n hC d_D_app_17 rfl rfl ?_
    by_cases t18_0 : x = 0
    ·
      refine g_tableIn hC 60 d_D_app_18 (by rw [t18_0]; decide) (by rw [t18_0]; decide) (by rw [t18_0]; rfl) rfl ?_
      refine g_aload_n hC d_D_app_60 rfl rfl ?_
      refine g_getR hC _ 2 1 _ (za_lt hk) (zS_a hk) rfl fl_D_107 d_D_app_61 rfl ?_
      refine g_getI hC _ 1 1 (zp_lt (Nat.lt_succ_of_lt hk)) (zS_p (Nat.lt_succ_of_lt hk)) rfl fl_D_152 d_D_app_64 rfl ?_
      exact g_iret hC hr hlk d_D_app_67 ⟨by rw [zapp_t h5 hc, t18_0]; rfl, rfl⟩
    by_cases t18_1 : x = 1
    ·
      refine g_tableIn hC 68 d_D_app_18 (by rw [t18_1]; decide) (by rw [t18_1]; decide) (by rw [t18_1]; rfl) rfl ?_
      refine g_aload_n hC d_D_app_68 rfl rfl ?_
      refine g_getR hC _ 2 1 _ (za_lt hk) (zS_a hk) rfl fl_D_107 d_D_app_69 rfl ?_
      refine g_getI hC _ 1 2 (zp_lt (Nat.lt_succ_of_lt hk)) (zS_p (Nat.lt_succ_of_lt hk)) rfl fl_D_155 d_D_app_72 rfl ?_
      exact g_iret hC hr hlk d_D_app_75 ⟨by rw [zapp_t h5 hc, t18_1]; rfl, rfl⟩
    by_cases t18_2 : x = 2
    ·
      refine g_tableIn hC 76 d_D_app_18 (by rw [t18_2]; decide) (by rw [t18_2]; decide) (by rw [t18_2]; rfl) rfl ?_
      refine g_aload_n hC d_D_app_76 rfl rfl ?_
      refine g_getI hC _ 2 5 (za_lt hk) (zS_a hk) rfl fl_D_148 d_D_app_77 rfl ?_
      refine g_if_eq hC 87 d_D_app_80 rfl rfl (fun h80 => ?_) (fun h80 => ?_)
      ·
        refine g_iconst hC (0) d_D_app_87 (by decide) rfl ?_
        exact g_iret hC hr hlk d_D_app_88 ⟨by rw [zapp_t h5 hc, t18_2]; first | exact (if_pos h80).symm | exact (if_neg h80).symm, rfl⟩
      ·
        refine g_iconst hC (1) d_D_app_83 (by decide) rfl ?_
        refine g_goto hC 88 d_D_app_84 rfl ?_
        exact g_iret hC hr hlk d_D_app_88 ⟨by rw [zapp_t h5 hc, t18_2]; first | exact (if_pos h80).symm | exact (if_neg h80).symm, rfl⟩
    by_cases t18_3 : x = 3
    ·
      refine g_tableIn hC 89 d_D_app_18 (by rw [t18_3]; decide) (by rw [t18_3]; decide) (by rw [t18_3]; rfl) rfl ?_
      refine g_aload_n hC d_D_app_89 rfl rfl ?_
      refine g_getI hC _ 2 5 (za_lt hk) (zS_a hk) rfl fl_D_148 d_D_app_90 rfl ?_
      refine g_if_eq hC 103 d_D_app_93 rfl rfl (fun h93 => ?_) (fun h93 => ?_)
      ·
        refine g_iconst hC (0) d_D_app_103 (by decide) rfl ?_
        exact g_iret hC hr hlk d_D_app_104 ⟨by rw [zapp_t h5 hc, t18_3]; first | exact (if_pos h93).symm | exact (if_neg h93).symm, rfl⟩
      ·
        refine g_aload_n hC d_D_app_96 rfl rfl ?_
        refine g_getI hC _ 2 6 (za_lt hk) (zS_a hk) rfl fl_D_158 d_D_app_97 rfl ?_
        refine g_goto hC 104 d_D_app_100 rfl ?_
        exact g_iret hC hr hlk d_D_app_104 ⟨by rw [zapp_t h5 hc, t18_3]; first | exact (if_pos h93).symm | exact (if_neg h93).symm, rfl⟩
    by_cases t18_4 : x = 4
    ·
      refine g_tableIn hC 105 d_D_app_18 (by rw [t18_4]; decide) (by rw [t18_4]; decide) (by rw [t18_4]; rfl) rfl ?_
      refine g_aload_n hC d_D_app_105 rfl rfl ?_
      refine g_getI hC _ 2 5 (za_lt hk) (zS_a hk) rfl fl_D_148 d_D_app_106 rfl ?_
      refine g_if_eq hC 119 d_D_app_109 rfl rfl (fun h109 => ?_) (fun h109 => ?_)
      ·
        refine g_iconst hC (0) d_D_app_119 (by decide) rfl ?_
        exact g_iret hC hr hlk d_D_app_120 ⟨by rw [zapp_t h5 hc, t18_4]; first | exact (if_pos h109).symm | exact (if_neg h109).symm, rfl⟩
      ·
        refine g_aload_n hC d_D_app_112 rfl rfl ?_
        refine g_getI hC _ 2 7 (za_lt hk) (zS_a hk) rfl fl_D_161 d_D_app_113 rfl ?_
        refine g_goto hC 120 d_D_app_116 rfl ?_
        exact g_iret hC hr hlk d_D_app_120 ⟨by rw [zapp_t h5 hc, t18_4]; first | exact (if_pos h109).symm | exact (if_neg h109).symm, rfl⟩
    by_cases t18_5 : x = 5
    ·
      refine g_tableIn hC 121 d_D_app_18 (by rw [t18_5]; decide) (by rw [t18_5]; decide) (by rw [t18_5]; rfl) rfl ?_
      refine g_aload_n hC d_D_app_121 rfl rfl ?_
      refine g_getI hC _ 2 5 (za_lt hk) (zS_a hk) rfl fl_D_148 d_D_app_122 rfl ?_
      refine g_if_eq hC 135 d_D_app_125 rfl rfl (fun h125 => ?_) (fun h125 => ?_)
      ·
        refine g_iconst hC (0) d_D_app_135 (by decide) rfl ?_
        exact g_iret hC hr hlk d_D_app_136 ⟨by rw [zapp_t h5 hc, t18_5]; first | exact (if_pos h125).symm | exact (if_neg h125).symm, rfl⟩
      ·
        refine g_aload_n hC d_D_app_128 rfl rfl ?_
        refine g_goi hC rfl (z_runV hC (c_A_uppermost l D K q hq _ hk _ ) yy_A_uppermost yv_D_164 (za_lt hk) (zS_a hk) ⟨Nat.le_of_ble_eq_true rfl, Nat.le_of_ble_eq_true rfl⟩ ⟨Nat.zero_le _, Nat.zero_le _⟩ rfl (Nat.le_of_ble_eq_true rfl) d_D_app_129) (fun r1 σ1 q1 => ?_)
        obtain ⟨rfl, w1⟩ := q1
        obtain rfl := w1.symm
        refine g_goto hC 136 d_D_app_132 rfl ?_
        exact g_iret hC hr hlk d_D_app_136 ⟨by rw [zapp_t h5 hc, t18_5]; first | exact (if_pos h125).symm | exact (if_neg h125).symm, rfl⟩
    by_cases t18_6 : x = 6
    ·
      refine g_tableIn hC 137 d_D_app_18 (by rw [t18_6]; decide) (by rw [t18_6]; decide) (by rw [t18_6]; rfl) rfl ?_
      refine g_aload_n hC d_D_app_137 rfl rfl ?_
      refine g_getI hC _ 2 3 (za_lt hk) (zS_a hk) rfl fl_D_167 d_D_app_138 rfl ?_
      refine g_goi hC rfl (z_runS hC (c_J_bitCount l D K q hq _ _) yy_J_bitCount ys_D_170 ⟨Nat.le_of_ble_eq_true rfl, Nat.le_of_ble_eq_true rfl⟩ ⟨Nat.zero_le _, Nat.zero_le _⟩ rfl (Nat.le_of_ble_eq_true rfl) d_D_app_141) (fun r2 σ2 q2 => ?_)
      obtain ⟨rfl, w2⟩ := q2
      obtain rfl := w2.symm
      exact g_iret hC hr hlk d_D_app_144 ⟨by rw [zapp_t h5 hc, t18_6]; rfl, rfl⟩
    refine g_tableOut hC 145 d_D_app_18 (by have u0 := lv_neT t18_0 (a := 0) (by decide); have u1 := lv_neT t18_1 (a := 1) (by decide); have u2 := lv_neT t18_2 (a := 2) (by decide); have u3 := lv_neT t18_3 (a := 3) (by decide); have u4 := lv_neT t18_4 (a := 4) (by decide); have u5 := lv_neT t18_5 (a := 5) (by decide); have u6 := lv_neT t18_6 (a := 6) (by decide); omega) rfl ?_
    refine g_iconst hC (-1) d_D_app_145 (by decide) rfl ?_
    exact g_iret hC hr hlk d_D_app_146 ⟨by rw [zapp_t h5 hc]; unfold zap1; rw [if_neg t18_0, if_neg t18_1, if_neg t18_2, if_neg t18_3, if_neg t18_4, if_neg t18_5, if_neg t18_6], rfl⟩
  ·
    have ho : zapp σ n x = -1 := if_neg (zif_f h5)
    refine g_iconst hC (-1) d_D_app_8 (by decide) rfl ?_
    exact g_iret hC hr hlk d_D_app_9 ⟨ho.symm, rfl⟩
set_option maxHeartbeats 4000000 in
set_option maxRecDepth 100000 in
theorem c_D_kept (l : Launch) (D : va_G) (K : Nat → ClassId) (q : Nat → Nat) (hq : zI q) (n x : Int32) (σ : zm) : zMi l y_D_kept b_D_kept 3 (some .int) 4 D K q [.ref (q (0)), .int (n), .int (x)] σ (fun r σ' => r = zkpt σ n x ∧ σ' = σ) := by
  refine zMi.of (own := "AppDesk") (lv := [(0, .ref (q (0))), (1, .int (n)), (2, .int (x))]) (by decide) rfl hq (Nat.le_of_ble_eq_true rfl) rfl ?_
  intro p e s m below meth c hC hr hlk
  refine g_aload_n hC d_D_kept_0 rfl rfl ?_
  refine g_iload_n hC d_D_kept_1 rfl rfl ?_
  refine g_goi hC rfl (z_runV hC (c_D_isInstalled l D K q hq _ _ ) yy_D_isInstalled yv_D_97 (by decide) rfl ⟨Nat.le_of_ble_eq_true rfl, Nat.le_of_ble_eq_true rfl⟩ ⟨Nat.zero_le _, Nat.zero_le _⟩ rfl (Nat.le_of_ble_eq_true rfl) d_D_kept_2) (fun r0 σ0 q0 => ?_)
  obtain ⟨rfl, w0⟩ := q0
  obtain rfl := w0.symm
  refine g_ifeq_b hC 21 d_D_kept_5 rfl rfl (fun h5 => ?_) (fun h5 => ?_)
  ·
    refine g_iconst hC (0) d_D_kept_21 (by decide) rfl ?_
    exact g_iret hC hr hlk d_D_kept_22 ⟨by first | (unfold zkpt; rw [if_pos h5, hc]; done) | (unfold zkpt; rw [if_neg (zif_f h5)]; done), rfl⟩
  ·
    obtain ⟨k, hk, hx⟩ := zin_of (n := 8) (by decide) (zinst_in h5)
    have hc : (n).toNatClampNeg = k := by rw [hx]; exact nI_clamp (by omega)
    refine g_aload_n hC d_D_kept_8 rfl rfl ?_
    refine g_getR hC _ 0 1 _ (by decide) rfl rfl fl_D_18 d_D_kept_9 rfl ?_
    refine g_iload_n hC d_D_kept_12 rfl rfl ?_
    refine g_aald hC _ _ k _ (by decide) rfl hx hk (by decide) (zS_app hk) d_D_kept_13 rfl ?_
    refine g_iload_n hC d_D_kept_14 rfl rfl ?_
    refine g_goi hC rfl (z_runV hC (c_A_valueUnder l D K q hq _ hk _ _ ) yy_A_valueUnder yv_D_179 (za_lt hk) (zS_a hk) ⟨Nat.le_of_ble_eq_true rfl, Nat.le_of_ble_eq_true rfl⟩ ⟨Nat.zero_le _, Nat.zero_le _⟩ rfl (Nat.le_of_ble_eq_true rfl) d_D_kept_15) (fun r1 σ1 q1 => ?_)
    obtain ⟨rfl, w1⟩ := q1
    obtain rfl := w1.symm
    refine g_goto hC 22 d_D_kept_18 rfl ?_
    exact g_iret hC hr hlk d_D_kept_22 ⟨by first | (unfold zkpt; rw [if_pos h5, hc]; done) | (unfold zkpt; rw [if_neg (zif_f h5)]; done), rfl⟩
set_option maxHeartbeats 4000000 in
set_option maxRecDepth 100000 in
theorem c_D_queued (l : Launch) (D : va_G) (K : Nat → ClassId) (q : Nat → Nat) (hq : zI q) (σ : zm) : zMi l y_D_queued b_D_queued 1 (some .int) 0 D K q [.ref (q (0))] σ (fun r σ' => r = σ 2 0 ∧ σ' = σ) := by
  refine zMi.of (own := "AppDesk") (lv := [(0, .ref (q (0)))]) (by decide) rfl hq (Nat.le_of_ble_eq_true rfl) rfl ?_
  intro p e s m below meth c hC hr hlk
  refine g_aload_n hC d_D_queued_0 rfl rfl ?_
  refine g_getR hC _ 0 2 _ (by decide) rfl rfl fl_D_26 d_D_queued_1 rfl ?_
  refine g_getI hC _ 3 0 (by decide) rfl rfl fl_D_120 d_D_queued_4 rfl ?_
  exact g_iret hC hr hlk d_D_queued_7 ⟨rfl, rfl⟩
set_option maxHeartbeats 4000000 in
set_option maxRecDepth 100000 in
theorem c_D_isSound (l : Launch) (D : va_G) (K : Nat → ClassId) (q : Nat → Nat) (hq : zI q) (i : Nat) (hi : i < 9) (pn wn : Nat) (hpn : pn ≤ 4) (hwn : wn ≤ 24) (σ : zm) (hpc : σ (zp i) 6 = nI pn) (hwc : σ (zp i) 11 = nI wn) : zMi l y_D_isSound b_D_isSound 2 (some .boolean) 4 D K q [.ref (q (0)), .ref (q (zp i))] σ (fun r σ' => (∃ b : Bool, r = zb b ∧ (b = true ↔ zSnd σ i pn wn)) ∧ zOf σ σ') := by
  refine zMi.of (own := "AppDesk") (lv := [(0, .ref (q (0))), (1, .ref (q (zp i)))]) (by decide) rfl hq (Nat.le_of_ble_eq_true rfl) rfl ?_
  intro p e s m below meth c hC hr hlk
  refine g_aload_n hC d_D_isSound_0 rfl rfl ?_
  refine g_getV hC _ 1 6 (nI pn) (hpc) (zp_lt hi) (zS_p hi) rfl fl_D_185 d_D_isSound_1 rfl ?_
  refine g_if_le hC 40 d_D_isSound_4 rfl rfl (fun h4 => ?_) (fun h4 => ?_)
  ·
    have hn : ¬ zSnd σ i pn wn := by first | exact (fun z => nI_nle z.1 (by omega) h4) | exact (fun z => nI_nle z.2.1 (by omega) h11) | exact (fun z => h22 z.2.2.1) | exact (fun z => absurd (hb1.mpr z.2.2.2) (by rw [h33]; decide))
    refine g_iconst hC (0) d_D_isSound_40 (by decide) rfl ?_
    exact g_zret hC hr hlk d_D_isSound_41 (Or.inl rfl) (by first | exact ⟨⟨true, rfl, ⟨fun _ => hn, fun _ => rfl⟩⟩, ho1⟩ | exact ⟨⟨false, rfl, ⟨(fun z => by cases z), fun z => absurd z hn⟩⟩, ho1⟩ | exact ⟨⟨false, rfl, ⟨(fun z => by cases z), fun z => absurd z hn⟩⟩, fun a ha => rfl⟩)
  ·
    have hp0 : 0 < pn := Nat.pos_of_ne_zero (fun z => h4 (by rw [z]; decide))
    refine g_aload_n hC d_D_isSound_7 rfl rfl ?_
    refine g_getV hC _ 1 11 (nI wn) (hwc) (zp_lt hi) (zS_p hi) rfl fl_D_188 d_D_isSound_8 rfl ?_
    refine g_if_le hC 40 d_D_isSound_11 rfl rfl (fun h11 => ?_) (fun h11 => ?_)
    ·
      have hn : ¬ zSnd σ i pn wn := by first | exact (fun z => nI_nle z.1 (by omega) h4) | exact (fun z => nI_nle z.2.1 (by omega) h11) | exact (fun z => h22 z.2.2.1) | exact (fun z => absurd (hb1.mpr z.2.2.2) (by rw [h33]; decide))
      refine g_iconst hC (0) d_D_isSound_40 (by decide) rfl ?_
      exact g_zret hC hr hlk d_D_isSound_41 (Or.inl rfl) (by first | exact ⟨⟨true, rfl, ⟨fun _ => hn, fun _ => rfl⟩⟩, ho1⟩ | exact ⟨⟨false, rfl, ⟨(fun z => by cases z), fun z => absurd z hn⟩⟩, ho1⟩ | exact ⟨⟨false, rfl, ⟨(fun z => by cases z), fun z => absurd z hn⟩⟩, fun a ha => rfl⟩)
    ·
      have hw0 : 0 < wn := Nat.pos_of_ne_zero (fun z => h11 (by rw [z]; decide))
      refine g_aload_n hC d_D_isSound_14 rfl rfl ?_
      refine g_getI hC _ 1 3 (zp_lt hi) (zS_p hi) rfl fl_D_74 d_D_isSound_15 rfl ?_
      refine g_aload_n hC d_D_isSound_18 rfl rfl ?_
      refine g_goi hC rfl (z_runV hC (c_P_sealOfSigner l D K q hq _ hi _ pn wn hpn hwn hpc hwc) yy_P_sealOfSigner yv_D_70 (zp_lt hi) (zS_p hi) ⟨Nat.le_of_ble_eq_true rfl, Nat.le_of_ble_eq_true rfl⟩ ⟨Nat.zero_le _, Nat.zero_le _⟩ rfl (Nat.le_of_ble_eq_true rfl) d_D_isSound_19) (fun r0 σ0 q0 => ?_)
      obtain ⟨rfl, w0⟩ := q0
      obtain rfl := w0.symm
      refine g_icmp_ne hC 40 d_D_isSound_22 rfl rfl (fun h22 => ?_) (fun h22 => ?_)
      ·
        have hn : ¬ zSnd σ i pn wn := by first | exact (fun z => nI_nle z.1 (by omega) h4) | exact (fun z => nI_nle z.2.1 (by omega) h11) | exact (fun z => h22 z.2.2.1) | exact (fun z => absurd (hb1.mpr z.2.2.2) (by rw [h33]; decide))
        refine g_iconst hC (0) d_D_isSound_40 (by decide) rfl ?_
        exact g_zret hC hr hlk d_D_isSound_41 (Or.inl rfl) (by first | exact ⟨⟨true, rfl, ⟨fun _ => hn, fun _ => rfl⟩⟩, ho1⟩ | exact ⟨⟨false, rfl, ⟨(fun z => by cases z), fun z => absurd z hn⟩⟩, ho1⟩ | exact ⟨⟨false, rfl, ⟨(fun z => by cases z), fun z => absurd z hn⟩⟩, fun a ha => rfl⟩)
      ·
        refine g_aload_n hC d_D_isSound_25 rfl rfl ?_
        refine g_getR hC _ 0 3 _ (by decide) rfl rfl fl_D_33 d_D_isSound_26 rfl ?_
        refine g_aload_n hC d_D_isSound_29 rfl rfl ?_
        refine g_goi hC rfl (z_runV hC (c_V_isGood l D K q hq _ hi pn wn hpn hwn _ hpc hwc) yy_V_isGood yv_D_191 (by decide) rfl ⟨Nat.le_of_ble_eq_true rfl, Nat.le_of_ble_eq_true rfl⟩ ⟨Nat.zero_le _, Nat.zero_le _⟩ rfl (Nat.le_of_ble_eq_true rfl) d_D_isSound_30) (fun r1 σ1 q1 => ?_)
        obtain ⟨⟨b1, rfl, hb1⟩, ho1⟩ := q1
        refine g_ifeq_b hC 40 d_D_isSound_33 rfl rfl (fun h33 => ?_) (fun h33 => ?_)
        ·
          have hn : ¬ zSnd σ i pn wn := by first | exact (fun z => nI_nle z.1 (by omega) h4) | exact (fun z => nI_nle z.2.1 (by omega) h11) | exact (fun z => h22 z.2.2.1) | exact (fun z => absurd (hb1.mpr z.2.2.2) (by rw [h33]; decide))
          refine g_iconst hC (0) d_D_isSound_40 (by decide) rfl ?_
          exact g_zret hC hr hlk d_D_isSound_41 (Or.inl rfl) (by first | exact ⟨⟨true, rfl, ⟨fun _ => hn, fun _ => rfl⟩⟩, ho1⟩ | exact ⟨⟨false, rfl, ⟨(fun z => by cases z), fun z => absurd z hn⟩⟩, ho1⟩ | exact ⟨⟨false, rfl, ⟨(fun z => by cases z), fun z => absurd z hn⟩⟩, fun a ha => rfl⟩)
        ·
          have hn : zSnd σ i pn wn := ⟨hp0, hw0, h22, hb1.mp h33⟩
          refine g_iconst hC (1) d_D_isSound_36 (by decide) rfl ?_
          refine g_goto hC 41 d_D_isSound_37 rfl ?_
          exact g_zret hC hr hlk d_D_isSound_41 (Or.inr rfl) (by first | exact ⟨⟨true, rfl, ⟨fun _ => hn, fun _ => rfl⟩⟩, ho1⟩ | exact ⟨⟨false, rfl, ⟨(fun z => by cases z), fun z => absurd z hn⟩⟩, ho1⟩ | exact ⟨⟨false, rfl, ⟨(fun z => by cases z), fun z => absurd z hn⟩⟩, fun a ha => rfl⟩)
set_option maxHeartbeats 4000000 in
set_option maxRecDepth 100000 in
theorem c_D_mayEnter (l : Launch) (D : va_G) (K : Nat → ClassId) (q : Nat → Nat) (hq : zI q) (i : Nat) (hi : i < 9) (nm : Nat) (hnm : nm < 8) (σ : zm) (h : σ (zp i) 0 = nI nm) : zMi l y_D_mayEnter b_D_mayEnter 4 (some .boolean) 4 D K q [.ref (q (0)), .ref (q (zp i))] σ (fun r σ' => r = zb (zent σ i nm) ∧ σ' = σ) := by
  refine zMi.of (own := "AppDesk") (lv := [(0, .ref (q (0))), (1, .ref (q (zp i)))]) (by decide) rfl hq (Nat.le_of_ble_eq_true rfl) rfl ?_
  intro p e s m below meth c hC hr hlk
  have J49 : ∀ (f : Nat) (k : Nat) (hif : k + f = 8) (he : zent σ i nm = zall (zenp σ i nm) f k), zG p l e (zrm 4) s m ([.ref (q (0)), .ref (q (zp i))] : List Value).toArray below meth c D K q (zA q) 4 0 0 (MQ below (va_Qi (fun r σ' => r = zb (zent σ i nm) ∧ σ' = σ) (zO D K q) (zA q)) ([.ref (q (0)), .ref (q (zp i))] : List Value).toArray s 0 0 (zA q)) σ 49 [(0, .ref (q (0))), (1, .ref (q (zp i))), (3, .int (nI k))] [] := by
    intro f
    induction f with
    | zero =>
      intro k hif he
      refine g_iload_n hC d_D_mayEnter_49 rfl rfl ?_
      refine g_bipush hC (8) d_D_mayEnter_50 (by decide) rfl ?_
      refine g_icmp_ge hC 83 d_D_mayEnter_52 rfl rfl (fun h52 => ?_) (fun h52 => absurd (nI_le (a := 8) (b := k) (by omega) (by omega)) h52)
      refine g_iconst hC (1) d_D_mayEnter_83 (by decide) rfl ?_
      exact g_zret hC hr hlk d_D_mayEnter_84 (Or.inr rfl) ⟨by rw [he]; rfl, rfl⟩
    | succ f ih =>
      intro k hif he
      refine g_iload_n hC d_D_mayEnter_49 rfl rfl ?_
      refine g_bipush hC (8) d_D_mayEnter_50 (by decide) rfl ?_
      refine g_icmp_ge hC 83 d_D_mayEnter_52 rfl rfl (fun h52 => absurd h52 (nI_ge (a := k) (b := 8) (by omega) (by omega))) (fun h52 => ?_)
      refine g_aload_n hC d_D_mayEnter_55 rfl rfl ?_
      refine g_iload_n hC d_D_mayEnter_56 rfl rfl ?_
      refine g_goi hC rfl (z_runV hC (c_P_declares l D K q hq _ hi _ _) yy_P_declares yv_D_63 (zp_lt hi) (zS_p hi) ⟨Nat.le_of_ble_eq_true rfl, Nat.le_of_ble_eq_true rfl⟩ ⟨Nat.zero_le _, Nat.zero_le _⟩ rfl (Nat.le_of_ble_eq_true rfl) d_D_mayEnter_57) (fun r0 σ0 q0 => ?_)
      obtain ⟨rfl, w0⟩ := q0
      obtain rfl := w0.symm
      refine g_ifeq_b hC 77 d_D_mayEnter_60 rfl rfl (fun h60 => ?_) (fun h60 => ?_)
      ·
        refine g_iinc hC (nI (k + 1)) d_D_mayEnter_77 rfl rfl (nI_succ _).symm (by decide) ?_
        refine g_goto hC 49 d_D_mayEnter_80 rfl ?_
        exact zG.to (ih (k + 1) (by omega) (he.trans (zall_t (by first | (simp [zenp, h60]; done) | (simp [zenp, h60, h72]; done))))) rfl rfl ⟨rfl, rfl, rfl, trivial⟩
      ·
        refine g_aload_n hC d_D_mayEnter_63 rfl rfl ?_
        refine g_iload_n hC d_D_mayEnter_64 rfl rfl ?_
        refine g_aload_n hC d_D_mayEnter_65 rfl rfl ?_
        refine g_getV hC _ 1 0 (nI nm) (h) (zp_lt hi) (zS_p hi) rfl fl_D_90 d_D_mayEnter_66 rfl ?_
        refine g_goi hC rfl (z_runV hC (c_D_isDeclaredByOther l D K q hq _ _ _ ) yy_D_isDeclaredByOther yv_D_194 (by decide) rfl ⟨Nat.le_of_ble_eq_true rfl, Nat.le_of_ble_eq_true rfl⟩ ⟨Nat.zero_le _, Nat.zero_le _⟩ rfl (Nat.le_of_ble_eq_true rfl) d_D_mayEnter_69) (fun r1 σ1 q1 => ?_)
        obtain ⟨rfl, w1⟩ := q1
        obtain rfl := w1.symm
        refine g_ifeq_b hC 77 d_D_mayEnter_72 rfl rfl (fun h72 => ?_) (fun h72 => ?_)
        ·
          refine g_iinc hC (nI (k + 1)) d_D_mayEnter_77 rfl rfl (nI_succ _).symm (by decide) ?_
          refine g_goto hC 49 d_D_mayEnter_80 rfl ?_
          exact zG.to (ih (k + 1) (by omega) (he.trans (zall_t (by first | (simp [zenp, h60]; done) | (simp [zenp, h60, h72]; done))))) rfl rfl ⟨rfl, rfl, rfl, trivial⟩
        ·
          refine g_iconst hC (0) d_D_mayEnter_75 (by decide) rfl ?_
          exact g_zret hC hr hlk d_D_mayEnter_76 (Or.inl rfl) ⟨by rw [he, zall_f (by simp [zenp, h60, h72])]; rfl, rfl⟩
  refine g_aload_n hC d_D_mayEnter_0 rfl rfl ?_
  refine g_getR hC _ 0 1 _ (by decide) rfl rfl fl_D_18 d_D_mayEnter_1 rfl ?_
  refine g_aload_n hC d_D_mayEnter_4 rfl rfl ?_
  refine g_getV hC _ 1 0 (nI nm) (h) (zp_lt hi) (zS_p hi) rfl fl_D_90 d_D_mayEnter_5 rfl ?_
  refine g_aald hC _ _ nm _ (by decide) rfl rfl hnm (by decide) (zS_app hnm) d_D_mayEnter_8 rfl ?_
  refine g_astore_n hC d_D_mayEnter_9 rfl (by decide) ?_
  refine g_aload_n hC d_D_mayEnter_10 rfl rfl ?_
  refine g_getI hC _ 2 0 (za_lt hnm) (zS_a hnm) rfl fl_D_182 d_D_mayEnter_11 rfl ?_
  refine g_if_eq hC 47 d_D_mayEnter_14 rfl rfl (fun h14 => ?_) (fun h14 => ?_)
  ·
    have ho : zent σ i nm = zall (zenp σ i nm) 8 0 := by first | (simp [zent, h14]; done) | (simp [zent, h14, h28, Int32.not_le.mpr h42]; done)
    refine g_iconst hC (0) d_D_mayEnter_47 (by decide) rfl ?_
    refine g_istore_n hC d_D_mayEnter_48 rfl (by decide) ?_
    exact zG.to (J49 8 0 (by omega) ho) rfl rfl ⟨rfl, rfl, rfl, trivial⟩
  ·
    refine g_aload_n hC d_D_mayEnter_17 rfl rfl ?_
    refine g_getR hC _ 2 1 _ (za_lt hnm) (zS_a hnm) rfl fl_D_107 d_D_mayEnter_18 rfl ?_
    refine g_getI hC _ 1 2 (zp_lt (Nat.lt_succ_of_lt hnm)) (zS_p (Nat.lt_succ_of_lt hnm)) rfl fl_D_155 d_D_mayEnter_21 rfl ?_
    refine g_aload_n hC d_D_mayEnter_24 rfl rfl ?_
    refine g_getI hC _ 1 2 (zp_lt hi) (zS_p hi) rfl fl_D_155 d_D_mayEnter_25 rfl ?_
    refine g_icmp_ne hC 45 d_D_mayEnter_28 rfl rfl (fun h28 => ?_) (fun h28 => ?_)
    ·
      have ho : zent σ i nm = false := by first | (simp [zent, h14, h28]; done) | (simp [zent, h14, h28, Int32.not_lt.mp h42]; done)
      refine g_iconst hC (0) d_D_mayEnter_45 (by decide) rfl ?_
      exact g_zret hC hr hlk d_D_mayEnter_46 (Or.inl rfl) ⟨by rw [ho]; rfl, rfl⟩
    ·
      refine g_aload_n hC d_D_mayEnter_31 rfl rfl ?_
      refine g_getR hC _ 2 1 _ (za_lt hnm) (zS_a hnm) rfl fl_D_107 d_D_mayEnter_32 rfl ?_
      refine g_getI hC _ 1 1 (zp_lt (Nat.lt_succ_of_lt hnm)) (zS_p (Nat.lt_succ_of_lt hnm)) rfl fl_D_152 d_D_mayEnter_35 rfl ?_
      refine g_aload_n hC d_D_mayEnter_38 rfl rfl ?_
      refine g_getI hC _ 1 1 (zp_lt hi) (zS_p hi) rfl fl_D_152 d_D_mayEnter_39 rfl ?_
      refine g_icmp_lt hC 47 d_D_mayEnter_42 rfl rfl (fun h42 => ?_) (fun h42 => ?_)
      ·
        have ho : zent σ i nm = zall (zenp σ i nm) 8 0 := by first | (simp [zent, h14]; done) | (simp [zent, h14, h28, Int32.not_le.mpr h42]; done)
        refine g_iconst hC (0) d_D_mayEnter_47 (by decide) rfl ?_
        refine g_istore_n hC d_D_mayEnter_48 rfl (by decide) ?_
        exact zG.to (J49 8 0 (by omega) ho) rfl rfl ⟨rfl, rfl, rfl, trivial⟩
      ·
        have ho : zent σ i nm = false := by first | (simp [zent, h14, h28]; done) | (simp [zent, h14, h28, Int32.not_lt.mp h42]; done)
        refine g_iconst hC (0) d_D_mayEnter_45 (by decide) rfl ?_
        exact g_zret hC hr hlk d_D_mayEnter_46 (Or.inl rfl) ⟨by rw [ho]; rfl, rfl⟩
set_option maxHeartbeats 4000000 in
set_option maxRecDepth 100000 in
theorem c_D_placeToBegin (l : Launch) (D : va_G) (K : Nat → ClassId) (q : Nat → Nat) (hq : zI q) (a : Nat) (ha : a < 8) (g ac : Int32) (pn : Nat) (hpn : pn ≤ 4) (σ : zm) (h : σ (zp a) 6 = nI pn) : zMi l y_D_placeToBegin b_D_placeToBegin 8 (some .int) 5 D K q [.ref (q (0)), .int (nI a), .int (g), .int (ac)] σ (fun r σ' => r = zptb σ a g ac pn ∧ σ' = σ) := by
  refine zMi.of (own := "AppDesk") (lv := [(0, .ref (q (0))), (1, .int (nI a)), (2, .int (g)), (3, .int (ac))]) (by decide) rfl hq (Nat.le_of_ble_eq_true rfl) rfl ?_
  intro p e s m below meth c hC hr hlk
  have J36 : ∀ (f : Nat) (k : Nat) (hif : k + f = pn) (he : zptb σ a g ac pn = zptl σ a g ac f k), zG p l e (zrm 5) s m ([.ref (q (0)), .int (nI a), .int (g), .int (ac)] : List Value).toArray below meth c D K q (zA q) 8 0 0 (MQ below (va_Qi (fun r σ' => r = zptb σ a g ac pn ∧ σ' = σ) (zO D K q) (zA q)) ([.ref (q (0)), .int (nI a), .int (g), .int (ac)] : List Value).toArray s 0 0 (zA q)) σ 36 [(0, .ref (q (0))), (1, .int (nI a)), (2, .int (g)), (3, .int (ac)), (5, .ref (q (zp a))), (6, .int (nI k))] [] := by
    intro f
    induction f with
    | zero =>
      intro k hif he
      refine g_iload hC d_D_placeToBegin_36 rfl rfl ?_
      refine g_aload hC d_D_placeToBegin_38 rfl rfl ?_
      refine g_getV hC _ 1 6 (nI pn) (h) (zp_lt (Nat.lt_succ_of_lt ha)) (zS_p (Nat.lt_succ_of_lt ha)) rfl fl_D_185 d_D_placeToBegin_40 rfl ?_
      refine g_icmp_ge hC 118 d_D_placeToBegin_43 rfl rfl (fun h43 => ?_) (fun h43 => absurd (nI_le (a := pn) (b := k) (by omega) (by omega)) h43)
      refine g_iconst hC (-1) d_D_placeToBegin_118 (by decide) rfl ?_
      exact g_iret hC hr hlk d_D_placeToBegin_119 ⟨he.symm, rfl⟩
    | succ f ih =>
      intro k hif he
      refine g_iload hC d_D_placeToBegin_36 rfl rfl ?_
      refine g_aload hC d_D_placeToBegin_38 rfl rfl ?_
      refine g_getV hC _ 1 6 (nI pn) (h) (zp_lt (Nat.lt_succ_of_lt ha)) (zS_p (Nat.lt_succ_of_lt ha)) rfl fl_D_185 d_D_placeToBegin_40 rfl ?_
      refine g_icmp_ge hC 118 d_D_placeToBegin_43 rfl rfl (fun h43 => absurd h43 (nI_ge (a := k) (b := pn) (by omega) (by omega))) (fun h43 => ?_)
      refine g_aload hC d_D_placeToBegin_46 rfl rfl ?_
      refine g_getR hC _ 1 8 _ (zp_lt (Nat.lt_succ_of_lt ha)) (zS_p (Nat.lt_succ_of_lt ha)) rfl fl_D_197 d_D_placeToBegin_48 rfl ?_
      refine g_iload hC d_D_placeToBegin_51 rfl rfl ?_
      refine g_iald hC _ _ (k) (zp_lt' (Nat.lt_succ_of_lt ha) 3 (by decide)) (zS_pr (Nat.lt_succ_of_lt ha) 3 (by decide)) rfl (by omega) (by decide) d_D_placeToBegin_53 rfl ?_
      refine g_iconst hC (1) d_D_placeToBegin_54 (by decide) rfl ?_
      refine g_icmp_eq hC 63 d_D_placeToBegin_55 rfl rfl (fun h55 => ?_) (fun h55 => ?_)
      ·
        refine g_iconst hC (1) d_D_placeToBegin_63 (by decide) rfl ?_
        refine g_goto hC 68 d_D_placeToBegin_64 rfl ?_
        refine g_istore hC d_D_placeToBegin_68 rfl (by decide) ?_
        refine g_aload hC d_D_placeToBegin_70 rfl rfl ?_
        refine g_getR hC _ 1 7 _ (zp_lt (Nat.lt_succ_of_lt ha)) (zS_p (Nat.lt_succ_of_lt ha)) rfl fl_D_200 d_D_placeToBegin_72 rfl ?_
        refine g_iload hC d_D_placeToBegin_75 rfl rfl ?_
        refine g_iald hC _ _ (k) (zp_lt' (Nat.lt_succ_of_lt ha) 2 (by decide)) (zS_pr (Nat.lt_succ_of_lt ha) 2 (by decide)) rfl (by omega) (by decide) d_D_placeToBegin_77 rfl ?_
        refine g_iload_n hC d_D_placeToBegin_78 rfl rfl ?_
        refine g_icmp_ne hC 112 d_D_placeToBegin_79 rfl rfl (fun h79 => ?_) (fun h79 => ?_)
        ·
          refine g_iinc hC (nI (k + 1)) d_D_placeToBegin_112 rfl rfl (nI_succ _).symm (by decide) ?_
          refine g_goto hC 36 d_D_placeToBegin_115 rfl ?_
          exact zG.to (ih (k + 1) (by omega) (he.trans (zptl_f (by first | (simp [zmat, h79]; done) | (simp [zmat, h55, h60]; done) | (simp [zmat, h100]; done))))) rfl rfl ⟨rfl, rfl, rfl, rfl, rfl, rfl, trivial⟩
        ·
          refine g_iload hC d_D_placeToBegin_82 rfl rfl ?_
          refine g_if_eq hC 112 d_D_placeToBegin_84 rfl rfl (fun h84 => absurd h84 (by decide)) (fun h84 => ?_)
          refine g_aload_n hC d_D_placeToBegin_87 rfl rfl ?_
          refine g_iload_n hC d_D_placeToBegin_88 rfl rfl ?_
          refine g_aload hC d_D_placeToBegin_89 rfl rfl ?_
          refine g_getR hC _ 1 9 _ (zp_lt (Nat.lt_succ_of_lt ha)) (zS_p (Nat.lt_succ_of_lt ha)) rfl fl_D_201 d_D_placeToBegin_91 rfl ?_
          refine g_iload hC d_D_placeToBegin_94 rfl rfl ?_
          refine g_iald hC _ _ (k) (zp_lt' (Nat.lt_succ_of_lt ha) 4 (by decide)) (zS_pr (Nat.lt_succ_of_lt ha) 4 (by decide)) rfl (by omega) (by decide) d_D_placeToBegin_96 rfl ?_
          refine g_goi hC rfl (z_runV hC (c_D_passesGuard l D K q hq _ _ _ ) yy_D_passesGuard yv_D_204 (by decide) rfl ⟨Nat.le_of_ble_eq_true rfl, Nat.le_of_ble_eq_true rfl⟩ ⟨Nat.zero_le _, Nat.zero_le _⟩ rfl (Nat.le_of_ble_eq_true rfl) d_D_placeToBegin_97) (fun r0 σ0 q0 => ?_)
          obtain ⟨rfl, w0⟩ := q0
          obtain rfl := w0.symm
          refine g_ifeq_b hC 112 d_D_placeToBegin_100 rfl rfl (fun h100 => ?_) (fun h100 => ?_)
          ·
            refine g_iinc hC (nI (k + 1)) d_D_placeToBegin_112 rfl rfl (nI_succ _).symm (by decide) ?_
            refine g_goto hC 36 d_D_placeToBegin_115 rfl ?_
            exact zG.to (ih (k + 1) (by omega) (he.trans (zptl_f (by first | (simp [zmat, h79]; done) | (simp [zmat, h55, h60]; done) | (simp [zmat, h100]; done))))) rfl rfl ⟨rfl, rfl, rfl, rfl, rfl, rfl, trivial⟩
          ·
            refine g_aload hC d_D_placeToBegin_103 rfl rfl ?_
            refine g_getR hC _ 1 10 _ (zp_lt (Nat.lt_succ_of_lt ha)) (zS_p (Nat.lt_succ_of_lt ha)) rfl fl_D_207 d_D_placeToBegin_105 rfl ?_
            refine g_iload hC d_D_placeToBegin_108 rfl rfl ?_
            refine g_iald hC _ _ (k) (zp_lt' (Nat.lt_succ_of_lt ha) 5 (by decide)) (zS_pr (Nat.lt_succ_of_lt ha) 5 (by decide)) rfl (by omega) (by decide) d_D_placeToBegin_110 rfl ?_
            exact g_iret hC hr hlk d_D_placeToBegin_111 ⟨by rw [he, zptl_t (by first | (simp [zmat, h79, h55, h100]; done) | (simp [zmat, h79, h60, h100]; done))], rfl⟩
      ·
        refine g_iload_n hC d_D_placeToBegin_58 rfl rfl ?_
        refine g_iload_n hC d_D_placeToBegin_59 rfl rfl ?_
        refine g_icmp_ne hC 67 d_D_placeToBegin_60 rfl rfl (fun h60 => ?_) (fun h60 => ?_)
        ·
          refine g_iconst hC (0) d_D_placeToBegin_67 (by decide) rfl ?_
          refine g_istore hC d_D_placeToBegin_68 rfl (by decide) ?_
          refine g_aload hC d_D_placeToBegin_70 rfl rfl ?_
          refine g_getR hC _ 1 7 _ (zp_lt (Nat.lt_succ_of_lt ha)) (zS_p (Nat.lt_succ_of_lt ha)) rfl fl_D_200 d_D_placeToBegin_72 rfl ?_
          refine g_iload hC d_D_placeToBegin_75 rfl rfl ?_
          refine g_iald hC _ _ (k) (zp_lt' (Nat.lt_succ_of_lt ha) 2 (by decide)) (zS_pr (Nat.lt_succ_of_lt ha) 2 (by decide)) rfl (by omega) (by decide) d_D_placeToBegin_77 rfl ?_
          refine g_iload_n hC d_D_placeToBegin_78 rfl rfl ?_
          refine g_icmp_ne hC 112 d_D_placeToBegin_79 rfl rfl (fun h79 => ?_) (fun h79 => ?_)
          ·
            refine g_iinc hC (nI (k + 1)) d_D_placeToBegin_112 rfl rfl (nI_succ _).symm (by decide) ?_
            refine g_goto hC 36 d_D_placeToBegin_115 rfl ?_
            exact zG.to (ih (k + 1) (by omega) (he.trans (zptl_f (by first | (simp [zmat, h79]; done) | (simp [zmat, h55, h60]; done) | (simp [zmat, h100]; done))))) rfl rfl ⟨rfl, rfl, rfl, rfl, rfl, rfl, trivial⟩
          ·
            refine g_iload hC d_D_placeToBegin_82 rfl rfl ?_
            refine g_if_eq hC 112 d_D_placeToBegin_84 rfl rfl (fun h84 => ?_) (fun h84 => absurd (by decide) h84)
            refine g_iinc hC (nI (k + 1)) d_D_placeToBegin_112 rfl rfl (nI_succ _).symm (by decide) ?_
            refine g_goto hC 36 d_D_placeToBegin_115 rfl ?_
            exact zG.to (ih (k + 1) (by omega) (he.trans (zptl_f (by first | (simp [zmat, h79]; done) | (simp [zmat, h55, h60]; done) | (simp [zmat, h100]; done))))) rfl rfl ⟨rfl, rfl, rfl, rfl, rfl, rfl, trivial⟩
        ·
          refine g_iconst hC (1) d_D_placeToBegin_63 (by decide) rfl ?_
          refine g_goto hC 68 d_D_placeToBegin_64 rfl ?_
          refine g_istore hC d_D_placeToBegin_68 rfl (by decide) ?_
          refine g_aload hC d_D_placeToBegin_70 rfl rfl ?_
          refine g_getR hC _ 1 7 _ (zp_lt (Nat.lt_succ_of_lt ha)) (zS_p (Nat.lt_succ_of_lt ha)) rfl fl_D_200 d_D_placeToBegin_72 rfl ?_
          refine g_iload hC d_D_placeToBegin_75 rfl rfl ?_
          refine g_iald hC _ _ (k) (zp_lt' (Nat.lt_succ_of_lt ha) 2 (by decide)) (zS_pr (Nat.lt_succ_of_lt ha) 2 (by decide)) rfl (by omega) (by decide) d_D_placeToBegin_77 rfl ?_
          refine g_iload_n hC d_D_placeToBegin_78 rfl rfl ?_
          refine g_icmp_ne hC 112 d_D_placeToBegin_79 rfl rfl (fun h79 => ?_) (fun h79 => ?_)
          ·
            refine g_iinc hC (nI (k + 1)) d_D_placeToBegin_112 rfl rfl (nI_succ _).symm (by decide) ?_
            refine g_goto hC 36 d_D_placeToBegin_115 rfl ?_
            exact zG.to (ih (k + 1) (by omega) (he.trans (zptl_f (by first | (simp [zmat, h79]; done) | (simp [zmat, h55, h60]; done) | (simp [zmat, h100]; done))))) rfl rfl ⟨rfl, rfl, rfl, rfl, rfl, rfl, trivial⟩
          ·
            refine g_iload hC d_D_placeToBegin_82 rfl rfl ?_
            refine g_if_eq hC 112 d_D_placeToBegin_84 rfl rfl (fun h84 => absurd h84 (by decide)) (fun h84 => ?_)
            refine g_aload_n hC d_D_placeToBegin_87 rfl rfl ?_
            refine g_iload_n hC d_D_placeToBegin_88 rfl rfl ?_
            refine g_aload hC d_D_placeToBegin_89 rfl rfl ?_
            refine g_getR hC _ 1 9 _ (zp_lt (Nat.lt_succ_of_lt ha)) (zS_p (Nat.lt_succ_of_lt ha)) rfl fl_D_201 d_D_placeToBegin_91 rfl ?_
            refine g_iload hC d_D_placeToBegin_94 rfl rfl ?_
            refine g_iald hC _ _ (k) (zp_lt' (Nat.lt_succ_of_lt ha) 4 (by decide)) (zS_pr (Nat.lt_succ_of_lt ha) 4 (by decide)) rfl (by omega) (by decide) d_D_placeToBegin_96 rfl ?_
            refine g_goi hC rfl (z_runV hC (c_D_passesGuard l D K q hq _ _ _ ) yy_D_passesGuard yv_D_204 (by decide) rfl ⟨Nat.le_of_ble_eq_true rfl, Nat.le_of_ble_eq_true rfl⟩ ⟨Nat.zero_le _, Nat.zero_le _⟩ rfl (Nat.le_of_ble_eq_true rfl) d_D_placeToBegin_97) (fun r1 σ1 q1 => ?_)
            obtain ⟨rfl, w1⟩ := q1
            obtain rfl := w1.symm
            refine g_ifeq_b hC 112 d_D_placeToBegin_100 rfl rfl (fun h100 => ?_) (fun h100 => ?_)
            ·
              refine g_iinc hC (nI (k + 1)) d_D_placeToBegin_112 rfl rfl (nI_succ _).symm (by decide) ?_
              refine g_goto hC 36 d_D_placeToBegin_115 rfl ?_
              exact zG.to (ih (k + 1) (by omega) (he.trans (zptl_f (by first | (simp [zmat, h79]; done) | (simp [zmat, h55, h60]; done) | (simp [zmat, h100]; done))))) rfl rfl ⟨rfl, rfl, rfl, rfl, rfl, rfl, trivial⟩
            ·
              refine g_aload hC d_D_placeToBegin_103 rfl rfl ?_
              refine g_getR hC _ 1 10 _ (zp_lt (Nat.lt_succ_of_lt ha)) (zS_p (Nat.lt_succ_of_lt ha)) rfl fl_D_207 d_D_placeToBegin_105 rfl ?_
              refine g_iload hC d_D_placeToBegin_108 rfl rfl ?_
              refine g_iald hC _ _ (k) (zp_lt' (Nat.lt_succ_of_lt ha) 5 (by decide)) (zS_pr (Nat.lt_succ_of_lt ha) 5 (by decide)) rfl (by omega) (by decide) d_D_placeToBegin_110 rfl ?_
              exact g_iret hC hr hlk d_D_placeToBegin_111 ⟨by rw [he, zptl_t (by first | (simp [zmat, h79, h55, h100]; done) | (simp [zmat, h79, h60, h100]; done))], rfl⟩
  refine g_aload_n hC d_D_placeToBegin_0 rfl rfl ?_
  refine g_getR hC _ 0 1 _ (by decide) rfl rfl fl_D_18 d_D_placeToBegin_1 rfl ?_
  refine g_iload_n hC d_D_placeToBegin_4 rfl rfl ?_
  refine g_aald hC _ _ a _ (by decide) rfl rfl ha (by decide) (zS_app ha) d_D_placeToBegin_5 rfl ?_
  refine g_astore hC d_D_placeToBegin_6 rfl (by decide) ?_
  refine g_aload hC d_D_placeToBegin_8 rfl rfl ?_
  refine g_getI hC _ 2 0 (za_lt ha) (zS_a ha) rfl fl_D_182 d_D_placeToBegin_10 rfl ?_
  refine g_if_eq hC 24 d_D_placeToBegin_13 rfl rfl (fun h13 => ?_) (fun h13 => ?_)
  ·
    have ho : zptb σ a g ac pn = -1 := by first | exact if_pos (Or.inl h13) | exact if_pos (Or.inr h21)
    refine g_iconst hC (-1) d_D_placeToBegin_24 (by decide) rfl ?_
    exact g_iret hC hr hlk d_D_placeToBegin_25 ⟨ho.symm, rfl⟩
  ·
    refine g_aload hC d_D_placeToBegin_16 rfl rfl ?_
    refine g_getI hC _ 2 5 (za_lt ha) (zS_a ha) rfl fl_D_148 d_D_placeToBegin_18 rfl ?_
    refine g_if_eq hC 26 d_D_placeToBegin_21 rfl rfl (fun h21 => ?_) (fun h21 => ?_)
    ·
      have ho : zptb σ a g ac pn = zptl σ a g ac pn 0 := if_neg (fun z => z.elim h13 (fun y => y h21))
      refine g_aload hC d_D_placeToBegin_26 rfl rfl ?_
      refine g_getR hC _ 2 1 _ (za_lt ha) (zS_a ha) rfl fl_D_107 d_D_placeToBegin_28 rfl ?_
      refine g_astore hC d_D_placeToBegin_31 rfl (by decide) ?_
      refine g_iconst hC (0) d_D_placeToBegin_33 (by decide) rfl ?_
      refine g_istore hC d_D_placeToBegin_34 rfl (by decide) ?_
      exact zG.to (J36 pn 0 (by omega) ho) rfl rfl ⟨rfl, rfl, rfl, rfl, rfl, rfl, trivial⟩
    ·
      have ho : zptb σ a g ac pn = -1 := by first | exact if_pos (Or.inl h13) | exact if_pos (Or.inr h21)
      refine g_iconst hC (-1) d_D_placeToBegin_24 (by decide) rfl ?_
      exact g_iret hC hr hlk d_D_placeToBegin_25 ⟨ho.symm, rfl⟩
set_option maxHeartbeats 4000000 in
set_option maxRecDepth 100000 in
theorem c_D_deliver (l : Launch) (D : va_G) (K : Nat → ClassId) (q : Nat → Nat) (hq : zI q) (σ : zm) (z : Nat) (hz : z ≤ 8) (h : σ 2 0 = nI z) (pf : Nat → Nat) (hpf : ∀ a, a < 8 → pf a ≤ 4 ∧ σ (zp a) 6 = nI (pf a)) : zMi l y_D_deliver b_D_deliver 6 (some .int) 6 D K q [.ref (q (0))] σ (fun r σ' => r = (zdel σ z pf).1 ∧ σ' = (zdel σ z pf).2) := by
  refine zMi.of (own := "AppDesk") (lv := [(0, .ref (q (0)))]) (by decide) rfl hq (Nat.le_of_ble_eq_true rfl) rfl ?_
  intro p e s m below meth c hC hr hlk
  have J52 : ∀ (f : Nat) (k : Nat) (hif : k + f = 8) (he : zdel σ z pf = zdlv (zdf σ z) (σ 3 0) (σ 4 0) (σ 5 0) pf f k), zG p l e (zrm 6) s m ([.ref (q (0))] : List Value).toArray below meth c D K q (zA q) 6 0 0 (MQ below (va_Qi (fun r σ' => r = (zdel σ z pf).1 ∧ σ' = (zdel σ z pf).2) (zO D K q) (zA q)) ([.ref (q (0))] : List Value).toArray s 0 0 (zA q)) (zdf σ z) 52 [(0, .ref (q (0))), (1, .int (σ 3 0)), (2, .int (σ 4 0)), (3, .int (σ 5 0)), (4, .int (nI k))] [] := by
    intro f
    induction f with
    | zero =>
      intro k hif he
      refine g_iload hC d_D_deliver_52 rfl rfl ?_
      refine g_bipush hC (8) d_D_deliver_54 (by decide) rfl ?_
      refine g_icmp_ge hC 98 d_D_deliver_56 rfl rfl (fun h56 => ?_) (fun h56 => absurd (nI_le (a := 8) (b := k) (by omega) (by omega)) h56)
      refine g_iconst hC (-1) d_D_deliver_98 (by decide) rfl ?_
      exact g_iret hC hr hlk d_D_deliver_99 ⟨by rw [he]; rfl, by rw [he]; rfl⟩
    | succ f ih =>
      intro k hif he
      have hk8 : k < 8 := by omega
      refine g_iload hC d_D_deliver_52 rfl rfl ?_
      refine g_bipush hC (8) d_D_deliver_54 (by decide) rfl ?_
      refine g_icmp_ge hC 98 d_D_deliver_56 rfl rfl (fun h56 => absurd h56 (nI_ge (a := k) (b := 8) (by omega) (by omega))) (fun h56 => ?_)
      refine g_aload_n hC d_D_deliver_59 rfl rfl ?_
      refine g_iload hC d_D_deliver_60 rfl rfl ?_
      refine g_iload_n hC d_D_deliver_62 rfl rfl ?_
      refine g_iload_n hC d_D_deliver_63 rfl rfl ?_
      refine g_goi hC rfl (z_runV hC (c_D_placeToBegin l D K q hq k hk8 (σ 3 0) (σ 4 0) (pf k) (hpf k hk8).1 _ (by rw [zdf_off _ _ (by unfold zp; omega)]; exact (hpf k hk8).2)) yy_D_placeToBegin yv_D_135 (by decide) rfl ⟨Nat.le_of_ble_eq_true rfl, Nat.le_of_ble_eq_true rfl⟩ ⟨Nat.zero_le _, Nat.zero_le _⟩ rfl (Nat.le_of_ble_eq_true rfl) d_D_deliver_64) (fun r0 σ0 q0 => ?_)
      obtain ⟨rfl, w0⟩ := q0
      obtain rfl := w0.symm
      refine g_istore hC d_D_deliver_67 rfl (by decide) ?_
      refine g_iload hC d_D_deliver_69 rfl rfl ?_
      refine g_iconst hC (-1) d_D_deliver_71 (by decide) rfl ?_
      refine g_icmp_eq hC 92 d_D_deliver_72 rfl rfl (fun h72 => ?_) (fun h72 => ?_)
      ·
        refine g_iinc hC (nI (k + 1)) d_D_deliver_92 rfl rfl (nI_succ _).symm (by decide) ?_
        refine g_goto hC 52 d_D_deliver_95 rfl ?_
        exact zG.to (ih (k + 1) (by omega) (he.trans (zdlv_f h72))) rfl rfl ⟨rfl, rfl, rfl, rfl, rfl, trivial⟩
      ·
        refine g_aload_n hC d_D_deliver_75 rfl rfl ?_
        refine g_getR hC _ 0 1 _ (by decide) rfl rfl fl_D_18 d_D_deliver_76 rfl ?_
        refine g_iload hC d_D_deliver_79 rfl rfl ?_
        refine g_aald hC _ _ k _ (by decide) rfl rfl hk8 (by decide) (zS_app hk8) d_D_deliver_81 rfl ?_
        refine g_iload hC d_D_deliver_82 rfl rfl ?_
        refine g_iload_n hC d_D_deliver_84 rfl rfl ?_
        refine g_iload_n hC d_D_deliver_85 rfl rfl ?_
        refine g_gov hC rfl (z_runV hC (c_A_begin l D K q hq _ hk8 _ _ _ _ ) yy_A_begin yv_D_139 (za_lt hk8) (zS_a hk8) ⟨Nat.le_of_ble_eq_true rfl, Nat.le_of_ble_eq_true rfl⟩ ⟨Nat.zero_le _, Nat.zero_le _⟩ rfl (Nat.le_of_ble_eq_true rfl) d_D_deliver_86) (fun σ1 q1 => ?_)
        obtain rfl := q1.symm
        refine g_iload hC d_D_deliver_89 rfl rfl ?_
        exact g_iret hC hr hlk d_D_deliver_91 ⟨by rw [he, zdlv_t h72], by rw [he, zdlv_t h72]⟩
  refine g_aload_n hC d_D_deliver_0 rfl rfl ?_
  refine g_getR hC _ 0 2 _ (by decide) rfl rfl fl_D_26 d_D_deliver_1 rfl ?_
  refine g_getV hC _ 3 0 (nI z) (h) (by decide) rfl rfl fl_D_120 d_D_deliver_4 rfl ?_
  refine g_if_ne hC 12 d_D_deliver_7 rfl rfl (fun h7 => ?_) (fun h7 => ?_)
  ·
    have hz0 : ¬ z = 0 := fun y => h7 (by rw [y]; rfl)
    refine g_aload_n hC d_D_deliver_12 rfl rfl ?_
    refine g_getR hC _ 0 2 _ (by decide) rfl rfl fl_D_26 d_D_deliver_13 rfl ?_
    refine g_getR hC _ 3 1 _ (by decide) rfl rfl fl_D_123 d_D_deliver_16 rfl ?_
    refine g_iconst hC (0) d_D_deliver_19 (by decide) rfl ?_
    refine g_iald hC _ _ 0 (by decide) rfl (by decide) (by decide) (by decide) d_D_deliver_20 rfl ?_
    refine g_istore_n hC d_D_deliver_21 rfl (by decide) ?_
    refine g_aload_n hC d_D_deliver_22 rfl rfl ?_
    refine g_getR hC _ 0 2 _ (by decide) rfl rfl fl_D_26 d_D_deliver_23 rfl ?_
    refine g_getR hC _ 3 2 _ (by decide) rfl rfl fl_D_126 d_D_deliver_26 rfl ?_
    refine g_iconst hC (0) d_D_deliver_29 (by decide) rfl ?_
    refine g_iald hC _ _ 0 (by decide) rfl (by decide) (by decide) (by decide) d_D_deliver_30 rfl ?_
    refine g_istore_n hC d_D_deliver_31 rfl (by decide) ?_
    refine g_aload_n hC d_D_deliver_32 rfl rfl ?_
    refine g_getR hC _ 0 2 _ (by decide) rfl rfl fl_D_26 d_D_deliver_33 rfl ?_
    refine g_getR hC _ 3 3 _ (by decide) rfl rfl fl_D_129 d_D_deliver_36 rfl ?_
    refine g_iconst hC (0) d_D_deliver_39 (by decide) rfl ?_
    refine g_iald hC _ _ 0 (by decide) rfl (by decide) (by decide) (by decide) d_D_deliver_40 rfl ?_
    refine g_istore_n hC d_D_deliver_41 rfl (by decide) ?_
    refine g_aload_n hC d_D_deliver_42 rfl rfl ?_
    refine g_getR hC _ 0 2 _ (by decide) rfl rfl fl_D_26 d_D_deliver_43 rfl ?_
    refine g_gov hC rfl (z_runV hC (c_Q_dropFirst l D K q hq _ (by omega) hz _ h) yy_Q_dropFirst yv_D_132 (by decide) rfl ⟨Nat.le_of_ble_eq_true rfl, Nat.le_of_ble_eq_true rfl⟩ ⟨Nat.zero_le _, Nat.zero_le _⟩ rfl (Nat.le_of_ble_eq_true rfl) d_D_deliver_46) (fun σ2 q2 => ?_)
    obtain rfl := q2.symm
    refine g_iconst hC (0) d_D_deliver_49 (by decide) rfl ?_
    refine g_istore hC d_D_deliver_50 rfl (by decide) ?_
    exact zG.to (J52 8 0 (by omega) (if_neg hz0)) rfl rfl ⟨rfl, rfl, rfl, rfl, rfl, trivial⟩
  ·
    have hz0 : z = 0 := by first | exact (nI_eq (a := z) (b := 0) (by omega) (by decide)).mp h7 | exact (nI_eq (a := z) (b := 0) (by omega) (by decide)).mp (Decidable.not_not.mp h7)
    refine g_iconst hC (-1) d_D_deliver_10 (by decide) rfl ?_
    exact g_iret hC hr hlk d_D_deliver_11 ⟨by rw [hz0]; rfl, by rw [hz0]; rfl⟩
set_option maxHeartbeats 4000000 in
set_option maxRecDepth 100000 in
theorem c_D_sendFromStack (l : Launch) (D : va_G) (K : Nat → ClassId) (q : Nat → Nat) (hq : zI q) (a : Nat) (ha : a < 8) (σ : zm) (z : Nat) (hz : z ≤ 8) (h : σ 2 0 = nI z) : zMi l y_D_sendFromStack b_D_sendFromStack 5 (some .boolean) 3 D K q [.ref (q (0)), .int (nI a)] σ (fun r σ' => r = zb (zin (zup2 σ a) 10) ∧ σ' = if zin (zup2 σ a) 10 then zsfs σ a z else σ) := by
  refine zMi.of (own := "AppDesk") (lv := [(0, .ref (q (0))), (1, .int (nI a))]) (by decide) rfl hq (Nat.le_of_ble_eq_true rfl) rfl ?_
  intro p e s m below meth c hC hr hlk
  refine g_aload_n hC d_D_sendFromStack_0 rfl rfl ?_
  refine g_getR hC _ 0 1 _ (by decide) rfl rfl fl_D_18 d_D_sendFromStack_1 rfl ?_
  refine g_iload_n hC d_D_sendFromStack_4 rfl rfl ?_
  refine g_aald hC _ _ a _ (by decide) rfl rfl ha (by decide) (zS_app ha) d_D_sendFromStack_5 rfl ?_
  refine g_astore_n hC d_D_sendFromStack_6 rfl (by decide) ?_
  refine g_aload_n hC d_D_sendFromStack_7 rfl rfl ?_
  refine g_goi hC rfl (z_runV hC (c_A_secondUppermost l D K q hq _ ha _ ) yy_A_secondUppermost yv_D_242 (za_lt ha) (zS_a ha) ⟨Nat.le_of_ble_eq_true rfl, Nat.le_of_ble_eq_true rfl⟩ ⟨Nat.zero_le _, Nat.zero_le _⟩ rfl (Nat.le_of_ble_eq_true rfl) d_D_sendFromStack_8) (fun r0 σ0 q0 => ?_)
  obtain ⟨rfl, w0⟩ := q0
  obtain rfl := w0.symm
  refine g_istore_n hC d_D_sendFromStack_11 rfl (by decide) ?_
  refine g_iload_n hC d_D_sendFromStack_12 rfl rfl ?_
  refine g_bipush hC (10) d_D_sendFromStack_13 (by decide) rfl ?_
  refine g_goi hC rfl (z_runS hC (c_D_isBelow l D K q hq _ _ _) yy_D_isBelow ys_D_41 ⟨Nat.le_of_ble_eq_true rfl, Nat.le_of_ble_eq_true rfl⟩ ⟨Nat.zero_le _, Nat.zero_le _⟩ rfl (Nat.le_of_ble_eq_true rfl) d_D_sendFromStack_15) (fun r1 σ1 q1 => ?_)
  obtain ⟨rfl, w1⟩ := q1
  obtain rfl := w1.symm
  refine g_ifne_b hC 23 d_D_sendFromStack_18 rfl rfl (fun h18 => ?_) (fun h18 => ?_)
  ·
    refine g_aload_n hC d_D_sendFromStack_23 rfl rfl ?_
    refine g_goi hC rfl (z_runV hC (c_A_pop l D K q hq _ ha _ ) yy_A_pop yv_D_245 (za_lt ha) (zS_a ha) ⟨Nat.le_of_ble_eq_true rfl, Nat.le_of_ble_eq_true rfl⟩ ⟨Nat.zero_le _, Nat.zero_le _⟩ rfl (Nat.le_of_ble_eq_true rfl) d_D_sendFromStack_24) (fun r2 σ2 q2 => ?_)
    obtain ⟨rfl, w2⟩ := q2
    obtain rfl := w2.symm
    refine g_istore hC d_D_sendFromStack_27 rfl (by decide) ?_
    refine g_aload_n hC d_D_sendFromStack_29 rfl rfl ?_
    refine g_goi hC rfl (z_runV hC (c_A_pop l D K q hq _ ha _ ) yy_A_pop yv_D_245 (za_lt ha) (zS_a ha) ⟨Nat.le_of_ble_eq_true rfl, Nat.le_of_ble_eq_true rfl⟩ ⟨Nat.zero_le _, Nat.zero_le _⟩ rfl (Nat.le_of_ble_eq_true rfl) d_D_sendFromStack_30) (fun r3 σ3 q3 => ?_)
    obtain ⟨rfl, w3⟩ := q3
    obtain rfl := w3.symm
    refine g_pop hC d_D_sendFromStack_33 rfl rfl ?_
    refine g_aload_n hC d_D_sendFromStack_34 rfl rfl ?_
    refine g_getR hC _ 0 2 _ (by decide) rfl rfl fl_D_26 d_D_sendFromStack_35 rfl ?_
    refine g_iload_n hC d_D_sendFromStack_38 rfl rfl ?_
    refine g_iload_n hC d_D_sendFromStack_39 rfl rfl ?_
    refine g_iload hC d_D_sendFromStack_40 rfl rfl ?_
    refine g_goi hC rfl (z_runV hC (c_Q_add l D K q hq _ hz _ _ _ _ (by rw [zpop_off _ (by unfold za; omega), zpop_off _ (by unfold za; omega)]; exact h)) yy_Q_add yv_D_116 (by decide) rfl ⟨Nat.le_of_ble_eq_true rfl, Nat.le_of_ble_eq_true rfl⟩ ⟨Nat.zero_le _, Nat.zero_le _⟩ rfl (Nat.le_of_ble_eq_true rfl) d_D_sendFromStack_42) (fun r4 σ4 q4 => ?_)
    obtain ⟨rfl, w4⟩ := q4
    obtain rfl := w4.symm
    refine g_pop hC d_D_sendFromStack_45 rfl rfl ?_
    refine g_aload_n hC d_D_sendFromStack_46 rfl rfl ?_
    refine g_dup hC d_D_sendFromStack_47 rfl rfl ?_
    refine g_getI hC _ 2 6 (za_lt ha) (zS_a ha) rfl fl_D_158 d_D_sendFromStack_48 rfl ?_
    refine g_iconst hC (1) d_D_sendFromStack_51 (by decide) rfl ?_
    refine g_iadd hC d_D_sendFromStack_52 rfl ?_
    refine g_putI hC _ 2 6 (za_lt ha) (zS_a ha) rfl fp_D_158 d_D_sendFromStack_53 rfl ?_
    refine g_iconst hC (1) d_D_sendFromStack_56 (by decide) rfl ?_
    exact g_zret hC hr hlk d_D_sendFromStack_57 (Or.inr rfl) ⟨by rw [h18]; rfl, (if_pos h18).symm⟩
  ·
    refine g_iconst hC (0) d_D_sendFromStack_21 (by decide) rfl ?_
    exact g_zret hC hr hlk d_D_sendFromStack_22 (Or.inl rfl) ⟨by rw [h18]; rfl, (if_neg (zif_f h18)).symm⟩
set_option maxHeartbeats 4000000 in
set_option maxRecDepth 100000 in
theorem c_D_doWord (l : Launch) (D : va_G) (K : Nat → ClassId) (q : Nat → Nat) (hq : zI q) (a : Nat) (ha : a < 8) (σ : zm) (wn z : Nat) (hwn : wn ≤ 24) (hz : z ≤ 8) (h11 : σ (zp a) 11 = nI wn) (h : σ 2 0 = nI z) : zMi l y_D_doWord b_D_doWord 4 (some .boolean) 5 D K q [.ref (q (0)), .int (nI a)] σ (fun r σ' => r = zb (zdo σ a wn z).1 ∧ σ' = (zdo σ a wn z).2) := by
  refine zMi.of (own := "AppDesk") (lv := [(0, .ref (q (0))), (1, .int (nI a))]) (by decide) rfl hq (Nat.le_of_ble_eq_true rfl) rfl ?_
  intro p e s m below meth c hC hr hlk
  refine g_aload_n hC d_D_doWord_0 rfl rfl ?_
  refine g_getR hC _ 0 1 _ (by decide) rfl rfl fl_D_18 d_D_doWord_1 rfl ?_
  refine g_iload_n hC d_D_doWord_4 rfl rfl ?_
  refine g_aald hC _ _ a _ (by decide) rfl rfl ha (by decide) (zS_app ha) d_D_doWord_5 rfl ?_
  refine g_astore_n hC d_D_doWord_6 rfl (by decide) ?_
  refine g_aload_n hC d_D_doWord_7 rfl rfl ?_
  refine g_goi hC rfl (z_runV hC (c_A_wordInPlace l D K q hq _ ha _ wn hwn h11) yy_A_wordInPlace yv_D_213 (za_lt ha) (zS_a ha) ⟨Nat.le_of_ble_eq_true rfl, Nat.le_of_ble_eq_true rfl⟩ ⟨Nat.zero_le _, Nat.zero_le _⟩ rfl (Nat.le_of_ble_eq_true rfl) d_D_doWord_8) (fun r0 σ0 q0 => ?_)
  obtain ⟨rfl, w0⟩ := q0
  obtain rfl := w0.symm
  refine g_istore_n hC d_D_doWord_11 rfl (by decide) ?_
  refine g_iload_n hC d_D_doWord_12 rfl rfl ?_
  refine g_goi hC rfl (z_runS hC (c_D_operationOf l D K q hq _ _) yy_D_operationOf ys_D_216 ⟨Nat.le_of_ble_eq_true rfl, Nat.le_of_ble_eq_true rfl⟩ ⟨Nat.zero_le _, Nat.zero_le _⟩ rfl (Nat.le_of_ble_eq_true rfl) d_D_doWord_13) (fun r1 σ1 q1 => ?_)
  obtain ⟨rfl, w1⟩ := q1
  obtain rfl := w1.symm
  by_cases t16_0 : (zwip σ a wn &&& 15) = 0
  ·
    refine g_tableIn hC 137 d_D_doWord_16 (by rw [t16_0]; decide) (by rw [t16_0]; decide) (by rw [t16_0]; rfl) rfl ?_
    refine g_aload_n hC d_D_doWord_137 rfl rfl ?_
    refine g_iload_n hC d_D_doWord_138 rfl rfl ?_
    refine g_goi hC rfl (z_runS hC (c_D_operationOf l D K q hq _ _) yy_D_operationOf ys_D_216 ⟨Nat.le_of_ble_eq_true rfl, Nat.le_of_ble_eq_true rfl⟩ ⟨Nat.zero_le _, Nat.zero_le _⟩ rfl (Nat.le_of_ble_eq_true rfl) d_D_doWord_139) (fun r2 σ2 q2 => ?_)
    obtain ⟨rfl, w2⟩ := q2
    obtain rfl := w2.symm
    refine g_iload_n hC d_D_doWord_142 rfl rfl ?_
    refine g_goi hC rfl (z_runS hC (c_D_argumentOf l D K q hq _ _) yy_D_argumentOf ys_D_222 ⟨Nat.le_of_ble_eq_true rfl, Nat.le_of_ble_eq_true rfl⟩ ⟨Nat.zero_le _, Nat.zero_le _⟩ rfl (Nat.le_of_ble_eq_true rfl) d_D_doWord_143) (fun r3 σ3 q3 => ?_)
    obtain ⟨rfl, w3⟩ := q3
    obtain rfl := w3.symm
    refine g_gov hC rfl (z_runV hC (c_A_doTurn l D K q hq _ ha _ _ _ ) yy_A_doTurn yv_D_235 (za_lt ha) (zS_a ha) ⟨Nat.le_of_ble_eq_true rfl, Nat.le_of_ble_eq_true rfl⟩ ⟨Nat.zero_le _, Nat.zero_le _⟩ rfl (Nat.le_of_ble_eq_true rfl) d_D_doWord_146) (fun σ4 q4 => ?_)
    obtain rfl := q4.symm
    refine g_iconst hC (1) d_D_doWord_149 (by decide) rfl ?_
    exact g_zret hC hr hlk d_D_doWord_150 (Or.inr rfl) (by first | exact ⟨by rw [zdo_j (Or.inl t16_0)]; rfl, by rw [zdo_j (Or.inl t16_0)]⟩ | exact ⟨by rw [zdo_j (Or.inr (Or.inl t16_8))]; rfl, by rw [zdo_j (Or.inr (Or.inl t16_8))]⟩ | exact ⟨by rw [zdo_j (Or.inr (Or.inr t16_9))]; rfl, by rw [zdo_j (Or.inr (Or.inr t16_9))]⟩)
  by_cases t16_1 : (zwip σ a wn &&& 15) = 1
  ·
    refine g_tableIn hC 151 d_D_doWord_16 (by rw [t16_1]; decide) (by rw [t16_1]; decide) (by rw [t16_1]; rfl) rfl ?_
    refine g_aload_n hC d_D_doWord_151 rfl rfl ?_
    refine g_iload_n hC d_D_doWord_152 rfl rfl ?_
    refine g_goi hC rfl (z_runS hC (c_D_operationOf l D K q hq _ _) yy_D_operationOf ys_D_216 ⟨Nat.le_of_ble_eq_true rfl, Nat.le_of_ble_eq_true rfl⟩ ⟨Nat.zero_le _, Nat.zero_le _⟩ rfl (Nat.le_of_ble_eq_true rfl) d_D_doWord_153) (fun r5 σ5 q5 => ?_)
    obtain ⟨rfl, w5⟩ := q5
    obtain rfl := w5.symm
    refine g_iload_n hC d_D_doWord_156 rfl rfl ?_
    refine g_goi hC rfl (z_runS hC (c_D_argumentOf l D K q hq _ _) yy_D_argumentOf ys_D_222 ⟨Nat.le_of_ble_eq_true rfl, Nat.le_of_ble_eq_true rfl⟩ ⟨Nat.zero_le _, Nat.zero_le _⟩ rfl (Nat.le_of_ble_eq_true rfl) d_D_doWord_157) (fun r6 σ6 q6 => ?_)
    obtain ⟨rfl, w6⟩ := q6
    obtain rfl := w6.symm
    refine g_gov hC rfl (z_runV hC (c_A_doPlainWord l D K q hq _ ha _ _ _ ) yy_A_doPlainWord yv_D_239 (za_lt ha) (zS_a ha) ⟨Nat.le_of_ble_eq_true rfl, Nat.le_of_ble_eq_true rfl⟩ ⟨Nat.zero_le _, Nat.zero_le _⟩ rfl (Nat.le_of_ble_eq_true rfl) d_D_doWord_160) (fun σ7 q7 => ?_)
    obtain rfl := q7.symm
    refine g_iconst hC (1) d_D_doWord_163 (by decide) rfl ?_
    exact g_zret hC hr hlk d_D_doWord_164 (Or.inr rfl) (by first | exact ⟨by rw [zdo_p (by rw [t16_1]; decide)]; rfl, by rw [zdo_p (by rw [t16_1]; decide)]⟩ | exact ⟨by rw [zdo_p (by rw [t16_2]; decide)]; rfl, by rw [zdo_p (by rw [t16_2]; decide)]⟩ | exact ⟨by rw [zdo_p (by rw [t16_3]; decide)]; rfl, by rw [zdo_p (by rw [t16_3]; decide)]⟩ | exact ⟨by rw [zdo_p (by rw [t16_4]; decide)]; rfl, by rw [zdo_p (by rw [t16_4]; decide)]⟩ | exact ⟨by rw [zdo_p (by rw [t16_5]; decide)]; rfl, by rw [zdo_p (by rw [t16_5]; decide)]⟩ | exact ⟨by rw [zdo_p (by rw [t16_6]; decide)]; rfl, by rw [zdo_p (by rw [t16_6]; decide)]⟩ | exact ⟨by rw [zdo_p (by rw [t16_7]; decide)]; rfl, by rw [zdo_p (by rw [t16_7]; decide)]⟩ | exact ⟨by rw [zdo_p ⟨t16_12, t16_13, t16_10, t16_11, t16_0, t16_8, t16_9⟩]; rfl, by rw [zdo_p ⟨t16_12, t16_13, t16_10, t16_11, t16_0, t16_8, t16_9⟩]⟩)
  by_cases t16_2 : (zwip σ a wn &&& 15) = 2
  ·
    refine g_tableIn hC 151 d_D_doWord_16 (by rw [t16_2]; decide) (by rw [t16_2]; decide) (by rw [t16_2]; rfl) rfl ?_
    refine g_aload_n hC d_D_doWord_151 rfl rfl ?_
    refine g_iload_n hC d_D_doWord_152 rfl rfl ?_
    refine g_goi hC rfl (z_runS hC (c_D_operationOf l D K q hq _ _) yy_D_operationOf ys_D_216 ⟨Nat.le_of_ble_eq_true rfl, Nat.le_of_ble_eq_true rfl⟩ ⟨Nat.zero_le _, Nat.zero_le _⟩ rfl (Nat.le_of_ble_eq_true rfl) d_D_doWord_153) (fun r8 σ8 q8 => ?_)
    obtain ⟨rfl, w8⟩ := q8
    obtain rfl := w8.symm
    refine g_iload_n hC d_D_doWord_156 rfl rfl ?_
    refine g_goi hC rfl (z_runS hC (c_D_argumentOf l D K q hq _ _) yy_D_argumentOf ys_D_222 ⟨Nat.le_of_ble_eq_true rfl, Nat.le_of_ble_eq_true rfl⟩ ⟨Nat.zero_le _, Nat.zero_le _⟩ rfl (Nat.le_of_ble_eq_true rfl) d_D_doWord_157) (fun r9 σ9 q9 => ?_)
    obtain ⟨rfl, w9⟩ := q9
    obtain rfl := w9.symm
    refine g_gov hC rfl (z_runV hC (c_A_doPlainWord l D K q hq _ ha _ _ _ ) yy_A_doPlainWord yv_D_239 (za_lt ha) (zS_a ha) ⟨Nat.le_of_ble_eq_true rfl, Nat.le_of_ble_eq_true rfl⟩ ⟨Nat.zero_le _, Nat.zero_le _⟩ rfl (Nat.le_of_ble_eq_true rfl) d_D_doWord_160) (fun σ10 q10 => ?_)
    obtain rfl := q10.symm
    refine g_iconst hC (1) d_D_doWord_163 (by decide) rfl ?_
    exact g_zret hC hr hlk d_D_doWord_164 (Or.inr rfl) (by first | exact ⟨by rw [zdo_p (by rw [t16_1]; decide)]; rfl, by rw [zdo_p (by rw [t16_1]; decide)]⟩ | exact ⟨by rw [zdo_p (by rw [t16_2]; decide)]; rfl, by rw [zdo_p (by rw [t16_2]; decide)]⟩ | exact ⟨by rw [zdo_p (by rw [t16_3]; decide)]; rfl, by rw [zdo_p (by rw [t16_3]; decide)]⟩ | exact ⟨by rw [zdo_p (by rw [t16_4]; decide)]; rfl, by rw [zdo_p (by rw [t16_4]; decide)]⟩ | exact ⟨by rw [zdo_p (by rw [t16_5]; decide)]; rfl, by rw [zdo_p (by rw [t16_5]; decide)]⟩ | exact ⟨by rw [zdo_p (by rw [t16_6]; decide)]; rfl, by rw [zdo_p (by rw [t16_6]; decide)]⟩ | exact ⟨by rw [zdo_p (by rw [t16_7]; decide)]; rfl, by rw [zdo_p (by rw [t16_7]; decide)]⟩ | exact ⟨by rw [zdo_p ⟨t16_12, t16_13, t16_10, t16_11, t16_0, t16_8, t16_9⟩]; rfl, by rw [zdo_p ⟨t16_12, t16_13, t16_10, t16_11, t16_0, t16_8, t16_9⟩]⟩)
  by_cases t16_3 : (zwip σ a wn &&& 15) = 3
  ·
    refine g_tableIn hC 151 d_D_doWord_16 (by rw [t16_3]; decide) (by rw [t16_3]; decide) (by rw [t16_3]; rfl) rfl ?_
    refine g_aload_n hC d_D_doWord_151 rfl rfl ?_
    refine g_iload_n hC d_D_doWord_152 rfl rfl ?_
    refine g_goi hC rfl (z_runS hC (c_D_operationOf l D K q hq _ _) yy_D_operationOf ys_D_216 ⟨Nat.le_of_ble_eq_true rfl, Nat.le_of_ble_eq_true rfl⟩ ⟨Nat.zero_le _, Nat.zero_le _⟩ rfl (Nat.le_of_ble_eq_true rfl) d_D_doWord_153) (fun r11 σ11 q11 => ?_)
    obtain ⟨rfl, w11⟩ := q11
    obtain rfl := w11.symm
    refine g_iload_n hC d_D_doWord_156 rfl rfl ?_
    refine g_goi hC rfl (z_runS hC (c_D_argumentOf l D K q hq _ _) yy_D_argumentOf ys_D_222 ⟨Nat.le_of_ble_eq_true rfl, Nat.le_of_ble_eq_true rfl⟩ ⟨Nat.zero_le _, Nat.zero_le _⟩ rfl (Nat.le_of_ble_eq_true rfl) d_D_doWord_157) (fun r12 σ12 q12 => ?_)
    obtain ⟨rfl, w12⟩ := q12
    obtain rfl := w12.symm
    refine g_gov hC rfl (z_runV hC (c_A_doPlainWord l D K q hq _ ha _ _ _ ) yy_A_doPlainWord yv_D_239 (za_lt ha) (zS_a ha) ⟨Nat.le_of_ble_eq_true rfl, Nat.le_of_ble_eq_true rfl⟩ ⟨Nat.zero_le _, Nat.zero_le _⟩ rfl (Nat.le_of_ble_eq_true rfl) d_D_doWord_160) (fun σ13 q13 => ?_)
    obtain rfl := q13.symm
    refine g_iconst hC (1) d_D_doWord_163 (by decide) rfl ?_
    exact g_zret hC hr hlk d_D_doWord_164 (Or.inr rfl) (by first | exact ⟨by rw [zdo_p (by rw [t16_1]; decide)]; rfl, by rw [zdo_p (by rw [t16_1]; decide)]⟩ | exact ⟨by rw [zdo_p (by rw [t16_2]; decide)]; rfl, by rw [zdo_p (by rw [t16_2]; decide)]⟩ | exact ⟨by rw [zdo_p (by rw [t16_3]; decide)]; rfl, by rw [zdo_p (by rw [t16_3]; decide)]⟩ | exact ⟨by rw [zdo_p (by rw [t16_4]; decide)]; rfl, by rw [zdo_p (by rw [t16_4]; decide)]⟩ | exact ⟨by rw [zdo_p (by rw [t16_5]; decide)]; rfl, by rw [zdo_p (by rw [t16_5]; decide)]⟩ | exact ⟨by rw [zdo_p (by rw [t16_6]; decide)]; rfl, by rw [zdo_p (by rw [t16_6]; decide)]⟩ | exact ⟨by rw [zdo_p (by rw [t16_7]; decide)]; rfl, by rw [zdo_p (by rw [t16_7]; decide)]⟩ | exact ⟨by rw [zdo_p ⟨t16_12, t16_13, t16_10, t16_11, t16_0, t16_8, t16_9⟩]; rfl, by rw [zdo_p ⟨t16_12, t16_13, t16_10, t16_11, t16_0, t16_8, t16_9⟩]⟩)
  by_cases t16_4 : (zwip σ a wn &&& 15) = 4
  ·
    refine g_tableIn hC 151 d_D_doWord_16 (by rw [t16_4]; decide) (by rw [t16_4]; decide) (by rw [t16_4]; rfl) rfl ?_
    refine g_aload_n hC d_D_doWord_151 rfl rfl ?_
    refine g_iload_n hC d_D_doWord_152 rfl rfl ?_
    refine g_goi hC rfl (z_runS hC (c_D_operationOf l D K q hq _ _) yy_D_operationOf ys_D_216 ⟨Nat.le_of_ble_eq_true rfl, Nat.le_of_ble_eq_true rfl⟩ ⟨Nat.zero_le _, Nat.zero_le _⟩ rfl (Nat.le_of_ble_eq_true rfl) d_D_doWord_153) (fun r14 σ14 q14 => ?_)
    obtain ⟨rfl, w14⟩ := q14
    obtain rfl := w14.symm
    refine g_iload_n hC d_D_doWord_156 rfl rfl ?_
    refine g_goi hC rfl (z_runS hC (c_D_argumentOf l D K q hq _ _) yy_D_argumentOf ys_D_222 ⟨Nat.le_of_ble_eq_true rfl, Nat.le_of_ble_eq_true rfl⟩ ⟨Nat.zero_le _, Nat.zero_le _⟩ rfl (Nat.le_of_ble_eq_true rfl) d_D_doWord_157) (fun r15 σ15 q15 => ?_)
    obtain ⟨rfl, w15⟩ := q15
    obtain rfl := w15.symm
    refine g_gov hC rfl (z_runV hC (c_A_doPlainWord l D K q hq _ ha _ _ _ ) yy_A_doPlainWord yv_D_239 (za_lt ha) (zS_a ha) ⟨Nat.le_of_ble_eq_true rfl, Nat.le_of_ble_eq_true rfl⟩ ⟨Nat.zero_le _, Nat.zero_le _⟩ rfl (Nat.le_of_ble_eq_true rfl) d_D_doWord_160) (fun σ16 q16 => ?_)
    obtain rfl := q16.symm
    refine g_iconst hC (1) d_D_doWord_163 (by decide) rfl ?_
    exact g_zret hC hr hlk d_D_doWord_164 (Or.inr rfl) (by first | exact ⟨by rw [zdo_p (by rw [t16_1]; decide)]; rfl, by rw [zdo_p (by rw [t16_1]; decide)]⟩ | exact ⟨by rw [zdo_p (by rw [t16_2]; decide)]; rfl, by rw [zdo_p (by rw [t16_2]; decide)]⟩ | exact ⟨by rw [zdo_p (by rw [t16_3]; decide)]; rfl, by rw [zdo_p (by rw [t16_3]; decide)]⟩ | exact ⟨by rw [zdo_p (by rw [t16_4]; decide)]; rfl, by rw [zdo_p (by rw [t16_4]; decide)]⟩ | exact ⟨by rw [zdo_p (by rw [t16_5]; decide)]; rfl, by rw [zdo_p (by rw [t16_5]; decide)]⟩ | exact ⟨by rw [zdo_p (by rw [t16_6]; decide)]; rfl, by rw [zdo_p (by rw [t16_6]; decide)]⟩ | exact ⟨by rw [zdo_p (by rw [t16_7]; decide)]; rfl, by rw [zdo_p (by rw [t16_7]; decide)]⟩ | exact ⟨by rw [zdo_p ⟨t16_12, t16_13, t16_10, t16_11, t16_0, t16_8, t16_9⟩]; rfl, by rw [zdo_p ⟨t16_12, t16_13, t16_10, t16_11, t16_0, t16_8, t16_9⟩]⟩)
  by_cases t16_5 : (zwip σ a wn &&& 15) = 5
  ·
    refine g_tableIn hC 151 d_D_doWord_16 (by rw [t16_5]; decide) (by rw [t16_5]; decide) (by rw [t16_5]; rfl) rfl ?_
    refine g_aload_n hC d_D_doWord_151 rfl rfl ?_
    refine g_iload_n hC d_D_doWord_152 rfl rfl ?_
    refine g_goi hC rfl (z_runS hC (c_D_operationOf l D K q hq _ _) yy_D_operationOf ys_D_216 ⟨Nat.le_of_ble_eq_true rfl, Nat.le_of_ble_eq_true rfl⟩ ⟨Nat.zero_le _, Nat.zero_le _⟩ rfl (Nat.le_of_ble_eq_true rfl) d_D_doWord_153) (fun r17 σ17 q17 => ?_)
    obtain ⟨rfl, w17⟩ := q17
    obtain rfl := w17.symm
    refine g_iload_n hC d_D_doWord_156 rfl rfl ?_
    refine g_goi hC rfl (z_runS hC (c_D_argumentOf l D K q hq _ _) yy_D_argumentOf ys_D_222 ⟨Nat.le_of_ble_eq_true rfl, Nat.le_of_ble_eq_true rfl⟩ ⟨Nat.zero_le _, Nat.zero_le _⟩ rfl (Nat.le_of_ble_eq_true rfl) d_D_doWord_157) (fun r18 σ18 q18 => ?_)
    obtain ⟨rfl, w18⟩ := q18
    obtain rfl := w18.symm
    refine g_gov hC rfl (z_runV hC (c_A_doPlainWord l D K q hq _ ha _ _ _ ) yy_A_doPlainWord yv_D_239 (za_lt ha) (zS_a ha) ⟨Nat.le_of_ble_eq_true rfl, Nat.le_of_ble_eq_true rfl⟩ ⟨Nat.zero_le _, Nat.zero_le _⟩ rfl (Nat.le_of_ble_eq_true rfl) d_D_doWord_160) (fun σ19 q19 => ?_)
    obtain rfl := q19.symm
    refine g_iconst hC (1) d_D_doWord_163 (by decide) rfl ?_
    exact g_zret hC hr hlk d_D_doWord_164 (Or.inr rfl) (by first | exact ⟨by rw [zdo_p (by rw [t16_1]; decide)]; rfl, by rw [zdo_p (by rw [t16_1]; decide)]⟩ | exact ⟨by rw [zdo_p (by rw [t16_2]; decide)]; rfl, by rw [zdo_p (by rw [t16_2]; decide)]⟩ | exact ⟨by rw [zdo_p (by rw [t16_3]; decide)]; rfl, by rw [zdo_p (by rw [t16_3]; decide)]⟩ | exact ⟨by rw [zdo_p (by rw [t16_4]; decide)]; rfl, by rw [zdo_p (by rw [t16_4]; decide)]⟩ | exact ⟨by rw [zdo_p (by rw [t16_5]; decide)]; rfl, by rw [zdo_p (by rw [t16_5]; decide)]⟩ | exact ⟨by rw [zdo_p (by rw [t16_6]; decide)]; rfl, by rw [zdo_p (by rw [t16_6]; decide)]⟩ | exact ⟨by rw [zdo_p (by rw [t16_7]; decide)]; rfl, by rw [zdo_p (by rw [t16_7]; decide)]⟩ | exact ⟨by rw [zdo_p ⟨t16_12, t16_13, t16_10, t16_11, t16_0, t16_8, t16_9⟩]; rfl, by rw [zdo_p ⟨t16_12, t16_13, t16_10, t16_11, t16_0, t16_8, t16_9⟩]⟩)
  by_cases t16_6 : (zwip σ a wn &&& 15) = 6
  ·
    refine g_tableIn hC 151 d_D_doWord_16 (by rw [t16_6]; decide) (by rw [t16_6]; decide) (by rw [t16_6]; rfl) rfl ?_
    refine g_aload_n hC d_D_doWord_151 rfl rfl ?_
    refine g_iload_n hC d_D_doWord_152 rfl rfl ?_
    refine g_goi hC rfl (z_runS hC (c_D_operationOf l D K q hq _ _) yy_D_operationOf ys_D_216 ⟨Nat.le_of_ble_eq_true rfl, Nat.le_of_ble_eq_true rfl⟩ ⟨Nat.zero_le _, Nat.zero_le _⟩ rfl (Nat.le_of_ble_eq_true rfl) d_D_doWord_153) (fun r20 σ20 q20 => ?_)
    obtain ⟨rfl, w20⟩ := q20
    obtain rfl := w20.symm
    refine g_iload_n hC d_D_doWord_156 rfl rfl ?_
    refine g_goi hC rfl (z_runS hC (c_D_argumentOf l D K q hq _ _) yy_D_argumentOf ys_D_222 ⟨Nat.le_of_ble_eq_true rfl, Nat.le_of_ble_eq_true rfl⟩ ⟨Nat.zero_le _, Nat.zero_le _⟩ rfl (Nat.le_of_ble_eq_true rfl) d_D_doWord_157) (fun r21 σ21 q21 => ?_)
    obtain ⟨rfl, w21⟩ := q21
    obtain rfl := w21.symm
    refine g_gov hC rfl (z_runV hC (c_A_doPlainWord l D K q hq _ ha _ _ _ ) yy_A_doPlainWord yv_D_239 (za_lt ha) (zS_a ha) ⟨Nat.le_of_ble_eq_true rfl, Nat.le_of_ble_eq_true rfl⟩ ⟨Nat.zero_le _, Nat.zero_le _⟩ rfl (Nat.le_of_ble_eq_true rfl) d_D_doWord_160) (fun σ22 q22 => ?_)
    obtain rfl := q22.symm
    refine g_iconst hC (1) d_D_doWord_163 (by decide) rfl ?_
    exact g_zret hC hr hlk d_D_doWord_164 (Or.inr rfl) (by first | exact ⟨by rw [zdo_p (by rw [t16_1]; decide)]; rfl, by rw [zdo_p (by rw [t16_1]; decide)]⟩ | exact ⟨by rw [zdo_p (by rw [t16_2]; decide)]; rfl, by rw [zdo_p (by rw [t16_2]; decide)]⟩ | exact ⟨by rw [zdo_p (by rw [t16_3]; decide)]; rfl, by rw [zdo_p (by rw [t16_3]; decide)]⟩ | exact ⟨by rw [zdo_p (by rw [t16_4]; decide)]; rfl, by rw [zdo_p (by rw [t16_4]; decide)]⟩ | exact ⟨by rw [zdo_p (by rw [t16_5]; decide)]; rfl, by rw [zdo_p (by rw [t16_5]; decide)]⟩ | exact ⟨by rw [zdo_p (by rw [t16_6]; decide)]; rfl, by rw [zdo_p (by rw [t16_6]; decide)]⟩ | exact ⟨by rw [zdo_p (by rw [t16_7]; decide)]; rfl, by rw [zdo_p (by rw [t16_7]; decide)]⟩ | exact ⟨by rw [zdo_p ⟨t16_12, t16_13, t16_10, t16_11, t16_0, t16_8, t16_9⟩]; rfl, by rw [zdo_p ⟨t16_12, t16_13, t16_10, t16_11, t16_0, t16_8, t16_9⟩]⟩)
  by_cases t16_7 : (zwip σ a wn &&& 15) = 7
  ·
    refine g_tableIn hC 151 d_D_doWord_16 (by rw [t16_7]; decide) (by rw [t16_7]; decide) (by rw [t16_7]; rfl) rfl ?_
    refine g_aload_n hC d_D_doWord_151 rfl rfl ?_
    refine g_iload_n hC d_D_doWord_152 rfl rfl ?_
    refine g_goi hC rfl (z_runS hC (c_D_operationOf l D K q hq _ _) yy_D_operationOf ys_D_216 ⟨Nat.le_of_ble_eq_true rfl, Nat.le_of_ble_eq_true rfl⟩ ⟨Nat.zero_le _, Nat.zero_le _⟩ rfl (Nat.le_of_ble_eq_true rfl) d_D_doWord_153) (fun r23 σ23 q23 => ?_)
    obtain ⟨rfl, w23⟩ := q23
    obtain rfl := w23.symm
    refine g_iload_n hC d_D_doWord_156 rfl rfl ?_
    refine g_goi hC rfl (z_runS hC (c_D_argumentOf l D K q hq _ _) yy_D_argumentOf ys_D_222 ⟨Nat.le_of_ble_eq_true rfl, Nat.le_of_ble_eq_true rfl⟩ ⟨Nat.zero_le _, Nat.zero_le _⟩ rfl (Nat.le_of_ble_eq_true rfl) d_D_doWord_157) (fun r24 σ24 q24 => ?_)
    obtain ⟨rfl, w24⟩ := q24
    obtain rfl := w24.symm
    refine g_gov hC rfl (z_runV hC (c_A_doPlainWord l D K q hq _ ha _ _ _ ) yy_A_doPlainWord yv_D_239 (za_lt ha) (zS_a ha) ⟨Nat.le_of_ble_eq_true rfl, Nat.le_of_ble_eq_true rfl⟩ ⟨Nat.zero_le _, Nat.zero_le _⟩ rfl (Nat.le_of_ble_eq_true rfl) d_D_doWord_160) (fun σ25 q25 => ?_)
    obtain rfl := q25.symm
    refine g_iconst hC (1) d_D_doWord_163 (by decide) rfl ?_
    exact g_zret hC hr hlk d_D_doWord_164 (Or.inr rfl) (by first | exact ⟨by rw [zdo_p (by rw [t16_1]; decide)]; rfl, by rw [zdo_p (by rw [t16_1]; decide)]⟩ | exact ⟨by rw [zdo_p (by rw [t16_2]; decide)]; rfl, by rw [zdo_p (by rw [t16_2]; decide)]⟩ | exact ⟨by rw [zdo_p (by rw [t16_3]; decide)]; rfl, by rw [zdo_p (by rw [t16_3]; decide)]⟩ | exact ⟨by rw [zdo_p (by rw [t16_4]; decide)]; rfl, by rw [zdo_p (by rw [t16_4]; decide)]⟩ | exact ⟨by rw [zdo_p (by rw [t16_5]; decide)]; rfl, by rw [zdo_p (by rw [t16_5]; decide)]⟩ | exact ⟨by rw [zdo_p (by rw [t16_6]; decide)]; rfl, by rw [zdo_p (by rw [t16_6]; decide)]⟩ | exact ⟨by rw [zdo_p (by rw [t16_7]; decide)]; rfl, by rw [zdo_p (by rw [t16_7]; decide)]⟩ | exact ⟨by rw [zdo_p ⟨t16_12, t16_13, t16_10, t16_11, t16_0, t16_8, t16_9⟩]; rfl, by rw [zdo_p ⟨t16_12, t16_13, t16_10, t16_11, t16_0, t16_8, t16_9⟩]⟩)
  by_cases t16_8 : (zwip σ a wn &&& 15) = 8
  ·
    refine g_tableIn hC 137 d_D_doWord_16 (by rw [t16_8]; decide) (by rw [t16_8]; decide) (by rw [t16_8]; rfl) rfl ?_
    refine g_aload_n hC d_D_doWord_137 rfl rfl ?_
    refine g_iload_n hC d_D_doWord_138 rfl rfl ?_
    refine g_goi hC rfl (z_runS hC (c_D_operationOf l D K q hq _ _) yy_D_operationOf ys_D_216 ⟨Nat.le_of_ble_eq_true rfl, Nat.le_of_ble_eq_true rfl⟩ ⟨Nat.zero_le _, Nat.zero_le _⟩ rfl (Nat.le_of_ble_eq_true rfl) d_D_doWord_139) (fun r26 σ26 q26 => ?_)
    obtain ⟨rfl, w26⟩ := q26
    obtain rfl := w26.symm
    refine g_iload_n hC d_D_doWord_142 rfl rfl ?_
    refine g_goi hC rfl (z_runS hC (c_D_argumentOf l D K q hq _ _) yy_D_argumentOf ys_D_222 ⟨Nat.le_of_ble_eq_true rfl, Nat.le_of_ble_eq_true rfl⟩ ⟨Nat.zero_le _, Nat.zero_le _⟩ rfl (Nat.le_of_ble_eq_true rfl) d_D_doWord_143) (fun r27 σ27 q27 => ?_)
    obtain ⟨rfl, w27⟩ := q27
    obtain rfl := w27.symm
    refine g_gov hC rfl (z_runV hC (c_A_doTurn l D K q hq _ ha _ _ _ ) yy_A_doTurn yv_D_235 (za_lt ha) (zS_a ha) ⟨Nat.le_of_ble_eq_true rfl, Nat.le_of_ble_eq_true rfl⟩ ⟨Nat.zero_le _, Nat.zero_le _⟩ rfl (Nat.le_of_ble_eq_true rfl) d_D_doWord_146) (fun σ28 q28 => ?_)
    obtain rfl := q28.symm
    refine g_iconst hC (1) d_D_doWord_149 (by decide) rfl ?_
    exact g_zret hC hr hlk d_D_doWord_150 (Or.inr rfl) (by first | exact ⟨by rw [zdo_j (Or.inl t16_0)]; rfl, by rw [zdo_j (Or.inl t16_0)]⟩ | exact ⟨by rw [zdo_j (Or.inr (Or.inl t16_8))]; rfl, by rw [zdo_j (Or.inr (Or.inl t16_8))]⟩ | exact ⟨by rw [zdo_j (Or.inr (Or.inr t16_9))]; rfl, by rw [zdo_j (Or.inr (Or.inr t16_9))]⟩)
  by_cases t16_9 : (zwip σ a wn &&& 15) = 9
  ·
    refine g_tableIn hC 137 d_D_doWord_16 (by rw [t16_9]; decide) (by rw [t16_9]; decide) (by rw [t16_9]; rfl) rfl ?_
    refine g_aload_n hC d_D_doWord_137 rfl rfl ?_
    refine g_iload_n hC d_D_doWord_138 rfl rfl ?_
    refine g_goi hC rfl (z_runS hC (c_D_operationOf l D K q hq _ _) yy_D_operationOf ys_D_216 ⟨Nat.le_of_ble_eq_true rfl, Nat.le_of_ble_eq_true rfl⟩ ⟨Nat.zero_le _, Nat.zero_le _⟩ rfl (Nat.le_of_ble_eq_true rfl) d_D_doWord_139) (fun r29 σ29 q29 => ?_)
    obtain ⟨rfl, w29⟩ := q29
    obtain rfl := w29.symm
    refine g_iload_n hC d_D_doWord_142 rfl rfl ?_
    refine g_goi hC rfl (z_runS hC (c_D_argumentOf l D K q hq _ _) yy_D_argumentOf ys_D_222 ⟨Nat.le_of_ble_eq_true rfl, Nat.le_of_ble_eq_true rfl⟩ ⟨Nat.zero_le _, Nat.zero_le _⟩ rfl (Nat.le_of_ble_eq_true rfl) d_D_doWord_143) (fun r30 σ30 q30 => ?_)
    obtain ⟨rfl, w30⟩ := q30
    obtain rfl := w30.symm
    refine g_gov hC rfl (z_runV hC (c_A_doTurn l D K q hq _ ha _ _ _ ) yy_A_doTurn yv_D_235 (za_lt ha) (zS_a ha) ⟨Nat.le_of_ble_eq_true rfl, Nat.le_of_ble_eq_true rfl⟩ ⟨Nat.zero_le _, Nat.zero_le _⟩ rfl (Nat.le_of_ble_eq_true rfl) d_D_doWord_146) (fun σ31 q31 => ?_)
    obtain rfl := q31.symm
    refine g_iconst hC (1) d_D_doWord_149 (by decide) rfl ?_
    exact g_zret hC hr hlk d_D_doWord_150 (Or.inr rfl) (by first | exact ⟨by rw [zdo_j (Or.inl t16_0)]; rfl, by rw [zdo_j (Or.inl t16_0)]⟩ | exact ⟨by rw [zdo_j (Or.inr (Or.inl t16_8))]; rfl, by rw [zdo_j (Or.inr (Or.inl t16_8))]⟩ | exact ⟨by rw [zdo_j (Or.inr (Or.inr t16_9))]; rfl, by rw [zdo_j (Or.inr (Or.inr t16_9))]⟩)
  by_cases t16_10 : (zwip σ a wn &&& 15) = 10
  ·
    refine g_tableIn hC 127 d_D_doWord_16 (by rw [t16_10]; decide) (by rw [t16_10]; decide) (by rw [t16_10]; rfl) rfl ?_
    refine g_aload_n hC d_D_doWord_127 rfl rfl ?_
    refine g_goi hC rfl (z_runV hC (c_A_getKept l D K q hq _ ha _ ) yy_A_getKept yv_D_228 (za_lt ha) (zS_a ha) ⟨Nat.le_of_ble_eq_true rfl, Nat.le_of_ble_eq_true rfl⟩ ⟨Nat.zero_le _, Nat.zero_le _⟩ rfl (Nat.le_of_ble_eq_true rfl) d_D_doWord_128) (fun r32 σ32 q32 => ?_)
    obtain ⟨rfl, w32⟩ := q32
    obtain rfl := w32.symm
    exact g_zret hC hr hlk d_D_doWord_131 (zb01 _) ⟨by rw [zdo_10 t16_10], by rw [zdo_10 t16_10]⟩
  by_cases t16_11 : (zwip σ a wn &&& 15) = 11
  ·
    refine g_tableIn hC 132 d_D_doWord_16 (by rw [t16_11]; decide) (by rw [t16_11]; decide) (by rw [t16_11]; rfl) rfl ?_
    refine g_aload_n hC d_D_doWord_132 rfl rfl ?_
    refine g_goi hC rfl (z_runV hC (c_A_keepUppermost l D K q hq _ ha _ ) yy_A_keepUppermost yv_D_232 (za_lt ha) (zS_a ha) ⟨Nat.le_of_ble_eq_true rfl, Nat.le_of_ble_eq_true rfl⟩ ⟨Nat.zero_le _, Nat.zero_le _⟩ rfl (Nat.le_of_ble_eq_true rfl) d_D_doWord_133) (fun r33 σ33 q33 => ?_)
    obtain ⟨rfl, w33⟩ := q33
    obtain rfl := w33.symm
    exact g_zret hC hr hlk d_D_doWord_136 (zb01 _) ⟨by rw [zdo_11 t16_11], by rw [zdo_11 t16_11]⟩
  by_cases t16_12 : (zwip σ a wn &&& 15) = 12
  ·
    refine g_tableIn hC 88 d_D_doWord_16 (by rw [t16_12]; decide) (by rw [t16_12]; decide) (by rw [t16_12]; rfl) rfl ?_
    refine g_aload_n hC d_D_doWord_88 rfl rfl ?_
    refine g_iload_n hC d_D_doWord_89 rfl rfl ?_
    refine g_goi hC rfl (z_runV hC (c_D_sendFromStack l D K q hq _ ha _ _ hz h) yy_D_sendFromStack yv_D_219 (by decide) rfl ⟨Nat.le_of_ble_eq_true rfl, Nat.le_of_ble_eq_true rfl⟩ ⟨Nat.zero_le _, Nat.zero_le _⟩ rfl (Nat.le_of_ble_eq_true rfl) d_D_doWord_90) (fun r34 σ34 q34 => ?_)
    obtain ⟨rfl, w34⟩ := q34
    obtain rfl := w34.symm
    exact g_zret hC hr hlk d_D_doWord_93 (zb01 _) ⟨by rw [zdo_12 t16_12], by rw [zdo_12 t16_12]⟩
  by_cases t16_13 : (zwip σ a wn &&& 15) = 13
  ·
    refine g_tableIn hC 94 d_D_doWord_16 (by rw [t16_13]; decide) (by rw [t16_13]; decide) (by rw [t16_13]; rfl) rfl ?_
    refine g_aload_n hC d_D_doWord_94 rfl rfl ?_
    refine g_aload_n hC d_D_doWord_95 rfl rfl ?_
    refine g_iload_n hC d_D_doWord_96 rfl rfl ?_
    refine g_iload_n hC d_D_doWord_97 rfl rfl ?_
    refine g_goi hC rfl (z_runS hC (c_D_argumentOf l D K q hq _ _) yy_D_argumentOf ys_D_222 ⟨Nat.le_of_ble_eq_true rfl, Nat.le_of_ble_eq_true rfl⟩ ⟨Nat.zero_le _, Nat.zero_le _⟩ rfl (Nat.le_of_ble_eq_true rfl) d_D_doWord_98) (fun r35 σ35 q35 => ?_)
    obtain ⟨rfl, w35⟩ := q35
    obtain rfl := w35.symm
    refine g_goi hC rfl (z_runV hC (c_D_holds l D K q hq _ _ _ ) yy_D_holds yv_D_210 (by decide) rfl ⟨Nat.le_of_ble_eq_true rfl, Nat.le_of_ble_eq_true rfl⟩ ⟨Nat.zero_le _, Nat.zero_le _⟩ rfl (Nat.le_of_ble_eq_true rfl) d_D_doWord_101) (fun r36 σ36 q36 => ?_)
    obtain ⟨rfl, w36⟩ := q36
    obtain rfl := w36.symm
    refine g_ifeq_b hC 111 d_D_doWord_104 rfl rfl (fun h104 => ?_) (fun h104 => ?_)
    ·
      refine g_iconst hC (0) d_D_doWord_111 (by decide) rfl ?_
      refine g_top hC (zb (zhold σ (nI a) (zwip σ a wn >>> ((4 : Int32) &&& 31)))) (by rw [h104]; rfl) ?_
      refine g_gov hC rfl (z_runV hC (c_A_push l D K q hq _ ha _ _ ) yy_A_push yv_D_225 (za_lt ha) (zS_a ha) ⟨Nat.le_of_ble_eq_true rfl, Nat.le_of_ble_eq_true rfl⟩ ⟨Nat.zero_le _, Nat.zero_le _⟩ rfl (Nat.le_of_ble_eq_true rfl) d_D_doWord_112) (fun σ37 q37 => ?_)
      obtain rfl := q37.symm
      refine g_aload_n hC d_D_doWord_115 rfl rfl ?_
      refine g_dup hC d_D_doWord_116 rfl rfl ?_
      refine g_getI hC _ 2 6 (za_lt ha) (zS_a ha) rfl fl_D_158 d_D_doWord_117 rfl ?_
      refine g_iconst hC (1) d_D_doWord_120 (by decide) rfl ?_
      refine g_iadd hC d_D_doWord_121 rfl ?_
      refine g_putI hC _ 2 6 (za_lt ha) (zS_a ha) rfl fp_D_158 d_D_doWord_122 rfl ?_
      refine g_iconst hC (1) d_D_doWord_125 (by decide) rfl ?_
      exact g_zret hC hr hlk d_D_doWord_126 (Or.inr rfl) ⟨by rw [zdo_13 t16_13]; rfl, by rw [zdo_13 t16_13]; rfl⟩
    ·
      refine g_iconst hC (1) d_D_doWord_107 (by decide) rfl ?_
      refine g_top hC (zb (zhold σ (nI a) (zwip σ a wn >>> ((4 : Int32) &&& 31)))) (by rw [h104]; rfl) ?_
      refine g_goto hC 112 d_D_doWord_108 rfl ?_
      refine g_gov hC rfl (z_runV hC (c_A_push l D K q hq _ ha _ _ ) yy_A_push yv_D_225 (za_lt ha) (zS_a ha) ⟨Nat.le_of_ble_eq_true rfl, Nat.le_of_ble_eq_true rfl⟩ ⟨Nat.zero_le _, Nat.zero_le _⟩ rfl (Nat.le_of_ble_eq_true rfl) d_D_doWord_112) (fun σ38 q38 => ?_)
      obtain rfl := q38.symm
      refine g_aload_n hC d_D_doWord_115 rfl rfl ?_
      refine g_dup hC d_D_doWord_116 rfl rfl ?_
      refine g_getI hC _ 2 6 (za_lt ha) (zS_a ha) rfl fl_D_158 d_D_doWord_117 rfl ?_
      refine g_iconst hC (1) d_D_doWord_120 (by decide) rfl ?_
      refine g_iadd hC d_D_doWord_121 rfl ?_
      refine g_putI hC _ 2 6 (za_lt ha) (zS_a ha) rfl fp_D_158 d_D_doWord_122 rfl ?_
      refine g_iconst hC (1) d_D_doWord_125 (by decide) rfl ?_
      exact g_zret hC hr hlk d_D_doWord_126 (Or.inr rfl) ⟨by rw [zdo_13 t16_13]; rfl, by rw [zdo_13 t16_13]; rfl⟩
  refine g_tableOut hC 151 d_D_doWord_16 (by have u0 := lv_neT t16_0 (a := 0) (by decide); have u1 := lv_neT t16_1 (a := 1) (by decide); have u2 := lv_neT t16_2 (a := 2) (by decide); have u3 := lv_neT t16_3 (a := 3) (by decide); have u4 := lv_neT t16_4 (a := 4) (by decide); have u5 := lv_neT t16_5 (a := 5) (by decide); have u6 := lv_neT t16_6 (a := 6) (by decide); have u7 := lv_neT t16_7 (a := 7) (by decide); have u8 := lv_neT t16_8 (a := 8) (by decide); have u9 := lv_neT t16_9 (a := 9) (by decide); have u10 := lv_neT t16_10 (a := 10) (by decide); have u11 := lv_neT t16_11 (a := 11) (by decide); have u12 := lv_neT t16_12 (a := 12) (by decide); have u13 := lv_neT t16_13 (a := 13) (by decide); omega) rfl ?_
  refine g_aload_n hC d_D_doWord_151 rfl rfl ?_
  refine g_iload_n hC d_D_doWord_152 rfl rfl ?_
  refine g_goi hC rfl (z_runS hC (c_D_operationOf l D K q hq _ _) yy_D_operationOf ys_D_216 ⟨Nat.le_of_ble_eq_true rfl, Nat.le_of_ble_eq_true rfl⟩ ⟨Nat.zero_le _, Nat.zero_le _⟩ rfl (Nat.le_of_ble_eq_true rfl) d_D_doWord_153) (fun r39 σ39 q39 => ?_)
  obtain ⟨rfl, w39⟩ := q39
  obtain rfl := w39.symm
  refine g_iload_n hC d_D_doWord_156 rfl rfl ?_
  refine g_goi hC rfl (z_runS hC (c_D_argumentOf l D K q hq _ _) yy_D_argumentOf ys_D_222 ⟨Nat.le_of_ble_eq_true rfl, Nat.le_of_ble_eq_true rfl⟩ ⟨Nat.zero_le _, Nat.zero_le _⟩ rfl (Nat.le_of_ble_eq_true rfl) d_D_doWord_157) (fun r40 σ40 q40 => ?_)
  obtain ⟨rfl, w40⟩ := q40
  obtain rfl := w40.symm
  refine g_gov hC rfl (z_runV hC (c_A_doPlainWord l D K q hq _ ha _ _ _ ) yy_A_doPlainWord yv_D_239 (za_lt ha) (zS_a ha) ⟨Nat.le_of_ble_eq_true rfl, Nat.le_of_ble_eq_true rfl⟩ ⟨Nat.zero_le _, Nat.zero_le _⟩ rfl (Nat.le_of_ble_eq_true rfl) d_D_doWord_160) (fun σ41 q41 => ?_)
  obtain rfl := q41.symm
  refine g_iconst hC (1) d_D_doWord_163 (by decide) rfl ?_
  exact g_zret hC hr hlk d_D_doWord_164 (Or.inr rfl) (by first | exact ⟨by rw [zdo_p (by rw [t16_1]; decide)]; rfl, by rw [zdo_p (by rw [t16_1]; decide)]⟩ | exact ⟨by rw [zdo_p (by rw [t16_2]; decide)]; rfl, by rw [zdo_p (by rw [t16_2]; decide)]⟩ | exact ⟨by rw [zdo_p (by rw [t16_3]; decide)]; rfl, by rw [zdo_p (by rw [t16_3]; decide)]⟩ | exact ⟨by rw [zdo_p (by rw [t16_4]; decide)]; rfl, by rw [zdo_p (by rw [t16_4]; decide)]⟩ | exact ⟨by rw [zdo_p (by rw [t16_5]; decide)]; rfl, by rw [zdo_p (by rw [t16_5]; decide)]⟩ | exact ⟨by rw [zdo_p (by rw [t16_6]; decide)]; rfl, by rw [zdo_p (by rw [t16_6]; decide)]⟩ | exact ⟨by rw [zdo_p (by rw [t16_7]; decide)]; rfl, by rw [zdo_p (by rw [t16_7]; decide)]⟩ | exact ⟨by rw [zdo_p ⟨t16_12, t16_13, t16_10, t16_11, t16_0, t16_8, t16_9⟩]; rfl, by rw [zdo_p ⟨t16_12, t16_13, t16_10, t16_11, t16_0, t16_8, t16_9⟩]⟩)
set_option maxHeartbeats 4000000 in
set_option maxRecDepth 100000 in
theorem c_D_nextInTurn (l : Launch) (D : va_G) (K : Nat → ClassId) (q : Nat → Nat) (hq : zI q) (σ : zm) (L : Nat) (hL : L ≤ 8) (h : σ 0 4 = nI L - 1) : zMi l y_D_nextInTurn b_D_nextInTurn 3 (some .int) 0 D K q [.ref (q (0))] σ (fun r σ' => r = znx σ L 8 1 ∧ σ' = σ) := by
  refine zMi.of (own := "AppDesk") (lv := [(0, .ref (q (0)))]) (by decide) rfl hq (Nat.le_of_ble_eq_true rfl) rfl ?_
  intro p e s m below meth c hC hr hlk
  have J2 : ∀ (f : Nat) (k : Nat) (hif : k + f = 9) (hk1 : 1 ≤ k) (he : znx σ L 8 1 = znx σ L f k), zG p l e (zrm 0) s m ([.ref (q (0))] : List Value).toArray below meth c D K q (zA q) 3 0 0 (MQ below (va_Qi (fun r σ' => r = znx σ L 8 1 ∧ σ' = σ) (zO D K q) (zA q)) ([.ref (q (0))] : List Value).toArray s 0 0 (zA q)) σ 2 [(0, .ref (q (0))), (1, .int (nI k))] [] := by
    intro f
    induction f with
    | zero =>
      intro k hif hk1 he
      refine g_iload_n hC d_D_nextInTurn_2 rfl rfl ?_
      refine g_bipush hC (8) d_D_nextInTurn_3 (by decide) rfl ?_
      refine g_icmp_gt hC 38 d_D_nextInTurn_5 rfl rfl (fun h5 => ?_) (fun h5 => absurd (nI_lt (a := 8) (b := k) (by omega) (by omega)) h5)
      refine g_iconst hC (-1) d_D_nextInTurn_38 (by decide) rfl ?_
      exact g_iret hC hr hlk d_D_nextInTurn_39 ⟨he.symm, rfl⟩
    | succ f ih =>
      intro k hif hk1 he
      refine g_iload_n hC d_D_nextInTurn_2 rfl rfl ?_
      refine g_bipush hC (8) d_D_nextInTurn_3 (by decide) rfl ?_
      refine g_icmp_gt hC 38 d_D_nextInTurn_5 rfl rfl (fun h5 => absurd h5 (nI_nlt (a := 8) (b := k) (by omega) (by omega))) (fun h5 => ?_)
      refine g_aload_n hC d_D_nextInTurn_8 rfl rfl ?_
      refine g_getV hC _ 0 4 (nI L - 1) (h) (by decide) rfl rfl fl_D_37 d_D_nextInTurn_9 rfl ?_
      refine g_iload_n hC d_D_nextInTurn_12 rfl rfl ?_
      refine g_iadd hC d_D_nextInTurn_13 rfl ?_
      refine g_top hC (nI (L + k - 1)) (znx_i (by omega)) ?_
      refine g_bipush hC (8) d_D_nextInTurn_14 (by decide) rfl ?_
      refine g_irem hC d_D_nextInTurn_16 rfl (by decide) ?_
      refine g_top hC (nI ((L + k - 1) % 8)) (pk_rem (a := L + k - 1) (d := 8) (by omega) (by decide) (by decide)) ?_
      refine g_istore_n hC d_D_nextInTurn_17 rfl (by decide) ?_
      refine g_aload_n hC d_D_nextInTurn_18 rfl rfl ?_
      refine g_getR hC _ 0 1 _ (by decide) rfl rfl fl_D_18 d_D_nextInTurn_19 rfl ?_
      refine g_iload_n hC d_D_nextInTurn_22 rfl rfl ?_
      refine g_aald hC _ _ ((L + k - 1) % 8) _ (by decide) rfl rfl (Nat.mod_lt _ (by decide)) (by decide) (zS_app (Nat.mod_lt _ (by decide))) d_D_nextInTurn_23 rfl ?_
      refine g_getI hC _ 2 5 (za_lt (Nat.mod_lt _ (by decide))) (zS_a (Nat.mod_lt _ (by decide))) rfl fl_D_148 d_D_nextInTurn_24 rfl ?_
      refine g_if_eq hC 32 d_D_nextInTurn_27 rfl rfl (fun h27 => ?_) (fun h27 => ?_)
      ·
        refine g_iinc hC (nI (k + 1)) d_D_nextInTurn_32 rfl rfl (nI_succ _).symm (by decide) ?_
        refine g_goto hC 2 d_D_nextInTurn_35 rfl ?_
        exact zG.to (ih (k + 1) (by omega) (by omega) (he.trans (znx_f h27))) rfl rfl ⟨rfl, rfl, trivial⟩
      ·
        refine g_iload_n hC d_D_nextInTurn_30 rfl rfl ?_
        exact g_iret hC hr hlk d_D_nextInTurn_31 ⟨by rw [he, znx_t h27], rfl⟩
  refine g_iconst hC (1) d_D_nextInTurn_0 (by decide) rfl ?_
  refine g_istore_n hC d_D_nextInTurn_1 rfl (by decide) ?_
  exact zG.to (J2 8 1 (by omega) (by omega) rfl) rfl rfl ⟨rfl, rfl, trivial⟩
end
section
/-! the reference's methods: the draft -/
def wz (σ : zm) : zm := zu σ 104 0 0
theorem wz_row (σ : zm) {a : Nat} (h : a ≠ 104) : wz σ a = σ a := zu_row _ _ h
def wapp (σ : zm) (x : Int32) : Bool := zin x 8 && !decide (σ 105 x.toNatClampNeg = 0)
def wfz (τ : zm) (n : Nat) : zm := fun a b => if a = 110 ∧ 64 ≤ b ∧ b < 64 + n then 0 else τ a b
theorem wfz_0 (τ : zm) : wfz τ 0 = τ := by
  funext a b
  unfold wfz
  rw [if_neg (by omega)]
theorem wfz_s (τ : zm) (n : Nat) : zu (wfz τ n) 110 (64 + n) 0 = wfz τ (n + 1) := by
  funext a b
  unfold zu wfz
  by_cases h : a = 110
  · subst h
    by_cases hb : b = 64 + n
    · subst hb
      rw [if_pos ⟨rfl, rfl⟩, if_pos (by omega)]
    · rw [if_neg (by omega)]
      by_cases hl : 64 ≤ b ∧ b < 64 + n
      · rw [if_pos ⟨rfl, hl⟩, if_pos (by omega)]
      · rw [if_neg (fun z => hl z.2), if_neg (by omega)]
  · rw [if_neg (fun z => h z.1), if_neg (fun z => h z.1), if_neg (fun z => h z.1)]
def wdr (σ : zm) (n v g : Int32) : zm := wfz (zu (zu (zu (zu (zu (zu (zu (wz σ) 104 14 n) 106 8 v) 107 8 g) 108 8 0) 109 8 0) 111 8 0) 116 8 0) 8
def wpar (σ : zm) (n : Nat) (a b g p : Int32) : zm := zu (zu (zu (zu (zu (wz σ) 112 (32 + n) a) 113 (32 + n) b) 114 (32 + n) g) 115 (32 + n) p) 111 8 (nI (n + 1))
theorem zpok_1 {a g : Int32} {n : Nat} (h : ¬ n < 4) : zpok a g n = false := by simp [zpok, h]
theorem zpok_2 {a g : Int32} {n : Nat} (h : zin a 10 = false) : zpok a g n = false := by simp [zpok, h]
theorem zpok_3 {a g : Int32} {n : Nat} (h : g < -1) : zpok a g n = false := by
  have h1 : ¬ g = -1 := fun z => by rw [z] at h; exact absurd h (by decide)
  have h2 : g < 0 := by
    rw [Int32.lt_iff_toInt_lt] at h ⊢
    have e1 : (-1 : Int32).toInt = -1 := by decide
    have e2 : (0 : Int32).toInt = 0 := by decide
    omega
  simp [zpok, h1, zin_f1 h2]
theorem zpok_4 {a g : Int32} {n : Nat} (h : 7 < g) : zpok a g n = false := by
  have h1 : ¬ g = -1 := fun z => by rw [z] at h; exact absurd h (by decide)
  have h2 : 8 ≤ g := by
    rw [Int32.lt_iff_toInt_lt] at h
    rw [Int32.le_iff_toInt_le]
    have e1 : (7 : Int32).toInt = 7 := by decide
    have e2 : (8 : Int32).toInt = 8 := by decide
    omega
  simp [zpok, h1, zin_f2 h2]
theorem zpok_5 {a g : Int32} {n : Nat} (h1 : n < 4) (h2 : zin a 10 = true) (h3 : ¬ g < -1) (h4 : g ≤ 7) : zpok a g n = true := by
  by_cases e : g = -1
  · simp [zpok, h1, h2, e]
  · have h5 : ¬ g < 0 := by
      rw [Int32.lt_iff_toInt_lt] at h3 ⊢
      have e1 : (-1 : Int32).toInt = -1 := by decide
      have e2 : (0 : Int32).toInt = 0 := by decide
      have e3 : ¬ g.toInt = -1 := fun z => e (Int32.toInt_inj.mp (by rw [z, e1]))
      omega
    have h6 : ¬ 8 ≤ g := by
      rw [Int32.le_iff_toInt_le] at h4 ⊢
      have e1 : (7 : Int32).toInt = 7 := by decide
      have e2 : (8 : Int32).toInt = 8 := by decide
      omega
    simp [zpok, h1, h2, zin_t h5 h6]
theorem dgP_s (a o g p : Nat → Int32) (h : Int32) (n : Nat) : dgP a o g p h (n + 1) = zmix (zmix (zmix (zmix (dgP a o g p h n) (a n)) (o n)) (g n)) (p n) := rfl
theorem dgW_s (w : Nat → Int32) (h : Int32) (n : Nat) : dgW w h (n + 1) = zmix (dgW w h n) (w n) := rfl
def waok (σ : zm) (x : Int32) : Bool := zin x 8 && !zbit (σ 109 8) x
def weok (σ : zm) (x v : Int32) : Bool := zin x 8 && zin v 3 && decide (σ 110 (64 + x.toNatClampNeg) = 0)
def mgL (d : Nat → Int32) (h : Int32) : Nat → Int32
  | 0 => h
  | n + 1 => if d n = 0 then mgL d h n else zmix (mgL d h n) (10 * nI n + d n - 1)
theorem mgL_t {d : Nat → Int32} {h : Int32} {n : Nat} (e : ¬ d n = 0) : mgL d h (n + 1) = zmix (mgL d h n) (10 * nI n + d n - 1) := if_neg e
theorem mgL_f {d : Nat → Int32} {h : Int32} {n : Nat} (e : d n = 0) : mgL d h (n + 1) = mgL d h n := if_pos e
def wsea (σ : zm) (pn wn : Nat) : Int32 := dgW (fun n => σ 117 (192 + n)) (dgP (fun n => σ 112 (32 + n)) (fun n => if σ 113 (32 + n) = 0 then 0 else 1) (fun n => σ 114 (32 + n)) (fun n => σ 115 (32 + n)) (mgL (fun n => σ 110 (64 + n)) (zmix (zmix (zmix 17 (σ 104 14)) (σ 106 8)) (σ 109 8)) 8) pn) wn ^^^ 1000003 * (σ 107 8 + 1)
def wnd (o : Int32) : Int32 := if o = 2 ∨ o = 3 ∨ o = 11 ∨ o = 12 then 2 else if o = 4 ∨ o = 5 ∨ o = 7 ∨ o = 9 ∨ o = 10 then 1 else 0
def wch (o : Int32) : Int32 := if o = 1 ∨ o = 4 ∨ o = 6 ∨ o = 13 then 1 else if o = 2 ∨ o = 3 ∨ o = 5 ∨ o = 7 ∨ o = 9 then -1 else if o = 11 ∨ o = 12 then -2 else 0
def wcm (σ : zm) (wn : Nat) (x h : Int32) : Bool × zm := if zin x (nI wn) then (if σ 129 x.toNatClampNeg < 0 ∨ σ 129 x.toNatClampNeg = h then (true, zu σ 129 x.toNatClampNeg h) else (false, σ)) else (false, σ)
theorem wcm_1 {σ : zm} {wn : Nat} {x h : Int32} (h1 : zin x (nI wn) = false) : wcm σ wn x h = (false, σ) := if_neg (zif_f h1)
theorem wcm_2 {σ : zm} {wn k : Nat} {x h : Int32} (h1 : zin x (nI wn) = true) (hc : x.toNatClampNeg = k) (h2 : ¬ σ 129 k < 0) (h3 : ¬ σ 129 k = h) : wcm σ wn x h = (false, σ) := by
  unfold wcm
  rw [if_pos h1, hc, if_neg (fun z => z.elim h2 h3)]
theorem wcm_3 {σ : zm} {wn k : Nat} {x h : Int32} (h1 : zin x (nI wn) = true) (hc : x.toNatClampNeg = k) (h2 : σ 129 k < 0 ∨ σ 129 k = h) : wcm σ wn x h = (true, zu σ 129 k h) := by
  unfold wcm
  rw [if_pos h1, hc, if_pos h2]
set_option maxHeartbeats 4000000 in
set_option maxRecDepth 100000 in
theorem c_M_thrown (l : Launch) (D : va_G) (K : Nat → ClassId) (q : Nat → Nat) (hq : zI q) (σ : zm) : zMi l y_M_thrown b_M_thrown 1 (some .int) 0 D K q [.ref (q (104))] σ (fun r σ' => r = σ 104 0 ∧ σ' = σ) := by
  refine zMi.of (own := "AppDeskModel") (lv := [(0, .ref (q (104)))]) (by decide) rfl hq (Nat.le_of_ble_eq_true rfl) rfl ?_
  intro p e s m below meth c hC hr hlk
  refine g_aload_n hC d_M_thrown_0 rfl rfl ?_
  refine g_getI hC _ 5 0 (by decide) rfl rfl fl_M_90 d_M_thrown_1 rfl ?_
  exact g_iret hC hr hlk d_M_thrown_4 ⟨rfl, rfl⟩
set_option maxHeartbeats 4000000 in
set_option maxRecDepth 100000 in
theorem c_M_isApp (l : Launch) (D : va_G) (K : Nat → ClassId) (q : Nat → Nat) (hq : zI q) (x : Int32) (σ : zm) : zMi l y_M_isApp b_M_isApp 2 (some .boolean) 1 D K q [.ref (q (104)), .int (x)] σ (fun r σ' => r = zb (wapp σ x) ∧ σ' = σ) := by
  refine zMi.of (own := "AppDeskModel") (lv := [(0, .ref (q (104))), (1, .int (x))]) (by decide) rfl hq (Nat.le_of_ble_eq_true rfl) rfl ?_
  intro p e s m below meth c hC hr hlk
  refine g_iload_n hC d_M_isApp_0 rfl rfl ?_
  refine g_bipush hC (8) d_M_isApp_1 (by decide) rfl ?_
  refine g_goi hC rfl (z_runS hC (c_M_in l D K q hq _ _ _) yy_M_in ys_M_93 ⟨Nat.le_of_ble_eq_true rfl, Nat.le_of_ble_eq_true rfl⟩ ⟨Nat.zero_le _, Nat.zero_le _⟩ rfl (Nat.le_of_ble_eq_true rfl) d_M_isApp_3) (fun r0 σ0 q0 => ?_)
  obtain ⟨rfl, w0⟩ := q0
  obtain rfl := w0.symm
  refine g_ifeq_b hC 22 d_M_isApp_6 rfl rfl (fun h6 => ?_) (fun h6 => ?_)
  ·
    refine g_iconst hC (0) d_M_isApp_22 (by decide) rfl ?_
    exact g_zret hC hr hlk d_M_isApp_23 (Or.inl rfl) ⟨by first | (simp [wapp, h6, hc, h15, zb]; done) | (simp [wapp, h6, zb]; done), rfl⟩
  ·
    obtain ⟨k, hk, hx⟩ := zin_of (n := 8) (by decide) h6
    have hc : (x).toNatClampNeg = k := by rw [hx]; exact nI_clamp (by omega)
    refine g_aload_n hC d_M_isApp_9 rfl rfl ?_
    refine g_getR hC _ 5 1 _ (by decide) rfl rfl fl_M_7 d_M_isApp_10 rfl ?_
    refine g_iload_n hC d_M_isApp_13 rfl rfl ?_
    refine g_zald hC _ _ k (by decide) rfl hx (by show k < 9; omega) (by decide) d_M_isApp_14 rfl ?_
    refine g_if_eq hC 22 d_M_isApp_15 rfl rfl (fun h15 => ?_) (fun h15 => ?_)
    ·
      refine g_iconst hC (0) d_M_isApp_22 (by decide) rfl ?_
      exact g_zret hC hr hlk d_M_isApp_23 (Or.inl rfl) ⟨by first | (simp [wapp, h6, hc, h15, zb]; done) | (simp [wapp, h6, zb]; done), rfl⟩
    ·
      refine g_iconst hC (1) d_M_isApp_18 (by decide) rfl ?_
      refine g_goto hC 23 d_M_isApp_19 rfl ?_
      exact g_zret hC hr hlk d_M_isApp_23 (Or.inr rfl) ⟨by first | (simp [wapp, h6, hc, h15, zb]; done) | (simp [wapp, h6, zb]; done), rfl⟩
set_option maxHeartbeats 4000000 in
set_option maxRecDepth 100000 in
theorem c_M_draft (l : Launch) (D : va_G) (K : Nat → ClassId) (q : Nat → Nat) (hq : zI q) (n v g : Int32) (σ : zm) : zMi l y_M_draft b_M_draft 5 (some .boolean) 1 D K q [.ref (q (104)), .int (n), .int (v), .int (g)] σ (fun r σ' => r = zb (zdok n v g) ∧ σ' = if zdok n v g then wdr σ n v g else wz σ) := by
  refine zMi.of (own := "AppDeskModel") (lv := [(0, .ref (q (104))), (1, .int (n)), (2, .int (v)), (3, .int (g))]) (by decide) rfl hq (Nat.le_of_ble_eq_true rfl) rfl ?_
  intro p e s m below meth c hC hr hlk
  have J85 : ∀ (f : Nat) (hok : zdok n v g = true) (k : Nat) (hif : k + f = 8), zG p l e (zrm 1) s m ([.ref (q (104)), .int (n), .int (v), .int (g)] : List Value).toArray below meth c D K q (zA q) 5 0 0 (MQ below (va_Qi (fun r σ' => r = zb (zdok n v g) ∧ σ' = if zdok n v g then wdr σ n v g else wz σ) (zO D K q) (zA q)) ([.ref (q (104)), .int (n), .int (v), .int (g)] : List Value).toArray s 0 0 (zA q)) (wfz (zu (zu (zu (zu (zu (zu (zu (wz σ) 104 14 n) 106 8 v) 107 8 g) 108 8 0) 109 8 0) 111 8 0) 116 8 0) k) 85 [(0, .ref (q (104))), (4, .int (nI k))] [] := by
    intro f
    induction f with
    | zero =>
      intro hok k hif
      refine g_iload hC d_M_draft_85 rfl rfl ?_
      refine g_bipush hC (8) d_M_draft_87 (by decide) rfl ?_
      refine g_icmp_ge hC 109 d_M_draft_89 rfl rfl (fun h89 => ?_) (fun h89 => absurd (nI_le (a := 8) (b := k) (by omega) (by omega)) h89)
      refine g_iconst hC (1) d_M_draft_109 (by decide) rfl ?_
      exact g_zret hC hr hlk d_M_draft_110 (Or.inr rfl) ⟨by rw [hok]; rfl, by rw [if_pos hok, show k = 8 by omega]; rfl⟩
    | succ f ih =>
      intro hok k hif
      refine g_iload hC d_M_draft_85 rfl rfl ?_
      refine g_bipush hC (8) d_M_draft_87 (by decide) rfl ?_
      refine g_icmp_ge hC 109 d_M_draft_89 rfl rfl (fun h89 => absurd h89 (nI_ge (a := k) (b := 8) (by omega) (by omega))) (fun h89 => ?_)
      refine g_aload_n hC d_M_draft_92 rfl rfl ?_
      refine g_getR hC _ 5 6 _ (by decide) rfl rfl fl_M_26 d_M_draft_93 rfl ?_
      refine g_bipush hC (64) d_M_draft_96 (by decide) rfl ?_
      refine g_iload hC d_M_draft_98 rfl rfl ?_
      refine g_iadd hC d_M_draft_100 rfl ?_
      refine g_top hC (nI (64 + k)) (nI_add 64 k) ?_
      refine g_iconst hC (0) d_M_draft_101 (by decide) rfl ?_
      refine g_iast hC _ _ (64 + k) (by decide) rfl rfl (by show 64 + k < 72; omega) (by decide) d_M_draft_102 rfl ?_
      refine g_iinc hC (nI (k + 1)) d_M_draft_103 rfl rfl (nI_succ _).symm (by decide) ?_
      refine g_goto hC 85 d_M_draft_106 rfl ?_
      exact zG.to (ih hok (k + 1) (by omega)) (wfz_s _ k) rfl ⟨rfl, rfl, trivial⟩
  refine g_aload_n hC d_M_draft_0 rfl rfl ?_
  refine g_iconst hC (0) d_M_draft_1 (by decide) rfl ?_
  refine g_putI hC _ 5 0 (by decide) rfl rfl fp_M_90 d_M_draft_2 rfl ?_
  refine g_iload_n hC d_M_draft_5 rfl rfl ?_
  refine g_bipush hC (8) d_M_draft_6 (by decide) rfl ?_
  refine g_goi hC rfl (z_runS hC (c_M_in l D K q hq _ _ _) yy_M_in ys_M_93 ⟨Nat.le_of_ble_eq_true rfl, Nat.le_of_ble_eq_true rfl⟩ ⟨Nat.zero_le _, Nat.zero_le _⟩ rfl (Nat.le_of_ble_eq_true rfl) d_M_draft_8) (fun r0 σ0 q0 => ?_)
  obtain ⟨rfl, w0⟩ := q0
  obtain rfl := w0.symm
  refine g_ifeq_b hC 27 d_M_draft_11 rfl rfl (fun h11 => ?_) (fun h11 => ?_)
  ·
    have hok : zdok n v g = false := by first | (simp [zdok, h11]; done) | (simp [zdok, Int32.not_le.mpr h16]; done) | (simp [zdok, h24]; done)
    refine g_iconst hC (0) d_M_draft_27 (by decide) rfl ?_
    exact g_zret hC hr hlk d_M_draft_28 (Or.inl rfl) ⟨by rw [hok]; rfl, (if_neg (zif_f hok)).symm⟩
  ·
    refine g_iload_n hC d_M_draft_14 rfl rfl ?_
    refine g_iconst hC (1) d_M_draft_15 (by decide) rfl ?_
    refine g_icmp_lt hC 27 d_M_draft_16 rfl rfl (fun h16 => ?_) (fun h16 => ?_)
    ·
      have hok : zdok n v g = false := by first | (simp [zdok, h11]; done) | (simp [zdok, Int32.not_le.mpr h16]; done) | (simp [zdok, h24]; done)
      refine g_iconst hC (0) d_M_draft_27 (by decide) rfl ?_
      exact g_zret hC hr hlk d_M_draft_28 (Or.inl rfl) ⟨by rw [hok]; rfl, (if_neg (zif_f hok)).symm⟩
    ·
      refine g_iload_n hC d_M_draft_19 rfl rfl ?_
      refine g_iconst hC (4) d_M_draft_20 (by decide) rfl ?_
      refine g_goi hC rfl (z_runS hC (c_M_in l D K q hq _ _ _) yy_M_in ys_M_93 ⟨Nat.le_of_ble_eq_true rfl, Nat.le_of_ble_eq_true rfl⟩ ⟨Nat.zero_le _, Nat.zero_le _⟩ rfl (Nat.le_of_ble_eq_true rfl) d_M_draft_21) (fun r1 σ1 q1 => ?_)
      obtain ⟨rfl, w1⟩ := q1
      obtain rfl := w1.symm
      refine g_ifne_b hC 29 d_M_draft_24 rfl rfl (fun h24 => ?_) (fun h24 => ?_)
      ·
        have hok : zdok n v g = true := by simp [zdok, h11, Int32.not_lt.mp h16, h24]
        refine g_aload_n hC d_M_draft_29 rfl rfl ?_
        refine g_iload_n hC d_M_draft_30 rfl rfl ?_
        refine g_putI hC _ 5 14 (by decide) rfl rfl fp_M_97 d_M_draft_31 rfl ?_
        refine g_aload_n hC d_M_draft_34 rfl rfl ?_
        refine g_getR hC _ 5 2 _ (by decide) rfl rfl fl_M_13 d_M_draft_35 rfl ?_
        refine g_bipush hC (8) d_M_draft_38 (by decide) rfl ?_
        refine g_iload_n hC d_M_draft_40 rfl rfl ?_
        refine g_iast hC _ _ 8 (by decide) rfl (by decide) (by decide) (by decide) d_M_draft_41 rfl ?_
        refine g_aload_n hC d_M_draft_42 rfl rfl ?_
        refine g_getR hC _ 5 3 _ (by decide) rfl rfl fl_M_17 d_M_draft_43 rfl ?_
        refine g_bipush hC (8) d_M_draft_46 (by decide) rfl ?_
        refine g_iload_n hC d_M_draft_48 rfl rfl ?_
        refine g_iast hC _ _ 8 (by decide) rfl (by decide) (by decide) (by decide) d_M_draft_49 rfl ?_
        refine g_aload_n hC d_M_draft_50 rfl rfl ?_
        refine g_getR hC _ 5 4 _ (by decide) rfl rfl fl_M_20 d_M_draft_51 rfl ?_
        refine g_bipush hC (8) d_M_draft_54 (by decide) rfl ?_
        refine g_iconst hC (0) d_M_draft_56 (by decide) rfl ?_
        refine g_iast hC _ _ 8 (by decide) rfl (by decide) (by decide) (by decide) d_M_draft_57 rfl ?_
        refine g_aload_n hC d_M_draft_58 rfl rfl ?_
        refine g_getR hC _ 5 5 _ (by decide) rfl rfl fl_M_23 d_M_draft_59 rfl ?_
        refine g_bipush hC (8) d_M_draft_62 (by decide) rfl ?_
        refine g_iconst hC (0) d_M_draft_64 (by decide) rfl ?_
        refine g_iast hC _ _ 8 (by decide) rfl (by decide) (by decide) (by decide) d_M_draft_65 rfl ?_
        refine g_aload_n hC d_M_draft_66 rfl rfl ?_
        refine g_getR hC _ 5 7 _ (by decide) rfl rfl fl_M_29 d_M_draft_67 rfl ?_
        refine g_bipush hC (8) d_M_draft_70 (by decide) rfl ?_
        refine g_iconst hC (0) d_M_draft_72 (by decide) rfl ?_
        refine g_iast hC _ _ 8 (by decide) rfl (by decide) (by decide) (by decide) d_M_draft_73 rfl ?_
        refine g_aload_n hC d_M_draft_74 rfl rfl ?_
        refine g_getR hC _ 5 12 _ (by decide) rfl rfl fl_M_44 d_M_draft_75 rfl ?_
        refine g_bipush hC (8) d_M_draft_78 (by decide) rfl ?_
        refine g_iconst hC (0) d_M_draft_80 (by decide) rfl ?_
        refine g_iast hC _ _ 8 (by decide) rfl (by decide) (by decide) (by decide) d_M_draft_81 rfl ?_
        refine g_iconst hC (0) d_M_draft_82 (by decide) rfl ?_
        refine g_istore hC d_M_draft_83 rfl (by decide) ?_
        exact zG.to (J85 8 hok 0 (by omega)) (wfz_0 _).symm rfl ⟨rfl, rfl, trivial⟩
      ·
        have hok : zdok n v g = false := by first | (simp [zdok, h11]; done) | (simp [zdok, Int32.not_le.mpr h16]; done) | (simp [zdok, h24]; done)
        refine g_iconst hC (0) d_M_draft_27 (by decide) rfl ?_
        exact g_zret hC hr hlk d_M_draft_28 (Or.inl rfl) ⟨by rw [hok]; rfl, (if_neg (zif_f hok)).symm⟩
set_option maxHeartbeats 4000000 in
set_option maxRecDepth 100000 in
theorem c_M_word (l : Launch) (D : va_G) (K : Nat → ClassId) (q : Nat → Nat) (hq : zI q) (w : Int32) (σ : zm) (n : Nat) (hn : n ≤ 24) (h : σ 116 8 = nI n) : zMi l y_M_word b_M_word 2 (some .boolean) 0 D K q [.ref (q (104)), .int (w)] σ (fun r σ' => r = zb (decide (n < 24)) ∧ σ' = if n < 24 then zu (zu (wz σ) 117 (192 + n) w) 116 8 (nI (n + 1)) else wz σ) := by
  refine zMi.of (own := "AppDeskModel") (lv := [(0, .ref (q (104))), (1, .int (w))]) (by decide) rfl hq (Nat.le_of_ble_eq_true rfl) rfl ?_
  intro p e s m below meth c hC hr hlk
  refine g_aload_n hC d_M_word_0 rfl rfl ?_
  refine g_iconst hC (0) d_M_word_1 (by decide) rfl ?_
  refine g_putI hC _ 5 0 (by decide) rfl rfl fp_M_90 d_M_word_2 rfl ?_
  refine g_aload_n hC d_M_word_5 rfl rfl ?_
  refine g_getR hC _ 5 12 _ (by decide) rfl rfl fl_M_44 d_M_word_6 rfl ?_
  refine g_bipush hC (8) d_M_word_9 (by decide) rfl ?_
  refine g_ialdV hC _ _ 8 (nI n) (by rw [zu_row _ _ (by decide)]; exact h) (by decide) rfl (by decide) (by decide) (by decide) d_M_word_11 rfl ?_
  refine g_bipush hC (24) d_M_word_12 (by decide) rfl ?_
  refine g_icmp_ne hC 19 d_M_word_14 rfl rfl (fun h14 => ?_) (fun h14 => ?_)
  ·
    have hlt : n < 24 := by
      have : ¬ n = 24 := fun z => h14 (by rw [z]; rfl)
      omega
    refine g_aload_n hC d_M_word_19 rfl rfl ?_
    refine g_getR hC _ 5 13 _ (by decide) rfl rfl fl_M_47 d_M_word_20 rfl ?_
    refine g_sipush hC (192) d_M_word_23 (by decide) rfl ?_
    refine g_aload_n hC d_M_word_26 rfl rfl ?_
    refine g_getR hC _ 5 12 _ (by decide) rfl rfl fl_M_44 d_M_word_27 rfl ?_
    refine g_bipush hC (8) d_M_word_30 (by decide) rfl ?_
    refine g_ialdV hC _ _ 8 (nI n) (by rw [zu_row _ _ (by decide)]; exact h) (by decide) rfl (by decide) (by decide) (by decide) d_M_word_32 rfl ?_
    refine g_iadd hC d_M_word_33 rfl ?_
    refine g_top hC (nI (192 + n)) (nI_add 192 n) ?_
    refine g_iload_n hC d_M_word_34 rfl rfl ?_
    refine g_iast hC _ _ ((192 + n)) (by decide) rfl rfl (by omega) (by decide) d_M_word_35 rfl ?_
    refine g_aload_n hC d_M_word_36 rfl rfl ?_
    refine g_getR hC _ 5 12 _ (by decide) rfl rfl fl_M_44 d_M_word_37 rfl ?_
    refine g_bipush hC (8) d_M_word_40 (by decide) rfl ?_
    refine g_dup2 hC d_M_word_42 rfl rfl rfl ?_
    refine g_ialdV hC _ _ 8 (nI n) (by rw [zu_row _ _ (by decide), zu_row _ _ (by decide)]; exact h) (by decide) rfl (by decide) (by decide) (by decide) d_M_word_43 rfl ?_
    refine g_iconst hC (1) d_M_word_44 (by decide) rfl ?_
    refine g_iadd hC d_M_word_45 rfl ?_
    refine g_top hC (nI (n + 1)) (nI_1 n) ?_
    refine g_iast hC _ _ 8 (by decide) rfl (by decide) (by decide) (by decide) d_M_word_46 rfl ?_
    refine g_iconst hC (1) d_M_word_47 (by decide) rfl ?_
    exact g_zret hC hr hlk d_M_word_48 (Or.inr rfl) ⟨by rw [decide_eq_true hlt]; rfl, (if_pos hlt).symm⟩
  ·
    have hlt : ¬ n < 24 := fun z => absurd ((nI_eq (a := n) (b := 24) (by omega) (by decide)).mp h14) (by omega)
    refine g_iconst hC (0) d_M_word_17 (by decide) rfl ?_
    exact g_zret hC hr hlk d_M_word_18 (Or.inl rfl) ⟨by rw [decide_eq_false hlt]; rfl, (if_neg hlt).symm⟩
set_option maxHeartbeats 4000000 in
set_option maxRecDepth 100000 in
theorem c_M_part (l : Launch) (D : va_G) (K : Nat → ClassId) (q : Nat → Nat) (hq : zI q) (a : Int32) (b : Bool) (g p0 : Int32) (σ : zm) (n : Nat) (hn : n ≤ 4) (h : σ 111 8 = nI n) : zMi l y_M_part b_M_part 6 (some .boolean) 1 D K q [.ref (q (104)), .int (a), .int (zb b), .int (g), .int (p0)] σ (fun r σ' => r = zb (zpok a g n) ∧ σ' = if zpok a g n then wpar σ n a (zb b) g p0 else wz σ) := by
  refine zMi.of (own := "AppDeskModel") (lv := [(0, .ref (q (104))), (1, .int (a)), (2, .int (zb b)), (3, .int (g)), (4, .int (p0))]) (by decide) rfl hq (Nat.le_of_ble_eq_true rfl) rfl ?_
  intro p e s m below meth c hC hr hlk
  refine g_aload_n hC d_M_part_0 rfl rfl ?_
  refine g_iconst hC (0) d_M_part_1 (by decide) rfl ?_
  refine g_putI hC _ 5 0 (by decide) rfl rfl fp_M_90 d_M_part_2 rfl ?_
  refine g_aload_n hC d_M_part_5 rfl rfl ?_
  refine g_getR hC _ 5 7 _ (by decide) rfl rfl fl_M_29 d_M_part_6 rfl ?_
  refine g_bipush hC (8) d_M_part_9 (by decide) rfl ?_
  refine g_ialdV hC _ _ 8 (nI n) (by rw [zu_row _ _ (by decide)]; exact h) (by decide) rfl (by decide) (by decide) (by decide) d_M_part_11 rfl ?_
  refine g_iconst hC (4) d_M_part_12 (by decide) rfl ?_
  refine g_icmp_eq hC 36 d_M_part_13 rfl rfl (fun h13 => ?_) (fun h13 => ?_)
  ·
    have hok : zpok a g n = false := by first | exact zpok_1 (fun z => absurd ((nI_eq (a := n) (b := 4) (by omega) (by decide)).mp h13) (by omega)) | exact zpok_2 h22 | exact zpok_3 h27 | exact zpok_4 (Int32.not_le.mp h33)
    refine g_iconst hC (0) d_M_part_36 (by decide) rfl ?_
    exact g_zret hC hr hlk d_M_part_37 (Or.inl rfl) ⟨by rw [hok]; rfl, (if_neg (zif_f hok)).symm⟩
  ·
    refine g_iload_n hC d_M_part_16 rfl rfl ?_
    refine g_bipush hC (10) d_M_part_17 (by decide) rfl ?_
    refine g_goi hC rfl (z_runS hC (c_M_in l D K q hq _ _ _) yy_M_in ys_M_93 ⟨Nat.le_of_ble_eq_true rfl, Nat.le_of_ble_eq_true rfl⟩ ⟨Nat.zero_le _, Nat.zero_le _⟩ rfl (Nat.le_of_ble_eq_true rfl) d_M_part_19) (fun r0 σ0 q0 => ?_)
    obtain ⟨rfl, w0⟩ := q0
    obtain rfl := w0.symm
    refine g_ifeq_b hC 36 d_M_part_22 rfl rfl (fun h22 => ?_) (fun h22 => ?_)
    ·
      have hok : zpok a g n = false := by first | exact zpok_1 (fun z => absurd ((nI_eq (a := n) (b := 4) (by omega) (by decide)).mp h13) (by omega)) | exact zpok_2 h22 | exact zpok_3 h27 | exact zpok_4 (Int32.not_le.mp h33)
      refine g_iconst hC (0) d_M_part_36 (by decide) rfl ?_
      exact g_zret hC hr hlk d_M_part_37 (Or.inl rfl) ⟨by rw [hok]; rfl, (if_neg (zif_f hok)).symm⟩
    ·
      refine g_iload_n hC d_M_part_25 rfl rfl ?_
      refine g_iconst hC (-1) d_M_part_26 (by decide) rfl ?_
      refine g_icmp_lt hC 36 d_M_part_27 rfl rfl (fun h27 => ?_) (fun h27 => ?_)
      ·
        have hok : zpok a g n = false := by first | exact zpok_1 (fun z => absurd ((nI_eq (a := n) (b := 4) (by omega) (by decide)).mp h13) (by omega)) | exact zpok_2 h22 | exact zpok_3 h27 | exact zpok_4 (Int32.not_le.mp h33)
        refine g_iconst hC (0) d_M_part_36 (by decide) rfl ?_
        exact g_zret hC hr hlk d_M_part_37 (Or.inl rfl) ⟨by rw [hok]; rfl, (if_neg (zif_f hok)).symm⟩
      ·
        refine g_iload_n hC d_M_part_30 rfl rfl ?_
        refine g_bipush hC (7) d_M_part_31 (by decide) rfl ?_
        refine g_icmp_le hC 38 d_M_part_33 rfl rfl (fun h33 => ?_) (fun h33 => ?_)
        ·
          have hlt : n < 4 := by
            have : ¬ n = 4 := fun z => h13 (by rw [z]; rfl)
            omega
          have hok : zpok a g n = true := zpok_5 hlt h22 h27 h33
          refine g_bipush hC (32) d_M_part_38 (by decide) rfl ?_
          refine g_aload_n hC d_M_part_40 rfl rfl ?_
          refine g_getR hC _ 5 7 _ (by decide) rfl rfl fl_M_29 d_M_part_41 rfl ?_
          refine g_bipush hC (8) d_M_part_44 (by decide) rfl ?_
          refine g_ialdV hC _ _ 8 (nI n) (by rw [zu_row _ _ (by decide)]; exact h) (by decide) rfl (by decide) (by decide) (by decide) d_M_part_46 rfl ?_
          refine g_iadd hC d_M_part_47 rfl ?_
          refine g_top hC (nI (32 + n)) (nI_add 32 n) ?_
          refine g_istore hC d_M_part_48 rfl (by decide) ?_
          refine g_aload_n hC d_M_part_50 rfl rfl ?_
          refine g_getR hC _ 5 8 _ (by decide) rfl rfl fl_M_32 d_M_part_51 rfl ?_
          refine g_iload hC d_M_part_54 rfl rfl ?_
          refine g_iload_n hC d_M_part_56 rfl rfl ?_
          refine g_iast hC _ _ (32 + n) (by decide) rfl rfl (by show 32 + n < 36; omega) (by decide) d_M_part_57 rfl ?_
          refine g_aload_n hC d_M_part_58 rfl rfl ?_
          refine g_getR hC _ 5 9 _ (by decide) rfl rfl fl_M_35 d_M_part_59 rfl ?_
          refine g_iload hC d_M_part_62 rfl rfl ?_
          refine g_iload_n hC d_M_part_64 rfl rfl ?_
          refine g_zast hC _ _ (32 + n) (by decide) rfl rfl (by show 32 + n < 36; omega) (by decide) (zb01 _) d_M_part_65 rfl ?_
          refine g_aload_n hC d_M_part_66 rfl rfl ?_
          refine g_getR hC _ 5 10 _ (by decide) rfl rfl fl_M_38 d_M_part_67 rfl ?_
          refine g_iload hC d_M_part_70 rfl rfl ?_
          refine g_iload_n hC d_M_part_72 rfl rfl ?_
          refine g_iast hC _ _ (32 + n) (by decide) rfl rfl (by show 32 + n < 36; omega) (by decide) d_M_part_73 rfl ?_
          refine g_aload_n hC d_M_part_74 rfl rfl ?_
          refine g_getR hC _ 5 11 _ (by decide) rfl rfl fl_M_41 d_M_part_75 rfl ?_
          refine g_iload hC d_M_part_78 rfl rfl ?_
          refine g_iload hC d_M_part_80 rfl rfl ?_
          refine g_iast hC _ _ (32 + n) (by decide) rfl rfl (by show 32 + n < 36; omega) (by decide) d_M_part_82 rfl ?_
          refine g_aload_n hC d_M_part_83 rfl rfl ?_
          refine g_getR hC _ 5 7 _ (by decide) rfl rfl fl_M_29 d_M_part_84 rfl ?_
          refine g_bipush hC (8) d_M_part_87 (by decide) rfl ?_
          refine g_dup2 hC d_M_part_89 rfl rfl rfl ?_
          refine g_ialdV hC _ _ 8 (nI n) (by rw [zu_row _ _ (by decide), zu_row _ _ (by decide), zu_row _ _ (by decide), zu_row _ _ (by decide), zu_row _ _ (by decide)]; exact h) (by decide) rfl (by decide) (by decide) (by decide) d_M_part_90 rfl ?_
          refine g_iconst hC (1) d_M_part_91 (by decide) rfl ?_
          refine g_iadd hC d_M_part_92 rfl ?_
          refine g_top hC (nI (n + 1)) (nI_1 n) ?_
          refine g_iast hC _ _ 8 (by decide) rfl (by decide) (by decide) (by decide) d_M_part_93 rfl ?_
          refine g_iconst hC (1) d_M_part_94 (by decide) rfl ?_
          exact g_zret hC hr hlk d_M_part_95 (Or.inr rfl) ⟨by rw [hok]; rfl, (if_pos hok).symm⟩
        ·
          have hok : zpok a g n = false := by first | exact zpok_1 (fun z => absurd ((nI_eq (a := n) (b := 4) (by omega) (by decide)).mp h13) (by omega)) | exact zpok_2 h22 | exact zpok_3 h27 | exact zpok_4 (Int32.not_le.mp h33)
          refine g_iconst hC (0) d_M_part_36 (by decide) rfl ?_
          exact g_zret hC hr hlk d_M_part_37 (Or.inl rfl) ⟨by rw [hok]; rfl, (if_neg (zif_f hok)).symm⟩
set_option maxHeartbeats 4000000 in
set_option maxRecDepth 100000 in
theorem c_M_ask (l : Launch) (D : va_G) (K : Nat → ClassId) (q : Nat → Nat) (hq : zI q) (x : Int32) (σ : zm) : zMi l y_M_ask b_M_ask 2 (some .boolean) 1 D K q [.ref (q (104)), .int (x)] σ (fun r σ' => r = zb (waok σ x) ∧ σ' = if waok σ x then zu (wz σ) 109 8 (σ 109 8 ||| (1 <<< (x &&& 31))) else wz σ) := by
  refine zMi.of (own := "AppDeskModel") (lv := [(0, .ref (q (104))), (1, .int (x))]) (by decide) rfl hq (Nat.le_of_ble_eq_true rfl) rfl ?_
  intro p e s m below meth c hC hr hlk
  refine g_aload_n hC d_M_ask_0 rfl rfl ?_
  refine g_iconst hC (0) d_M_ask_1 (by decide) rfl ?_
  refine g_putI hC _ 5 0 (by decide) rfl rfl fp_M_90 d_M_ask_2 rfl ?_
  refine g_iload_n hC d_M_ask_5 rfl rfl ?_
  refine g_bipush hC (8) d_M_ask_6 (by decide) rfl ?_
  refine g_goi hC rfl (z_runS hC (c_M_in l D K q hq _ _ _) yy_M_in ys_M_93 ⟨Nat.le_of_ble_eq_true rfl, Nat.le_of_ble_eq_true rfl⟩ ⟨Nat.zero_le _, Nat.zero_le _⟩ rfl (Nat.le_of_ble_eq_true rfl) d_M_ask_8) (fun r0 σ0 q0 => ?_)
  obtain ⟨rfl, w0⟩ := q0
  obtain rfl := w0.symm
  refine g_ifeq_b hC 29 d_M_ask_11 rfl rfl (fun h11 => ?_) (fun h11 => ?_)
  ·
    have hok : waok σ x = false := by first | (simp [waok, h11]; done) | (simp [waok, zbit, h26]; done)
    refine g_iconst hC (0) d_M_ask_29 (by decide) rfl ?_
    exact g_zret hC hr hlk d_M_ask_30 (Or.inl rfl) ⟨by rw [hok]; rfl, (if_neg (zif_f hok)).symm⟩
  ·
    refine g_aload_n hC d_M_ask_14 rfl rfl ?_
    refine g_getR hC _ 5 5 _ (by decide) rfl rfl fl_M_23 d_M_ask_15 rfl ?_
    refine g_bipush hC (8) d_M_ask_18 (by decide) rfl ?_
    refine g_ialdV hC _ _ 8 (σ 109 8) (by rw [zu_row _ _ (by decide)]) (by decide) rfl (by decide) (by decide) (by decide) d_M_ask_20 rfl ?_
    refine g_iload_n hC d_M_ask_21 rfl rfl ?_
    refine g_ishr hC d_M_ask_22 rfl ?_
    refine g_iconst hC (1) d_M_ask_23 (by decide) rfl ?_
    refine g_iand hC d_M_ask_24 rfl ?_
    refine g_iconst hC (1) d_M_ask_25 (by decide) rfl ?_
    refine g_icmp_ne hC 31 d_M_ask_26 rfl rfl (fun h26 => ?_) (fun h26 => ?_)
    ·
      have hok : waok σ x = true := by simp [waok, zbit, h11, h26]
      refine g_aload_n hC d_M_ask_31 rfl rfl ?_
      refine g_getR hC _ 5 5 _ (by decide) rfl rfl fl_M_23 d_M_ask_32 rfl ?_
      refine g_bipush hC (8) d_M_ask_35 (by decide) rfl ?_
      refine g_aload_n hC d_M_ask_37 rfl rfl ?_
      refine g_getR hC _ 5 5 _ (by decide) rfl rfl fl_M_23 d_M_ask_38 rfl ?_
      refine g_bipush hC (8) d_M_ask_41 (by decide) rfl ?_
      refine g_ialdV hC _ _ 8 (σ 109 8) (by rw [zu_row _ _ (by decide)]) (by decide) rfl (by decide) (by decide) (by decide) d_M_ask_43 rfl ?_
      refine g_iconst hC (1) d_M_ask_44 (by decide) rfl ?_
      refine g_iload_n hC d_M_ask_45 rfl rfl ?_
      refine g_ishl hC d_M_ask_46 rfl ?_
      refine g_ior hC d_M_ask_47 rfl ?_
      refine g_iast hC _ _ 8 (by decide) rfl (by decide) (by decide) (by decide) d_M_ask_48 rfl ?_
      refine g_iconst hC (1) d_M_ask_49 (by decide) rfl ?_
      exact g_zret hC hr hlk d_M_ask_50 (Or.inr rfl) ⟨by rw [hok]; rfl, (if_pos hok).symm⟩
    ·
      have hok : waok σ x = false := by first | (simp [waok, h11]; done) | (simp [waok, zbit, h26]; done)
      refine g_iconst hC (0) d_M_ask_29 (by decide) rfl ?_
      exact g_zret hC hr hlk d_M_ask_30 (Or.inl rfl) ⟨by rw [hok]; rfl, (if_neg (zif_f hok)).symm⟩
set_option maxHeartbeats 4000000 in
set_option maxRecDepth 100000 in
theorem c_M_declare (l : Launch) (D : va_G) (K : Nat → ClassId) (q : Nat → Nat) (hq : zI q) (x v : Int32) (σ : zm) : zMi l y_M_declare b_M_declare 3 (some .boolean) 1 D K q [.ref (q (104)), .int (x), .int (v)] σ (fun r σ' => r = zb (weok σ x v) ∧ σ' = if weok σ x v then zu (wz σ) 110 (64 + x.toNatClampNeg) (v + 1) else wz σ) := by
  refine zMi.of (own := "AppDeskModel") (lv := [(0, .ref (q (104))), (1, .int (x)), (2, .int (v))]) (by decide) rfl hq (Nat.le_of_ble_eq_true rfl) rfl ?_
  intro p e s m below meth c hC hr hlk
  refine g_aload_n hC d_M_declare_0 rfl rfl ?_
  refine g_iconst hC (0) d_M_declare_1 (by decide) rfl ?_
  refine g_putI hC _ 5 0 (by decide) rfl rfl fp_M_90 d_M_declare_2 rfl ?_
  refine g_iload_n hC d_M_declare_5 rfl rfl ?_
  refine g_bipush hC (8) d_M_declare_6 (by decide) rfl ?_
  refine g_goi hC rfl (z_runS hC (c_M_in l D K q hq _ _ _) yy_M_in ys_M_93 ⟨Nat.le_of_ble_eq_true rfl, Nat.le_of_ble_eq_true rfl⟩ ⟨Nat.zero_le _, Nat.zero_le _⟩ rfl (Nat.le_of_ble_eq_true rfl) d_M_declare_8) (fun r0 σ0 q0 => ?_)
  obtain ⟨rfl, w0⟩ := q0
  obtain rfl := w0.symm
  refine g_ifeq_b hC 34 d_M_declare_11 rfl rfl (fun h11 => ?_) (fun h11 => ?_)
  ·
    have hok : weok σ x v = false := by first | (simp [weok, h11]; done) | (simp [weok, h19]; done) | (simp [weok, hc, h31]; done)
    refine g_iconst hC (0) d_M_declare_34 (by decide) rfl ?_
    exact g_zret hC hr hlk d_M_declare_35 (Or.inl rfl) ⟨by rw [hok]; rfl, (if_neg (zif_f hok)).symm⟩
  ·
    refine g_iload_n hC d_M_declare_14 rfl rfl ?_
    refine g_iconst hC (3) d_M_declare_15 (by decide) rfl ?_
    refine g_goi hC rfl (z_runS hC (c_M_in l D K q hq _ _ _) yy_M_in ys_M_93 ⟨Nat.le_of_ble_eq_true rfl, Nat.le_of_ble_eq_true rfl⟩ ⟨Nat.zero_le _, Nat.zero_le _⟩ rfl (Nat.le_of_ble_eq_true rfl) d_M_declare_16) (fun r1 σ1 q1 => ?_)
    obtain ⟨rfl, w1⟩ := q1
    obtain rfl := w1.symm
    refine g_ifeq_b hC 34 d_M_declare_19 rfl rfl (fun h19 => ?_) (fun h19 => ?_)
    ·
      have hok : weok σ x v = false := by first | (simp [weok, h11]; done) | (simp [weok, h19]; done) | (simp [weok, hc, h31]; done)
      refine g_iconst hC (0) d_M_declare_34 (by decide) rfl ?_
      exact g_zret hC hr hlk d_M_declare_35 (Or.inl rfl) ⟨by rw [hok]; rfl, (if_neg (zif_f hok)).symm⟩
    ·
      obtain ⟨k, hk, hx⟩ := zin_of (n := 8) (by decide) h11
      have hc : (x).toNatClampNeg = k := by rw [hx]; exact nI_clamp (by omega)
      refine g_aload_n hC d_M_declare_22 rfl rfl ?_
      refine g_getR hC _ 5 6 _ (by decide) rfl rfl fl_M_26 d_M_declare_23 rfl ?_
      refine g_bipush hC (64) d_M_declare_26 (by decide) rfl ?_
      refine g_iload_n hC d_M_declare_28 rfl rfl ?_
      refine g_iadd hC d_M_declare_29 rfl ?_
      refine g_top hC (nI (64 + k)) (by rw [hx]; exact nI_add 64 k) ?_
      refine g_ialdV hC _ _ (64 + k) (σ 110 (64 + k)) (by rw [zu_row _ _ (by decide)]) (by decide) rfl rfl (by show 64 + k < 72; omega) (by decide) d_M_declare_30 rfl ?_
      refine g_if_eq hC 36 d_M_declare_31 rfl rfl (fun h31 => ?_) (fun h31 => ?_)
      ·
        have hok : weok σ x v = true := by simp [weok, h11, h19, hc, h31]
        refine g_aload_n hC d_M_declare_36 rfl rfl ?_
        refine g_getR hC _ 5 6 _ (by decide) rfl rfl fl_M_26 d_M_declare_37 rfl ?_
        refine g_bipush hC (64) d_M_declare_40 (by decide) rfl ?_
        refine g_iload_n hC d_M_declare_42 rfl rfl ?_
        refine g_iadd hC d_M_declare_43 rfl ?_
        refine g_top hC (nI (64 + k)) (by rw [hx]; exact nI_add 64 k) ?_
        refine g_iload_n hC d_M_declare_44 rfl rfl ?_
        refine g_iconst hC (1) d_M_declare_45 (by decide) rfl ?_
        refine g_iadd hC d_M_declare_46 rfl ?_
        refine g_iast hC _ _ (64 + k) (by decide) rfl rfl (by show 64 + k < 72; omega) (by decide) d_M_declare_47 rfl ?_
        refine g_iconst hC (1) d_M_declare_48 (by decide) rfl ?_
        exact g_zret hC hr hlk d_M_declare_49 (Or.inr rfl) ⟨by rw [hok]; rfl, by rw [if_pos hok, hc]; rfl⟩
      ·
        have hok : weok σ x v = false := by first | (simp [weok, h11]; done) | (simp [weok, h19]; done) | (simp [weok, hc, h31]; done)
        refine g_iconst hC (0) d_M_declare_34 (by decide) rfl ?_
        exact g_zret hC hr hlk d_M_declare_35 (Or.inl rfl) ⟨by rw [hok]; rfl, (if_neg (zif_f hok)).symm⟩
set_option maxHeartbeats 4000000 in
set_option maxRecDepth 100000 in
theorem c_M_sealed (l : Launch) (D : va_G) (K : Nat → ClassId) (q : Nat → Nat) (hq : zI q) (σ : zm) (pn wn : Nat) (hpn : pn ≤ 4) (hwn : wn ≤ 24) (hpc : σ 111 8 = nI pn) (hwc : σ 116 8 = nI wn) : zMi l y_M_sealed b_M_sealed 3 (some .int) 1 D K q [.ref (q (104))] σ (fun r σ' => r = wsea σ pn wn ∧ σ' = σ) := by
  refine zMi.of (own := "AppDeskModel") (lv := [(0, .ref (q (104)))]) (by decide) rfl hq (Nat.le_of_ble_eq_true rfl) rfl ?_
  intro p e s m below meth c hC hr hlk
  have J158 : ∀ (f : Nat) (k : Nat) (hif : k + f = wn), zG p l e (zrm 1) s m ([.ref (q (104))] : List Value).toArray below meth c D K q (zA q) 3 0 0 (MQ below (va_Qi (fun r σ' => r = wsea σ pn wn ∧ σ' = σ) (zO D K q) (zA q)) ([.ref (q (104))] : List Value).toArray s 0 0 (zA q)) σ 158 [(0, .ref (q (104))), (1, .int (dgW (fun n => σ 117 (192 + n)) (dgP (fun n => σ 112 (32 + n)) (fun n => if σ 113 (32 + n) = 0 then 0 else 1) (fun n => σ 114 (32 + n)) (fun n => σ 115 (32 + n)) (mgL (fun n => σ 110 (64 + n)) (zmix (zmix (zmix 17 (σ 104 14)) (σ 106 8)) (σ 109 8)) 8) pn) k)), (2, .int (nI k))] [] := by
    intro f
    induction f with
    | zero =>
      intro k hif
      refine g_iload_n hC d_M_sealed_158 rfl rfl ?_
      refine g_aload_n hC d_M_sealed_159 rfl rfl ?_
      refine g_getR hC _ 5 12 _ (by decide) rfl rfl fl_M_44 d_M_sealed_160 rfl ?_
      refine g_bipush hC (8) d_M_sealed_163 (by decide) rfl ?_
      refine g_ialdV hC _ _ 8 (nI wn) (hwc) (by decide) rfl (by decide) (by decide) (by decide) d_M_sealed_165 rfl ?_
      refine g_icmp_ge hC 190 d_M_sealed_166 rfl rfl (fun h166 => ?_) (fun h166 => absurd (nI_le (a := wn) (b := k) (by omega) (by omega)) h166)
      refine g_iload_n hC d_M_sealed_190 rfl rfl ?_
      refine g_ldc hC _ d_M_sealed_191 (by exact kk_M_104) rfl ?_
      refine g_aload_n hC d_M_sealed_193 rfl rfl ?_
      refine g_getR hC _ 5 3 _ (by decide) rfl rfl fl_M_17 d_M_sealed_194 rfl ?_
      refine g_bipush hC (8) d_M_sealed_197 (by decide) rfl ?_
      refine g_iald hC _ _ 8 (by decide) rfl (by decide) (by decide) (by decide) d_M_sealed_199 rfl ?_
      refine g_iconst hC (1) d_M_sealed_200 (by decide) rfl ?_
      refine g_iadd hC d_M_sealed_201 rfl ?_
      refine g_imul hC d_M_sealed_202 rfl ?_
      refine g_ixor hC d_M_sealed_203 rfl ?_
      exact g_iret hC hr hlk d_M_sealed_204 ⟨by rw [show k = wn by omega]; rfl, rfl⟩
    | succ f ih =>
      intro k hif
      refine g_iload_n hC d_M_sealed_158 rfl rfl ?_
      refine g_aload_n hC d_M_sealed_159 rfl rfl ?_
      refine g_getR hC _ 5 12 _ (by decide) rfl rfl fl_M_44 d_M_sealed_160 rfl ?_
      refine g_bipush hC (8) d_M_sealed_163 (by decide) rfl ?_
      refine g_ialdV hC _ _ 8 (nI wn) (hwc) (by decide) rfl (by decide) (by decide) (by decide) d_M_sealed_165 rfl ?_
      refine g_icmp_ge hC 190 d_M_sealed_166 rfl rfl (fun h166 => absurd h166 (nI_ge (a := k) (b := wn) (by omega) (by omega))) (fun h166 => ?_)
      refine g_iload_n hC d_M_sealed_169 rfl rfl ?_
      refine g_aload_n hC d_M_sealed_170 rfl rfl ?_
      refine g_getR hC _ 5 13 _ (by decide) rfl rfl fl_M_47 d_M_sealed_171 rfl ?_
      refine g_sipush hC (192) d_M_sealed_174 (by decide) rfl ?_
      refine g_iload_n hC d_M_sealed_177 rfl rfl ?_
      refine g_iadd hC d_M_sealed_178 rfl ?_
      refine g_top hC (nI (192 + k)) (nI_add 192 k) ?_
      refine g_iald hC _ _ (192 + k) (by decide) rfl rfl (by show 192 + k < 216; omega) (by decide) d_M_sealed_179 rfl ?_
      refine g_goi hC rfl (z_runS hC (c_M_mixed l D K q hq _ _ _) yy_M_mixed ys_M_100 ⟨Nat.le_of_ble_eq_true rfl, Nat.le_of_ble_eq_true rfl⟩ ⟨Nat.zero_le _, Nat.zero_le _⟩ rfl (Nat.le_of_ble_eq_true rfl) d_M_sealed_180) (fun r0 σ0 q0 => ?_)
      obtain ⟨rfl, w0⟩ := q0
      obtain rfl := w0.symm
      refine g_istore_n hC d_M_sealed_183 rfl (by decide) ?_
      refine g_iinc hC (nI (k + 1)) d_M_sealed_184 rfl rfl (nI_succ _).symm (by decide) ?_
      refine g_goto hC 158 d_M_sealed_187 rfl ?_
      exact zG.to (ih (k + 1) (by omega)) rfl rfl ⟨rfl, congrArg (fun z => some (Value.int z)) (dgW_s (fun n => σ 117 (192 + n)) (dgP (fun n => σ 112 (32 + n)) (fun n => if σ 113 (32 + n) = 0 then 0 else 1) (fun n => σ 114 (32 + n)) (fun n => σ 115 (32 + n)) (mgL (fun n => σ 110 (64 + n)) (zmix (zmix (zmix 17 (σ 104 14)) (σ 106 8)) (σ 109 8)) 8) pn) k).symm, rfl, trivial⟩
  have J84 : ∀ (f : Nat) (k : Nat) (hif : k + f = pn), zG p l e (zrm 1) s m ([.ref (q (104))] : List Value).toArray below meth c D K q (zA q) 3 0 0 (MQ below (va_Qi (fun r σ' => r = wsea σ pn wn ∧ σ' = σ) (zO D K q) (zA q)) ([.ref (q (104))] : List Value).toArray s 0 0 (zA q)) σ 84 [(0, .ref (q (104))), (1, .int (dgP (fun n => σ 112 (32 + n)) (fun n => if σ 113 (32 + n) = 0 then 0 else 1) (fun n => σ 114 (32 + n)) (fun n => σ 115 (32 + n)) (mgL (fun n => σ 110 (64 + n)) (zmix (zmix (zmix 17 (σ 104 14)) (σ 106 8)) (σ 109 8)) 8) k)), (2, .int (nI (32 + k)))] [] := by
    intro f
    induction f with
    | zero =>
      intro k hif
      refine g_iload_n hC d_M_sealed_84 rfl rfl ?_
      refine g_bipush hC (32) d_M_sealed_85 (by decide) rfl ?_
      refine g_aload_n hC d_M_sealed_87 rfl rfl ?_
      refine g_getR hC _ 5 7 _ (by decide) rfl rfl fl_M_29 d_M_sealed_88 rfl ?_
      refine g_bipush hC (8) d_M_sealed_91 (by decide) rfl ?_
      refine g_ialdV hC _ _ 8 (nI pn) (hpc) (by decide) rfl (by decide) (by decide) (by decide) d_M_sealed_93 rfl ?_
      refine g_iadd hC d_M_sealed_94 rfl ?_
      refine g_top hC (nI (32 + pn)) (nI_add 32 pn) ?_
      refine g_icmp_ge hC 156 d_M_sealed_95 rfl rfl (fun h95 => ?_) (fun h95 => absurd (nI_le (a := 32 + pn) (b := 32 + k) (by omega) (by omega)) h95)
      refine g_iconst hC (0) d_M_sealed_156 (by decide) rfl ?_
      refine g_istore_n hC d_M_sealed_157 rfl (by decide) ?_
      exact zG.to (J158 wn 0 (by omega)) rfl rfl ⟨rfl, congrArg (fun z => some (Value.int z)) (by rw [show k = pn by omega]; rfl), rfl, trivial⟩
    | succ f ih =>
      intro k hif
      refine g_iload_n hC d_M_sealed_84 rfl rfl ?_
      refine g_bipush hC (32) d_M_sealed_85 (by decide) rfl ?_
      refine g_aload_n hC d_M_sealed_87 rfl rfl ?_
      refine g_getR hC _ 5 7 _ (by decide) rfl rfl fl_M_29 d_M_sealed_88 rfl ?_
      refine g_bipush hC (8) d_M_sealed_91 (by decide) rfl ?_
      refine g_ialdV hC _ _ 8 (nI pn) (hpc) (by decide) rfl (by decide) (by decide) (by decide) d_M_sealed_93 rfl ?_
      refine g_iadd hC d_M_sealed_94 rfl ?_
      refine g_top hC (nI (32 + pn)) (nI_add 32 pn) ?_
      refine g_icmp_ge hC 156 d_M_sealed_95 rfl rfl (fun h95 => absurd h95 (nI_ge (a := 32 + k) (b := 32 + pn) (by omega) (by omega))) (fun h95 => ?_)
      refine g_iload_n hC d_M_sealed_98 rfl rfl ?_
      refine g_aload_n hC d_M_sealed_99 rfl rfl ?_
      refine g_getR hC _ 5 8 _ (by decide) rfl rfl fl_M_32 d_M_sealed_100 rfl ?_
      refine g_iload_n hC d_M_sealed_103 rfl rfl ?_
      refine g_iald hC _ _ (32 + k) (by decide) rfl rfl (by show 32 + k < 36; omega) (by decide) d_M_sealed_104 rfl ?_
      refine g_goi hC rfl (z_runS hC (c_M_mixed l D K q hq _ _ _) yy_M_mixed ys_M_100 ⟨Nat.le_of_ble_eq_true rfl, Nat.le_of_ble_eq_true rfl⟩ ⟨Nat.zero_le _, Nat.zero_le _⟩ rfl (Nat.le_of_ble_eq_true rfl) d_M_sealed_105) (fun r1 σ1 q1 => ?_)
      obtain ⟨rfl, w1⟩ := q1
      obtain rfl := w1.symm
      refine g_istore_n hC d_M_sealed_108 rfl (by decide) ?_
      refine g_iload_n hC d_M_sealed_109 rfl rfl ?_
      refine g_aload_n hC d_M_sealed_110 rfl rfl ?_
      refine g_getR hC _ 5 9 _ (by decide) rfl rfl fl_M_35 d_M_sealed_111 rfl ?_
      refine g_iload_n hC d_M_sealed_114 rfl rfl ?_
      refine g_zald hC _ _ (32 + k) (by decide) rfl rfl (by show 32 + k < 36; omega) (by decide) d_M_sealed_115 rfl ?_
      refine g_if_eq hC 123 d_M_sealed_116 rfl rfl (fun h116 => ?_) (fun h116 => ?_)
      ·
        refine g_iconst hC (0) d_M_sealed_123 (by decide) rfl ?_
        refine g_top hC ((if σ 113 (32 + k) = 0 then 0 else 1)) ((if_pos h116).symm) ?_
        refine g_goi hC rfl (z_runS hC (c_M_mixed l D K q hq _ _ _) yy_M_mixed ys_M_100 ⟨Nat.le_of_ble_eq_true rfl, Nat.le_of_ble_eq_true rfl⟩ ⟨Nat.zero_le _, Nat.zero_le _⟩ rfl (Nat.le_of_ble_eq_true rfl) d_M_sealed_124) (fun r2 σ2 q2 => ?_)
        obtain ⟨rfl, w2⟩ := q2
        obtain rfl := w2.symm
        refine g_istore_n hC d_M_sealed_127 rfl (by decide) ?_
        refine g_iload_n hC d_M_sealed_128 rfl rfl ?_
        refine g_aload_n hC d_M_sealed_129 rfl rfl ?_
        refine g_getR hC _ 5 10 _ (by decide) rfl rfl fl_M_38 d_M_sealed_130 rfl ?_
        refine g_iload_n hC d_M_sealed_133 rfl rfl ?_
        refine g_iald hC _ _ (32 + k) (by decide) rfl rfl (by show 32 + k < 36; omega) (by decide) d_M_sealed_134 rfl ?_
        refine g_goi hC rfl (z_runS hC (c_M_mixed l D K q hq _ _ _) yy_M_mixed ys_M_100 ⟨Nat.le_of_ble_eq_true rfl, Nat.le_of_ble_eq_true rfl⟩ ⟨Nat.zero_le _, Nat.zero_le _⟩ rfl (Nat.le_of_ble_eq_true rfl) d_M_sealed_135) (fun r3 σ3 q3 => ?_)
        obtain ⟨rfl, w3⟩ := q3
        obtain rfl := w3.symm
        refine g_istore_n hC d_M_sealed_138 rfl (by decide) ?_
        refine g_iload_n hC d_M_sealed_139 rfl rfl ?_
        refine g_aload_n hC d_M_sealed_140 rfl rfl ?_
        refine g_getR hC _ 5 11 _ (by decide) rfl rfl fl_M_41 d_M_sealed_141 rfl ?_
        refine g_iload_n hC d_M_sealed_144 rfl rfl ?_
        refine g_iald hC _ _ (32 + k) (by decide) rfl rfl (by show 32 + k < 36; omega) (by decide) d_M_sealed_145 rfl ?_
        refine g_goi hC rfl (z_runS hC (c_M_mixed l D K q hq _ _ _) yy_M_mixed ys_M_100 ⟨Nat.le_of_ble_eq_true rfl, Nat.le_of_ble_eq_true rfl⟩ ⟨Nat.zero_le _, Nat.zero_le _⟩ rfl (Nat.le_of_ble_eq_true rfl) d_M_sealed_146) (fun r4 σ4 q4 => ?_)
        obtain ⟨rfl, w4⟩ := q4
        obtain rfl := w4.symm
        refine g_istore_n hC d_M_sealed_149 rfl (by decide) ?_
        refine g_iinc hC (nI (32 + (k + 1))) d_M_sealed_150 rfl rfl (nI_succ _).symm (by decide) ?_
        refine g_goto hC 84 d_M_sealed_153 rfl ?_
        exact zG.to (ih (k + 1) (by omega)) rfl rfl ⟨rfl, congrArg (fun z => some (Value.int z)) (dgP_s (fun n => σ 112 (32 + n)) (fun n => if σ 113 (32 + n) = 0 then 0 else 1) (fun n => σ 114 (32 + n)) (fun n => σ 115 (32 + n)) (mgL (fun n => σ 110 (64 + n)) (zmix (zmix (zmix 17 (σ 104 14)) (σ 106 8)) (σ 109 8)) 8) k).symm, rfl, trivial⟩
      ·
        refine g_iconst hC (1) d_M_sealed_119 (by decide) rfl ?_
        refine g_top hC ((if σ 113 (32 + k) = 0 then 0 else 1)) ((if_neg h116).symm) ?_
        refine g_goto hC 124 d_M_sealed_120 rfl ?_
        refine g_goi hC rfl (z_runS hC (c_M_mixed l D K q hq _ _ _) yy_M_mixed ys_M_100 ⟨Nat.le_of_ble_eq_true rfl, Nat.le_of_ble_eq_true rfl⟩ ⟨Nat.zero_le _, Nat.zero_le _⟩ rfl (Nat.le_of_ble_eq_true rfl) d_M_sealed_124) (fun r5 σ5 q5 => ?_)
        obtain ⟨rfl, w5⟩ := q5
        obtain rfl := w5.symm
        refine g_istore_n hC d_M_sealed_127 rfl (by decide) ?_
        refine g_iload_n hC d_M_sealed_128 rfl rfl ?_
        refine g_aload_n hC d_M_sealed_129 rfl rfl ?_
        refine g_getR hC _ 5 10 _ (by decide) rfl rfl fl_M_38 d_M_sealed_130 rfl ?_
        refine g_iload_n hC d_M_sealed_133 rfl rfl ?_
        refine g_iald hC _ _ (32 + k) (by decide) rfl rfl (by show 32 + k < 36; omega) (by decide) d_M_sealed_134 rfl ?_
        refine g_goi hC rfl (z_runS hC (c_M_mixed l D K q hq _ _ _) yy_M_mixed ys_M_100 ⟨Nat.le_of_ble_eq_true rfl, Nat.le_of_ble_eq_true rfl⟩ ⟨Nat.zero_le _, Nat.zero_le _⟩ rfl (Nat.le_of_ble_eq_true rfl) d_M_sealed_135) (fun r6 σ6 q6 => ?_)
        obtain ⟨rfl, w6⟩ := q6
        obtain rfl := w6.symm
        refine g_istore_n hC d_M_sealed_138 rfl (by decide) ?_
        refine g_iload_n hC d_M_sealed_139 rfl rfl ?_
        refine g_aload_n hC d_M_sealed_140 rfl rfl ?_
        refine g_getR hC _ 5 11 _ (by decide) rfl rfl fl_M_41 d_M_sealed_141 rfl ?_
        refine g_iload_n hC d_M_sealed_144 rfl rfl ?_
        refine g_iald hC _ _ (32 + k) (by decide) rfl rfl (by show 32 + k < 36; omega) (by decide) d_M_sealed_145 rfl ?_
        refine g_goi hC rfl (z_runS hC (c_M_mixed l D K q hq _ _ _) yy_M_mixed ys_M_100 ⟨Nat.le_of_ble_eq_true rfl, Nat.le_of_ble_eq_true rfl⟩ ⟨Nat.zero_le _, Nat.zero_le _⟩ rfl (Nat.le_of_ble_eq_true rfl) d_M_sealed_146) (fun r7 σ7 q7 => ?_)
        obtain ⟨rfl, w7⟩ := q7
        obtain rfl := w7.symm
        refine g_istore_n hC d_M_sealed_149 rfl (by decide) ?_
        refine g_iinc hC (nI (32 + (k + 1))) d_M_sealed_150 rfl rfl (nI_succ _).symm (by decide) ?_
        refine g_goto hC 84 d_M_sealed_153 rfl ?_
        exact zG.to (ih (k + 1) (by omega)) rfl rfl ⟨rfl, congrArg (fun z => some (Value.int z)) (dgP_s (fun n => σ 112 (32 + n)) (fun n => if σ 113 (32 + n) = 0 then 0 else 1) (fun n => σ 114 (32 + n)) (fun n => σ 115 (32 + n)) (mgL (fun n => σ 110 (64 + n)) (zmix (zmix (zmix 17 (σ 104 14)) (σ 106 8)) (σ 109 8)) 8) k).symm, rfl, trivial⟩
  have J32 : ∀ (f : Nat) (k : Nat) (hif : k + f = 8), zG p l e (zrm 1) s m ([.ref (q (104))] : List Value).toArray below meth c D K q (zA q) 3 0 0 (MQ below (va_Qi (fun r σ' => r = wsea σ pn wn ∧ σ' = σ) (zO D K q) (zA q)) ([.ref (q (104))] : List Value).toArray s 0 0 (zA q)) σ 32 [(0, .ref (q (104))), (1, .int (mgL (fun n => σ 110 (64 + n)) (zmix (zmix (zmix 17 (σ 104 14)) (σ 106 8)) (σ 109 8)) k)), (2, .int (nI k))] [] := by
    intro f
    induction f with
    | zero =>
      intro k hif
      refine g_iload_n hC d_M_sealed_32 rfl rfl ?_
      refine g_bipush hC (8) d_M_sealed_33 (by decide) rfl ?_
      refine g_icmp_ge hC 81 d_M_sealed_35 rfl rfl (fun h35 => ?_) (fun h35 => absurd (nI_le (a := 8) (b := k) (by omega) (by omega)) h35)
      refine g_bipush hC (32) d_M_sealed_81 (by decide) rfl ?_
      refine g_istore_n hC d_M_sealed_83 rfl (by decide) ?_
      exact zG.to (J84 pn 0 (by omega)) rfl rfl ⟨rfl, congrArg (fun z => some (Value.int z)) (by rw [show k = 8 by omega]; rfl), rfl, trivial⟩
    | succ f ih =>
      intro k hif
      refine g_iload_n hC d_M_sealed_32 rfl rfl ?_
      refine g_bipush hC (8) d_M_sealed_33 (by decide) rfl ?_
      refine g_icmp_ge hC 81 d_M_sealed_35 rfl rfl (fun h35 => absurd h35 (nI_ge (a := k) (b := 8) (by omega) (by omega))) (fun h35 => ?_)
      refine g_aload_n hC d_M_sealed_38 rfl rfl ?_
      refine g_getR hC _ 5 6 _ (by decide) rfl rfl fl_M_26 d_M_sealed_39 rfl ?_
      refine g_bipush hC (64) d_M_sealed_42 (by decide) rfl ?_
      refine g_iload_n hC d_M_sealed_44 rfl rfl ?_
      refine g_iadd hC d_M_sealed_45 rfl ?_
      refine g_top hC (nI (64 + k)) (nI_add 64 k) ?_
      refine g_iald hC _ _ (64 + k) (by decide) rfl rfl (by show 64 + k < 72; omega) (by decide) d_M_sealed_46 rfl ?_
      refine g_if_eq hC 73 d_M_sealed_47 rfl rfl (fun h47 => ?_) (fun h47 => ?_)
      ·
        refine g_iload_n hC d_M_sealed_73 rfl rfl ?_
        refine g_istore_n hC d_M_sealed_74 rfl (by decide) ?_
        refine g_iinc hC (nI (k + 1)) d_M_sealed_75 rfl rfl (nI_succ _).symm (by decide) ?_
        refine g_goto hC 32 d_M_sealed_78 rfl ?_
        first | exact zG.to (ih (k + 1) (by omega)) rfl rfl ⟨rfl, congrArg (fun z => some (Value.int z)) (mgL_t (d := fun n => σ 110 (64 + n)) (h := (zmix (zmix (zmix 17 (σ 104 14)) (σ 106 8)) (σ 109 8))) (n := k) h47).symm, rfl, trivial⟩ | exact zG.to (ih (k + 1) (by omega)) rfl rfl ⟨rfl, congrArg (fun z => some (Value.int z)) (mgL_f (d := fun n => σ 110 (64 + n)) (h := (zmix (zmix (zmix 17 (σ 104 14)) (σ 106 8)) (σ 109 8))) (n := k) h47).symm, rfl, trivial⟩
      ·
        refine g_iload_n hC d_M_sealed_50 rfl rfl ?_
        refine g_bipush hC (10) d_M_sealed_51 (by decide) rfl ?_
        refine g_iload_n hC d_M_sealed_53 rfl rfl ?_
        refine g_imul hC d_M_sealed_54 rfl ?_
        refine g_aload_n hC d_M_sealed_55 rfl rfl ?_
        refine g_getR hC _ 5 6 _ (by decide) rfl rfl fl_M_26 d_M_sealed_56 rfl ?_
        refine g_bipush hC (64) d_M_sealed_59 (by decide) rfl ?_
        refine g_iload_n hC d_M_sealed_61 rfl rfl ?_
        refine g_iadd hC d_M_sealed_62 rfl ?_
        refine g_top hC (nI (64 + k)) (nI_add 64 k) ?_
        refine g_iald hC _ _ (64 + k) (by decide) rfl rfl (by show 64 + k < 72; omega) (by decide) d_M_sealed_63 rfl ?_
        refine g_iadd hC d_M_sealed_64 rfl ?_
        refine g_iconst hC (1) d_M_sealed_65 (by decide) rfl ?_
        refine g_isub hC d_M_sealed_66 rfl ?_
        refine g_goi hC rfl (z_runS hC (c_M_mixed l D K q hq _ _ _) yy_M_mixed ys_M_100 ⟨Nat.le_of_ble_eq_true rfl, Nat.le_of_ble_eq_true rfl⟩ ⟨Nat.zero_le _, Nat.zero_le _⟩ rfl (Nat.le_of_ble_eq_true rfl) d_M_sealed_67) (fun r8 σ8 q8 => ?_)
        obtain ⟨rfl, w8⟩ := q8
        obtain rfl := w8.symm
        refine g_goto hC 74 d_M_sealed_70 rfl ?_
        refine g_istore_n hC d_M_sealed_74 rfl (by decide) ?_
        refine g_iinc hC (nI (k + 1)) d_M_sealed_75 rfl rfl (nI_succ _).symm (by decide) ?_
        refine g_goto hC 32 d_M_sealed_78 rfl ?_
        first | exact zG.to (ih (k + 1) (by omega)) rfl rfl ⟨rfl, congrArg (fun z => some (Value.int z)) (mgL_t (d := fun n => σ 110 (64 + n)) (h := (zmix (zmix (zmix 17 (σ 104 14)) (σ 106 8)) (σ 109 8))) (n := k) h47).symm, rfl, trivial⟩ | exact zG.to (ih (k + 1) (by omega)) rfl rfl ⟨rfl, congrArg (fun z => some (Value.int z)) (mgL_f (d := fun n => σ 110 (64 + n)) (h := (zmix (zmix (zmix 17 (σ 104 14)) (σ 106 8)) (σ 109 8))) (n := k) h47).symm, rfl, trivial⟩
  refine g_bipush hC (17) d_M_sealed_0 (by decide) rfl ?_
  refine g_aload_n hC d_M_sealed_2 rfl rfl ?_
  refine g_getI hC _ 5 14 (by decide) rfl rfl fl_M_97 d_M_sealed_3 rfl ?_
  refine g_goi hC rfl (z_runS hC (c_M_mixed l D K q hq _ _ _) yy_M_mixed ys_M_100 ⟨Nat.le_of_ble_eq_true rfl, Nat.le_of_ble_eq_true rfl⟩ ⟨Nat.zero_le _, Nat.zero_le _⟩ rfl (Nat.le_of_ble_eq_true rfl) d_M_sealed_6) (fun r9 σ9 q9 => ?_)
  obtain ⟨rfl, w9⟩ := q9
  obtain rfl := w9.symm
  refine g_aload_n hC d_M_sealed_9 rfl rfl ?_
  refine g_getR hC _ 5 2 _ (by decide) rfl rfl fl_M_13 d_M_sealed_10 rfl ?_
  refine g_bipush hC (8) d_M_sealed_13 (by decide) rfl ?_
  refine g_iald hC _ _ 8 (by decide) rfl (by decide) (by decide) (by decide) d_M_sealed_15 rfl ?_
  refine g_goi hC rfl (z_runS hC (c_M_mixed l D K q hq _ _ _) yy_M_mixed ys_M_100 ⟨Nat.le_of_ble_eq_true rfl, Nat.le_of_ble_eq_true rfl⟩ ⟨Nat.zero_le _, Nat.zero_le _⟩ rfl (Nat.le_of_ble_eq_true rfl) d_M_sealed_16) (fun r10 σ10 q10 => ?_)
  obtain ⟨rfl, w10⟩ := q10
  obtain rfl := w10.symm
  refine g_aload_n hC d_M_sealed_19 rfl rfl ?_
  refine g_getR hC _ 5 5 _ (by decide) rfl rfl fl_M_23 d_M_sealed_20 rfl ?_
  refine g_bipush hC (8) d_M_sealed_23 (by decide) rfl ?_
  refine g_iald hC _ _ 8 (by decide) rfl (by decide) (by decide) (by decide) d_M_sealed_25 rfl ?_
  refine g_goi hC rfl (z_runS hC (c_M_mixed l D K q hq _ _ _) yy_M_mixed ys_M_100 ⟨Nat.le_of_ble_eq_true rfl, Nat.le_of_ble_eq_true rfl⟩ ⟨Nat.zero_le _, Nat.zero_le _⟩ rfl (Nat.le_of_ble_eq_true rfl) d_M_sealed_26) (fun r11 σ11 q11 => ?_)
  obtain ⟨rfl, w11⟩ := q11
  obtain rfl := w11.symm
  refine g_istore_n hC d_M_sealed_29 rfl (by decide) ?_
  refine g_iconst hC (0) d_M_sealed_30 (by decide) rfl ?_
  refine g_istore_n hC d_M_sealed_31 rfl (by decide) ?_
  exact zG.to (J32 8 0 (by omega)) rfl rfl ⟨rfl, rfl, rfl, trivial⟩
set_option maxHeartbeats 4000000 in
set_option maxRecDepth 100000 in
theorem c_M_sign (l : Launch) (D : va_G) (K : Nat → ClassId) (q : Nat → Nat) (hq : zI q) (σ : zm) (pn wn : Nat) (hpn : pn ≤ 4) (hwn : wn ≤ 24) (hpc : σ 111 8 = nI pn) (hwc : σ 116 8 = nI wn) : zMi l y_M_sign b_M_sign 1 (some .int) 2 D K q [.ref (q (104))] σ (fun r σ' => r = wsea (wz σ) pn wn ∧ σ' = zu (wz σ) 108 8 (wsea (wz σ) pn wn)) := by
  refine zMi.of (own := "AppDeskModel") (lv := [(0, .ref (q (104)))]) (by decide) rfl hq (Nat.le_of_ble_eq_true rfl) rfl ?_
  intro p e s m below meth c hC hr hlk
  refine g_aload_n hC d_M_sign_0 rfl rfl ?_
  refine g_iconst hC (0) d_M_sign_1 (by decide) rfl ?_
  refine g_putI hC _ 5 0 (by decide) rfl rfl fp_M_90 d_M_sign_2 rfl ?_
  refine g_aload_n hC d_M_sign_5 rfl rfl ?_
  refine g_getR hC _ 5 4 _ (by decide) rfl rfl fl_M_20 d_M_sign_6 rfl ?_
  refine g_bipush hC (8) d_M_sign_9 (by decide) rfl ?_
  refine g_aload_n hC d_M_sign_11 rfl rfl ?_
  refine g_goi hC rfl (z_runV hC (c_M_sealed l D K q hq _ pn wn hpn hwn (by rw [zu_row _ _ (by decide)]; exact hpc) (by rw [zu_row _ _ (by decide)]; exact hwc)) yy_M_sealed yv_M_105 (by decide) rfl ⟨Nat.le_of_ble_eq_true rfl, Nat.le_of_ble_eq_true rfl⟩ ⟨Nat.zero_le _, Nat.zero_le _⟩ rfl (Nat.le_of_ble_eq_true rfl) d_M_sign_12) (fun r0 σ0 q0 => ?_)
  obtain ⟨rfl, w0⟩ := q0
  obtain rfl := w0.symm
  refine g_iast hC _ _ 8 (by decide) rfl (by decide) (by decide) (by decide) d_M_sign_15 rfl ?_
  refine g_aload_n hC d_M_sign_16 rfl rfl ?_
  refine g_getR hC _ 5 4 _ (by decide) rfl rfl fl_M_20 d_M_sign_17 rfl ?_
  refine g_bipush hC (8) d_M_sign_20 (by decide) rfl ?_
  refine g_ialdV hC _ _ 8 (wsea (wz σ) pn wn) (zu_eq _ _ _ _) (by decide) rfl (by decide) (by decide) (by decide) d_M_sign_22 rfl ?_
  exact g_iret hC hr hlk d_M_sign_23 ⟨rfl, rfl⟩
set_option maxHeartbeats 4000000 in
set_option maxRecDepth 100000 in
theorem c_M_seal (l : Launch) (D : va_G) (K : Nat → ClassId) (q : Nat → Nat) (hq : zI q) (x : Int32) (σ : zm) : zMv l y_M_seal b_M_seal 2 none 0 D K q [.ref (q (104)), .int (x)] σ (fun σ' => σ' = zu (wz σ) 108 8 x) := by
  refine zMv.of (own := "AppDeskModel") (lv := [(0, .ref (q (104))), (1, .int (x))]) (by decide) rfl hq (Nat.le_of_ble_eq_true rfl) rfl ?_
  intro p e s m below meth c hC hr hlk
  refine g_aload_n hC d_M_seal_0 rfl rfl ?_
  refine g_iconst hC (0) d_M_seal_1 (by decide) rfl ?_
  refine g_putI hC _ 5 0 (by decide) rfl rfl fp_M_90 d_M_seal_2 rfl ?_
  refine g_aload_n hC d_M_seal_5 rfl rfl ?_
  refine g_getR hC _ 5 4 _ (by decide) rfl rfl fl_M_20 d_M_seal_6 rfl ?_
  refine g_bipush hC (8) d_M_seal_9 (by decide) rfl ?_
  refine g_iload_n hC d_M_seal_11 rfl rfl ?_
  refine g_iast hC _ _ 8 (by decide) rfl (by decide) (by decide) (by decide) d_M_seal_12 rfl ?_
  exact g_vret hC hr hlk d_M_seal_13 rfl
set_option maxHeartbeats 4000000 in
set_option maxRecDepth 100000 in
theorem c_M_needs (l : Launch) (D : va_G) (K : Nat → ClassId) (q : Nat → Nat) (hq : zI q) (o : Int32) (σ : zm) : zMi l y_M_needs b_M_needs 1 (some .int) 0 D K q [.int (o)] σ (fun r σ' => r = wnd o ∧ σ' = σ) := by
  refine zMi.of (own := "AppDeskModel") (lv := [(0, .int (o))]) (by decide) rfl hq (Nat.le_of_ble_eq_true rfl) rfl ?_
  intro p e s m below meth c hC hr hlk
  refine g_iload_n hC d_M_needs_0 rfl rfl ?_
  refine g_iconst hC (2) d_M_needs_1 (by decide) rfl ?_
  refine g_icmp_eq hC 22 d_M_needs_2 rfl rfl (fun h2 => ?_) (fun h2 => ?_)
  ·
    refine g_iconst hC (2) d_M_needs_22 (by decide) rfl ?_
    refine g_goto hC 59 d_M_needs_23 rfl ?_
    exact g_iret hC hr hlk d_M_needs_59 ⟨by first | (simp [wnd, h2]; done) | (simp [wnd, h2, h7]; done) | (simp [wnd, h2, h7, h13]; done) | (simp [wnd, h2, h7, h13, h19]; done) | (simp [wnd, h2, h7, h13, h19, h28]; done) | (simp [wnd, h2, h7, h13, h19, h28, h33]; done) | (simp [wnd, h2, h7, h13, h19, h28, h33, h39]; done) | (simp [wnd, h2, h7, h13, h19, h28, h33, h39, h45]; done) | (simp [wnd, h2, h7, h13, h19, h28, h33, h39, h45, h51]; done), rfl⟩
  ·
    refine g_iload_n hC d_M_needs_5 rfl rfl ?_
    refine g_iconst hC (3) d_M_needs_6 (by decide) rfl ?_
    refine g_icmp_eq hC 22 d_M_needs_7 rfl rfl (fun h7 => ?_) (fun h7 => ?_)
    ·
      refine g_iconst hC (2) d_M_needs_22 (by decide) rfl ?_
      refine g_goto hC 59 d_M_needs_23 rfl ?_
      exact g_iret hC hr hlk d_M_needs_59 ⟨by first | (simp [wnd, h2]; done) | (simp [wnd, h2, h7]; done) | (simp [wnd, h2, h7, h13]; done) | (simp [wnd, h2, h7, h13, h19]; done) | (simp [wnd, h2, h7, h13, h19, h28]; done) | (simp [wnd, h2, h7, h13, h19, h28, h33]; done) | (simp [wnd, h2, h7, h13, h19, h28, h33, h39]; done) | (simp [wnd, h2, h7, h13, h19, h28, h33, h39, h45]; done) | (simp [wnd, h2, h7, h13, h19, h28, h33, h39, h45, h51]; done), rfl⟩
    ·
      refine g_iload_n hC d_M_needs_10 rfl rfl ?_
      refine g_bipush hC (11) d_M_needs_11 (by decide) rfl ?_
      refine g_icmp_eq hC 22 d_M_needs_13 rfl rfl (fun h13 => ?_) (fun h13 => ?_)
      ·
        refine g_iconst hC (2) d_M_needs_22 (by decide) rfl ?_
        refine g_goto hC 59 d_M_needs_23 rfl ?_
        exact g_iret hC hr hlk d_M_needs_59 ⟨by first | (simp [wnd, h2]; done) | (simp [wnd, h2, h7]; done) | (simp [wnd, h2, h7, h13]; done) | (simp [wnd, h2, h7, h13, h19]; done) | (simp [wnd, h2, h7, h13, h19, h28]; done) | (simp [wnd, h2, h7, h13, h19, h28, h33]; done) | (simp [wnd, h2, h7, h13, h19, h28, h33, h39]; done) | (simp [wnd, h2, h7, h13, h19, h28, h33, h39, h45]; done) | (simp [wnd, h2, h7, h13, h19, h28, h33, h39, h45, h51]; done), rfl⟩
      ·
        refine g_iload_n hC d_M_needs_16 rfl rfl ?_
        refine g_bipush hC (12) d_M_needs_17 (by decide) rfl ?_
        refine g_icmp_ne hC 26 d_M_needs_19 rfl rfl (fun h19 => ?_) (fun h19 => ?_)
        ·
          refine g_iload_n hC d_M_needs_26 rfl rfl ?_
          refine g_iconst hC (4) d_M_needs_27 (by decide) rfl ?_
          refine g_icmp_eq hC 54 d_M_needs_28 rfl rfl (fun h28 => ?_) (fun h28 => ?_)
          ·
            refine g_iconst hC (1) d_M_needs_54 (by decide) rfl ?_
            refine g_goto hC 59 d_M_needs_55 rfl ?_
            exact g_iret hC hr hlk d_M_needs_59 ⟨by first | (simp [wnd, h2]; done) | (simp [wnd, h2, h7]; done) | (simp [wnd, h2, h7, h13]; done) | (simp [wnd, h2, h7, h13, h19]; done) | (simp [wnd, h2, h7, h13, h19, h28]; done) | (simp [wnd, h2, h7, h13, h19, h28, h33]; done) | (simp [wnd, h2, h7, h13, h19, h28, h33, h39]; done) | (simp [wnd, h2, h7, h13, h19, h28, h33, h39, h45]; done) | (simp [wnd, h2, h7, h13, h19, h28, h33, h39, h45, h51]; done), rfl⟩
          ·
            refine g_iload_n hC d_M_needs_31 rfl rfl ?_
            refine g_iconst hC (5) d_M_needs_32 (by decide) rfl ?_
            refine g_icmp_eq hC 54 d_M_needs_33 rfl rfl (fun h33 => ?_) (fun h33 => ?_)
            ·
              refine g_iconst hC (1) d_M_needs_54 (by decide) rfl ?_
              refine g_goto hC 59 d_M_needs_55 rfl ?_
              exact g_iret hC hr hlk d_M_needs_59 ⟨by first | (simp [wnd, h2]; done) | (simp [wnd, h2, h7]; done) | (simp [wnd, h2, h7, h13]; done) | (simp [wnd, h2, h7, h13, h19]; done) | (simp [wnd, h2, h7, h13, h19, h28]; done) | (simp [wnd, h2, h7, h13, h19, h28, h33]; done) | (simp [wnd, h2, h7, h13, h19, h28, h33, h39]; done) | (simp [wnd, h2, h7, h13, h19, h28, h33, h39, h45]; done) | (simp [wnd, h2, h7, h13, h19, h28, h33, h39, h45, h51]; done), rfl⟩
            ·
              refine g_iload_n hC d_M_needs_36 rfl rfl ?_
              refine g_bipush hC (7) d_M_needs_37 (by decide) rfl ?_
              refine g_icmp_eq hC 54 d_M_needs_39 rfl rfl (fun h39 => ?_) (fun h39 => ?_)
              ·
                refine g_iconst hC (1) d_M_needs_54 (by decide) rfl ?_
                refine g_goto hC 59 d_M_needs_55 rfl ?_
                exact g_iret hC hr hlk d_M_needs_59 ⟨by first | (simp [wnd, h2]; done) | (simp [wnd, h2, h7]; done) | (simp [wnd, h2, h7, h13]; done) | (simp [wnd, h2, h7, h13, h19]; done) | (simp [wnd, h2, h7, h13, h19, h28]; done) | (simp [wnd, h2, h7, h13, h19, h28, h33]; done) | (simp [wnd, h2, h7, h13, h19, h28, h33, h39]; done) | (simp [wnd, h2, h7, h13, h19, h28, h33, h39, h45]; done) | (simp [wnd, h2, h7, h13, h19, h28, h33, h39, h45, h51]; done), rfl⟩
              ·
                refine g_iload_n hC d_M_needs_42 rfl rfl ?_
                refine g_bipush hC (9) d_M_needs_43 (by decide) rfl ?_
                refine g_icmp_eq hC 54 d_M_needs_45 rfl rfl (fun h45 => ?_) (fun h45 => ?_)
                ·
                  refine g_iconst hC (1) d_M_needs_54 (by decide) rfl ?_
                  refine g_goto hC 59 d_M_needs_55 rfl ?_
                  exact g_iret hC hr hlk d_M_needs_59 ⟨by first | (simp [wnd, h2]; done) | (simp [wnd, h2, h7]; done) | (simp [wnd, h2, h7, h13]; done) | (simp [wnd, h2, h7, h13, h19]; done) | (simp [wnd, h2, h7, h13, h19, h28]; done) | (simp [wnd, h2, h7, h13, h19, h28, h33]; done) | (simp [wnd, h2, h7, h13, h19, h28, h33, h39]; done) | (simp [wnd, h2, h7, h13, h19, h28, h33, h39, h45]; done) | (simp [wnd, h2, h7, h13, h19, h28, h33, h39, h45, h51]; done), rfl⟩
                ·
                  refine g_iload_n hC d_M_needs_48 rfl rfl ?_
                  refine g_bipush hC (10) d_M_needs_49 (by decide) rfl ?_
                  refine g_icmp_ne hC 58 d_M_needs_51 rfl rfl (fun h51 => ?_) (fun h51 => ?_)
                  ·
                    refine g_iconst hC (0) d_M_needs_58 (by decide) rfl ?_
                    exact g_iret hC hr hlk d_M_needs_59 ⟨by first | (simp [wnd, h2]; done) | (simp [wnd, h2, h7]; done) | (simp [wnd, h2, h7, h13]; done) | (simp [wnd, h2, h7, h13, h19]; done) | (simp [wnd, h2, h7, h13, h19, h28]; done) | (simp [wnd, h2, h7, h13, h19, h28, h33]; done) | (simp [wnd, h2, h7, h13, h19, h28, h33, h39]; done) | (simp [wnd, h2, h7, h13, h19, h28, h33, h39, h45]; done) | (simp [wnd, h2, h7, h13, h19, h28, h33, h39, h45, h51]; done), rfl⟩
                  ·
                    refine g_iconst hC (1) d_M_needs_54 (by decide) rfl ?_
                    refine g_goto hC 59 d_M_needs_55 rfl ?_
                    exact g_iret hC hr hlk d_M_needs_59 ⟨by first | (simp [wnd, h2]; done) | (simp [wnd, h2, h7]; done) | (simp [wnd, h2, h7, h13]; done) | (simp [wnd, h2, h7, h13, h19]; done) | (simp [wnd, h2, h7, h13, h19, h28]; done) | (simp [wnd, h2, h7, h13, h19, h28, h33]; done) | (simp [wnd, h2, h7, h13, h19, h28, h33, h39]; done) | (simp [wnd, h2, h7, h13, h19, h28, h33, h39, h45]; done) | (simp [wnd, h2, h7, h13, h19, h28, h33, h39, h45, h51]; done), rfl⟩
        ·
          refine g_iconst hC (2) d_M_needs_22 (by decide) rfl ?_
          refine g_goto hC 59 d_M_needs_23 rfl ?_
          exact g_iret hC hr hlk d_M_needs_59 ⟨by first | (simp [wnd, h2]; done) | (simp [wnd, h2, h7]; done) | (simp [wnd, h2, h7, h13]; done) | (simp [wnd, h2, h7, h13, h19]; done) | (simp [wnd, h2, h7, h13, h19, h28]; done) | (simp [wnd, h2, h7, h13, h19, h28, h33]; done) | (simp [wnd, h2, h7, h13, h19, h28, h33, h39]; done) | (simp [wnd, h2, h7, h13, h19, h28, h33, h39, h45]; done) | (simp [wnd, h2, h7, h13, h19, h28, h33, h39, h45, h51]; done), rfl⟩
set_option maxHeartbeats 4000000 in
set_option maxRecDepth 100000 in
theorem c_M_change (l : Launch) (D : va_G) (K : Nat → ClassId) (q : Nat → Nat) (hq : zI q) (o : Int32) (σ : zm) : zMi l y_M_change b_M_change 1 (some .int) 0 D K q [.int (o)] σ (fun r σ' => r = wch o ∧ σ' = σ) := by
  refine zMi.of (own := "AppDeskModel") (lv := [(0, .int (o))]) (by decide) rfl hq (Nat.le_of_ble_eq_true rfl) rfl ?_
  intro p e s m below meth c hC hr hlk
  refine g_iload_n hC d_M_change_0 rfl rfl ?_
  refine g_iconst hC (1) d_M_change_1 (by decide) rfl ?_
  refine g_icmp_eq hC 22 d_M_change_2 rfl rfl (fun h2 => ?_) (fun h2 => ?_)
  ·
    refine g_iconst hC (1) d_M_change_22 (by decide) rfl ?_
    refine g_goto hC 75 d_M_change_23 rfl ?_
    exact g_iret hC hr hlk d_M_change_75 ⟨by first | (simp [wch, h2]; done) | (simp [wch, h2, h7]; done) | (simp [wch, h2, h7, h13]; done) | (simp [wch, h2, h7, h13, h19]; done) | (simp [wch, h2, h7, h13, h19, h28]; done) | (simp [wch, h2, h7, h13, h19, h28, h33]; done) | (simp [wch, h2, h7, h13, h19, h28, h33, h38]; done) | (simp [wch, h2, h7, h13, h19, h28, h33, h38, h44]; done) | (simp [wch, h2, h7, h13, h19, h28, h33, h38, h44, h50]; done) | (simp [wch, h2, h7, h13, h19, h28, h33, h38, h44, h50, h60]; done) | (simp [wch, h2, h7, h13, h19, h28, h33, h38, h44, h50, h60, h66]; done), rfl⟩
  ·
    refine g_iload_n hC d_M_change_5 rfl rfl ?_
    refine g_iconst hC (4) d_M_change_6 (by decide) rfl ?_
    refine g_icmp_eq hC 22 d_M_change_7 rfl rfl (fun h7 => ?_) (fun h7 => ?_)
    ·
      refine g_iconst hC (1) d_M_change_22 (by decide) rfl ?_
      refine g_goto hC 75 d_M_change_23 rfl ?_
      exact g_iret hC hr hlk d_M_change_75 ⟨by first | (simp [wch, h2]; done) | (simp [wch, h2, h7]; done) | (simp [wch, h2, h7, h13]; done) | (simp [wch, h2, h7, h13, h19]; done) | (simp [wch, h2, h7, h13, h19, h28]; done) | (simp [wch, h2, h7, h13, h19, h28, h33]; done) | (simp [wch, h2, h7, h13, h19, h28, h33, h38]; done) | (simp [wch, h2, h7, h13, h19, h28, h33, h38, h44]; done) | (simp [wch, h2, h7, h13, h19, h28, h33, h38, h44, h50]; done) | (simp [wch, h2, h7, h13, h19, h28, h33, h38, h44, h50, h60]; done) | (simp [wch, h2, h7, h13, h19, h28, h33, h38, h44, h50, h60, h66]; done), rfl⟩
    ·
      refine g_iload_n hC d_M_change_10 rfl rfl ?_
      refine g_bipush hC (6) d_M_change_11 (by decide) rfl ?_
      refine g_icmp_eq hC 22 d_M_change_13 rfl rfl (fun h13 => ?_) (fun h13 => ?_)
      ·
        refine g_iconst hC (1) d_M_change_22 (by decide) rfl ?_
        refine g_goto hC 75 d_M_change_23 rfl ?_
        exact g_iret hC hr hlk d_M_change_75 ⟨by first | (simp [wch, h2]; done) | (simp [wch, h2, h7]; done) | (simp [wch, h2, h7, h13]; done) | (simp [wch, h2, h7, h13, h19]; done) | (simp [wch, h2, h7, h13, h19, h28]; done) | (simp [wch, h2, h7, h13, h19, h28, h33]; done) | (simp [wch, h2, h7, h13, h19, h28, h33, h38]; done) | (simp [wch, h2, h7, h13, h19, h28, h33, h38, h44]; done) | (simp [wch, h2, h7, h13, h19, h28, h33, h38, h44, h50]; done) | (simp [wch, h2, h7, h13, h19, h28, h33, h38, h44, h50, h60]; done) | (simp [wch, h2, h7, h13, h19, h28, h33, h38, h44, h50, h60, h66]; done), rfl⟩
      ·
        refine g_iload_n hC d_M_change_16 rfl rfl ?_
        refine g_bipush hC (13) d_M_change_17 (by decide) rfl ?_
        refine g_icmp_ne hC 26 d_M_change_19 rfl rfl (fun h19 => ?_) (fun h19 => ?_)
        ·
          refine g_iload_n hC d_M_change_26 rfl rfl ?_
          refine g_iconst hC (2) d_M_change_27 (by decide) rfl ?_
          refine g_icmp_eq hC 53 d_M_change_28 rfl rfl (fun h28 => ?_) (fun h28 => ?_)
          ·
            refine g_iconst hC (-1) d_M_change_53 (by decide) rfl ?_
            refine g_goto hC 75 d_M_change_54 rfl ?_
            exact g_iret hC hr hlk d_M_change_75 ⟨by first | (simp [wch, h2]; done) | (simp [wch, h2, h7]; done) | (simp [wch, h2, h7, h13]; done) | (simp [wch, h2, h7, h13, h19]; done) | (simp [wch, h2, h7, h13, h19, h28]; done) | (simp [wch, h2, h7, h13, h19, h28, h33]; done) | (simp [wch, h2, h7, h13, h19, h28, h33, h38]; done) | (simp [wch, h2, h7, h13, h19, h28, h33, h38, h44]; done) | (simp [wch, h2, h7, h13, h19, h28, h33, h38, h44, h50]; done) | (simp [wch, h2, h7, h13, h19, h28, h33, h38, h44, h50, h60]; done) | (simp [wch, h2, h7, h13, h19, h28, h33, h38, h44, h50, h60, h66]; done), rfl⟩
          ·
            refine g_iload_n hC d_M_change_31 rfl rfl ?_
            refine g_iconst hC (3) d_M_change_32 (by decide) rfl ?_
            refine g_icmp_eq hC 53 d_M_change_33 rfl rfl (fun h33 => ?_) (fun h33 => ?_)
            ·
              refine g_iconst hC (-1) d_M_change_53 (by decide) rfl ?_
              refine g_goto hC 75 d_M_change_54 rfl ?_
              exact g_iret hC hr hlk d_M_change_75 ⟨by first | (simp [wch, h2]; done) | (simp [wch, h2, h7]; done) | (simp [wch, h2, h7, h13]; done) | (simp [wch, h2, h7, h13, h19]; done) | (simp [wch, h2, h7, h13, h19, h28]; done) | (simp [wch, h2, h7, h13, h19, h28, h33]; done) | (simp [wch, h2, h7, h13, h19, h28, h33, h38]; done) | (simp [wch, h2, h7, h13, h19, h28, h33, h38, h44]; done) | (simp [wch, h2, h7, h13, h19, h28, h33, h38, h44, h50]; done) | (simp [wch, h2, h7, h13, h19, h28, h33, h38, h44, h50, h60]; done) | (simp [wch, h2, h7, h13, h19, h28, h33, h38, h44, h50, h60, h66]; done), rfl⟩
            ·
              refine g_iload_n hC d_M_change_36 rfl rfl ?_
              refine g_iconst hC (5) d_M_change_37 (by decide) rfl ?_
              refine g_icmp_eq hC 53 d_M_change_38 rfl rfl (fun h38 => ?_) (fun h38 => ?_)
              ·
                refine g_iconst hC (-1) d_M_change_53 (by decide) rfl ?_
                refine g_goto hC 75 d_M_change_54 rfl ?_
                exact g_iret hC hr hlk d_M_change_75 ⟨by first | (simp [wch, h2]; done) | (simp [wch, h2, h7]; done) | (simp [wch, h2, h7, h13]; done) | (simp [wch, h2, h7, h13, h19]; done) | (simp [wch, h2, h7, h13, h19, h28]; done) | (simp [wch, h2, h7, h13, h19, h28, h33]; done) | (simp [wch, h2, h7, h13, h19, h28, h33, h38]; done) | (simp [wch, h2, h7, h13, h19, h28, h33, h38, h44]; done) | (simp [wch, h2, h7, h13, h19, h28, h33, h38, h44, h50]; done) | (simp [wch, h2, h7, h13, h19, h28, h33, h38, h44, h50, h60]; done) | (simp [wch, h2, h7, h13, h19, h28, h33, h38, h44, h50, h60, h66]; done), rfl⟩
              ·
                refine g_iload_n hC d_M_change_41 rfl rfl ?_
                refine g_bipush hC (7) d_M_change_42 (by decide) rfl ?_
                refine g_icmp_eq hC 53 d_M_change_44 rfl rfl (fun h44 => ?_) (fun h44 => ?_)
                ·
                  refine g_iconst hC (-1) d_M_change_53 (by decide) rfl ?_
                  refine g_goto hC 75 d_M_change_54 rfl ?_
                  exact g_iret hC hr hlk d_M_change_75 ⟨by first | (simp [wch, h2]; done) | (simp [wch, h2, h7]; done) | (simp [wch, h2, h7, h13]; done) | (simp [wch, h2, h7, h13, h19]; done) | (simp [wch, h2, h7, h13, h19, h28]; done) | (simp [wch, h2, h7, h13, h19, h28, h33]; done) | (simp [wch, h2, h7, h13, h19, h28, h33, h38]; done) | (simp [wch, h2, h7, h13, h19, h28, h33, h38, h44]; done) | (simp [wch, h2, h7, h13, h19, h28, h33, h38, h44, h50]; done) | (simp [wch, h2, h7, h13, h19, h28, h33, h38, h44, h50, h60]; done) | (simp [wch, h2, h7, h13, h19, h28, h33, h38, h44, h50, h60, h66]; done), rfl⟩
                ·
                  refine g_iload_n hC d_M_change_47 rfl rfl ?_
                  refine g_bipush hC (9) d_M_change_48 (by decide) rfl ?_
                  refine g_icmp_ne hC 57 d_M_change_50 rfl rfl (fun h50 => ?_) (fun h50 => ?_)
                  ·
                    refine g_iload_n hC d_M_change_57 rfl rfl ?_
                    refine g_bipush hC (11) d_M_change_58 (by decide) rfl ?_
                    refine g_icmp_eq hC 69 d_M_change_60 rfl rfl (fun h60 => ?_) (fun h60 => ?_)
                    ·
                      refine g_bipush hC (-2) d_M_change_69 (by decide) rfl ?_
                      refine g_goto hC 75 d_M_change_71 rfl ?_
                      exact g_iret hC hr hlk d_M_change_75 ⟨by first | (simp [wch, h2]; done) | (simp [wch, h2, h7]; done) | (simp [wch, h2, h7, h13]; done) | (simp [wch, h2, h7, h13, h19]; done) | (simp [wch, h2, h7, h13, h19, h28]; done) | (simp [wch, h2, h7, h13, h19, h28, h33]; done) | (simp [wch, h2, h7, h13, h19, h28, h33, h38]; done) | (simp [wch, h2, h7, h13, h19, h28, h33, h38, h44]; done) | (simp [wch, h2, h7, h13, h19, h28, h33, h38, h44, h50]; done) | (simp [wch, h2, h7, h13, h19, h28, h33, h38, h44, h50, h60]; done) | (simp [wch, h2, h7, h13, h19, h28, h33, h38, h44, h50, h60, h66]; done), rfl⟩
                    ·
                      refine g_iload_n hC d_M_change_63 rfl rfl ?_
                      refine g_bipush hC (12) d_M_change_64 (by decide) rfl ?_
                      refine g_icmp_ne hC 74 d_M_change_66 rfl rfl (fun h66 => ?_) (fun h66 => ?_)
                      ·
                        refine g_iconst hC (0) d_M_change_74 (by decide) rfl ?_
                        exact g_iret hC hr hlk d_M_change_75 ⟨by first | (simp [wch, h2]; done) | (simp [wch, h2, h7]; done) | (simp [wch, h2, h7, h13]; done) | (simp [wch, h2, h7, h13, h19]; done) | (simp [wch, h2, h7, h13, h19, h28]; done) | (simp [wch, h2, h7, h13, h19, h28, h33]; done) | (simp [wch, h2, h7, h13, h19, h28, h33, h38]; done) | (simp [wch, h2, h7, h13, h19, h28, h33, h38, h44]; done) | (simp [wch, h2, h7, h13, h19, h28, h33, h38, h44, h50]; done) | (simp [wch, h2, h7, h13, h19, h28, h33, h38, h44, h50, h60]; done) | (simp [wch, h2, h7, h13, h19, h28, h33, h38, h44, h50, h60, h66]; done), rfl⟩
                      ·
                        refine g_bipush hC (-2) d_M_change_69 (by decide) rfl ?_
                        refine g_goto hC 75 d_M_change_71 rfl ?_
                        exact g_iret hC hr hlk d_M_change_75 ⟨by first | (simp [wch, h2]; done) | (simp [wch, h2, h7]; done) | (simp [wch, h2, h7, h13]; done) | (simp [wch, h2, h7, h13, h19]; done) | (simp [wch, h2, h7, h13, h19, h28]; done) | (simp [wch, h2, h7, h13, h19, h28, h33]; done) | (simp [wch, h2, h7, h13, h19, h28, h33, h38]; done) | (simp [wch, h2, h7, h13, h19, h28, h33, h38, h44]; done) | (simp [wch, h2, h7, h13, h19, h28, h33, h38, h44, h50]; done) | (simp [wch, h2, h7, h13, h19, h28, h33, h38, h44, h50, h60]; done) | (simp [wch, h2, h7, h13, h19, h28, h33, h38, h44, h50, h60, h66]; done), rfl⟩
                  ·
                    refine g_iconst hC (-1) d_M_change_53 (by decide) rfl ?_
                    refine g_goto hC 75 d_M_change_54 rfl ?_
                    exact g_iret hC hr hlk d_M_change_75 ⟨by first | (simp [wch, h2]; done) | (simp [wch, h2, h7]; done) | (simp [wch, h2, h7, h13]; done) | (simp [wch, h2, h7, h13, h19]; done) | (simp [wch, h2, h7, h13, h19, h28]; done) | (simp [wch, h2, h7, h13, h19, h28, h33]; done) | (simp [wch, h2, h7, h13, h19, h28, h33, h38]; done) | (simp [wch, h2, h7, h13, h19, h28, h33, h38, h44]; done) | (simp [wch, h2, h7, h13, h19, h28, h33, h38, h44, h50]; done) | (simp [wch, h2, h7, h13, h19, h28, h33, h38, h44, h50, h60]; done) | (simp [wch, h2, h7, h13, h19, h28, h33, h38, h44, h50, h60, h66]; done), rfl⟩
        ·
          refine g_iconst hC (1) d_M_change_22 (by decide) rfl ?_
          refine g_goto hC 75 d_M_change_23 rfl ?_
          exact g_iret hC hr hlk d_M_change_75 ⟨by first | (simp [wch, h2]; done) | (simp [wch, h2, h7]; done) | (simp [wch, h2, h7, h13]; done) | (simp [wch, h2, h7, h13, h19]; done) | (simp [wch, h2, h7, h13, h19, h28]; done) | (simp [wch, h2, h7, h13, h19, h28, h33]; done) | (simp [wch, h2, h7, h13, h19, h28, h33, h38]; done) | (simp [wch, h2, h7, h13, h19, h28, h33, h38, h44]; done) | (simp [wch, h2, h7, h13, h19, h28, h33, h38, h44, h50]; done) | (simp [wch, h2, h7, h13, h19, h28, h33, h38, h44, h50, h60]; done) | (simp [wch, h2, h7, h13, h19, h28, h33, h38, h44, h50, h60, h66]; done), rfl⟩
set_option maxHeartbeats 4000000 in
set_option maxRecDepth 100000 in
theorem c_M_comes (l : Launch) (D : va_G) (K : Nat → ClassId) (q : Nat → Nat) (hq : zI q) (x h0 : Int32) (wn : Nat) (hwn : wn ≤ 24) (σ : zm) (hwc : σ 116 8 = nI wn) : zMi l y_M_comes b_M_comes 3 (some .boolean) 1 D K q [.ref (q (104)), .int (x), .int (h0)] σ (fun r σ' => r = zb (wcm σ wn x h0).1 ∧ σ' = (wcm σ wn x h0).2) := by
  refine zMi.of (own := "AppDeskModel") (lv := [(0, .ref (q (104))), (1, .int (x)), (2, .int (h0))]) (by decide) rfl hq (Nat.le_of_ble_eq_true rfl) rfl ?_
  intro p e s m below meth c hC hr hlk
  refine g_iload_n hC d_M_comes_0 rfl rfl ?_
  refine g_aload_n hC d_M_comes_1 rfl rfl ?_
  refine g_getR hC _ 5 12 _ (by decide) rfl rfl fl_M_44 d_M_comes_2 rfl ?_
  refine g_bipush hC (8) d_M_comes_5 (by decide) rfl ?_
  refine g_ialdV hC _ _ 8 (nI wn) (hwc) (by decide) rfl (by decide) (by decide) (by decide) d_M_comes_7 rfl ?_
  refine g_goi hC rfl (z_runS hC (c_M_in l D K q hq _ _ _) yy_M_in ys_M_93 ⟨Nat.le_of_ble_eq_true rfl, Nat.le_of_ble_eq_true rfl⟩ ⟨Nat.zero_le _, Nat.zero_le _⟩ rfl (Nat.le_of_ble_eq_true rfl) d_M_comes_8) (fun r0 σ0 q0 => ?_)
  obtain ⟨rfl, w0⟩ := q0
  obtain rfl := w0.symm
  refine g_ifeq_b hC 33 d_M_comes_11 rfl rfl (fun h11 => ?_) (fun h11 => ?_)
  ·
    have ho : wcm σ wn x h0 = (false, σ) := by first | exact wcm_1 h11 | exact wcm_2 h11 hc h20 h30
    refine g_iconst hC (0) d_M_comes_33 (by decide) rfl ?_
    exact g_zret hC hr hlk d_M_comes_34 (Or.inl rfl) ⟨by rw [ho]; rfl, by rw [ho]⟩
  ·
    obtain ⟨k, hk, hx⟩ := zin_of (n := wn) (by omega) h11
    have hc : x.toNatClampNeg = k := by rw [hx]; exact nI_clamp (by omega)
    refine g_aload_n hC d_M_comes_14 rfl rfl ?_
    refine g_getR hC _ 5 28 _ (by decide) rfl rfl fl_M_87 d_M_comes_15 rfl ?_
    refine g_iload_n hC d_M_comes_18 rfl rfl ?_
    refine g_iald hC _ _ k (by decide) rfl hx (by show k < 24; omega) (by decide) d_M_comes_19 rfl ?_
    refine g_if_lt hC 35 d_M_comes_20 rfl rfl (fun h20 => ?_) (fun h20 => ?_)
    ·
      have ho : wcm σ wn x h0 = (true, zu σ 129 k h0) := by first | exact wcm_3 h11 hc (Or.inl h20) | exact wcm_3 h11 hc (Or.inr h30)
      refine g_aload_n hC d_M_comes_35 rfl rfl ?_
      refine g_getR hC _ 5 28 _ (by decide) rfl rfl fl_M_87 d_M_comes_36 rfl ?_
      refine g_iload_n hC d_M_comes_39 rfl rfl ?_
      refine g_iload_n hC d_M_comes_40 rfl rfl ?_
      refine g_iast hC _ _ k (by decide) rfl hx (by show k < 24; omega) (by decide) d_M_comes_41 rfl ?_
      refine g_iconst hC (1) d_M_comes_42 (by decide) rfl ?_
      exact g_zret hC hr hlk d_M_comes_43 (Or.inr rfl) ⟨by rw [ho]; rfl, by rw [ho]⟩
    ·
      refine g_aload_n hC d_M_comes_23 rfl rfl ?_
      refine g_getR hC _ 5 28 _ (by decide) rfl rfl fl_M_87 d_M_comes_24 rfl ?_
      refine g_iload_n hC d_M_comes_27 rfl rfl ?_
      refine g_iald hC _ _ k (by decide) rfl hx (by show k < 24; omega) (by decide) d_M_comes_28 rfl ?_
      refine g_iload_n hC d_M_comes_29 rfl rfl ?_
      refine g_icmp_eq hC 35 d_M_comes_30 rfl rfl (fun h30 => ?_) (fun h30 => ?_)
      ·
        have ho : wcm σ wn x h0 = (true, zu σ 129 k h0) := by first | exact wcm_3 h11 hc (Or.inl h20) | exact wcm_3 h11 hc (Or.inr h30)
        refine g_aload_n hC d_M_comes_35 rfl rfl ?_
        refine g_getR hC _ 5 28 _ (by decide) rfl rfl fl_M_87 d_M_comes_36 rfl ?_
        refine g_iload_n hC d_M_comes_39 rfl rfl ?_
        refine g_iload_n hC d_M_comes_40 rfl rfl ?_
        refine g_iast hC _ _ k (by decide) rfl hx (by show k < 24; omega) (by decide) d_M_comes_41 rfl ?_
        refine g_iconst hC (1) d_M_comes_42 (by decide) rfl ?_
        exact g_zret hC hr hlk d_M_comes_43 (Or.inr rfl) ⟨by rw [ho]; rfl, by rw [ho]⟩
      ·
        have ho : wcm σ wn x h0 = (false, σ) := by first | exact wcm_1 h11 | exact wcm_2 h11 hc h20 h30
        refine g_iconst hC (0) d_M_comes_33 (by decide) rfl ?_
        exact g_zret hC hr hlk d_M_comes_34 (Or.inl rfl) ⟨by rw [ho]; rfl, by rw [ho]⟩
end
section
/-! the reference's check of code: its heights (row 129) -/
def wOf (σ τ : zm) : Prop := ∀ a, a ≠ 129 → τ a = σ a
def mVI (τ : zm) (wn : Nat) : Prop := ∀ k, k < 24 → ¬ τ 129 k = -1 → k < wn ∧ ∃ m, m ≤ 6 ∧ τ 129 k = nI m
def mAg (τ : zm) (H : Nat → Int32) : Prop := ∀ k, k < 24 → ¬ τ 129 k = -1 → τ 129 k = H k
def mGr (σ τ : zm) (wn : Nat) : Prop := mVI τ wn ∧ ∀ k, ¬ σ 129 k = -1 → τ 129 k = σ 129 k
theorem mVI_neg {τ : zm} {wn k : Nat} (hV : mVI τ wn) (hk : k < 24) : τ 129 k < 0 ↔ τ 129 k = -1 := by
  by_cases h : τ 129 k = -1
  · rw [h]; decide
  · obtain ⟨-, m, hm, e⟩ := hV k hk h
    rw [e]
    exact ⟨fun z => absurd z (nI_pos (by omega)), fun z => absurd z (nI_m1 hm)⟩
theorem wcm_ok {σ : zm} {wn m : Nat} (hV : mVI σ wn) (hwn : wn ≤ 24) (x : Int32) (hm : m ≤ 6) : mGr σ (wcm σ wn x (nI m)).2 wn ∧ ((wcm σ wn x (nI m)).1 = true → ∃ j, j < wn ∧ x = nI j ∧ (wcm σ wn x (nI m)).2 129 j = nI m) ∧ ∀ H : Nat → Int32, mAg σ H → (∃ j, j < wn ∧ x = nI j ∧ H j = nI m) → (wcm σ wn x (nI m)).1 = true ∧ mAg (wcm σ wn x (nI m)).2 H := by
  cases hz : zin x (nI wn) with
  | false =>
    rw [wcm_1 hz]
    refine ⟨⟨hV, fun _ _ => rfl⟩, (fun z => by cases z), fun H hA ⟨j, hj, hx, _⟩ => ?_⟩
    rw [hx, zin_nI hj (by omega)] at hz
    cases hz
  | true =>
    obtain ⟨j, hj, hx⟩ := zin_of (n := wn) (by omega) hz
    have hc : x.toNatClampNeg = j := by rw [hx]; exact nI_clamp (by omega)
    have inj : ∀ j2, x = nI j2 → j2 < wn → j2 = j := fun j2 h2 h3 => (nI_eq (by omega) (by omega)).mp (h2.symm.trans hx)
    by_cases h1 : σ 129 j < 0 ∨ σ 129 j = nI m
    · rw [wcm_3 hz hc h1]
      dsimp only
      have e : ∀ k, zu σ 129 j (nI m) 129 k = if k = j then nI m else σ 129 k := by
        intro k
        by_cases hk : k = j
        · rw [if_pos hk, hk, zu_eq]
        · rw [if_neg hk, zu_col _ _ hk]
      refine ⟨⟨fun k hk hne => ?_, fun k hk => ?_⟩, fun _ => ⟨j, hj, hx, by rw [e, if_pos rfl]⟩, fun H hA ⟨j2, hj2, hx2, hH⟩ => ⟨rfl, fun k hk hne => ?_⟩⟩
      · rw [e] at hne ⊢
        by_cases hkj : k = j
        · rw [if_pos hkj]
          exact ⟨by omega, m, hm, rfl⟩
        · rw [if_neg hkj] at hne ⊢
          exact hV k hk hne
      · rw [e]
        by_cases hkj : k = j
        · subst hkj
          rw [if_pos rfl]
          rcases h1 with h1 | h1
          · exact absurd ((mVI_neg hV (by omega)).mp h1) hk
          · exact h1.symm
        · rw [if_neg hkj]
      · have hjj := inj j2 hx2 hj2
        rw [hjj] at hH
        rw [e] at hne ⊢
        by_cases hkj : k = j
        · rw [if_pos hkj, hkj, hH]
        · rw [if_neg hkj] at hne ⊢
          exact hA k hk hne
    · have h1a : ¬ σ 129 j < 0 := fun z => h1 (Or.inl z)
      have h1b : ¬ σ 129 j = nI m := fun z => h1 (Or.inr z)
      rw [wcm_2 hz hc h1a h1b]
      refine ⟨⟨hV, fun _ _ => rfl⟩, (fun z => by cases z), fun H hA ⟨j2, hj2, hx2, hH⟩ => ?_⟩
      have hjj := inj j2 hx2 hj2
      rw [hjj] at hH
      have hne : ¬ σ 129 j = -1 := fun z => h1a ((mVI_neg hV (by omega)).mpr z)
      exact absurd ((hA j (by omega) hne).trans hH) h1b
def wgx (σ : zm) (wn : Nat) (x n h : Int32) (b g : Bool) : Bool × zm :=
  if (if b then wcm σ wn (x + n) h else (true, σ)).1 then (if g then wcm (if b then wcm σ wn (x + n) h else (true, σ)).2 wn (x + 1) h else (true, (if b then wcm σ wn (x + n) h else (true, σ)).2)) else (false, (if b then wcm σ wn (x + n) h else (true, σ)).2)
theorem wgx_f {σ : zm} {wn : Nat} {x n h : Int32} {g : Bool} : wgx σ wn x n h false g = if g then wcm σ wn (x + 1) h else (true, σ) := rfl
theorem wgx_tF {σ : zm} {wn : Nat} {x n h : Int32} {g : Bool} (e : (wcm σ wn (x + n) h).1 = false) : wgx σ wn x n h true g = (false, (wcm σ wn (x + n) h).2) := by
  unfold wgx
  simp [e]
theorem wgx_tT {σ : zm} {wn : Nat} {x n h : Int32} {g : Bool} (e : (wcm σ wn (x + n) h).1 = true) : wgx σ wn x n h true g = if g then wcm (wcm σ wn (x + n) h).2 wn (x + 1) h else (true, (wcm σ wn (x + n) h).2) := by
  unfold wgx
  simp [e]
def wok (n : Int32) (o : Nat) : Bool := decide (o < 14) && zga (nI o) n
def wgo (σ : zm) (wn k o : Nat) : Bool × zm :=
  if wok (σ 117 (192 + k) >>> ((4 : Int32) &&& 31)) o = false then (false, σ) else if σ 129 k < wnd (nI o) then (false, σ) else if 6 < σ 129 k + wch (nI o) then (false, σ)
  else wgx σ wn (nI k) (σ 117 (192 + k) >>> ((4 : Int32) &&& 31)) (σ 129 k + wch (nI o)) (decide (o = 8 ∨ o = 9)) (decide (o ≠ 0 ∧ o ≠ 8))
theorem wgo_1 {σ : zm} {wn k o : Nat} (h : wok (σ 117 (192 + k) >>> ((4 : Int32) &&& 31)) o = false) : wgo σ wn k o = (false, σ) := if_pos h
theorem wgo_2 {σ : zm} {wn k o : Nat} (h : wok (σ 117 (192 + k) >>> ((4 : Int32) &&& 31)) o = true) (h2 : σ 129 k < wnd (nI o)) : wgo σ wn k o = (false, σ) := by
  unfold wgo
  rw [if_neg (by rw [h]; decide), if_pos h2]
theorem wgo_3 {σ : zm} {wn k o : Nat} (h : wok (σ 117 (192 + k) >>> ((4 : Int32) &&& 31)) o = true) (h2 : ¬ σ 129 k < wnd (nI o)) (h3 : 6 < σ 129 k + wch (nI o)) : wgo σ wn k o = (false, σ) := by
  unfold wgo
  rw [if_neg (by rw [h]; decide), if_neg h2, if_pos h3]
theorem wgo_4 {σ : zm} {wn k o : Nat} (h : wok (σ 117 (192 + k) >>> ((4 : Int32) &&& 31)) o = true) (h2 : ¬ σ 129 k < wnd (nI o)) (h3 : ¬ 6 < σ 129 k + wch (nI o)) : wgo σ wn k o = wgx σ wn (nI k) (σ 117 (192 + k) >>> ((4 : Int32) &&& 31)) (σ 129 k + wch (nI o)) (decide (o = 8 ∨ o = 9)) (decide (o ≠ 0 ∧ o ≠ 8)) := by
  unfold wgo
  rw [if_neg (by rw [h]; decide), if_neg h2, if_neg h3]
theorem wcm_off (σ : zm) (wn : Nat) (x h : Int32) {a : Nat} (ha : a ≠ 129) : (wcm σ wn x h).2 a = σ a := by
  unfold wcm
  split
  · split
    · exact zu_row _ _ ha
    · rfl
  · rfl
theorem wgx_off (σ : zm) (wn : Nat) (x n h : Int32) (b g : Bool) {a : Nat} (ha : a ≠ 129) : (wgx σ wn x n h b g).2 a = σ a := by
  cases b with
  | false =>
    rw [wgx_f]
    cases g with
    | false => rfl
    | true => exact wcm_off _ _ _ _ ha
  | true =>
    cases e : (wcm σ wn (x + n) h).1 with
    | false => rw [wgx_tF e]; exact wcm_off _ _ _ _ ha
    | true =>
      rw [wgx_tT e]
      cases g with
      | false => exact wcm_off _ _ _ _ ha
      | true => exact (wcm_off _ _ _ _ ha).trans (wcm_off _ _ _ _ ha)
theorem wgo_off (σ : zm) (wn k o : Nat) {a : Nat} (ha : a ≠ 129) : (wgo σ wn k o).2 a = σ a := by
  unfold wgo
  split
  · rfl
  · split
    · rfl
    · split
      · rfl
      · exact wgx_off _ _ _ _ _ _ _ ha
theorem wnd_o {o : Nat} (h : o < 14) : wnd (nI o) = zNeed o := by
  have : ∀ o, o < 14 → wnd (nI o) = zNeed o := by decide +kernel
  exact this o h
theorem wch_o {o : Nat} (h : o < 14) (x : Int32) : x + wch (nI o) = x - zNeed o + zLeav o := by
  have : ∀ o, o < 14 → wch (nI o) = -zNeed o + zLeav o := by decide +kernel
  rw [this o h, Int32.sub_eq_add_neg, Int32.add_assoc]
theorem mGr.rf {σ : zm} {wn : Nat} (hV : mVI σ wn) : mGr σ σ wn := ⟨hV, fun _ _ => rfl⟩
theorem wgo_ok {σ : zm} {wn k o : Nat} (hV : mVI σ wn) (hwn : wn ≤ 24) (hk : k < wn) (hne : ¬ σ 129 k = -1) (ho : o < 16) (hoe : σ 117 (192 + k) &&& 15 = nI o) : mGr σ (wgo σ wn k o).2 wn ∧ ((wgo σ wn k o).1 = true → zCk (fun j => σ 117 (192 + j)) wn ((wgo σ wn k o).2 129) k) ∧ ∀ H : Nat → Int32, mAg σ H → zCk (fun j => σ 117 (192 + j)) wn H k → (wgo σ wn k o).1 = true ∧ mAg (wgo σ wn k o).2 H := by
  obtain ⟨-, m, hm, hkm⟩ := hV k (by omega) hne
  cases hw : wok (σ 117 (192 + k) >>> ((4 : Int32) &&& 31)) o with
  | false =>
    rw [wgo_1 hw]
    refine ⟨mGr.rf hV, (fun z => by cases z), fun H hA hc => ?_⟩
    obtain ⟨c1, c2, -⟩ := zCk_o (w := fun j => σ 117 (192 + j)) ho hoe hc
    have : wok (σ 117 (192 + k) >>> ((4 : Int32) &&& 31)) o = true := by
      unfold wok
      rw [decide_eq_true c1, Bool.true_and]
      exact c2
    rw [hw] at this
    cases this
  | true =>
    have hw2 := hw
    unfold wok at hw2
    rw [Bool.and_eq_true, decide_eq_true_eq] at hw2
    obtain ⟨ho14, hga⟩ := hw2
    by_cases h3 : σ 129 k < wnd (nI o)
    · rw [wgo_2 hw h3]
      refine ⟨mGr.rf hV, (fun z => by cases z), fun H hA hc => ?_⟩
      have := (zCk_o (w := fun j => σ 117 (192 + j)) ho hoe hc).2.2.1
      rw [← hA k (by omega) hne, ← wnd_o ho14] at this
      exact absurd h3 this
    by_cases h4 : 6 < σ 129 k + wch (nI o)
    · rw [wgo_3 hw h3 h4]
      refine ⟨mGr.rf hV, (fun z => by cases z), fun H hA hc => ?_⟩
      have := (zCk_o (w := fun j => σ 117 (192 + j)) ho hoe hc).2.2.2.1
      rw [← hA k (by omega) hne, ← wch_o ho14] at this
      exact absurd h4 this
    rw [wgo_4 hw h3 h4]
    rw [wnd_o ho14] at h3
    rw [wch_o ho14] at h4
    have h3' := h3
    have h4' := h4
    rw [hkm] at h3' h4'
    obtain ⟨m2, hm2, hh⟩ := zhh hm ho14 h3' h4'
    rw [← hkm] at hh
    have mk : ∀ τ : zm, (∀ k, ¬ σ 129 k = -1 → τ 129 k = σ 129 k) → ((o = 8 ∨ o = 9) → ∃ j, j < wn ∧ nI k + (σ 117 (192 + k) >>> ((4 : Int32) &&& 31)) = nI j ∧ τ 129 j = nI m2) → ((o ≠ 0 ∧ o ≠ 8) → ∃ j, j < wn ∧ nI k + 1 = nI j ∧ τ 129 j = nI m2) → zCk (fun j => σ 117 (192 + j)) wn (τ 129) k := by
      intro τ h5 h6 h7
      have e5 := h5 k hne
      refine ⟨o, ho14, hoe, hga, by rw [e5]; exact h3, by rw [e5]; exact h4, ?_, ?_⟩
      · rw [e5, hh]; exact h6
      · rw [e5, hh]; exact h7
    have rd : ∀ H : Nat → Int32, mAg σ H → zCk (fun j => σ 117 (192 + j)) wn H k → ((o = 8 ∨ o = 9) → ∃ j, j < wn ∧ nI k + (σ 117 (192 + k) >>> ((4 : Int32) &&& 31)) = nI j ∧ H j = nI m2) ∧ ((o ≠ 0 ∧ o ≠ 8) → ∃ j, j < wn ∧ nI k + 1 = nI j ∧ H j = nI m2) := by
      intro H hA hc
      have h5 := (zCk_o (w := fun j => σ 117 (192 + j)) ho hoe hc).2.2.2.2
      rw [← hA k (by omega) hne, hh] at h5
      exact h5
    rw [wch_o ho14, hh]
    by_cases hb : o = 8 ∨ o = 9 <;> by_cases hg : o ≠ 0 ∧ o ≠ 8
    · rw [decide_eq_true hb, decide_eq_true hg]
      obtain ⟨a1, a2, a3⟩ := wcm_ok hV hwn (nI k + (σ 117 (192 + k) >>> ((4 : Int32) &&& 31))) hm2
      cases hA1 : (wcm σ wn (nI k + (σ 117 (192 + k) >>> ((4 : Int32) &&& 31))) (nI m2)).1 with
      | false =>
        rw [wgx_tF hA1]
        refine ⟨a1, (fun z => by cases z), fun H hA hc => ?_⟩
        have := (a3 H hA ((rd H hA hc).1 hb)).1
        rw [hA1] at this
        cases this
      | true =>
        rw [wgx_tT hA1, if_pos rfl]
        obtain ⟨j, hj, hx, hj7⟩ := a2 hA1
        obtain ⟨v2, k2⟩ := a1
        obtain ⟨⟨v3, k3⟩, b2, b3⟩ := wcm_ok (m := m2) v2 hwn (nI k + 1) hm2
        have kk : ∀ k', ¬ σ 129 k' = -1 → (wcm (wcm σ wn (nI k + (σ 117 (192 + k) >>> ((4 : Int32) &&& 31))) (nI m2)).2 wn (nI k + 1) (nI m2)).2 129 k' = σ 129 k' := fun k' hk' => by
          have e := k2 k' hk'
          rw [k3 k' (by rw [e]; exact hk'), e]
        refine ⟨⟨v3, kk⟩, fun z => ?_, fun H hA hc => ?_⟩
        · obtain ⟨j2, hj2, hx2, hj72⟩ := b2 z
          refine mk _ kk (fun _ => ⟨j, hj, hx, ?_⟩) (fun _ => ⟨j2, hj2, hx2, hj72⟩)
          rw [k3 j (by rw [hj7]; exact nI_m1 hm2), hj7]
        · obtain ⟨r1, r2⟩ := rd H hA hc
          exact b3 H (a3 H hA (r1 hb)).2 (r2 hg)
    · rw [decide_eq_true hb, decide_eq_false hg]
      obtain ⟨a1, a2, a3⟩ := wcm_ok hV hwn (nI k + (σ 117 (192 + k) >>> ((4 : Int32) &&& 31))) hm2
      cases hA1 : (wcm σ wn (nI k + (σ 117 (192 + k) >>> ((4 : Int32) &&& 31))) (nI m2)).1 with
      | false =>
        rw [wgx_tF hA1]
        refine ⟨a1, (fun z => by cases z), fun H hA hc => ?_⟩
        have := (a3 H hA ((rd H hA hc).1 hb)).1
        rw [hA1] at this
        cases this
      | true =>
        rw [wgx_tT hA1, if_neg (by decide)]
        exact ⟨a1, fun _ => mk _ a1.2 (fun _ => a2 hA1) (fun z => absurd z hg), fun H hA hc => ⟨rfl, (a3 H hA ((rd H hA hc).1 hb)).2⟩⟩
    · rw [decide_eq_false hb, decide_eq_true hg, wgx_f, if_pos rfl]
      obtain ⟨a1, a2, a3⟩ := wcm_ok hV hwn (nI k + 1) hm2
      exact ⟨a1, fun z => mk _ a1.2 (fun y => absurd y hb) (fun _ => a2 z), fun H hA hc => a3 H hA ((rd H hA hc).2 hg)⟩
    · rw [decide_eq_false hb, decide_eq_false hg, wgx_f, if_neg (by decide)]
      exact ⟨mGr.rf hV, fun _ => mk _ (fun _ _ => rfl) (fun z => absurd z hb) (fun z => absurd z hg), fun H hA hc => ⟨rfl, hA⟩⟩
end
