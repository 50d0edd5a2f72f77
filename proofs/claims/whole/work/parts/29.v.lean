/-! reads with the value named -/
section ZV
variable {p : Program} {l : Launch} {e : Env} {R : Room} {s : State} {m : MethodId} {args : Array Value} {below : List Frame} {meth : Method} {c : Code} {cc : ByteArray} {nL ce sl : Nat} {own : String} {D : va_G} {K : Nat → ClassId} {q : Nat → Nat} {A : Nat → Prop} {Q : State → Prop} {σ : zm} {pc pc' : Nat} {lv lv' : List (Nat × Value)} {st rest : List Value}
theorem g_getV (hC : zX p s m args c cc nL own D K q A) (j ci k : Nat) (v : Int32) (hv : σ j k = v) {fl : List (Option Nat)} {index : Nat} (hj : j < zN) (hs : zS j = (0, ci, fl)) (hf : fl[k]? = some none) (hw : zFl own index ci k) (hdg : decode cc pc = .ok (.getfield index, 3)) (hp : pc + 3 = pc') (kk : zG p l e R s m args below meth c D K q A nL ce sl Q σ pc' lv (.int v :: st)) : zG p l e R s m args below meth c D K q A nL ce sl Q σ pc lv (.ref (q j) :: st) := by
  subst hv
  exact g_getI hC j ci k hj hs hf hw hdg hp kk
theorem g_ialdV (hC : zX p s m args c cc nL own D K q A) (j n k : Nat) (v : Int32) (hv : σ j k = v) {i : Int32} {fl : List (Option Nat)} (hj : j < zN) (hs : zS j = (1, n, fl)) (hi : i = nI k) (hk : k < n) (hn : n < 2 ^ 31) (hdg : decode cc pc = .ok (.iaload, 1)) (hp : pc + 1 = pc') (kk : zG p l e R s m args below meth c D K q A nL ce sl Q σ pc' lv (.int v :: st)) : zG p l e R s m args below meth c D K q A nL ce sl Q σ pc lv (.int i :: .ref (q j) :: st) := by
  subst hv
  exact g_iald hC j n k hj hs hi hk hn hdg hp kk
theorem g_zaldV (hC : zX p s m args c cc nL own D K q A) (j n k : Nat) (v : Int32) (hv : σ j k = v) {i : Int32} {fl : List (Option Nat)} (hj : j < zN) (hs : zS j = (2, n, fl)) (hi : i = nI k) (hk : k < n) (hn : n < 2 ^ 31) (hdg : decode cc pc = .ok (.baload, 1)) (hp : pc + 1 = pc') (kk : zG p l e R s m args below meth c D K q A nL ce sl Q σ pc' lv (.int v :: st)) : zG p l e R s m args below meth c D K q A nL ce sl Q σ pc lv (.int i :: .ref (q j) :: st) := by
  subst hv
  exact g_zald hC j n k hj hs hi hk hn hdg hp kk
/-- the top of the stack, named anew -/
theorem g_top (hC : zX p s m args c cc nL own D K q A) {x : Int32} (v : Int32) (hv : x = v) (kk : zG p l e R s m args below meth c D K q A nL ce sl Q σ pc lv (.int v :: st)) : zG p l e R s m args below meth c D K q A nL ce sl Q σ pc lv (.int x :: st) := by
  subst hv
  exact kk
/-- the memory, named anew -/
theorem g_mem (hC : zX p s m args c cc nL own D K q A) {τ : zm} (hv : σ = τ) (kk : zG p l e R s m args below meth c D K q A nL ce sl Q τ pc lv st) : zG p l e R s m args below meth c D K q A nL ce sl Q σ pc lv st := by
  subst hv
  exact kk
end ZV
