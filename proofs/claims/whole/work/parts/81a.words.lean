/-! words of the throws, of Object's constructor, of arrays -/
theorem th_T : ∀ w ∈ Bundle.throwableAtoms, zTw w := by
  unfold Bundle.throwableAtoms
  exact List.forall_mem_cons.mpr ⟨Or.inl (zk1 8 rfl rfl), List.forall_mem_cons.mpr ⟨Or.inl (zk2 190 rfl rfl), List.forall_mem_cons.mpr ⟨Or.inl (zk2 199 rfl rfl), List.forall_mem_cons.mpr ⟨Or.inl (zk2 202 rfl rfl), List.forall_mem_cons.mpr ⟨Or.inl (zk2 205 rfl rfl), List.forall_mem_cons.mpr ⟨Or.inl (zk2 207 rfl rfl), List.forall_mem_cons.mpr ⟨Or.inl (zk2 191 rfl rfl), List.forall_mem_cons.mpr ⟨Or.inl (zk2 192 rfl rfl), List.forall_mem_cons.mpr ⟨Or.inl (zk1 22 rfl rfl), List.forall_mem_cons.mpr ⟨Or.inl (zk1 23 rfl rfl), List.forall_mem_cons.mpr ⟨Or.inl (zk2 193 rfl rfl), List.forall_mem_cons.mpr ⟨Or.inl (zk2 198 rfl rfl), List.forall_mem_cons.mpr ⟨Or.inl (zk2 203 rfl rfl), List.forall_mem_cons.mpr ⟨Or.inl (zk2 219 rfl rfl), List.forall_mem_cons.mpr ⟨Or.inl (zk2 180 rfl rfl), List.forall_mem_cons.mpr ⟨Or.inl (zk2 220 rfl rfl), List.forall_mem_cons.mpr ⟨Or.inl (zk2 182 rfl rfl), List.forall_mem_cons.mpr ⟨Or.inl (zk2 221 rfl rfl), List.forall_mem_cons.mpr ⟨Or.inl (zk2 184 rfl rfl), List.forall_mem_cons.mpr ⟨Or.inl (zk2 194 rfl rfl), List.forall_mem_cons.mpr ⟨Or.inr (Or.inl (Or.inr rfl)), List.forall_mem_cons.mpr ⟨Or.inl (zk2 196 rfl rfl), List.forall_mem_cons.mpr ⟨Or.inr (Or.inr (Or.inl (Or.inr rfl))), List.forall_mem_cons.mpr ⟨Or.inl (zk2 186 rfl rfl), fun _ h => absurd h List.not_mem_nil⟩⟩⟩⟩⟩⟩⟩⟩⟩⟩⟩⟩⟩⟩⟩⟩⟩⟩⟩⟩⟩⟩⟩⟩
theorem th_p1 : ∀ w ∈ Bundle.passAtoms "java/lang/IllegalArgumentException" "java/lang/RuntimeException" 1 Bundle.five, zTw w := by
  unfold Bundle.passAtoms
  exact List.forall_mem_cons.mpr ⟨Or.inl (zk2 209 rfl rfl), List.forall_mem_cons.mpr ⟨Or.inl (zk2 210 rfl rfl), List.forall_mem_cons.mpr ⟨Or.inl (zk2 211 rfl rfl), List.forall_mem_cons.mpr ⟨Or.inl (zk2 212 rfl rfl), List.forall_mem_cons.mpr ⟨Or.inr (Or.inr (Or.inr (Or.inr ⟨_, _, _, _, rfl, zk2 212 rfl rfl, zk2 213 rfl rfl⟩))), fun _ h => absurd h List.not_mem_nil⟩⟩⟩⟩⟩
theorem th_p2 : ∀ w ∈ Bundle.passAtoms "java/lang/IllegalStateException" "java/lang/RuntimeException" 1 Bundle.five, zTw w := by
  unfold Bundle.passAtoms
  exact List.forall_mem_cons.mpr ⟨Or.inl (zk3 8 rfl rfl), List.forall_mem_cons.mpr ⟨Or.inl (zk3 9 rfl rfl), List.forall_mem_cons.mpr ⟨Or.inl (zk3 10 rfl rfl), List.forall_mem_cons.mpr ⟨Or.inl (zk2 212 rfl rfl), List.forall_mem_cons.mpr ⟨Or.inr (Or.inr (Or.inr (Or.inr ⟨_, _, _, _, rfl, zk2 212 rfl rfl, zk2 213 rfl rfl⟩))), fun _ h => absurd h List.not_mem_nil⟩⟩⟩⟩⟩
theorem th_p3 : ∀ w ∈ Bundle.passAtoms "java/lang/RuntimeException" "java/lang/Exception" 1 Bundle.five, zTw w := by
  unfold Bundle.passAtoms
  exact List.forall_mem_cons.mpr ⟨Or.inl (zk2 212 rfl rfl), List.forall_mem_cons.mpr ⟨Or.inl (zk2 213 rfl rfl), List.forall_mem_cons.mpr ⟨Or.inl (zk2 214 rfl rfl), List.forall_mem_cons.mpr ⟨Or.inl (zk2 215 rfl rfl), List.forall_mem_cons.mpr ⟨Or.inr (Or.inr (Or.inr (Or.inr ⟨_, _, _, _, rfl, zk2 215 rfl rfl, zk2 216 rfl rfl⟩))), fun _ h => absurd h List.not_mem_nil⟩⟩⟩⟩⟩
theorem th_p4 : ∀ w ∈ Bundle.passAtoms "java/lang/Exception" Bundle.tN 1 Bundle.five, zTw w := by
  unfold Bundle.passAtoms
  exact List.forall_mem_cons.mpr ⟨Or.inl (zk2 215 rfl rfl), List.forall_mem_cons.mpr ⟨Or.inl (zk2 216 rfl rfl), List.forall_mem_cons.mpr ⟨Or.inl (zk2 217 rfl rfl), List.forall_mem_cons.mpr ⟨Or.inl (zk2 191 rfl rfl), List.forall_mem_cons.mpr ⟨Or.inr (Or.inr (Or.inr (Or.inr ⟨_, _, _, _, rfl, zk2 191 rfl rfl, zk2 192 rfl rfl⟩))), fun _ h => absurd h List.not_mem_nil⟩⟩⟩⟩⟩
abbrev zEx : List String := ["java/lang/RuntimeException", "java/lang/Exception"]
theorem th_A : ∀ w ∈ Bundle.ownAtoms0 "AppDesk" 83 "java/lang/IllegalArgumentException" zEx, zTw w := by
  unfold Bundle.ownAtoms0
  exact List.forall_mem_append.mpr ⟨List.forall_mem_append.mpr ⟨th_T, List.forall_mem_append.mpr ⟨th_p1, List.forall_mem_append.mpr ⟨th_p3, th_p4⟩⟩⟩, List.forall_mem_cons.mpr ⟨Or.inl (zk2 208 rfl rfl), List.forall_mem_cons.mpr ⟨Or.inl (zk2 169 rfl rfl), List.forall_mem_cons.mpr ⟨Or.inr (Or.inr (Or.inr (Or.inl ⟨_, 6, rfl, zk2 169 rfl rfl⟩))), List.forall_mem_cons.mpr ⟨Or.inl (zk2 177 rfl rfl), List.forall_mem_cons.mpr ⟨Or.inl (zk2 178 rfl rfl), List.forall_mem_cons.mpr ⟨Or.inl (zk2 179 rfl rfl), List.forall_mem_cons.mpr ⟨Or.inl (zk2 181 rfl rfl), List.forall_mem_cons.mpr ⟨Or.inl (zk2 183 rfl rfl), List.forall_mem_cons.mpr ⟨Or.inl (zk2 185 rfl rfl), List.forall_mem_cons.mpr ⟨Or.inr (Or.inl (Or.inl rfl)), List.forall_mem_cons.mpr ⟨Or.inr (Or.inr (Or.inl (Or.inl rfl))), List.forall_mem_cons.mpr ⟨Or.inl (zk2 189 rfl rfl), List.forall_mem_cons.mpr ⟨Or.inl (zk2 188 rfl rfl), List.forall_mem_cons.mpr ⟨Or.inl (zk2 187 rfl rfl), fun _ h => absurd h List.not_mem_nil⟩⟩⟩⟩⟩⟩⟩⟩⟩⟩⟩⟩⟩⟩⟩
theorem th_S : ∀ w ∈ Bundle.ownAtoms0 "AppDesk" 89 "java/lang/IllegalStateException" zEx, zTw w := by
  unfold Bundle.ownAtoms0
  exact List.forall_mem_append.mpr ⟨List.forall_mem_append.mpr ⟨th_T, List.forall_mem_append.mpr ⟨th_p2, List.forall_mem_append.mpr ⟨th_p3, th_p4⟩⟩⟩, List.forall_mem_cons.mpr ⟨Or.inl (zk3 7 rfl rfl), List.forall_mem_cons.mpr ⟨Or.inl (zk2 239 rfl rfl), List.forall_mem_cons.mpr ⟨Or.inr (Or.inr (Or.inr (Or.inl ⟨_, 6, rfl, zk2 239 rfl rfl⟩))), List.forall_mem_cons.mpr ⟨Or.inl (zk3 1 rfl rfl), List.forall_mem_cons.mpr ⟨Or.inl (zk2 201 rfl rfl), List.forall_mem_cons.mpr ⟨Or.inl (zk3 2 rfl rfl), List.forall_mem_cons.mpr ⟨Or.inl (zk3 3 rfl rfl), List.forall_mem_cons.mpr ⟨Or.inl (zk3 4 rfl rfl), List.forall_mem_cons.mpr ⟨Or.inl (zk3 5 rfl rfl), List.forall_mem_cons.mpr ⟨Or.inr (Or.inl (Or.inl rfl)), List.forall_mem_cons.mpr ⟨Or.inr (Or.inr (Or.inl (Or.inl rfl))), List.forall_mem_cons.mpr ⟨Or.inl (zk2 189 rfl rfl), List.forall_mem_cons.mpr ⟨Or.inl (zk2 188 rfl rfl), List.forall_mem_cons.mpr ⟨Or.inl (zk3 6 rfl rfl), fun _ h => absurd h List.not_mem_nil⟩⟩⟩⟩⟩⟩⟩⟩⟩⟩⟩⟩⟩⟩⟩
theorem kx_A2 : Cond.instantiable "java/lang/IllegalArgumentException" 6 ∈ zT := zk2 169 rfl rfl
theorem kx_S : Cond.instantiable "java/lang/IllegalStateException" 6 ∈ zT := zk2 239 rfl rfl
theorem ko_D : Cond.methodLink "AppDesk" 1 Lib.objectInit ∈ zT := zk1 21 rfl rfl
theorem ko_P : Cond.methodLink "AppDesk$Pack" 3 Lib.objectInit ∈ zT := zk1 29 rfl rfl
theorem ko_A : Cond.methodLink "AppDesk$App" 3 Lib.objectInit ∈ zT := zk1 99 rfl rfl
theorem ko_Q : Cond.methodLink "AppDesk$IntentQueue" 3 Lib.objectInit ∈ zT := zk1 145 rfl rfl
theorem ko_V : Cond.methodLink "AppDesk$Verifier" 3 Lib.objectInit ∈ zT := zk1 168 rfl rfl
theorem ko_M : Cond.methodLink "AppDeskModel" 1 Lib.objectInit ∈ zT := zk3 94 rfl rfl
theorem ko_i : Cond.instanceMethod Lib.objectInit ∈ zT := zk1 22 rfl rfl
theorem ko_c : Cond.code Lib.objectInit ⟨#[0xb1]⟩ 1 none ∈ zT := zk1 23 rfl rfl
theorem ko_ai : Cond.arrayClass .int ∈ zT := zk1 92 rfl rfl
theorem ko_az : Cond.arrayClass .boolean ∈ zT := zk3 183 rfl rfl
theorem ko_al : Cond.arrayClass .long ∈ zT := zk4 101 rfl rfl
