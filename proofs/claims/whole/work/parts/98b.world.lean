/-! what the constructors made is the flat world at the start -/
def zps (j : Nat) : Nat := if j = 0 then 0 else if j = 1 then 8 else if j < 6 then 97 + (j - 2) else if j < 9 then 101 + (j - 6) else if j < 65 then 9 + 11 * ((j - 9) / 7) + 1 + (j - 9) % 7 else if j < 72 then 1 + (j - 65) else if j < 104 then 9 + 11 * ((j - 72) / 4) + (if (j - 72) % 4 = 0 then 0 else 7 + (j - 72) % 4) else j
def qq (b1 b2 : Nat → Nat) (o : Nat) (j : Nat) : Nat := if j < 104 then b1 (zps j) else if j < 130 then b2 (j - 104) else o
def zwl (K : Nat → ClassId) (b1 b2 : Nat → Nat) (o : Nat) : va_W := (cD K b1 ++ cM K b2) ++ [(o, .inl (K 2, 1, .inr (.inl (fun _ => 0))))]
def zEn (K : Nat → ClassId) (b1 b2 : Nat → Nat) (o j : Nat) : Prop := (zwl K b1 b2 o)[zps j]? = some (qq b1 b2 o j, zc K (qq b1 b2 o) z0 j (zS j))
section ZEN
variable (K : Nat → ClassId) (b1 b2 : Nat → Nat) (o : Nat)
theorem gA_q : gA (fun n i => b1 (9 + 11 * n + i)) 8 = (fun k => (([some 72, some 76, some 80, some 84, some 88, some 92, some 96, some 100] : List (Option Nat)).getD k none).map (qq b1 b2 o)) := by
  funext k
  unfold gA
  by_cases h : k < 8
  · rw [if_pos h]
    have h8 : k = 0 ∨ k = 1 ∨ k = 2 ∨ k = 3 ∨ k = 4 ∨ k = 5 ∨ k = 6 ∨ k = 7 := by omega
    rcases h8 with rfl | rfl | rfl | rfl | rfl | rfl | rfl | rfl <;> rfl
  · rw [if_neg h, List.getD_eq_getElem?_getD, List.getElem?_eq_none (by show 8 ≤ k; omega)]
    rfl
theorem e_1 : zEn K b1 b2 o 1 := by
  show some (b1 8, _) = some (b1 8, _)
  rw [gA_q b1 b2 o]
  rfl
theorem e_130 : zEn K b1 b2 o 130 := by
  have h : (fun k => (z0 130 k).toInt64) = (fun _ => 0) := by funext k; rfl
  show some (o, _) = some (o, Sum.inl (K 2, 1, Sum.inr (Sum.inl (fun k => (z0 130 k).toInt64))))
  rw [h]
theorem e_0 : zEn K b1 b2 o 0 := rfl
theorem e_2 : zEn K b1 b2 o 2 := rfl
theorem e_3 : zEn K b1 b2 o 3 := rfl
theorem e_4 : zEn K b1 b2 o 4 := rfl
theorem e_5 : zEn K b1 b2 o 5 := rfl
theorem e_6 : zEn K b1 b2 o 6 := rfl
theorem e_7 : zEn K b1 b2 o 7 := rfl
theorem e_8 : zEn K b1 b2 o 8 := rfl
theorem e_9 : zEn K b1 b2 o 9 := rfl
theorem e_10 : zEn K b1 b2 o 10 := rfl
theorem e_11 : zEn K b1 b2 o 11 := rfl
theorem e_12 : zEn K b1 b2 o 12 := rfl
theorem e_13 : zEn K b1 b2 o 13 := rfl
theorem e_14 : zEn K b1 b2 o 14 := rfl
theorem e_15 : zEn K b1 b2 o 15 := rfl
theorem e_16 : zEn K b1 b2 o 16 := rfl
theorem e_17 : zEn K b1 b2 o 17 := rfl
theorem e_18 : zEn K b1 b2 o 18 := rfl
theorem e_19 : zEn K b1 b2 o 19 := rfl
theorem e_20 : zEn K b1 b2 o 20 := rfl
theorem e_21 : zEn K b1 b2 o 21 := rfl
theorem e_22 : zEn K b1 b2 o 22 := rfl
theorem e_23 : zEn K b1 b2 o 23 := rfl
theorem e_24 : zEn K b1 b2 o 24 := rfl
theorem e_25 : zEn K b1 b2 o 25 := rfl
theorem e_26 : zEn K b1 b2 o 26 := rfl
theorem e_27 : zEn K b1 b2 o 27 := rfl
theorem e_28 : zEn K b1 b2 o 28 := rfl
theorem e_29 : zEn K b1 b2 o 29 := rfl
theorem e_30 : zEn K b1 b2 o 30 := rfl
theorem e_31 : zEn K b1 b2 o 31 := rfl
theorem e_32 : zEn K b1 b2 o 32 := rfl
theorem e_33 : zEn K b1 b2 o 33 := rfl
theorem e_34 : zEn K b1 b2 o 34 := rfl
theorem e_35 : zEn K b1 b2 o 35 := rfl
theorem e_36 : zEn K b1 b2 o 36 := rfl
theorem e_37 : zEn K b1 b2 o 37 := rfl
theorem e_38 : zEn K b1 b2 o 38 := rfl
theorem e_39 : zEn K b1 b2 o 39 := rfl
theorem e_40 : zEn K b1 b2 o 40 := rfl
theorem e_41 : zEn K b1 b2 o 41 := rfl
theorem e_42 : zEn K b1 b2 o 42 := rfl
theorem e_43 : zEn K b1 b2 o 43 := rfl
theorem e_44 : zEn K b1 b2 o 44 := rfl
theorem e_45 : zEn K b1 b2 o 45 := rfl
theorem e_46 : zEn K b1 b2 o 46 := rfl
theorem e_47 : zEn K b1 b2 o 47 := rfl
theorem e_48 : zEn K b1 b2 o 48 := rfl
theorem e_49 : zEn K b1 b2 o 49 := rfl
theorem e_50 : zEn K b1 b2 o 50 := rfl
theorem e_51 : zEn K b1 b2 o 51 := rfl
theorem e_52 : zEn K b1 b2 o 52 := rfl
theorem e_53 : zEn K b1 b2 o 53 := rfl
theorem e_54 : zEn K b1 b2 o 54 := rfl
theorem e_55 : zEn K b1 b2 o 55 := rfl
theorem e_56 : zEn K b1 b2 o 56 := rfl
theorem e_57 : zEn K b1 b2 o 57 := rfl
theorem e_58 : zEn K b1 b2 o 58 := rfl
theorem e_59 : zEn K b1 b2 o 59 := rfl
theorem e_60 : zEn K b1 b2 o 60 := rfl
theorem e_61 : zEn K b1 b2 o 61 := rfl
theorem e_62 : zEn K b1 b2 o 62 := rfl
theorem e_63 : zEn K b1 b2 o 63 := rfl
theorem e_64 : zEn K b1 b2 o 64 := rfl
theorem e_65 : zEn K b1 b2 o 65 := rfl
theorem e_66 : zEn K b1 b2 o 66 := rfl
theorem e_67 : zEn K b1 b2 o 67 := rfl
theorem e_68 : zEn K b1 b2 o 68 := rfl
theorem e_69 : zEn K b1 b2 o 69 := rfl
theorem e_70 : zEn K b1 b2 o 70 := rfl
theorem e_71 : zEn K b1 b2 o 71 := rfl
theorem e_72 : zEn K b1 b2 o 72 := rfl
theorem e_73 : zEn K b1 b2 o 73 := rfl
theorem e_74 : zEn K b1 b2 o 74 := rfl
theorem e_75 : zEn K b1 b2 o 75 := rfl
theorem e_76 : zEn K b1 b2 o 76 := rfl
theorem e_77 : zEn K b1 b2 o 77 := rfl
theorem e_78 : zEn K b1 b2 o 78 := rfl
theorem e_79 : zEn K b1 b2 o 79 := rfl
theorem e_80 : zEn K b1 b2 o 80 := rfl
theorem e_81 : zEn K b1 b2 o 81 := rfl
theorem e_82 : zEn K b1 b2 o 82 := rfl
theorem e_83 : zEn K b1 b2 o 83 := rfl
theorem e_84 : zEn K b1 b2 o 84 := rfl
theorem e_85 : zEn K b1 b2 o 85 := rfl
theorem e_86 : zEn K b1 b2 o 86 := rfl
theorem e_87 : zEn K b1 b2 o 87 := rfl
theorem e_88 : zEn K b1 b2 o 88 := rfl
theorem e_89 : zEn K b1 b2 o 89 := rfl
theorem e_90 : zEn K b1 b2 o 90 := rfl
theorem e_91 : zEn K b1 b2 o 91 := rfl
theorem e_92 : zEn K b1 b2 o 92 := rfl
theorem e_93 : zEn K b1 b2 o 93 := rfl
theorem e_94 : zEn K b1 b2 o 94 := rfl
theorem e_95 : zEn K b1 b2 o 95 := rfl
theorem e_96 : zEn K b1 b2 o 96 := rfl
theorem e_97 : zEn K b1 b2 o 97 := rfl
theorem e_98 : zEn K b1 b2 o 98 := rfl
theorem e_99 : zEn K b1 b2 o 99 := rfl
theorem e_100 : zEn K b1 b2 o 100 := rfl
theorem e_101 : zEn K b1 b2 o 101 := rfl
theorem e_102 : zEn K b1 b2 o 102 := rfl
theorem e_103 : zEn K b1 b2 o 103 := rfl
theorem e_104 : zEn K b1 b2 o 104 := rfl
theorem e_105 : zEn K b1 b2 o 105 := rfl
theorem e_106 : zEn K b1 b2 o 106 := rfl
theorem e_107 : zEn K b1 b2 o 107 := rfl
theorem e_108 : zEn K b1 b2 o 108 := rfl
theorem e_109 : zEn K b1 b2 o 109 := rfl
theorem e_110 : zEn K b1 b2 o 110 := rfl
theorem e_111 : zEn K b1 b2 o 111 := rfl
theorem e_112 : zEn K b1 b2 o 112 := rfl
theorem e_113 : zEn K b1 b2 o 113 := rfl
theorem e_114 : zEn K b1 b2 o 114 := rfl
theorem e_115 : zEn K b1 b2 o 115 := rfl
theorem e_116 : zEn K b1 b2 o 116 := rfl
theorem e_117 : zEn K b1 b2 o 117 := rfl
theorem e_118 : zEn K b1 b2 o 118 := rfl
theorem e_119 : zEn K b1 b2 o 119 := rfl
theorem e_120 : zEn K b1 b2 o 120 := rfl
theorem e_121 : zEn K b1 b2 o 121 := rfl
theorem e_122 : zEn K b1 b2 o 122 := rfl
theorem e_123 : zEn K b1 b2 o 123 := rfl
theorem e_124 : zEn K b1 b2 o 124 := rfl
theorem e_125 : zEn K b1 b2 o 125 := rfl
theorem e_126 : zEn K b1 b2 o 126 := rfl
theorem e_127 : zEn K b1 b2 o 127 := rfl
theorem e_128 : zEn K b1 b2 o 128 := rfl
theorem e_129 : zEn K b1 b2 o 129 := rfl
theorem zrg : List.range 131 = [0, 1, 2, 3, 4, 5, 6, 7, 8, 9, 10, 11, 12, 13, 14, 15, 16, 17, 18, 19, 20, 21, 22, 23, 24, 25, 26, 27, 28, 29, 30, 31, 32, 33, 34, 35, 36, 37, 38, 39, 40, 41, 42, 43, 44, 45, 46, 47, 48, 49, 50, 51, 52, 53, 54, 55, 56, 57, 58, 59, 60, 61, 62, 63, 64, 65, 66, 67, 68, 69, 70, 71, 72, 73, 74, 75, 76, 77, 78, 79, 80, 81, 82, 83, 84, 85, 86, 87, 88, 89, 90, 91, 92, 93, 94, 95, 96, 97, 98, 99, 100, 101, 102, 103, 104, 105, 106, 107, 108, 109, 110, 111, 112, 113, 114, 115, 116, 117, 118, 119, 120, 121, 122, 123, 124, 125, 126, 127, 128, 129, 130] := by decide +kernel
theorem e_all : ∀ j, j < 131 → zEn K b1 b2 o j := by
  have h : ∀ j ∈ List.range 131, zEn K b1 b2 o j := by
    rw [zrg]
    exact List.forall_mem_cons.mpr ⟨e_0 K b1 b2 o, List.forall_mem_cons.mpr ⟨e_1 K b1 b2 o, List.forall_mem_cons.mpr ⟨e_2 K b1 b2 o, List.forall_mem_cons.mpr ⟨e_3 K b1 b2 o, List.forall_mem_cons.mpr ⟨e_4 K b1 b2 o, List.forall_mem_cons.mpr ⟨e_5 K b1 b2 o, List.forall_mem_cons.mpr ⟨e_6 K b1 b2 o, List.forall_mem_cons.mpr ⟨e_7 K b1 b2 o, List.forall_mem_cons.mpr ⟨e_8 K b1 b2 o, List.forall_mem_cons.mpr ⟨e_9 K b1 b2 o, List.forall_mem_cons.mpr ⟨e_10 K b1 b2 o, List.forall_mem_cons.mpr ⟨e_11 K b1 b2 o, List.forall_mem_cons.mpr ⟨e_12 K b1 b2 o, List.forall_mem_cons.mpr ⟨e_13 K b1 b2 o, List.forall_mem_cons.mpr ⟨e_14 K b1 b2 o, List.forall_mem_cons.mpr ⟨e_15 K b1 b2 o, List.forall_mem_cons.mpr ⟨e_16 K b1 b2 o, List.forall_mem_cons.mpr ⟨e_17 K b1 b2 o, List.forall_mem_cons.mpr ⟨e_18 K b1 b2 o, List.forall_mem_cons.mpr ⟨e_19 K b1 b2 o, List.forall_mem_cons.mpr ⟨e_20 K b1 b2 o, List.forall_mem_cons.mpr ⟨e_21 K b1 b2 o, List.forall_mem_cons.mpr ⟨e_22 K b1 b2 o, List.forall_mem_cons.mpr ⟨e_23 K b1 b2 o, List.forall_mem_cons.mpr ⟨e_24 K b1 b2 o, List.forall_mem_cons.mpr ⟨e_25 K b1 b2 o, List.forall_mem_cons.mpr ⟨e_26 K b1 b2 o, List.forall_mem_cons.mpr ⟨e_27 K b1 b2 o, List.forall_mem_cons.mpr ⟨e_28 K b1 b2 o, List.forall_mem_cons.mpr ⟨e_29 K b1 b2 o, List.forall_mem_cons.mpr ⟨e_30 K b1 b2 o, List.forall_mem_cons.mpr ⟨e_31 K b1 b2 o, List.forall_mem_cons.mpr ⟨e_32 K b1 b2 o, List.forall_mem_cons.mpr ⟨e_33 K b1 b2 o, List.forall_mem_cons.mpr ⟨e_34 K b1 b2 o, List.forall_mem_cons.mpr ⟨e_35 K b1 b2 o, List.forall_mem_cons.mpr ⟨e_36 K b1 b2 o, List.forall_mem_cons.mpr ⟨e_37 K b1 b2 o, List.forall_mem_cons.mpr ⟨e_38 K b1 b2 o, List.forall_mem_cons.mpr ⟨e_39 K b1 b2 o, List.forall_mem_cons.mpr ⟨e_40 K b1 b2 o, List.forall_mem_cons.mpr ⟨e_41 K b1 b2 o, List.forall_mem_cons.mpr ⟨e_42 K b1 b2 o, List.forall_mem_cons.mpr ⟨e_43 K b1 b2 o, List.forall_mem_cons.mpr ⟨e_44 K b1 b2 o, List.forall_mem_cons.mpr ⟨e_45 K b1 b2 o, List.forall_mem_cons.mpr ⟨e_46 K b1 b2 o, List.forall_mem_cons.mpr ⟨e_47 K b1 b2 o, List.forall_mem_cons.mpr ⟨e_48 K b1 b2 o, List.forall_mem_cons.mpr ⟨e_49 K b1 b2 o, List.forall_mem_cons.mpr ⟨e_50 K b1 b2 o, List.forall_mem_cons.mpr ⟨e_51 K b1 b2 o, List.forall_mem_cons.mpr ⟨e_52 K b1 b2 o, List.forall_mem_cons.mpr ⟨e_53 K b1 b2 o, List.forall_mem_cons.mpr ⟨e_54 K b1 b2 o, List.forall_mem_cons.mpr ⟨e_55 K b1 b2 o, List.forall_mem_cons.mpr ⟨e_56 K b1 b2 o, List.forall_mem_cons.mpr ⟨e_57 K b1 b2 o, List.forall_mem_cons.mpr ⟨e_58 K b1 b2 o, List.forall_mem_cons.mpr ⟨e_59 K b1 b2 o, List.forall_mem_cons.mpr ⟨e_60 K b1 b2 o, List.forall_mem_cons.mpr ⟨e_61 K b1 b2 o, List.forall_mem_cons.mpr ⟨e_62 K b1 b2 o, List.forall_mem_cons.mpr ⟨e_63 K b1 b2 o, List.forall_mem_cons.mpr ⟨e_64 K b1 b2 o, List.forall_mem_cons.mpr ⟨e_65 K b1 b2 o, List.forall_mem_cons.mpr ⟨e_66 K b1 b2 o, List.forall_mem_cons.mpr ⟨e_67 K b1 b2 o, List.forall_mem_cons.mpr ⟨e_68 K b1 b2 o, List.forall_mem_cons.mpr ⟨e_69 K b1 b2 o, List.forall_mem_cons.mpr ⟨e_70 K b1 b2 o, List.forall_mem_cons.mpr ⟨e_71 K b1 b2 o, List.forall_mem_cons.mpr ⟨e_72 K b1 b2 o, List.forall_mem_cons.mpr ⟨e_73 K b1 b2 o, List.forall_mem_cons.mpr ⟨e_74 K b1 b2 o, List.forall_mem_cons.mpr ⟨e_75 K b1 b2 o, List.forall_mem_cons.mpr ⟨e_76 K b1 b2 o, List.forall_mem_cons.mpr ⟨e_77 K b1 b2 o, List.forall_mem_cons.mpr ⟨e_78 K b1 b2 o, List.forall_mem_cons.mpr ⟨e_79 K b1 b2 o, List.forall_mem_cons.mpr ⟨e_80 K b1 b2 o, List.forall_mem_cons.mpr ⟨e_81 K b1 b2 o, List.forall_mem_cons.mpr ⟨e_82 K b1 b2 o, List.forall_mem_cons.mpr ⟨e_83 K b1 b2 o, List.forall_mem_cons.mpr ⟨e_84 K b1 b2 o, List.forall_mem_cons.mpr ⟨e_85 K b1 b2 o, List.forall_mem_cons.mpr ⟨e_86 K b1 b2 o, List.forall_mem_cons.mpr ⟨e_87 K b1 b2 o, List.forall_mem_cons.mpr ⟨e_88 K b1 b2 o, List.forall_mem_cons.mpr ⟨e_89 K b1 b2 o, List.forall_mem_cons.mpr ⟨e_90 K b1 b2 o, List.forall_mem_cons.mpr ⟨e_91 K b1 b2 o, List.forall_mem_cons.mpr ⟨e_92 K b1 b2 o, List.forall_mem_cons.mpr ⟨e_93 K b1 b2 o, List.forall_mem_cons.mpr ⟨e_94 K b1 b2 o, List.forall_mem_cons.mpr ⟨e_95 K b1 b2 o, List.forall_mem_cons.mpr ⟨e_96 K b1 b2 o, List.forall_mem_cons.mpr ⟨e_97 K b1 b2 o, List.forall_mem_cons.mpr ⟨e_98 K b1 b2 o, List.forall_mem_cons.mpr ⟨e_99 K b1 b2 o, List.forall_mem_cons.mpr ⟨e_100 K b1 b2 o, List.forall_mem_cons.mpr ⟨e_101 K b1 b2 o, List.forall_mem_cons.mpr ⟨e_102 K b1 b2 o, List.forall_mem_cons.mpr ⟨e_103 K b1 b2 o, List.forall_mem_cons.mpr ⟨e_104 K b1 b2 o, List.forall_mem_cons.mpr ⟨e_105 K b1 b2 o, List.forall_mem_cons.mpr ⟨e_106 K b1 b2 o, List.forall_mem_cons.mpr ⟨e_107 K b1 b2 o, List.forall_mem_cons.mpr ⟨e_108 K b1 b2 o, List.forall_mem_cons.mpr ⟨e_109 K b1 b2 o, List.forall_mem_cons.mpr ⟨e_110 K b1 b2 o, List.forall_mem_cons.mpr ⟨e_111 K b1 b2 o, List.forall_mem_cons.mpr ⟨e_112 K b1 b2 o, List.forall_mem_cons.mpr ⟨e_113 K b1 b2 o, List.forall_mem_cons.mpr ⟨e_114 K b1 b2 o, List.forall_mem_cons.mpr ⟨e_115 K b1 b2 o, List.forall_mem_cons.mpr ⟨e_116 K b1 b2 o, List.forall_mem_cons.mpr ⟨e_117 K b1 b2 o, List.forall_mem_cons.mpr ⟨e_118 K b1 b2 o, List.forall_mem_cons.mpr ⟨e_119 K b1 b2 o, List.forall_mem_cons.mpr ⟨e_120 K b1 b2 o, List.forall_mem_cons.mpr ⟨e_121 K b1 b2 o, List.forall_mem_cons.mpr ⟨e_122 K b1 b2 o, List.forall_mem_cons.mpr ⟨e_123 K b1 b2 o, List.forall_mem_cons.mpr ⟨e_124 K b1 b2 o, List.forall_mem_cons.mpr ⟨e_125 K b1 b2 o, List.forall_mem_cons.mpr ⟨e_126 K b1 b2 o, List.forall_mem_cons.mpr ⟨e_127 K b1 b2 o, List.forall_mem_cons.mpr ⟨e_128 K b1 b2 o, List.forall_mem_cons.mpr ⟨e_129 K b1 b2 o, List.forall_mem_cons.mpr ⟨e_130 K b1 b2 o, fun _ h => absurd h List.not_mem_nil⟩⟩⟩⟩⟩⟩⟩⟩⟩⟩⟩⟩⟩⟩⟩⟩⟩⟩⟩⟩⟩⟩⟩⟩⟩⟩⟩⟩⟩⟩⟩⟩⟩⟩⟩⟩⟩⟩⟩⟩⟩⟩⟩⟩⟩⟩⟩⟩⟩⟩⟩⟩⟩⟩⟩⟩⟩⟩⟩⟩⟩⟩⟩⟩⟩⟩⟩⟩⟩⟩⟩⟩⟩⟩⟩⟩⟩⟩⟩⟩⟩⟩⟩⟩⟩⟩⟩⟩⟩⟩⟩⟩⟩⟩⟩⟩⟩⟩⟩⟩⟩⟩⟩⟩⟩⟩⟩⟩⟩⟩⟩⟩⟩⟩⟩⟩⟩⟩⟩⟩⟩⟩⟩⟩⟩⟩⟩⟩⟩⟩⟩
  exact fun j hj => h j (List.mem_range.mpr hj)
end ZEN
theorem zps_i : ∀ i, i < 131 → ∀ j, j < 131 → zps i = zps j → i = j := by decide +kernel
theorem zw_of {D : va_G} {K : Nat → ClassId} {b1 b2 : Nat → Nat} {o : Nat} {A : Nat → Prop} {H : Heap} (hP : va_P D zcl (zwl K b1 b2 o) H) (hD : va_D A (zwl K b1 b2 o)) : va_P D zcl (zw K (qq b1 b2 o) z0) H ∧ zI (qq b1 b2 o) ∧ ∀ j, j < zN → A (qq b1 b2 o j) := by
  refine ⟨fun k x hx => ?_, fun i j hi hj h => ?_, fun j hj => ?_⟩
  · obtain ⟨hk, rfl⟩ := zw_at (c := []) hx
    exact hP _ _ (e_all K b1 b2 o k hk)
  · exact zps_i i hi j hj (hD.1 _ _ _ _ (e_all K b1 b2 o i hi) (e_all K b1 b2 o j hj) h)
  · exact hD.2 _ _ (e_all K b1 b2 o j hj)
