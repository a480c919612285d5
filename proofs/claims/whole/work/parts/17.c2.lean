/-! The class: walls copied, the past, what is seen. -/
/-- the memory behind b.copyFrom(c) -/
def cpW (M : am_I) (b c : Nat) : am_I := (am_row (am_row (am_row (am_row (am_row (am_row (am_row (am_row (am_row (am_up (am_up (am_up (am_up (am_up (am_up M b 0 (M c 0)) b 1 (M c 1)) b 2 (M c 2)) b 3 (M c 3)) b 4 (M c 4)) b 5 (M c 5)) (b + 1) (va_cpy (M (c + 1)) (M (b + 1)) 0 0 5)) (b + 2) (va_cpy (M (c + 2)) (M (b + 2)) 0 0 5)) (b + 3) (va_cpy (M (c + 3)) (M (b + 3)) 0 0 5)) (b + 4) (va_cpy (M (c + 4)) (M (b + 4)) 0 0 5)) (b + 5) (va_cpy (M (c + 5)) (M (b + 5)) 0 0 5)) (b + 6) (va_cpy (M (c + 6)) (M (b + 6)) 0 0 3)) (b + 7) (va_cpy (M (c + 7)) (M (b + 7)) 0 0 3)) (b + 8) (va_cpy (M (c + 8)) (M (b + 8)) 0 0 16)) (b + 9) (va_cpy (M (c + 9)) (M (b + 9)) 0 0 16))
set_option maxRecDepth 20000 in
theorem c6_cp_7_17 {M : am_I} {V : am_J} {f : Nat → Option Nat}  : CT m6_copyFrom 2 [Value.ref 7, Value.ref 17] M V f (RM none (cpW M 7 17) V f) := by
  refine CT.of m6_copyFrom_V.1 _ (en_aa_2 7 17) ?_
  refine ac_aload_n 1 dX6_copyFrom_0 rfl rfl ?_
  refine ac_aload_n 2 dX6_copyFrom_1 rfl rfl ?_
  refine ac_getI 5 dX6_copyFrom_2 rfl fl6_42 ob17 ?_
  refine ac_putI 8 dX6_copyFrom_5 rfl fl6_42 rfl rfl ob7 ?_
  refine ac_aload_n 9 dX6_copyFrom_8 rfl rfl ?_
  refine ac_aload_n 10 dX6_copyFrom_9 rfl rfl ?_
  refine ac_getI 13 dX6_copyFrom_10 rfl fl6_46 ob17 ?_
  rw [show ((am_up M 7 0 (M 17 0)) 17 1) = (M 17 1) from rfl]
  refine ac_putI 16 dX6_copyFrom_13 rfl fl6_46 rfl rfl ob7 ?_
  refine ac_aload_n 17 dX6_copyFrom_16 rfl rfl ?_
  refine ac_aload_n 18 dX6_copyFrom_17 rfl rfl ?_
  refine ac_getI 21 dX6_copyFrom_18 rfl fl6_49 ob17 ?_
  rw [show ((am_up (am_up M 7 0 (M 17 0)) 7 1 (M 17 1)) 17 2) = (M 17 2) from rfl]
  refine ac_putI 24 dX6_copyFrom_21 rfl fl6_49 rfl rfl ob7 ?_
  refine ac_aload_n 25 dX6_copyFrom_24 rfl rfl ?_
  refine ac_aload_n 26 dX6_copyFrom_25 rfl rfl ?_
  refine ac_getI 29 dX6_copyFrom_26 rfl fl6_52 ob17 ?_
  rw [show ((am_up (am_up (am_up M 7 0 (M 17 0)) 7 1 (M 17 1)) 7 2 (M 17 2)) 17 3) = (M 17 3) from rfl]
  refine ac_putI 32 dX6_copyFrom_29 rfl fl6_52 rfl rfl ob7 ?_
  refine ac_aload_n 33 dX6_copyFrom_32 rfl rfl ?_
  refine ac_aload_n 34 dX6_copyFrom_33 rfl rfl ?_
  refine ac_getI 37 dX6_copyFrom_34 rfl fl6_55 ob17 ?_
  rw [show ((am_up (am_up (am_up (am_up M 7 0 (M 17 0)) 7 1 (M 17 1)) 7 2 (M 17 2)) 7 3 (M 17 3)) 17 4) = (M 17 4) from rfl]
  refine ac_putI 40 dX6_copyFrom_37 rfl fl6_55 rfl rfl ob7 ?_
  refine ac_aload_n 41 dX6_copyFrom_40 rfl rfl ?_
  refine ac_aload_n 42 dX6_copyFrom_41 rfl rfl ?_
  refine ac_getI 45 dX6_copyFrom_42 rfl fl6_58 ob17 ?_
  rw [show ((am_up (am_up (am_up (am_up (am_up M 7 0 (M 17 0)) 7 1 (M 17 1)) 7 2 (M 17 2)) 7 3 (M 17 3)) 7 4 (M 17 4)) 17 5) = (M 17 5) from rfl]
  refine ac_putI 48 dX6_copyFrom_45 rfl fl6_58 rfl rfl ob7 ?_
  refine ac_aload_n 49 dX6_copyFrom_48 rfl rfl ?_
  refine ac_getO 52 18 dX6_copyFrom_49 rfl fl6_9 ob17 rfl ?_
  refine ac_iconst 53 0 dX6_copyFrom_52 rfl (by decide) ?_
  refine ac_aload_n 54 dX6_copyFrom_53 rfl rfl ?_
  refine ac_getO 57 8 dX6_copyFrom_54 rfl fl6_9 ob7 rfl ?_
  refine ac_iconst 58 0 dX6_copyFrom_57 rfl (by decide) ?_
  refine ac_iconst 59 5 dX6_copyFrom_58 rfl (by decide) ?_
  refine ac_copy 62 dX6_copyFrom_59 rfl lkj6_61 ar18 ar8 (by decide) (by decide) (by decide) (by decide) (by decide) (by decide) (Nat.le_of_ble_eq_true rfl) ?_
  refine ac_aload_n 63 dX6_copyFrom_62 rfl rfl ?_
  refine ac_getO 66 19 dX6_copyFrom_63 rfl fl6_15 ob17 rfl ?_
  refine ac_iconst 67 0 dX6_copyFrom_66 rfl (by decide) ?_
  refine ac_aload_n 68 dX6_copyFrom_67 rfl rfl ?_
  refine ac_getO 71 9 dX6_copyFrom_68 rfl fl6_15 ob7 rfl ?_
  refine ac_iconst 72 0 dX6_copyFrom_71 rfl (by decide) ?_
  refine ac_iconst 73 5 dX6_copyFrom_72 rfl (by decide) ?_
  refine ac_copy 76 dX6_copyFrom_73 rfl lkj6_61 ar19 ar9 (by decide) (by decide) (by decide) (by decide) (by decide) (by decide) (Nat.le_of_ble_eq_true rfl) ?_
  refine ac_aload_n 77 dX6_copyFrom_76 rfl rfl ?_
  refine ac_getO 80 20 dX6_copyFrom_77 rfl fl6_18 ob17 rfl ?_
  refine ac_iconst 81 0 dX6_copyFrom_80 rfl (by decide) ?_
  refine ac_aload_n 82 dX6_copyFrom_81 rfl rfl ?_
  refine ac_getO 85 10 dX6_copyFrom_82 rfl fl6_18 ob7 rfl ?_
  refine ac_iconst 86 0 dX6_copyFrom_85 rfl (by decide) ?_
  refine ac_iconst 87 5 dX6_copyFrom_86 rfl (by decide) ?_
  refine ac_copy 90 dX6_copyFrom_87 rfl lkj6_61 ar20 ar10 (by decide) (by decide) (by decide) (by decide) (by decide) (by decide) (Nat.le_of_ble_eq_true rfl) ?_
  refine ac_aload_n 91 dX6_copyFrom_90 rfl rfl ?_
  refine ac_getO 94 21 dX6_copyFrom_91 rfl fl6_21 ob17 rfl ?_
  refine ac_iconst 95 0 dX6_copyFrom_94 rfl (by decide) ?_
  refine ac_aload_n 96 dX6_copyFrom_95 rfl rfl ?_
  refine ac_getO 99 11 dX6_copyFrom_96 rfl fl6_21 ob7 rfl ?_
  refine ac_iconst 100 0 dX6_copyFrom_99 rfl (by decide) ?_
  refine ac_iconst 101 5 dX6_copyFrom_100 rfl (by decide) ?_
  refine ac_copy 104 dX6_copyFrom_101 rfl lkj6_61 ar21 ar11 (by decide) (by decide) (by decide) (by decide) (by decide) (by decide) (Nat.le_of_ble_eq_true rfl) ?_
  refine ac_aload_n 105 dX6_copyFrom_104 rfl rfl ?_
  refine ac_getO 108 22 dX6_copyFrom_105 rfl fl6_24 ob17 rfl ?_
  refine ac_iconst 109 0 dX6_copyFrom_108 rfl (by decide) ?_
  refine ac_aload_n 110 dX6_copyFrom_109 rfl rfl ?_
  refine ac_getO 113 12 dX6_copyFrom_110 rfl fl6_24 ob7 rfl ?_
  refine ac_iconst 114 0 dX6_copyFrom_113 rfl (by decide) ?_
  refine ac_iconst 115 5 dX6_copyFrom_114 rfl (by decide) ?_
  refine ac_copy 118 dX6_copyFrom_115 rfl lkj6_61 ar22 ar12 (by decide) (by decide) (by decide) (by decide) (by decide) (by decide) (Nat.le_of_ble_eq_true rfl) ?_
  refine ac_aload_n 119 dX6_copyFrom_118 rfl rfl ?_
  refine ac_getO 122 23 dX6_copyFrom_119 rfl fl6_27 ob17 rfl ?_
  refine ac_iconst 123 0 dX6_copyFrom_122 rfl (by decide) ?_
  refine ac_aload_n 124 dX6_copyFrom_123 rfl rfl ?_
  refine ac_getO 127 13 dX6_copyFrom_124 rfl fl6_27 ob7 rfl ?_
  refine ac_iconst 128 0 dX6_copyFrom_127 rfl (by decide) ?_
  refine ac_iconst 129 3 dX6_copyFrom_128 rfl (by decide) ?_
  refine ac_copy 132 dX6_copyFrom_129 rfl lkj6_61 ar23 ar13 (by decide) (by decide) (by decide) (by decide) (by decide) (by decide) (Nat.le_of_ble_eq_true rfl) ?_
  refine ac_aload_n 133 dX6_copyFrom_132 rfl rfl ?_
  refine ac_getO 136 24 dX6_copyFrom_133 rfl fl6_30 ob17 rfl ?_
  refine ac_iconst 137 0 dX6_copyFrom_136 rfl (by decide) ?_
  refine ac_aload_n 138 dX6_copyFrom_137 rfl rfl ?_
  refine ac_getO 141 14 dX6_copyFrom_138 rfl fl6_30 ob7 rfl ?_
  refine ac_iconst 142 0 dX6_copyFrom_141 rfl (by decide) ?_
  refine ac_iconst 143 3 dX6_copyFrom_142 rfl (by decide) ?_
  refine ac_copy 146 dX6_copyFrom_143 rfl lkj6_61 ar24 ar14 (by decide) (by decide) (by decide) (by decide) (by decide) (by decide) (Nat.le_of_ble_eq_true rfl) ?_
  refine ac_aload_n 147 dX6_copyFrom_146 rfl rfl ?_
  refine ac_getO 150 25 dX6_copyFrom_147 rfl fl6_33 ob17 rfl ?_
  refine ac_iconst 151 0 dX6_copyFrom_150 rfl (by decide) ?_
  refine ac_aload_n 152 dX6_copyFrom_151 rfl rfl ?_
  refine ac_getO 155 15 dX6_copyFrom_152 rfl fl6_33 ob7 rfl ?_
  refine ac_iconst 156 0 dX6_copyFrom_155 rfl (by decide) ?_
  refine ac_bipush 158 16 dX6_copyFrom_156 rfl (by decide) ?_
  refine ac_copy 161 dX6_copyFrom_158 rfl lkj6_61 ar25 ar15 (by decide) (by decide) (by decide) (by decide) (by decide) (by decide) (Nat.le_of_ble_eq_true rfl) ?_
  refine ac_aload_n 162 dX6_copyFrom_161 rfl rfl ?_
  refine ac_getO 165 26 dX6_copyFrom_162 rfl fl6_36 ob17 rfl ?_
  refine ac_iconst 166 0 dX6_copyFrom_165 rfl (by decide) ?_
  refine ac_aload_n 167 dX6_copyFrom_166 rfl rfl ?_
  refine ac_getO 170 16 dX6_copyFrom_167 rfl fl6_36 ob7 rfl ?_
  refine ac_iconst 171 0 dX6_copyFrom_170 rfl (by decide) ?_
  refine ac_bipush 173 16 dX6_copyFrom_171 rfl (by decide) ?_
  refine ac_copy 176 dX6_copyFrom_173 rfl lkj6_61 ar26 ar16 (by decide) (by decide) (by decide) (by decide) (by decide) (by decide) (Nat.le_of_ble_eq_true rfl) ?_
  refine ac_vret dX6_copyFrom_176 rfl ?_
  exact rm_mk rfl
set_option maxRecDepth 20000 in
theorem c6_cp_29_7 {M : am_I} {V : am_J} {f : Nat → Option Nat}  : CT m6_copyFrom 2 [Value.ref 29, Value.ref 7] M V f (RM none (cpW M 29 7) V f) := by
  refine CT.of m6_copyFrom_V.1 _ (en_aa_2 29 7) ?_
  refine ac_aload_n 1 dX6_copyFrom_0 rfl rfl ?_
  refine ac_aload_n 2 dX6_copyFrom_1 rfl rfl ?_
  refine ac_getI 5 dX6_copyFrom_2 rfl fl6_42 ob7 ?_
  refine ac_putI 8 dX6_copyFrom_5 rfl fl6_42 rfl rfl ob29 ?_
  refine ac_aload_n 9 dX6_copyFrom_8 rfl rfl ?_
  refine ac_aload_n 10 dX6_copyFrom_9 rfl rfl ?_
  refine ac_getI 13 dX6_copyFrom_10 rfl fl6_46 ob7 ?_
  rw [show ((am_up M 29 0 (M 7 0)) 7 1) = (M 7 1) from rfl]
  refine ac_putI 16 dX6_copyFrom_13 rfl fl6_46 rfl rfl ob29 ?_
  refine ac_aload_n 17 dX6_copyFrom_16 rfl rfl ?_
  refine ac_aload_n 18 dX6_copyFrom_17 rfl rfl ?_
  refine ac_getI 21 dX6_copyFrom_18 rfl fl6_49 ob7 ?_
  rw [show ((am_up (am_up M 29 0 (M 7 0)) 29 1 (M 7 1)) 7 2) = (M 7 2) from rfl]
  refine ac_putI 24 dX6_copyFrom_21 rfl fl6_49 rfl rfl ob29 ?_
  refine ac_aload_n 25 dX6_copyFrom_24 rfl rfl ?_
  refine ac_aload_n 26 dX6_copyFrom_25 rfl rfl ?_
  refine ac_getI 29 dX6_copyFrom_26 rfl fl6_52 ob7 ?_
  rw [show ((am_up (am_up (am_up M 29 0 (M 7 0)) 29 1 (M 7 1)) 29 2 (M 7 2)) 7 3) = (M 7 3) from rfl]
  refine ac_putI 32 dX6_copyFrom_29 rfl fl6_52 rfl rfl ob29 ?_
  refine ac_aload_n 33 dX6_copyFrom_32 rfl rfl ?_
  refine ac_aload_n 34 dX6_copyFrom_33 rfl rfl ?_
  refine ac_getI 37 dX6_copyFrom_34 rfl fl6_55 ob7 ?_
  rw [show ((am_up (am_up (am_up (am_up M 29 0 (M 7 0)) 29 1 (M 7 1)) 29 2 (M 7 2)) 29 3 (M 7 3)) 7 4) = (M 7 4) from rfl]
  refine ac_putI 40 dX6_copyFrom_37 rfl fl6_55 rfl rfl ob29 ?_
  refine ac_aload_n 41 dX6_copyFrom_40 rfl rfl ?_
  refine ac_aload_n 42 dX6_copyFrom_41 rfl rfl ?_
  refine ac_getI 45 dX6_copyFrom_42 rfl fl6_58 ob7 ?_
  rw [show ((am_up (am_up (am_up (am_up (am_up M 29 0 (M 7 0)) 29 1 (M 7 1)) 29 2 (M 7 2)) 29 3 (M 7 3)) 29 4 (M 7 4)) 7 5) = (M 7 5) from rfl]
  refine ac_putI 48 dX6_copyFrom_45 rfl fl6_58 rfl rfl ob29 ?_
  refine ac_aload_n 49 dX6_copyFrom_48 rfl rfl ?_
  refine ac_getO 52 8 dX6_copyFrom_49 rfl fl6_9 ob7 rfl ?_
  refine ac_iconst 53 0 dX6_copyFrom_52 rfl (by decide) ?_
  refine ac_aload_n 54 dX6_copyFrom_53 rfl rfl ?_
  refine ac_getO 57 30 dX6_copyFrom_54 rfl fl6_9 ob29 rfl ?_
  refine ac_iconst 58 0 dX6_copyFrom_57 rfl (by decide) ?_
  refine ac_iconst 59 5 dX6_copyFrom_58 rfl (by decide) ?_
  refine ac_copy 62 dX6_copyFrom_59 rfl lkj6_61 ar8 ar30 (by decide) (by decide) (by decide) (by decide) (by decide) (by decide) (Nat.le_of_ble_eq_true rfl) ?_
  refine ac_aload_n 63 dX6_copyFrom_62 rfl rfl ?_
  refine ac_getO 66 9 dX6_copyFrom_63 rfl fl6_15 ob7 rfl ?_
  refine ac_iconst 67 0 dX6_copyFrom_66 rfl (by decide) ?_
  refine ac_aload_n 68 dX6_copyFrom_67 rfl rfl ?_
  refine ac_getO 71 31 dX6_copyFrom_68 rfl fl6_15 ob29 rfl ?_
  refine ac_iconst 72 0 dX6_copyFrom_71 rfl (by decide) ?_
  refine ac_iconst 73 5 dX6_copyFrom_72 rfl (by decide) ?_
  refine ac_copy 76 dX6_copyFrom_73 rfl lkj6_61 ar9 ar31 (by decide) (by decide) (by decide) (by decide) (by decide) (by decide) (Nat.le_of_ble_eq_true rfl) ?_
  refine ac_aload_n 77 dX6_copyFrom_76 rfl rfl ?_
  refine ac_getO 80 10 dX6_copyFrom_77 rfl fl6_18 ob7 rfl ?_
  refine ac_iconst 81 0 dX6_copyFrom_80 rfl (by decide) ?_
  refine ac_aload_n 82 dX6_copyFrom_81 rfl rfl ?_
  refine ac_getO 85 32 dX6_copyFrom_82 rfl fl6_18 ob29 rfl ?_
  refine ac_iconst 86 0 dX6_copyFrom_85 rfl (by decide) ?_
  refine ac_iconst 87 5 dX6_copyFrom_86 rfl (by decide) ?_
  refine ac_copy 90 dX6_copyFrom_87 rfl lkj6_61 ar10 ar32 (by decide) (by decide) (by decide) (by decide) (by decide) (by decide) (Nat.le_of_ble_eq_true rfl) ?_
  refine ac_aload_n 91 dX6_copyFrom_90 rfl rfl ?_
  refine ac_getO 94 11 dX6_copyFrom_91 rfl fl6_21 ob7 rfl ?_
  refine ac_iconst 95 0 dX6_copyFrom_94 rfl (by decide) ?_
  refine ac_aload_n 96 dX6_copyFrom_95 rfl rfl ?_
  refine ac_getO 99 33 dX6_copyFrom_96 rfl fl6_21 ob29 rfl ?_
  refine ac_iconst 100 0 dX6_copyFrom_99 rfl (by decide) ?_
  refine ac_iconst 101 5 dX6_copyFrom_100 rfl (by decide) ?_
  refine ac_copy 104 dX6_copyFrom_101 rfl lkj6_61 ar11 ar33 (by decide) (by decide) (by decide) (by decide) (by decide) (by decide) (Nat.le_of_ble_eq_true rfl) ?_
  refine ac_aload_n 105 dX6_copyFrom_104 rfl rfl ?_
  refine ac_getO 108 12 dX6_copyFrom_105 rfl fl6_24 ob7 rfl ?_
  refine ac_iconst 109 0 dX6_copyFrom_108 rfl (by decide) ?_
  refine ac_aload_n 110 dX6_copyFrom_109 rfl rfl ?_
  refine ac_getO 113 34 dX6_copyFrom_110 rfl fl6_24 ob29 rfl ?_
  refine ac_iconst 114 0 dX6_copyFrom_113 rfl (by decide) ?_
  refine ac_iconst 115 5 dX6_copyFrom_114 rfl (by decide) ?_
  refine ac_copy 118 dX6_copyFrom_115 rfl lkj6_61 ar12 ar34 (by decide) (by decide) (by decide) (by decide) (by decide) (by decide) (Nat.le_of_ble_eq_true rfl) ?_
  refine ac_aload_n 119 dX6_copyFrom_118 rfl rfl ?_
  refine ac_getO 122 13 dX6_copyFrom_119 rfl fl6_27 ob7 rfl ?_
  refine ac_iconst 123 0 dX6_copyFrom_122 rfl (by decide) ?_
  refine ac_aload_n 124 dX6_copyFrom_123 rfl rfl ?_
  refine ac_getO 127 35 dX6_copyFrom_124 rfl fl6_27 ob29 rfl ?_
  refine ac_iconst 128 0 dX6_copyFrom_127 rfl (by decide) ?_
  refine ac_iconst 129 3 dX6_copyFrom_128 rfl (by decide) ?_
  refine ac_copy 132 dX6_copyFrom_129 rfl lkj6_61 ar13 ar35 (by decide) (by decide) (by decide) (by decide) (by decide) (by decide) (Nat.le_of_ble_eq_true rfl) ?_
  refine ac_aload_n 133 dX6_copyFrom_132 rfl rfl ?_
  refine ac_getO 136 14 dX6_copyFrom_133 rfl fl6_30 ob7 rfl ?_
  refine ac_iconst 137 0 dX6_copyFrom_136 rfl (by decide) ?_
  refine ac_aload_n 138 dX6_copyFrom_137 rfl rfl ?_
  refine ac_getO 141 36 dX6_copyFrom_138 rfl fl6_30 ob29 rfl ?_
  refine ac_iconst 142 0 dX6_copyFrom_141 rfl (by decide) ?_
  refine ac_iconst 143 3 dX6_copyFrom_142 rfl (by decide) ?_
  refine ac_copy 146 dX6_copyFrom_143 rfl lkj6_61 ar14 ar36 (by decide) (by decide) (by decide) (by decide) (by decide) (by decide) (Nat.le_of_ble_eq_true rfl) ?_
  refine ac_aload_n 147 dX6_copyFrom_146 rfl rfl ?_
  refine ac_getO 150 15 dX6_copyFrom_147 rfl fl6_33 ob7 rfl ?_
  refine ac_iconst 151 0 dX6_copyFrom_150 rfl (by decide) ?_
  refine ac_aload_n 152 dX6_copyFrom_151 rfl rfl ?_
  refine ac_getO 155 37 dX6_copyFrom_152 rfl fl6_33 ob29 rfl ?_
  refine ac_iconst 156 0 dX6_copyFrom_155 rfl (by decide) ?_
  refine ac_bipush 158 16 dX6_copyFrom_156 rfl (by decide) ?_
  refine ac_copy 161 dX6_copyFrom_158 rfl lkj6_61 ar15 ar37 (by decide) (by decide) (by decide) (by decide) (by decide) (by decide) (Nat.le_of_ble_eq_true rfl) ?_
  refine ac_aload_n 162 dX6_copyFrom_161 rfl rfl ?_
  refine ac_getO 165 16 dX6_copyFrom_162 rfl fl6_36 ob7 rfl ?_
  refine ac_iconst 166 0 dX6_copyFrom_165 rfl (by decide) ?_
  refine ac_aload_n 167 dX6_copyFrom_166 rfl rfl ?_
  refine ac_getO 170 38 dX6_copyFrom_167 rfl fl6_36 ob29 rfl ?_
  refine ac_iconst 171 0 dX6_copyFrom_170 rfl (by decide) ?_
  refine ac_bipush 173 16 dX6_copyFrom_171 rfl (by decide) ?_
  refine ac_copy 176 dX6_copyFrom_173 rfl lkj6_61 ar16 ar38 (by decide) (by decide) (by decide) (by decide) (by decide) (by decide) (Nat.le_of_ble_eq_true rfl) ?_
  refine ac_vret dX6_copyFrom_176 rfl ?_
  exact rm_mk rfl
set_option maxRecDepth 20000 in
theorem c6_cp_39_7 {M : am_I} {V : am_J} {f : Nat → Option Nat}  : CT m6_copyFrom 2 [Value.ref 39, Value.ref 7] M V f (RM none (cpW M 39 7) V f) := by
  refine CT.of m6_copyFrom_V.1 _ (en_aa_2 39 7) ?_
  refine ac_aload_n 1 dX6_copyFrom_0 rfl rfl ?_
  refine ac_aload_n 2 dX6_copyFrom_1 rfl rfl ?_
  refine ac_getI 5 dX6_copyFrom_2 rfl fl6_42 ob7 ?_
  refine ac_putI 8 dX6_copyFrom_5 rfl fl6_42 rfl rfl ob39 ?_
  refine ac_aload_n 9 dX6_copyFrom_8 rfl rfl ?_
  refine ac_aload_n 10 dX6_copyFrom_9 rfl rfl ?_
  refine ac_getI 13 dX6_copyFrom_10 rfl fl6_46 ob7 ?_
  rw [show ((am_up M 39 0 (M 7 0)) 7 1) = (M 7 1) from rfl]
  refine ac_putI 16 dX6_copyFrom_13 rfl fl6_46 rfl rfl ob39 ?_
  refine ac_aload_n 17 dX6_copyFrom_16 rfl rfl ?_
  refine ac_aload_n 18 dX6_copyFrom_17 rfl rfl ?_
  refine ac_getI 21 dX6_copyFrom_18 rfl fl6_49 ob7 ?_
  rw [show ((am_up (am_up M 39 0 (M 7 0)) 39 1 (M 7 1)) 7 2) = (M 7 2) from rfl]
  refine ac_putI 24 dX6_copyFrom_21 rfl fl6_49 rfl rfl ob39 ?_
  refine ac_aload_n 25 dX6_copyFrom_24 rfl rfl ?_
  refine ac_aload_n 26 dX6_copyFrom_25 rfl rfl ?_
  refine ac_getI 29 dX6_copyFrom_26 rfl fl6_52 ob7 ?_
  rw [show ((am_up (am_up (am_up M 39 0 (M 7 0)) 39 1 (M 7 1)) 39 2 (M 7 2)) 7 3) = (M 7 3) from rfl]
  refine ac_putI 32 dX6_copyFrom_29 rfl fl6_52 rfl rfl ob39 ?_
  refine ac_aload_n 33 dX6_copyFrom_32 rfl rfl ?_
  refine ac_aload_n 34 dX6_copyFrom_33 rfl rfl ?_
  refine ac_getI 37 dX6_copyFrom_34 rfl fl6_55 ob7 ?_
  rw [show ((am_up (am_up (am_up (am_up M 39 0 (M 7 0)) 39 1 (M 7 1)) 39 2 (M 7 2)) 39 3 (M 7 3)) 7 4) = (M 7 4) from rfl]
  refine ac_putI 40 dX6_copyFrom_37 rfl fl6_55 rfl rfl ob39 ?_
  refine ac_aload_n 41 dX6_copyFrom_40 rfl rfl ?_
  refine ac_aload_n 42 dX6_copyFrom_41 rfl rfl ?_
  refine ac_getI 45 dX6_copyFrom_42 rfl fl6_58 ob7 ?_
  rw [show ((am_up (am_up (am_up (am_up (am_up M 39 0 (M 7 0)) 39 1 (M 7 1)) 39 2 (M 7 2)) 39 3 (M 7 3)) 39 4 (M 7 4)) 7 5) = (M 7 5) from rfl]
  refine ac_putI 48 dX6_copyFrom_45 rfl fl6_58 rfl rfl ob39 ?_
  refine ac_aload_n 49 dX6_copyFrom_48 rfl rfl ?_
  refine ac_getO 52 8 dX6_copyFrom_49 rfl fl6_9 ob7 rfl ?_
  refine ac_iconst 53 0 dX6_copyFrom_52 rfl (by decide) ?_
  refine ac_aload_n 54 dX6_copyFrom_53 rfl rfl ?_
  refine ac_getO 57 40 dX6_copyFrom_54 rfl fl6_9 ob39 rfl ?_
  refine ac_iconst 58 0 dX6_copyFrom_57 rfl (by decide) ?_
  refine ac_iconst 59 5 dX6_copyFrom_58 rfl (by decide) ?_
  refine ac_copy 62 dX6_copyFrom_59 rfl lkj6_61 ar8 ar40 (by decide) (by decide) (by decide) (by decide) (by decide) (by decide) (Nat.le_of_ble_eq_true rfl) ?_
  refine ac_aload_n 63 dX6_copyFrom_62 rfl rfl ?_
  refine ac_getO 66 9 dX6_copyFrom_63 rfl fl6_15 ob7 rfl ?_
  refine ac_iconst 67 0 dX6_copyFrom_66 rfl (by decide) ?_
  refine ac_aload_n 68 dX6_copyFrom_67 rfl rfl ?_
  refine ac_getO 71 41 dX6_copyFrom_68 rfl fl6_15 ob39 rfl ?_
  refine ac_iconst 72 0 dX6_copyFrom_71 rfl (by decide) ?_
  refine ac_iconst 73 5 dX6_copyFrom_72 rfl (by decide) ?_
  refine ac_copy 76 dX6_copyFrom_73 rfl lkj6_61 ar9 ar41 (by decide) (by decide) (by decide) (by decide) (by decide) (by decide) (Nat.le_of_ble_eq_true rfl) ?_
  refine ac_aload_n 77 dX6_copyFrom_76 rfl rfl ?_
  refine ac_getO 80 10 dX6_copyFrom_77 rfl fl6_18 ob7 rfl ?_
  refine ac_iconst 81 0 dX6_copyFrom_80 rfl (by decide) ?_
  refine ac_aload_n 82 dX6_copyFrom_81 rfl rfl ?_
  refine ac_getO 85 42 dX6_copyFrom_82 rfl fl6_18 ob39 rfl ?_
  refine ac_iconst 86 0 dX6_copyFrom_85 rfl (by decide) ?_
  refine ac_iconst 87 5 dX6_copyFrom_86 rfl (by decide) ?_
  refine ac_copy 90 dX6_copyFrom_87 rfl lkj6_61 ar10 ar42 (by decide) (by decide) (by decide) (by decide) (by decide) (by decide) (Nat.le_of_ble_eq_true rfl) ?_
  refine ac_aload_n 91 dX6_copyFrom_90 rfl rfl ?_
  refine ac_getO 94 11 dX6_copyFrom_91 rfl fl6_21 ob7 rfl ?_
  refine ac_iconst 95 0 dX6_copyFrom_94 rfl (by decide) ?_
  refine ac_aload_n 96 dX6_copyFrom_95 rfl rfl ?_
  refine ac_getO 99 43 dX6_copyFrom_96 rfl fl6_21 ob39 rfl ?_
  refine ac_iconst 100 0 dX6_copyFrom_99 rfl (by decide) ?_
  refine ac_iconst 101 5 dX6_copyFrom_100 rfl (by decide) ?_
  refine ac_copy 104 dX6_copyFrom_101 rfl lkj6_61 ar11 ar43 (by decide) (by decide) (by decide) (by decide) (by decide) (by decide) (Nat.le_of_ble_eq_true rfl) ?_
  refine ac_aload_n 105 dX6_copyFrom_104 rfl rfl ?_
  refine ac_getO 108 12 dX6_copyFrom_105 rfl fl6_24 ob7 rfl ?_
  refine ac_iconst 109 0 dX6_copyFrom_108 rfl (by decide) ?_
  refine ac_aload_n 110 dX6_copyFrom_109 rfl rfl ?_
  refine ac_getO 113 44 dX6_copyFrom_110 rfl fl6_24 ob39 rfl ?_
  refine ac_iconst 114 0 dX6_copyFrom_113 rfl (by decide) ?_
  refine ac_iconst 115 5 dX6_copyFrom_114 rfl (by decide) ?_
  refine ac_copy 118 dX6_copyFrom_115 rfl lkj6_61 ar12 ar44 (by decide) (by decide) (by decide) (by decide) (by decide) (by decide) (Nat.le_of_ble_eq_true rfl) ?_
  refine ac_aload_n 119 dX6_copyFrom_118 rfl rfl ?_
  refine ac_getO 122 13 dX6_copyFrom_119 rfl fl6_27 ob7 rfl ?_
  refine ac_iconst 123 0 dX6_copyFrom_122 rfl (by decide) ?_
  refine ac_aload_n 124 dX6_copyFrom_123 rfl rfl ?_
  refine ac_getO 127 45 dX6_copyFrom_124 rfl fl6_27 ob39 rfl ?_
  refine ac_iconst 128 0 dX6_copyFrom_127 rfl (by decide) ?_
  refine ac_iconst 129 3 dX6_copyFrom_128 rfl (by decide) ?_
  refine ac_copy 132 dX6_copyFrom_129 rfl lkj6_61 ar13 ar45 (by decide) (by decide) (by decide) (by decide) (by decide) (by decide) (Nat.le_of_ble_eq_true rfl) ?_
  refine ac_aload_n 133 dX6_copyFrom_132 rfl rfl ?_
  refine ac_getO 136 14 dX6_copyFrom_133 rfl fl6_30 ob7 rfl ?_
  refine ac_iconst 137 0 dX6_copyFrom_136 rfl (by decide) ?_
  refine ac_aload_n 138 dX6_copyFrom_137 rfl rfl ?_
  refine ac_getO 141 46 dX6_copyFrom_138 rfl fl6_30 ob39 rfl ?_
  refine ac_iconst 142 0 dX6_copyFrom_141 rfl (by decide) ?_
  refine ac_iconst 143 3 dX6_copyFrom_142 rfl (by decide) ?_
  refine ac_copy 146 dX6_copyFrom_143 rfl lkj6_61 ar14 ar46 (by decide) (by decide) (by decide) (by decide) (by decide) (by decide) (Nat.le_of_ble_eq_true rfl) ?_
  refine ac_aload_n 147 dX6_copyFrom_146 rfl rfl ?_
  refine ac_getO 150 15 dX6_copyFrom_147 rfl fl6_33 ob7 rfl ?_
  refine ac_iconst 151 0 dX6_copyFrom_150 rfl (by decide) ?_
  refine ac_aload_n 152 dX6_copyFrom_151 rfl rfl ?_
  refine ac_getO 155 47 dX6_copyFrom_152 rfl fl6_33 ob39 rfl ?_
  refine ac_iconst 156 0 dX6_copyFrom_155 rfl (by decide) ?_
  refine ac_bipush 158 16 dX6_copyFrom_156 rfl (by decide) ?_
  refine ac_copy 161 dX6_copyFrom_158 rfl lkj6_61 ar15 ar47 (by decide) (by decide) (by decide) (by decide) (by decide) (by decide) (Nat.le_of_ble_eq_true rfl) ?_
  refine ac_aload_n 162 dX6_copyFrom_161 rfl rfl ?_
  refine ac_getO 165 16 dX6_copyFrom_162 rfl fl6_36 ob7 rfl ?_
  refine ac_iconst 166 0 dX6_copyFrom_165 rfl (by decide) ?_
  refine ac_aload_n 167 dX6_copyFrom_166 rfl rfl ?_
  refine ac_getO 170 48 dX6_copyFrom_167 rfl fl6_36 ob39 rfl ?_
  refine ac_iconst 171 0 dX6_copyFrom_170 rfl (by decide) ?_
  refine ac_bipush 173 16 dX6_copyFrom_171 rfl (by decide) ?_
  refine ac_copy 176 dX6_copyFrom_173 rfl lkj6_61 ar16 ar48 (by decide) (by decide) (by decide) (by decide) (by decide) (by decide) (Nat.le_of_ble_eq_true rfl) ?_
  refine ac_vret dX6_copyFrom_176 rfl ?_
  exact rm_mk rfl
set_option maxRecDepth 20000 in
theorem c6_cp_49_7 {M : am_I} {V : am_J} {f : Nat → Option Nat}  : CT m6_copyFrom 2 [Value.ref 49, Value.ref 7] M V f (RM none (cpW M 49 7) V f) := by
  refine CT.of m6_copyFrom_V.1 _ (en_aa_2 49 7) ?_
  refine ac_aload_n 1 dX6_copyFrom_0 rfl rfl ?_
  refine ac_aload_n 2 dX6_copyFrom_1 rfl rfl ?_
  refine ac_getI 5 dX6_copyFrom_2 rfl fl6_42 ob7 ?_
  refine ac_putI 8 dX6_copyFrom_5 rfl fl6_42 rfl rfl ob49 ?_
  refine ac_aload_n 9 dX6_copyFrom_8 rfl rfl ?_
  refine ac_aload_n 10 dX6_copyFrom_9 rfl rfl ?_
  refine ac_getI 13 dX6_copyFrom_10 rfl fl6_46 ob7 ?_
  rw [show ((am_up M 49 0 (M 7 0)) 7 1) = (M 7 1) from rfl]
  refine ac_putI 16 dX6_copyFrom_13 rfl fl6_46 rfl rfl ob49 ?_
  refine ac_aload_n 17 dX6_copyFrom_16 rfl rfl ?_
  refine ac_aload_n 18 dX6_copyFrom_17 rfl rfl ?_
  refine ac_getI 21 dX6_copyFrom_18 rfl fl6_49 ob7 ?_
  rw [show ((am_up (am_up M 49 0 (M 7 0)) 49 1 (M 7 1)) 7 2) = (M 7 2) from rfl]
  refine ac_putI 24 dX6_copyFrom_21 rfl fl6_49 rfl rfl ob49 ?_
  refine ac_aload_n 25 dX6_copyFrom_24 rfl rfl ?_
  refine ac_aload_n 26 dX6_copyFrom_25 rfl rfl ?_
  refine ac_getI 29 dX6_copyFrom_26 rfl fl6_52 ob7 ?_
  rw [show ((am_up (am_up (am_up M 49 0 (M 7 0)) 49 1 (M 7 1)) 49 2 (M 7 2)) 7 3) = (M 7 3) from rfl]
  refine ac_putI 32 dX6_copyFrom_29 rfl fl6_52 rfl rfl ob49 ?_
  refine ac_aload_n 33 dX6_copyFrom_32 rfl rfl ?_
  refine ac_aload_n 34 dX6_copyFrom_33 rfl rfl ?_
  refine ac_getI 37 dX6_copyFrom_34 rfl fl6_55 ob7 ?_
  rw [show ((am_up (am_up (am_up (am_up M 49 0 (M 7 0)) 49 1 (M 7 1)) 49 2 (M 7 2)) 49 3 (M 7 3)) 7 4) = (M 7 4) from rfl]
  refine ac_putI 40 dX6_copyFrom_37 rfl fl6_55 rfl rfl ob49 ?_
  refine ac_aload_n 41 dX6_copyFrom_40 rfl rfl ?_
  refine ac_aload_n 42 dX6_copyFrom_41 rfl rfl ?_
  refine ac_getI 45 dX6_copyFrom_42 rfl fl6_58 ob7 ?_
  rw [show ((am_up (am_up (am_up (am_up (am_up M 49 0 (M 7 0)) 49 1 (M 7 1)) 49 2 (M 7 2)) 49 3 (M 7 3)) 49 4 (M 7 4)) 7 5) = (M 7 5) from rfl]
  refine ac_putI 48 dX6_copyFrom_45 rfl fl6_58 rfl rfl ob49 ?_
  refine ac_aload_n 49 dX6_copyFrom_48 rfl rfl ?_
  refine ac_getO 52 8 dX6_copyFrom_49 rfl fl6_9 ob7 rfl ?_
  refine ac_iconst 53 0 dX6_copyFrom_52 rfl (by decide) ?_
  refine ac_aload_n 54 dX6_copyFrom_53 rfl rfl ?_
  refine ac_getO 57 50 dX6_copyFrom_54 rfl fl6_9 ob49 rfl ?_
  refine ac_iconst 58 0 dX6_copyFrom_57 rfl (by decide) ?_
  refine ac_iconst 59 5 dX6_copyFrom_58 rfl (by decide) ?_
  refine ac_copy 62 dX6_copyFrom_59 rfl lkj6_61 ar8 ar50 (by decide) (by decide) (by decide) (by decide) (by decide) (by decide) (Nat.le_of_ble_eq_true rfl) ?_
  refine ac_aload_n 63 dX6_copyFrom_62 rfl rfl ?_
  refine ac_getO 66 9 dX6_copyFrom_63 rfl fl6_15 ob7 rfl ?_
  refine ac_iconst 67 0 dX6_copyFrom_66 rfl (by decide) ?_
  refine ac_aload_n 68 dX6_copyFrom_67 rfl rfl ?_
  refine ac_getO 71 51 dX6_copyFrom_68 rfl fl6_15 ob49 rfl ?_
  refine ac_iconst 72 0 dX6_copyFrom_71 rfl (by decide) ?_
  refine ac_iconst 73 5 dX6_copyFrom_72 rfl (by decide) ?_
  refine ac_copy 76 dX6_copyFrom_73 rfl lkj6_61 ar9 ar51 (by decide) (by decide) (by decide) (by decide) (by decide) (by decide) (Nat.le_of_ble_eq_true rfl) ?_
  refine ac_aload_n 77 dX6_copyFrom_76 rfl rfl ?_
  refine ac_getO 80 10 dX6_copyFrom_77 rfl fl6_18 ob7 rfl ?_
  refine ac_iconst 81 0 dX6_copyFrom_80 rfl (by decide) ?_
  refine ac_aload_n 82 dX6_copyFrom_81 rfl rfl ?_
  refine ac_getO 85 52 dX6_copyFrom_82 rfl fl6_18 ob49 rfl ?_
  refine ac_iconst 86 0 dX6_copyFrom_85 rfl (by decide) ?_
  refine ac_iconst 87 5 dX6_copyFrom_86 rfl (by decide) ?_
  refine ac_copy 90 dX6_copyFrom_87 rfl lkj6_61 ar10 ar52 (by decide) (by decide) (by decide) (by decide) (by decide) (by decide) (Nat.le_of_ble_eq_true rfl) ?_
  refine ac_aload_n 91 dX6_copyFrom_90 rfl rfl ?_
  refine ac_getO 94 11 dX6_copyFrom_91 rfl fl6_21 ob7 rfl ?_
  refine ac_iconst 95 0 dX6_copyFrom_94 rfl (by decide) ?_
  refine ac_aload_n 96 dX6_copyFrom_95 rfl rfl ?_
  refine ac_getO 99 53 dX6_copyFrom_96 rfl fl6_21 ob49 rfl ?_
  refine ac_iconst 100 0 dX6_copyFrom_99 rfl (by decide) ?_
  refine ac_iconst 101 5 dX6_copyFrom_100 rfl (by decide) ?_
  refine ac_copy 104 dX6_copyFrom_101 rfl lkj6_61 ar11 ar53 (by decide) (by decide) (by decide) (by decide) (by decide) (by decide) (Nat.le_of_ble_eq_true rfl) ?_
  refine ac_aload_n 105 dX6_copyFrom_104 rfl rfl ?_
  refine ac_getO 108 12 dX6_copyFrom_105 rfl fl6_24 ob7 rfl ?_
  refine ac_iconst 109 0 dX6_copyFrom_108 rfl (by decide) ?_
  refine ac_aload_n 110 dX6_copyFrom_109 rfl rfl ?_
  refine ac_getO 113 54 dX6_copyFrom_110 rfl fl6_24 ob49 rfl ?_
  refine ac_iconst 114 0 dX6_copyFrom_113 rfl (by decide) ?_
  refine ac_iconst 115 5 dX6_copyFrom_114 rfl (by decide) ?_
  refine ac_copy 118 dX6_copyFrom_115 rfl lkj6_61 ar12 ar54 (by decide) (by decide) (by decide) (by decide) (by decide) (by decide) (Nat.le_of_ble_eq_true rfl) ?_
  refine ac_aload_n 119 dX6_copyFrom_118 rfl rfl ?_
  refine ac_getO 122 13 dX6_copyFrom_119 rfl fl6_27 ob7 rfl ?_
  refine ac_iconst 123 0 dX6_copyFrom_122 rfl (by decide) ?_
  refine ac_aload_n 124 dX6_copyFrom_123 rfl rfl ?_
  refine ac_getO 127 55 dX6_copyFrom_124 rfl fl6_27 ob49 rfl ?_
  refine ac_iconst 128 0 dX6_copyFrom_127 rfl (by decide) ?_
  refine ac_iconst 129 3 dX6_copyFrom_128 rfl (by decide) ?_
  refine ac_copy 132 dX6_copyFrom_129 rfl lkj6_61 ar13 ar55 (by decide) (by decide) (by decide) (by decide) (by decide) (by decide) (Nat.le_of_ble_eq_true rfl) ?_
  refine ac_aload_n 133 dX6_copyFrom_132 rfl rfl ?_
  refine ac_getO 136 14 dX6_copyFrom_133 rfl fl6_30 ob7 rfl ?_
  refine ac_iconst 137 0 dX6_copyFrom_136 rfl (by decide) ?_
  refine ac_aload_n 138 dX6_copyFrom_137 rfl rfl ?_
  refine ac_getO 141 56 dX6_copyFrom_138 rfl fl6_30 ob49 rfl ?_
  refine ac_iconst 142 0 dX6_copyFrom_141 rfl (by decide) ?_
  refine ac_iconst 143 3 dX6_copyFrom_142 rfl (by decide) ?_
  refine ac_copy 146 dX6_copyFrom_143 rfl lkj6_61 ar14 ar56 (by decide) (by decide) (by decide) (by decide) (by decide) (by decide) (Nat.le_of_ble_eq_true rfl) ?_
  refine ac_aload_n 147 dX6_copyFrom_146 rfl rfl ?_
  refine ac_getO 150 15 dX6_copyFrom_147 rfl fl6_33 ob7 rfl ?_
  refine ac_iconst 151 0 dX6_copyFrom_150 rfl (by decide) ?_
  refine ac_aload_n 152 dX6_copyFrom_151 rfl rfl ?_
  refine ac_getO 155 57 dX6_copyFrom_152 rfl fl6_33 ob49 rfl ?_
  refine ac_iconst 156 0 dX6_copyFrom_155 rfl (by decide) ?_
  refine ac_bipush 158 16 dX6_copyFrom_156 rfl (by decide) ?_
  refine ac_copy 161 dX6_copyFrom_158 rfl lkj6_61 ar15 ar57 (by decide) (by decide) (by decide) (by decide) (by decide) (by decide) (Nat.le_of_ble_eq_true rfl) ?_
  refine ac_aload_n 162 dX6_copyFrom_161 rfl rfl ?_
  refine ac_getO 165 16 dX6_copyFrom_162 rfl fl6_36 ob7 rfl ?_
  refine ac_iconst 166 0 dX6_copyFrom_165 rfl (by decide) ?_
  refine ac_aload_n 167 dX6_copyFrom_166 rfl rfl ?_
  refine ac_getO 170 58 dX6_copyFrom_167 rfl fl6_36 ob49 rfl ?_
  refine ac_iconst 171 0 dX6_copyFrom_170 rfl (by decide) ?_
  refine ac_bipush 173 16 dX6_copyFrom_171 rfl (by decide) ?_
  refine ac_copy 176 dX6_copyFrom_173 rfl lkj6_61 ar16 ar58 (by decide) (by decide) (by decide) (by decide) (by decide) (by decide) (Nat.le_of_ble_eq_true rfl) ?_
  refine ac_vret dX6_copyFrom_176 rfl ?_
  exact rm_mk rfl
set_option maxRecDepth 20000 in
theorem c6_cp_59_7 {M : am_I} {V : am_J} {f : Nat → Option Nat}  : CT m6_copyFrom 2 [Value.ref 59, Value.ref 7] M V f (RM none (cpW M 59 7) V f) := by
  refine CT.of m6_copyFrom_V.1 _ (en_aa_2 59 7) ?_
  refine ac_aload_n 1 dX6_copyFrom_0 rfl rfl ?_
  refine ac_aload_n 2 dX6_copyFrom_1 rfl rfl ?_
  refine ac_getI 5 dX6_copyFrom_2 rfl fl6_42 ob7 ?_
  refine ac_putI 8 dX6_copyFrom_5 rfl fl6_42 rfl rfl ob59 ?_
  refine ac_aload_n 9 dX6_copyFrom_8 rfl rfl ?_
  refine ac_aload_n 10 dX6_copyFrom_9 rfl rfl ?_
  refine ac_getI 13 dX6_copyFrom_10 rfl fl6_46 ob7 ?_
  rw [show ((am_up M 59 0 (M 7 0)) 7 1) = (M 7 1) from rfl]
  refine ac_putI 16 dX6_copyFrom_13 rfl fl6_46 rfl rfl ob59 ?_
  refine ac_aload_n 17 dX6_copyFrom_16 rfl rfl ?_
  refine ac_aload_n 18 dX6_copyFrom_17 rfl rfl ?_
  refine ac_getI 21 dX6_copyFrom_18 rfl fl6_49 ob7 ?_
  rw [show ((am_up (am_up M 59 0 (M 7 0)) 59 1 (M 7 1)) 7 2) = (M 7 2) from rfl]
  refine ac_putI 24 dX6_copyFrom_21 rfl fl6_49 rfl rfl ob59 ?_
  refine ac_aload_n 25 dX6_copyFrom_24 rfl rfl ?_
  refine ac_aload_n 26 dX6_copyFrom_25 rfl rfl ?_
  refine ac_getI 29 dX6_copyFrom_26 rfl fl6_52 ob7 ?_
  rw [show ((am_up (am_up (am_up M 59 0 (M 7 0)) 59 1 (M 7 1)) 59 2 (M 7 2)) 7 3) = (M 7 3) from rfl]
  refine ac_putI 32 dX6_copyFrom_29 rfl fl6_52 rfl rfl ob59 ?_
  refine ac_aload_n 33 dX6_copyFrom_32 rfl rfl ?_
  refine ac_aload_n 34 dX6_copyFrom_33 rfl rfl ?_
  refine ac_getI 37 dX6_copyFrom_34 rfl fl6_55 ob7 ?_
  rw [show ((am_up (am_up (am_up (am_up M 59 0 (M 7 0)) 59 1 (M 7 1)) 59 2 (M 7 2)) 59 3 (M 7 3)) 7 4) = (M 7 4) from rfl]
  refine ac_putI 40 dX6_copyFrom_37 rfl fl6_55 rfl rfl ob59 ?_
  refine ac_aload_n 41 dX6_copyFrom_40 rfl rfl ?_
  refine ac_aload_n 42 dX6_copyFrom_41 rfl rfl ?_
  refine ac_getI 45 dX6_copyFrom_42 rfl fl6_58 ob7 ?_
  rw [show ((am_up (am_up (am_up (am_up (am_up M 59 0 (M 7 0)) 59 1 (M 7 1)) 59 2 (M 7 2)) 59 3 (M 7 3)) 59 4 (M 7 4)) 7 5) = (M 7 5) from rfl]
  refine ac_putI 48 dX6_copyFrom_45 rfl fl6_58 rfl rfl ob59 ?_
  refine ac_aload_n 49 dX6_copyFrom_48 rfl rfl ?_
  refine ac_getO 52 8 dX6_copyFrom_49 rfl fl6_9 ob7 rfl ?_
  refine ac_iconst 53 0 dX6_copyFrom_52 rfl (by decide) ?_
  refine ac_aload_n 54 dX6_copyFrom_53 rfl rfl ?_
  refine ac_getO 57 60 dX6_copyFrom_54 rfl fl6_9 ob59 rfl ?_
  refine ac_iconst 58 0 dX6_copyFrom_57 rfl (by decide) ?_
  refine ac_iconst 59 5 dX6_copyFrom_58 rfl (by decide) ?_
  refine ac_copy 62 dX6_copyFrom_59 rfl lkj6_61 ar8 ar60 (by decide) (by decide) (by decide) (by decide) (by decide) (by decide) (Nat.le_of_ble_eq_true rfl) ?_
  refine ac_aload_n 63 dX6_copyFrom_62 rfl rfl ?_
  refine ac_getO 66 9 dX6_copyFrom_63 rfl fl6_15 ob7 rfl ?_
  refine ac_iconst 67 0 dX6_copyFrom_66 rfl (by decide) ?_
  refine ac_aload_n 68 dX6_copyFrom_67 rfl rfl ?_
  refine ac_getO 71 61 dX6_copyFrom_68 rfl fl6_15 ob59 rfl ?_
  refine ac_iconst 72 0 dX6_copyFrom_71 rfl (by decide) ?_
  refine ac_iconst 73 5 dX6_copyFrom_72 rfl (by decide) ?_
  refine ac_copy 76 dX6_copyFrom_73 rfl lkj6_61 ar9 ar61 (by decide) (by decide) (by decide) (by decide) (by decide) (by decide) (Nat.le_of_ble_eq_true rfl) ?_
  refine ac_aload_n 77 dX6_copyFrom_76 rfl rfl ?_
  refine ac_getO 80 10 dX6_copyFrom_77 rfl fl6_18 ob7 rfl ?_
  refine ac_iconst 81 0 dX6_copyFrom_80 rfl (by decide) ?_
  refine ac_aload_n 82 dX6_copyFrom_81 rfl rfl ?_
  refine ac_getO 85 62 dX6_copyFrom_82 rfl fl6_18 ob59 rfl ?_
  refine ac_iconst 86 0 dX6_copyFrom_85 rfl (by decide) ?_
  refine ac_iconst 87 5 dX6_copyFrom_86 rfl (by decide) ?_
  refine ac_copy 90 dX6_copyFrom_87 rfl lkj6_61 ar10 ar62 (by decide) (by decide) (by decide) (by decide) (by decide) (by decide) (Nat.le_of_ble_eq_true rfl) ?_
  refine ac_aload_n 91 dX6_copyFrom_90 rfl rfl ?_
  refine ac_getO 94 11 dX6_copyFrom_91 rfl fl6_21 ob7 rfl ?_
  refine ac_iconst 95 0 dX6_copyFrom_94 rfl (by decide) ?_
  refine ac_aload_n 96 dX6_copyFrom_95 rfl rfl ?_
  refine ac_getO 99 63 dX6_copyFrom_96 rfl fl6_21 ob59 rfl ?_
  refine ac_iconst 100 0 dX6_copyFrom_99 rfl (by decide) ?_
  refine ac_iconst 101 5 dX6_copyFrom_100 rfl (by decide) ?_
  refine ac_copy 104 dX6_copyFrom_101 rfl lkj6_61 ar11 ar63 (by decide) (by decide) (by decide) (by decide) (by decide) (by decide) (Nat.le_of_ble_eq_true rfl) ?_
  refine ac_aload_n 105 dX6_copyFrom_104 rfl rfl ?_
  refine ac_getO 108 12 dX6_copyFrom_105 rfl fl6_24 ob7 rfl ?_
  refine ac_iconst 109 0 dX6_copyFrom_108 rfl (by decide) ?_
  refine ac_aload_n 110 dX6_copyFrom_109 rfl rfl ?_
  refine ac_getO 113 64 dX6_copyFrom_110 rfl fl6_24 ob59 rfl ?_
  refine ac_iconst 114 0 dX6_copyFrom_113 rfl (by decide) ?_
  refine ac_iconst 115 5 dX6_copyFrom_114 rfl (by decide) ?_
  refine ac_copy 118 dX6_copyFrom_115 rfl lkj6_61 ar12 ar64 (by decide) (by decide) (by decide) (by decide) (by decide) (by decide) (Nat.le_of_ble_eq_true rfl) ?_
  refine ac_aload_n 119 dX6_copyFrom_118 rfl rfl ?_
  refine ac_getO 122 13 dX6_copyFrom_119 rfl fl6_27 ob7 rfl ?_
  refine ac_iconst 123 0 dX6_copyFrom_122 rfl (by decide) ?_
  refine ac_aload_n 124 dX6_copyFrom_123 rfl rfl ?_
  refine ac_getO 127 65 dX6_copyFrom_124 rfl fl6_27 ob59 rfl ?_
  refine ac_iconst 128 0 dX6_copyFrom_127 rfl (by decide) ?_
  refine ac_iconst 129 3 dX6_copyFrom_128 rfl (by decide) ?_
  refine ac_copy 132 dX6_copyFrom_129 rfl lkj6_61 ar13 ar65 (by decide) (by decide) (by decide) (by decide) (by decide) (by decide) (Nat.le_of_ble_eq_true rfl) ?_
  refine ac_aload_n 133 dX6_copyFrom_132 rfl rfl ?_
  refine ac_getO 136 14 dX6_copyFrom_133 rfl fl6_30 ob7 rfl ?_
  refine ac_iconst 137 0 dX6_copyFrom_136 rfl (by decide) ?_
  refine ac_aload_n 138 dX6_copyFrom_137 rfl rfl ?_
  refine ac_getO 141 66 dX6_copyFrom_138 rfl fl6_30 ob59 rfl ?_
  refine ac_iconst 142 0 dX6_copyFrom_141 rfl (by decide) ?_
  refine ac_iconst 143 3 dX6_copyFrom_142 rfl (by decide) ?_
  refine ac_copy 146 dX6_copyFrom_143 rfl lkj6_61 ar14 ar66 (by decide) (by decide) (by decide) (by decide) (by decide) (by decide) (Nat.le_of_ble_eq_true rfl) ?_
  refine ac_aload_n 147 dX6_copyFrom_146 rfl rfl ?_
  refine ac_getO 150 15 dX6_copyFrom_147 rfl fl6_33 ob7 rfl ?_
  refine ac_iconst 151 0 dX6_copyFrom_150 rfl (by decide) ?_
  refine ac_aload_n 152 dX6_copyFrom_151 rfl rfl ?_
  refine ac_getO 155 67 dX6_copyFrom_152 rfl fl6_33 ob59 rfl ?_
  refine ac_iconst 156 0 dX6_copyFrom_155 rfl (by decide) ?_
  refine ac_bipush 158 16 dX6_copyFrom_156 rfl (by decide) ?_
  refine ac_copy 161 dX6_copyFrom_158 rfl lkj6_61 ar15 ar67 (by decide) (by decide) (by decide) (by decide) (by decide) (by decide) (Nat.le_of_ble_eq_true rfl) ?_
  refine ac_aload_n 162 dX6_copyFrom_161 rfl rfl ?_
  refine ac_getO 165 16 dX6_copyFrom_162 rfl fl6_36 ob7 rfl ?_
  refine ac_iconst 166 0 dX6_copyFrom_165 rfl (by decide) ?_
  refine ac_aload_n 167 dX6_copyFrom_166 rfl rfl ?_
  refine ac_getO 170 68 dX6_copyFrom_167 rfl fl6_36 ob59 rfl ?_
  refine ac_iconst 171 0 dX6_copyFrom_170 rfl (by decide) ?_
  refine ac_bipush 173 16 dX6_copyFrom_171 rfl (by decide) ?_
  refine ac_copy 176 dX6_copyFrom_173 rfl lkj6_61 ar16 ar68 (by decide) (by decide) (by decide) (by decide) (by decide) (by decide) (Nat.le_of_ble_eq_true rfl) ?_
  refine ac_vret dX6_copyFrom_176 rfl ?_
  exact rm_mk rfl
set_option maxRecDepth 20000 in
theorem c6_cp_69_7 {M : am_I} {V : am_J} {f : Nat → Option Nat}  : CT m6_copyFrom 2 [Value.ref 69, Value.ref 7] M V f (RM none (cpW M 69 7) V f) := by
  refine CT.of m6_copyFrom_V.1 _ (en_aa_2 69 7) ?_
  refine ac_aload_n 1 dX6_copyFrom_0 rfl rfl ?_
  refine ac_aload_n 2 dX6_copyFrom_1 rfl rfl ?_
  refine ac_getI 5 dX6_copyFrom_2 rfl fl6_42 ob7 ?_
  refine ac_putI 8 dX6_copyFrom_5 rfl fl6_42 rfl rfl ob69 ?_
  refine ac_aload_n 9 dX6_copyFrom_8 rfl rfl ?_
  refine ac_aload_n 10 dX6_copyFrom_9 rfl rfl ?_
  refine ac_getI 13 dX6_copyFrom_10 rfl fl6_46 ob7 ?_
  rw [show ((am_up M 69 0 (M 7 0)) 7 1) = (M 7 1) from rfl]
  refine ac_putI 16 dX6_copyFrom_13 rfl fl6_46 rfl rfl ob69 ?_
  refine ac_aload_n 17 dX6_copyFrom_16 rfl rfl ?_
  refine ac_aload_n 18 dX6_copyFrom_17 rfl rfl ?_
  refine ac_getI 21 dX6_copyFrom_18 rfl fl6_49 ob7 ?_
  rw [show ((am_up (am_up M 69 0 (M 7 0)) 69 1 (M 7 1)) 7 2) = (M 7 2) from rfl]
  refine ac_putI 24 dX6_copyFrom_21 rfl fl6_49 rfl rfl ob69 ?_
  refine ac_aload_n 25 dX6_copyFrom_24 rfl rfl ?_
  refine ac_aload_n 26 dX6_copyFrom_25 rfl rfl ?_
  refine ac_getI 29 dX6_copyFrom_26 rfl fl6_52 ob7 ?_
  rw [show ((am_up (am_up (am_up M 69 0 (M 7 0)) 69 1 (M 7 1)) 69 2 (M 7 2)) 7 3) = (M 7 3) from rfl]
  refine ac_putI 32 dX6_copyFrom_29 rfl fl6_52 rfl rfl ob69 ?_
  refine ac_aload_n 33 dX6_copyFrom_32 rfl rfl ?_
  refine ac_aload_n 34 dX6_copyFrom_33 rfl rfl ?_
  refine ac_getI 37 dX6_copyFrom_34 rfl fl6_55 ob7 ?_
  rw [show ((am_up (am_up (am_up (am_up M 69 0 (M 7 0)) 69 1 (M 7 1)) 69 2 (M 7 2)) 69 3 (M 7 3)) 7 4) = (M 7 4) from rfl]
  refine ac_putI 40 dX6_copyFrom_37 rfl fl6_55 rfl rfl ob69 ?_
  refine ac_aload_n 41 dX6_copyFrom_40 rfl rfl ?_
  refine ac_aload_n 42 dX6_copyFrom_41 rfl rfl ?_
  refine ac_getI 45 dX6_copyFrom_42 rfl fl6_58 ob7 ?_
  rw [show ((am_up (am_up (am_up (am_up (am_up M 69 0 (M 7 0)) 69 1 (M 7 1)) 69 2 (M 7 2)) 69 3 (M 7 3)) 69 4 (M 7 4)) 7 5) = (M 7 5) from rfl]
  refine ac_putI 48 dX6_copyFrom_45 rfl fl6_58 rfl rfl ob69 ?_
  refine ac_aload_n 49 dX6_copyFrom_48 rfl rfl ?_
  refine ac_getO 52 8 dX6_copyFrom_49 rfl fl6_9 ob7 rfl ?_
  refine ac_iconst 53 0 dX6_copyFrom_52 rfl (by decide) ?_
  refine ac_aload_n 54 dX6_copyFrom_53 rfl rfl ?_
  refine ac_getO 57 70 dX6_copyFrom_54 rfl fl6_9 ob69 rfl ?_
  refine ac_iconst 58 0 dX6_copyFrom_57 rfl (by decide) ?_
  refine ac_iconst 59 5 dX6_copyFrom_58 rfl (by decide) ?_
  refine ac_copy 62 dX6_copyFrom_59 rfl lkj6_61 ar8 ar70 (by decide) (by decide) (by decide) (by decide) (by decide) (by decide) (Nat.le_of_ble_eq_true rfl) ?_
  refine ac_aload_n 63 dX6_copyFrom_62 rfl rfl ?_
  refine ac_getO 66 9 dX6_copyFrom_63 rfl fl6_15 ob7 rfl ?_
  refine ac_iconst 67 0 dX6_copyFrom_66 rfl (by decide) ?_
  refine ac_aload_n 68 dX6_copyFrom_67 rfl rfl ?_
  refine ac_getO 71 71 dX6_copyFrom_68 rfl fl6_15 ob69 rfl ?_
  refine ac_iconst 72 0 dX6_copyFrom_71 rfl (by decide) ?_
  refine ac_iconst 73 5 dX6_copyFrom_72 rfl (by decide) ?_
  refine ac_copy 76 dX6_copyFrom_73 rfl lkj6_61 ar9 ar71 (by decide) (by decide) (by decide) (by decide) (by decide) (by decide) (Nat.le_of_ble_eq_true rfl) ?_
  refine ac_aload_n 77 dX6_copyFrom_76 rfl rfl ?_
  refine ac_getO 80 10 dX6_copyFrom_77 rfl fl6_18 ob7 rfl ?_
  refine ac_iconst 81 0 dX6_copyFrom_80 rfl (by decide) ?_
  refine ac_aload_n 82 dX6_copyFrom_81 rfl rfl ?_
  refine ac_getO 85 72 dX6_copyFrom_82 rfl fl6_18 ob69 rfl ?_
  refine ac_iconst 86 0 dX6_copyFrom_85 rfl (by decide) ?_
  refine ac_iconst 87 5 dX6_copyFrom_86 rfl (by decide) ?_
  refine ac_copy 90 dX6_copyFrom_87 rfl lkj6_61 ar10 ar72 (by decide) (by decide) (by decide) (by decide) (by decide) (by decide) (Nat.le_of_ble_eq_true rfl) ?_
  refine ac_aload_n 91 dX6_copyFrom_90 rfl rfl ?_
  refine ac_getO 94 11 dX6_copyFrom_91 rfl fl6_21 ob7 rfl ?_
  refine ac_iconst 95 0 dX6_copyFrom_94 rfl (by decide) ?_
  refine ac_aload_n 96 dX6_copyFrom_95 rfl rfl ?_
  refine ac_getO 99 73 dX6_copyFrom_96 rfl fl6_21 ob69 rfl ?_
  refine ac_iconst 100 0 dX6_copyFrom_99 rfl (by decide) ?_
  refine ac_iconst 101 5 dX6_copyFrom_100 rfl (by decide) ?_
  refine ac_copy 104 dX6_copyFrom_101 rfl lkj6_61 ar11 ar73 (by decide) (by decide) (by decide) (by decide) (by decide) (by decide) (Nat.le_of_ble_eq_true rfl) ?_
  refine ac_aload_n 105 dX6_copyFrom_104 rfl rfl ?_
  refine ac_getO 108 12 dX6_copyFrom_105 rfl fl6_24 ob7 rfl ?_
  refine ac_iconst 109 0 dX6_copyFrom_108 rfl (by decide) ?_
  refine ac_aload_n 110 dX6_copyFrom_109 rfl rfl ?_
  refine ac_getO 113 74 dX6_copyFrom_110 rfl fl6_24 ob69 rfl ?_
  refine ac_iconst 114 0 dX6_copyFrom_113 rfl (by decide) ?_
  refine ac_iconst 115 5 dX6_copyFrom_114 rfl (by decide) ?_
  refine ac_copy 118 dX6_copyFrom_115 rfl lkj6_61 ar12 ar74 (by decide) (by decide) (by decide) (by decide) (by decide) (by decide) (Nat.le_of_ble_eq_true rfl) ?_
  refine ac_aload_n 119 dX6_copyFrom_118 rfl rfl ?_
  refine ac_getO 122 13 dX6_copyFrom_119 rfl fl6_27 ob7 rfl ?_
  refine ac_iconst 123 0 dX6_copyFrom_122 rfl (by decide) ?_
  refine ac_aload_n 124 dX6_copyFrom_123 rfl rfl ?_
  refine ac_getO 127 75 dX6_copyFrom_124 rfl fl6_27 ob69 rfl ?_
  refine ac_iconst 128 0 dX6_copyFrom_127 rfl (by decide) ?_
  refine ac_iconst 129 3 dX6_copyFrom_128 rfl (by decide) ?_
  refine ac_copy 132 dX6_copyFrom_129 rfl lkj6_61 ar13 ar75 (by decide) (by decide) (by decide) (by decide) (by decide) (by decide) (Nat.le_of_ble_eq_true rfl) ?_
  refine ac_aload_n 133 dX6_copyFrom_132 rfl rfl ?_
  refine ac_getO 136 14 dX6_copyFrom_133 rfl fl6_30 ob7 rfl ?_
  refine ac_iconst 137 0 dX6_copyFrom_136 rfl (by decide) ?_
  refine ac_aload_n 138 dX6_copyFrom_137 rfl rfl ?_
  refine ac_getO 141 76 dX6_copyFrom_138 rfl fl6_30 ob69 rfl ?_
  refine ac_iconst 142 0 dX6_copyFrom_141 rfl (by decide) ?_
  refine ac_iconst 143 3 dX6_copyFrom_142 rfl (by decide) ?_
  refine ac_copy 146 dX6_copyFrom_143 rfl lkj6_61 ar14 ar76 (by decide) (by decide) (by decide) (by decide) (by decide) (by decide) (Nat.le_of_ble_eq_true rfl) ?_
  refine ac_aload_n 147 dX6_copyFrom_146 rfl rfl ?_
  refine ac_getO 150 15 dX6_copyFrom_147 rfl fl6_33 ob7 rfl ?_
  refine ac_iconst 151 0 dX6_copyFrom_150 rfl (by decide) ?_
  refine ac_aload_n 152 dX6_copyFrom_151 rfl rfl ?_
  refine ac_getO 155 77 dX6_copyFrom_152 rfl fl6_33 ob69 rfl ?_
  refine ac_iconst 156 0 dX6_copyFrom_155 rfl (by decide) ?_
  refine ac_bipush 158 16 dX6_copyFrom_156 rfl (by decide) ?_
  refine ac_copy 161 dX6_copyFrom_158 rfl lkj6_61 ar15 ar77 (by decide) (by decide) (by decide) (by decide) (by decide) (by decide) (Nat.le_of_ble_eq_true rfl) ?_
  refine ac_aload_n 162 dX6_copyFrom_161 rfl rfl ?_
  refine ac_getO 165 16 dX6_copyFrom_162 rfl fl6_36 ob7 rfl ?_
  refine ac_iconst 166 0 dX6_copyFrom_165 rfl (by decide) ?_
  refine ac_aload_n 167 dX6_copyFrom_166 rfl rfl ?_
  refine ac_getO 170 78 dX6_copyFrom_167 rfl fl6_36 ob69 rfl ?_
  refine ac_iconst 171 0 dX6_copyFrom_170 rfl (by decide) ?_
  refine ac_bipush 173 16 dX6_copyFrom_171 rfl (by decide) ?_
  refine ac_copy 176 dX6_copyFrom_173 rfl lkj6_61 ar16 ar78 (by decide) (by decide) (by decide) (by decide) (by decide) (by decide) (Nat.le_of_ble_eq_true rfl) ?_
  refine ac_vret dX6_copyFrom_176 rfl ?_
  exact rm_mk rfl
set_option maxRecDepth 20000 in
theorem c6_cp_79_7 {M : am_I} {V : am_J} {f : Nat → Option Nat}  : CT m6_copyFrom 2 [Value.ref 79, Value.ref 7] M V f (RM none (cpW M 79 7) V f) := by
  refine CT.of m6_copyFrom_V.1 _ (en_aa_2 79 7) ?_
  refine ac_aload_n 1 dX6_copyFrom_0 rfl rfl ?_
  refine ac_aload_n 2 dX6_copyFrom_1 rfl rfl ?_
  refine ac_getI 5 dX6_copyFrom_2 rfl fl6_42 ob7 ?_
  refine ac_putI 8 dX6_copyFrom_5 rfl fl6_42 rfl rfl ob79 ?_
  refine ac_aload_n 9 dX6_copyFrom_8 rfl rfl ?_
  refine ac_aload_n 10 dX6_copyFrom_9 rfl rfl ?_
  refine ac_getI 13 dX6_copyFrom_10 rfl fl6_46 ob7 ?_
  rw [show ((am_up M 79 0 (M 7 0)) 7 1) = (M 7 1) from rfl]
  refine ac_putI 16 dX6_copyFrom_13 rfl fl6_46 rfl rfl ob79 ?_
  refine ac_aload_n 17 dX6_copyFrom_16 rfl rfl ?_
  refine ac_aload_n 18 dX6_copyFrom_17 rfl rfl ?_
  refine ac_getI 21 dX6_copyFrom_18 rfl fl6_49 ob7 ?_
  rw [show ((am_up (am_up M 79 0 (M 7 0)) 79 1 (M 7 1)) 7 2) = (M 7 2) from rfl]
  refine ac_putI 24 dX6_copyFrom_21 rfl fl6_49 rfl rfl ob79 ?_
  refine ac_aload_n 25 dX6_copyFrom_24 rfl rfl ?_
  refine ac_aload_n 26 dX6_copyFrom_25 rfl rfl ?_
  refine ac_getI 29 dX6_copyFrom_26 rfl fl6_52 ob7 ?_
  rw [show ((am_up (am_up (am_up M 79 0 (M 7 0)) 79 1 (M 7 1)) 79 2 (M 7 2)) 7 3) = (M 7 3) from rfl]
  refine ac_putI 32 dX6_copyFrom_29 rfl fl6_52 rfl rfl ob79 ?_
  refine ac_aload_n 33 dX6_copyFrom_32 rfl rfl ?_
  refine ac_aload_n 34 dX6_copyFrom_33 rfl rfl ?_
  refine ac_getI 37 dX6_copyFrom_34 rfl fl6_55 ob7 ?_
  rw [show ((am_up (am_up (am_up (am_up M 79 0 (M 7 0)) 79 1 (M 7 1)) 79 2 (M 7 2)) 79 3 (M 7 3)) 7 4) = (M 7 4) from rfl]
  refine ac_putI 40 dX6_copyFrom_37 rfl fl6_55 rfl rfl ob79 ?_
  refine ac_aload_n 41 dX6_copyFrom_40 rfl rfl ?_
  refine ac_aload_n 42 dX6_copyFrom_41 rfl rfl ?_
  refine ac_getI 45 dX6_copyFrom_42 rfl fl6_58 ob7 ?_
  rw [show ((am_up (am_up (am_up (am_up (am_up M 79 0 (M 7 0)) 79 1 (M 7 1)) 79 2 (M 7 2)) 79 3 (M 7 3)) 79 4 (M 7 4)) 7 5) = (M 7 5) from rfl]
  refine ac_putI 48 dX6_copyFrom_45 rfl fl6_58 rfl rfl ob79 ?_
  refine ac_aload_n 49 dX6_copyFrom_48 rfl rfl ?_
  refine ac_getO 52 8 dX6_copyFrom_49 rfl fl6_9 ob7 rfl ?_
  refine ac_iconst 53 0 dX6_copyFrom_52 rfl (by decide) ?_
  refine ac_aload_n 54 dX6_copyFrom_53 rfl rfl ?_
  refine ac_getO 57 80 dX6_copyFrom_54 rfl fl6_9 ob79 rfl ?_
  refine ac_iconst 58 0 dX6_copyFrom_57 rfl (by decide) ?_
  refine ac_iconst 59 5 dX6_copyFrom_58 rfl (by decide) ?_
  refine ac_copy 62 dX6_copyFrom_59 rfl lkj6_61 ar8 ar80 (by decide) (by decide) (by decide) (by decide) (by decide) (by decide) (Nat.le_of_ble_eq_true rfl) ?_
  refine ac_aload_n 63 dX6_copyFrom_62 rfl rfl ?_
  refine ac_getO 66 9 dX6_copyFrom_63 rfl fl6_15 ob7 rfl ?_
  refine ac_iconst 67 0 dX6_copyFrom_66 rfl (by decide) ?_
  refine ac_aload_n 68 dX6_copyFrom_67 rfl rfl ?_
  refine ac_getO 71 81 dX6_copyFrom_68 rfl fl6_15 ob79 rfl ?_
  refine ac_iconst 72 0 dX6_copyFrom_71 rfl (by decide) ?_
  refine ac_iconst 73 5 dX6_copyFrom_72 rfl (by decide) ?_
  refine ac_copy 76 dX6_copyFrom_73 rfl lkj6_61 ar9 ar81 (by decide) (by decide) (by decide) (by decide) (by decide) (by decide) (Nat.le_of_ble_eq_true rfl) ?_
  refine ac_aload_n 77 dX6_copyFrom_76 rfl rfl ?_
  refine ac_getO 80 10 dX6_copyFrom_77 rfl fl6_18 ob7 rfl ?_
  refine ac_iconst 81 0 dX6_copyFrom_80 rfl (by decide) ?_
  refine ac_aload_n 82 dX6_copyFrom_81 rfl rfl ?_
  refine ac_getO 85 82 dX6_copyFrom_82 rfl fl6_18 ob79 rfl ?_
  refine ac_iconst 86 0 dX6_copyFrom_85 rfl (by decide) ?_
  refine ac_iconst 87 5 dX6_copyFrom_86 rfl (by decide) ?_
  refine ac_copy 90 dX6_copyFrom_87 rfl lkj6_61 ar10 ar82 (by decide) (by decide) (by decide) (by decide) (by decide) (by decide) (Nat.le_of_ble_eq_true rfl) ?_
  refine ac_aload_n 91 dX6_copyFrom_90 rfl rfl ?_
  refine ac_getO 94 11 dX6_copyFrom_91 rfl fl6_21 ob7 rfl ?_
  refine ac_iconst 95 0 dX6_copyFrom_94 rfl (by decide) ?_
  refine ac_aload_n 96 dX6_copyFrom_95 rfl rfl ?_
  refine ac_getO 99 83 dX6_copyFrom_96 rfl fl6_21 ob79 rfl ?_
  refine ac_iconst 100 0 dX6_copyFrom_99 rfl (by decide) ?_
  refine ac_iconst 101 5 dX6_copyFrom_100 rfl (by decide) ?_
  refine ac_copy 104 dX6_copyFrom_101 rfl lkj6_61 ar11 ar83 (by decide) (by decide) (by decide) (by decide) (by decide) (by decide) (Nat.le_of_ble_eq_true rfl) ?_
  refine ac_aload_n 105 dX6_copyFrom_104 rfl rfl ?_
  refine ac_getO 108 12 dX6_copyFrom_105 rfl fl6_24 ob7 rfl ?_
  refine ac_iconst 109 0 dX6_copyFrom_108 rfl (by decide) ?_
  refine ac_aload_n 110 dX6_copyFrom_109 rfl rfl ?_
  refine ac_getO 113 84 dX6_copyFrom_110 rfl fl6_24 ob79 rfl ?_
  refine ac_iconst 114 0 dX6_copyFrom_113 rfl (by decide) ?_
  refine ac_iconst 115 5 dX6_copyFrom_114 rfl (by decide) ?_
  refine ac_copy 118 dX6_copyFrom_115 rfl lkj6_61 ar12 ar84 (by decide) (by decide) (by decide) (by decide) (by decide) (by decide) (Nat.le_of_ble_eq_true rfl) ?_
  refine ac_aload_n 119 dX6_copyFrom_118 rfl rfl ?_
  refine ac_getO 122 13 dX6_copyFrom_119 rfl fl6_27 ob7 rfl ?_
  refine ac_iconst 123 0 dX6_copyFrom_122 rfl (by decide) ?_
  refine ac_aload_n 124 dX6_copyFrom_123 rfl rfl ?_
  refine ac_getO 127 85 dX6_copyFrom_124 rfl fl6_27 ob79 rfl ?_
  refine ac_iconst 128 0 dX6_copyFrom_127 rfl (by decide) ?_
  refine ac_iconst 129 3 dX6_copyFrom_128 rfl (by decide) ?_
  refine ac_copy 132 dX6_copyFrom_129 rfl lkj6_61 ar13 ar85 (by decide) (by decide) (by decide) (by decide) (by decide) (by decide) (Nat.le_of_ble_eq_true rfl) ?_
  refine ac_aload_n 133 dX6_copyFrom_132 rfl rfl ?_
  refine ac_getO 136 14 dX6_copyFrom_133 rfl fl6_30 ob7 rfl ?_
  refine ac_iconst 137 0 dX6_copyFrom_136 rfl (by decide) ?_
  refine ac_aload_n 138 dX6_copyFrom_137 rfl rfl ?_
  refine ac_getO 141 86 dX6_copyFrom_138 rfl fl6_30 ob79 rfl ?_
  refine ac_iconst 142 0 dX6_copyFrom_141 rfl (by decide) ?_
  refine ac_iconst 143 3 dX6_copyFrom_142 rfl (by decide) ?_
  refine ac_copy 146 dX6_copyFrom_143 rfl lkj6_61 ar14 ar86 (by decide) (by decide) (by decide) (by decide) (by decide) (by decide) (Nat.le_of_ble_eq_true rfl) ?_
  refine ac_aload_n 147 dX6_copyFrom_146 rfl rfl ?_
  refine ac_getO 150 15 dX6_copyFrom_147 rfl fl6_33 ob7 rfl ?_
  refine ac_iconst 151 0 dX6_copyFrom_150 rfl (by decide) ?_
  refine ac_aload_n 152 dX6_copyFrom_151 rfl rfl ?_
  refine ac_getO 155 87 dX6_copyFrom_152 rfl fl6_33 ob79 rfl ?_
  refine ac_iconst 156 0 dX6_copyFrom_155 rfl (by decide) ?_
  refine ac_bipush 158 16 dX6_copyFrom_156 rfl (by decide) ?_
  refine ac_copy 161 dX6_copyFrom_158 rfl lkj6_61 ar15 ar87 (by decide) (by decide) (by decide) (by decide) (by decide) (by decide) (Nat.le_of_ble_eq_true rfl) ?_
  refine ac_aload_n 162 dX6_copyFrom_161 rfl rfl ?_
  refine ac_getO 165 16 dX6_copyFrom_162 rfl fl6_36 ob7 rfl ?_
  refine ac_iconst 166 0 dX6_copyFrom_165 rfl (by decide) ?_
  refine ac_aload_n 167 dX6_copyFrom_166 rfl rfl ?_
  refine ac_getO 170 88 dX6_copyFrom_167 rfl fl6_36 ob79 rfl ?_
  refine ac_iconst 171 0 dX6_copyFrom_170 rfl (by decide) ?_
  refine ac_bipush 173 16 dX6_copyFrom_171 rfl (by decide) ?_
  refine ac_copy 176 dX6_copyFrom_173 rfl lkj6_61 ar16 ar88 (by decide) (by decide) (by decide) (by decide) (by decide) (by decide) (Nat.le_of_ble_eq_true rfl) ?_
  refine ac_vret dX6_copyFrom_176 rfl ?_
  exact rm_mk rfl
set_option maxRecDepth 20000 in
theorem c6_cp_7_29 {M : am_I} {V : am_J} {f : Nat → Option Nat}  : CT m6_copyFrom 2 [Value.ref 7, Value.ref 29] M V f (RM none (cpW M 7 29) V f) := by
  refine CT.of m6_copyFrom_V.1 _ (en_aa_2 7 29) ?_
  refine ac_aload_n 1 dX6_copyFrom_0 rfl rfl ?_
  refine ac_aload_n 2 dX6_copyFrom_1 rfl rfl ?_
  refine ac_getI 5 dX6_copyFrom_2 rfl fl6_42 ob29 ?_
  refine ac_putI 8 dX6_copyFrom_5 rfl fl6_42 rfl rfl ob7 ?_
  refine ac_aload_n 9 dX6_copyFrom_8 rfl rfl ?_
  refine ac_aload_n 10 dX6_copyFrom_9 rfl rfl ?_
  refine ac_getI 13 dX6_copyFrom_10 rfl fl6_46 ob29 ?_
  rw [show ((am_up M 7 0 (M 29 0)) 29 1) = (M 29 1) from rfl]
  refine ac_putI 16 dX6_copyFrom_13 rfl fl6_46 rfl rfl ob7 ?_
  refine ac_aload_n 17 dX6_copyFrom_16 rfl rfl ?_
  refine ac_aload_n 18 dX6_copyFrom_17 rfl rfl ?_
  refine ac_getI 21 dX6_copyFrom_18 rfl fl6_49 ob29 ?_
  rw [show ((am_up (am_up M 7 0 (M 29 0)) 7 1 (M 29 1)) 29 2) = (M 29 2) from rfl]
  refine ac_putI 24 dX6_copyFrom_21 rfl fl6_49 rfl rfl ob7 ?_
  refine ac_aload_n 25 dX6_copyFrom_24 rfl rfl ?_
  refine ac_aload_n 26 dX6_copyFrom_25 rfl rfl ?_
  refine ac_getI 29 dX6_copyFrom_26 rfl fl6_52 ob29 ?_
  rw [show ((am_up (am_up (am_up M 7 0 (M 29 0)) 7 1 (M 29 1)) 7 2 (M 29 2)) 29 3) = (M 29 3) from rfl]
  refine ac_putI 32 dX6_copyFrom_29 rfl fl6_52 rfl rfl ob7 ?_
  refine ac_aload_n 33 dX6_copyFrom_32 rfl rfl ?_
  refine ac_aload_n 34 dX6_copyFrom_33 rfl rfl ?_
  refine ac_getI 37 dX6_copyFrom_34 rfl fl6_55 ob29 ?_
  rw [show ((am_up (am_up (am_up (am_up M 7 0 (M 29 0)) 7 1 (M 29 1)) 7 2 (M 29 2)) 7 3 (M 29 3)) 29 4) = (M 29 4) from rfl]
  refine ac_putI 40 dX6_copyFrom_37 rfl fl6_55 rfl rfl ob7 ?_
  refine ac_aload_n 41 dX6_copyFrom_40 rfl rfl ?_
  refine ac_aload_n 42 dX6_copyFrom_41 rfl rfl ?_
  refine ac_getI 45 dX6_copyFrom_42 rfl fl6_58 ob29 ?_
  rw [show ((am_up (am_up (am_up (am_up (am_up M 7 0 (M 29 0)) 7 1 (M 29 1)) 7 2 (M 29 2)) 7 3 (M 29 3)) 7 4 (M 29 4)) 29 5) = (M 29 5) from rfl]
  refine ac_putI 48 dX6_copyFrom_45 rfl fl6_58 rfl rfl ob7 ?_
  refine ac_aload_n 49 dX6_copyFrom_48 rfl rfl ?_
  refine ac_getO 52 30 dX6_copyFrom_49 rfl fl6_9 ob29 rfl ?_
  refine ac_iconst 53 0 dX6_copyFrom_52 rfl (by decide) ?_
  refine ac_aload_n 54 dX6_copyFrom_53 rfl rfl ?_
  refine ac_getO 57 8 dX6_copyFrom_54 rfl fl6_9 ob7 rfl ?_
  refine ac_iconst 58 0 dX6_copyFrom_57 rfl (by decide) ?_
  refine ac_iconst 59 5 dX6_copyFrom_58 rfl (by decide) ?_
  refine ac_copy 62 dX6_copyFrom_59 rfl lkj6_61 ar30 ar8 (by decide) (by decide) (by decide) (by decide) (by decide) (by decide) (Nat.le_of_ble_eq_true rfl) ?_
  refine ac_aload_n 63 dX6_copyFrom_62 rfl rfl ?_
  refine ac_getO 66 31 dX6_copyFrom_63 rfl fl6_15 ob29 rfl ?_
  refine ac_iconst 67 0 dX6_copyFrom_66 rfl (by decide) ?_
  refine ac_aload_n 68 dX6_copyFrom_67 rfl rfl ?_
  refine ac_getO 71 9 dX6_copyFrom_68 rfl fl6_15 ob7 rfl ?_
  refine ac_iconst 72 0 dX6_copyFrom_71 rfl (by decide) ?_
  refine ac_iconst 73 5 dX6_copyFrom_72 rfl (by decide) ?_
  refine ac_copy 76 dX6_copyFrom_73 rfl lkj6_61 ar31 ar9 (by decide) (by decide) (by decide) (by decide) (by decide) (by decide) (Nat.le_of_ble_eq_true rfl) ?_
  refine ac_aload_n 77 dX6_copyFrom_76 rfl rfl ?_
  refine ac_getO 80 32 dX6_copyFrom_77 rfl fl6_18 ob29 rfl ?_
  refine ac_iconst 81 0 dX6_copyFrom_80 rfl (by decide) ?_
  refine ac_aload_n 82 dX6_copyFrom_81 rfl rfl ?_
  refine ac_getO 85 10 dX6_copyFrom_82 rfl fl6_18 ob7 rfl ?_
  refine ac_iconst 86 0 dX6_copyFrom_85 rfl (by decide) ?_
  refine ac_iconst 87 5 dX6_copyFrom_86 rfl (by decide) ?_
  refine ac_copy 90 dX6_copyFrom_87 rfl lkj6_61 ar32 ar10 (by decide) (by decide) (by decide) (by decide) (by decide) (by decide) (Nat.le_of_ble_eq_true rfl) ?_
  refine ac_aload_n 91 dX6_copyFrom_90 rfl rfl ?_
  refine ac_getO 94 33 dX6_copyFrom_91 rfl fl6_21 ob29 rfl ?_
  refine ac_iconst 95 0 dX6_copyFrom_94 rfl (by decide) ?_
  refine ac_aload_n 96 dX6_copyFrom_95 rfl rfl ?_
  refine ac_getO 99 11 dX6_copyFrom_96 rfl fl6_21 ob7 rfl ?_
  refine ac_iconst 100 0 dX6_copyFrom_99 rfl (by decide) ?_
  refine ac_iconst 101 5 dX6_copyFrom_100 rfl (by decide) ?_
  refine ac_copy 104 dX6_copyFrom_101 rfl lkj6_61 ar33 ar11 (by decide) (by decide) (by decide) (by decide) (by decide) (by decide) (Nat.le_of_ble_eq_true rfl) ?_
  refine ac_aload_n 105 dX6_copyFrom_104 rfl rfl ?_
  refine ac_getO 108 34 dX6_copyFrom_105 rfl fl6_24 ob29 rfl ?_
  refine ac_iconst 109 0 dX6_copyFrom_108 rfl (by decide) ?_
  refine ac_aload_n 110 dX6_copyFrom_109 rfl rfl ?_
  refine ac_getO 113 12 dX6_copyFrom_110 rfl fl6_24 ob7 rfl ?_
  refine ac_iconst 114 0 dX6_copyFrom_113 rfl (by decide) ?_
  refine ac_iconst 115 5 dX6_copyFrom_114 rfl (by decide) ?_
  refine ac_copy 118 dX6_copyFrom_115 rfl lkj6_61 ar34 ar12 (by decide) (by decide) (by decide) (by decide) (by decide) (by decide) (Nat.le_of_ble_eq_true rfl) ?_
  refine ac_aload_n 119 dX6_copyFrom_118 rfl rfl ?_
  refine ac_getO 122 35 dX6_copyFrom_119 rfl fl6_27 ob29 rfl ?_
  refine ac_iconst 123 0 dX6_copyFrom_122 rfl (by decide) ?_
  refine ac_aload_n 124 dX6_copyFrom_123 rfl rfl ?_
  refine ac_getO 127 13 dX6_copyFrom_124 rfl fl6_27 ob7 rfl ?_
  refine ac_iconst 128 0 dX6_copyFrom_127 rfl (by decide) ?_
  refine ac_iconst 129 3 dX6_copyFrom_128 rfl (by decide) ?_
  refine ac_copy 132 dX6_copyFrom_129 rfl lkj6_61 ar35 ar13 (by decide) (by decide) (by decide) (by decide) (by decide) (by decide) (Nat.le_of_ble_eq_true rfl) ?_
  refine ac_aload_n 133 dX6_copyFrom_132 rfl rfl ?_
  refine ac_getO 136 36 dX6_copyFrom_133 rfl fl6_30 ob29 rfl ?_
  refine ac_iconst 137 0 dX6_copyFrom_136 rfl (by decide) ?_
  refine ac_aload_n 138 dX6_copyFrom_137 rfl rfl ?_
  refine ac_getO 141 14 dX6_copyFrom_138 rfl fl6_30 ob7 rfl ?_
  refine ac_iconst 142 0 dX6_copyFrom_141 rfl (by decide) ?_
  refine ac_iconst 143 3 dX6_copyFrom_142 rfl (by decide) ?_
  refine ac_copy 146 dX6_copyFrom_143 rfl lkj6_61 ar36 ar14 (by decide) (by decide) (by decide) (by decide) (by decide) (by decide) (Nat.le_of_ble_eq_true rfl) ?_
  refine ac_aload_n 147 dX6_copyFrom_146 rfl rfl ?_
  refine ac_getO 150 37 dX6_copyFrom_147 rfl fl6_33 ob29 rfl ?_
  refine ac_iconst 151 0 dX6_copyFrom_150 rfl (by decide) ?_
  refine ac_aload_n 152 dX6_copyFrom_151 rfl rfl ?_
  refine ac_getO 155 15 dX6_copyFrom_152 rfl fl6_33 ob7 rfl ?_
  refine ac_iconst 156 0 dX6_copyFrom_155 rfl (by decide) ?_
  refine ac_bipush 158 16 dX6_copyFrom_156 rfl (by decide) ?_
  refine ac_copy 161 dX6_copyFrom_158 rfl lkj6_61 ar37 ar15 (by decide) (by decide) (by decide) (by decide) (by decide) (by decide) (Nat.le_of_ble_eq_true rfl) ?_
  refine ac_aload_n 162 dX6_copyFrom_161 rfl rfl ?_
  refine ac_getO 165 38 dX6_copyFrom_162 rfl fl6_36 ob29 rfl ?_
  refine ac_iconst 166 0 dX6_copyFrom_165 rfl (by decide) ?_
  refine ac_aload_n 167 dX6_copyFrom_166 rfl rfl ?_
  refine ac_getO 170 16 dX6_copyFrom_167 rfl fl6_36 ob7 rfl ?_
  refine ac_iconst 171 0 dX6_copyFrom_170 rfl (by decide) ?_
  refine ac_bipush 173 16 dX6_copyFrom_171 rfl (by decide) ?_
  refine ac_copy 176 dX6_copyFrom_173 rfl lkj6_61 ar38 ar16 (by decide) (by decide) (by decide) (by decide) (by decide) (by decide) (Nat.le_of_ble_eq_true rfl) ?_
  refine ac_vret dX6_copyFrom_176 rfl ?_
  exact rm_mk rfl
set_option maxRecDepth 20000 in
theorem c6_cp_7_39 {M : am_I} {V : am_J} {f : Nat → Option Nat}  : CT m6_copyFrom 2 [Value.ref 7, Value.ref 39] M V f (RM none (cpW M 7 39) V f) := by
  refine CT.of m6_copyFrom_V.1 _ (en_aa_2 7 39) ?_
  refine ac_aload_n 1 dX6_copyFrom_0 rfl rfl ?_
  refine ac_aload_n 2 dX6_copyFrom_1 rfl rfl ?_
  refine ac_getI 5 dX6_copyFrom_2 rfl fl6_42 ob39 ?_
  refine ac_putI 8 dX6_copyFrom_5 rfl fl6_42 rfl rfl ob7 ?_
  refine ac_aload_n 9 dX6_copyFrom_8 rfl rfl ?_
  refine ac_aload_n 10 dX6_copyFrom_9 rfl rfl ?_
  refine ac_getI 13 dX6_copyFrom_10 rfl fl6_46 ob39 ?_
  rw [show ((am_up M 7 0 (M 39 0)) 39 1) = (M 39 1) from rfl]
  refine ac_putI 16 dX6_copyFrom_13 rfl fl6_46 rfl rfl ob7 ?_
  refine ac_aload_n 17 dX6_copyFrom_16 rfl rfl ?_
  refine ac_aload_n 18 dX6_copyFrom_17 rfl rfl ?_
  refine ac_getI 21 dX6_copyFrom_18 rfl fl6_49 ob39 ?_
  rw [show ((am_up (am_up M 7 0 (M 39 0)) 7 1 (M 39 1)) 39 2) = (M 39 2) from rfl]
  refine ac_putI 24 dX6_copyFrom_21 rfl fl6_49 rfl rfl ob7 ?_
  refine ac_aload_n 25 dX6_copyFrom_24 rfl rfl ?_
  refine ac_aload_n 26 dX6_copyFrom_25 rfl rfl ?_
  refine ac_getI 29 dX6_copyFrom_26 rfl fl6_52 ob39 ?_
  rw [show ((am_up (am_up (am_up M 7 0 (M 39 0)) 7 1 (M 39 1)) 7 2 (M 39 2)) 39 3) = (M 39 3) from rfl]
  refine ac_putI 32 dX6_copyFrom_29 rfl fl6_52 rfl rfl ob7 ?_
  refine ac_aload_n 33 dX6_copyFrom_32 rfl rfl ?_
  refine ac_aload_n 34 dX6_copyFrom_33 rfl rfl ?_
  refine ac_getI 37 dX6_copyFrom_34 rfl fl6_55 ob39 ?_
  rw [show ((am_up (am_up (am_up (am_up M 7 0 (M 39 0)) 7 1 (M 39 1)) 7 2 (M 39 2)) 7 3 (M 39 3)) 39 4) = (M 39 4) from rfl]
  refine ac_putI 40 dX6_copyFrom_37 rfl fl6_55 rfl rfl ob7 ?_
  refine ac_aload_n 41 dX6_copyFrom_40 rfl rfl ?_
  refine ac_aload_n 42 dX6_copyFrom_41 rfl rfl ?_
  refine ac_getI 45 dX6_copyFrom_42 rfl fl6_58 ob39 ?_
  rw [show ((am_up (am_up (am_up (am_up (am_up M 7 0 (M 39 0)) 7 1 (M 39 1)) 7 2 (M 39 2)) 7 3 (M 39 3)) 7 4 (M 39 4)) 39 5) = (M 39 5) from rfl]
  refine ac_putI 48 dX6_copyFrom_45 rfl fl6_58 rfl rfl ob7 ?_
  refine ac_aload_n 49 dX6_copyFrom_48 rfl rfl ?_
  refine ac_getO 52 40 dX6_copyFrom_49 rfl fl6_9 ob39 rfl ?_
  refine ac_iconst 53 0 dX6_copyFrom_52 rfl (by decide) ?_
  refine ac_aload_n 54 dX6_copyFrom_53 rfl rfl ?_
  refine ac_getO 57 8 dX6_copyFrom_54 rfl fl6_9 ob7 rfl ?_
  refine ac_iconst 58 0 dX6_copyFrom_57 rfl (by decide) ?_
  refine ac_iconst 59 5 dX6_copyFrom_58 rfl (by decide) ?_
  refine ac_copy 62 dX6_copyFrom_59 rfl lkj6_61 ar40 ar8 (by decide) (by decide) (by decide) (by decide) (by decide) (by decide) (Nat.le_of_ble_eq_true rfl) ?_
  refine ac_aload_n 63 dX6_copyFrom_62 rfl rfl ?_
  refine ac_getO 66 41 dX6_copyFrom_63 rfl fl6_15 ob39 rfl ?_
  refine ac_iconst 67 0 dX6_copyFrom_66 rfl (by decide) ?_
  refine ac_aload_n 68 dX6_copyFrom_67 rfl rfl ?_
  refine ac_getO 71 9 dX6_copyFrom_68 rfl fl6_15 ob7 rfl ?_
  refine ac_iconst 72 0 dX6_copyFrom_71 rfl (by decide) ?_
  refine ac_iconst 73 5 dX6_copyFrom_72 rfl (by decide) ?_
  refine ac_copy 76 dX6_copyFrom_73 rfl lkj6_61 ar41 ar9 (by decide) (by decide) (by decide) (by decide) (by decide) (by decide) (Nat.le_of_ble_eq_true rfl) ?_
  refine ac_aload_n 77 dX6_copyFrom_76 rfl rfl ?_
  refine ac_getO 80 42 dX6_copyFrom_77 rfl fl6_18 ob39 rfl ?_
  refine ac_iconst 81 0 dX6_copyFrom_80 rfl (by decide) ?_
  refine ac_aload_n 82 dX6_copyFrom_81 rfl rfl ?_
  refine ac_getO 85 10 dX6_copyFrom_82 rfl fl6_18 ob7 rfl ?_
  refine ac_iconst 86 0 dX6_copyFrom_85 rfl (by decide) ?_
  refine ac_iconst 87 5 dX6_copyFrom_86 rfl (by decide) ?_
  refine ac_copy 90 dX6_copyFrom_87 rfl lkj6_61 ar42 ar10 (by decide) (by decide) (by decide) (by decide) (by decide) (by decide) (Nat.le_of_ble_eq_true rfl) ?_
  refine ac_aload_n 91 dX6_copyFrom_90 rfl rfl ?_
  refine ac_getO 94 43 dX6_copyFrom_91 rfl fl6_21 ob39 rfl ?_
  refine ac_iconst 95 0 dX6_copyFrom_94 rfl (by decide) ?_
  refine ac_aload_n 96 dX6_copyFrom_95 rfl rfl ?_
  refine ac_getO 99 11 dX6_copyFrom_96 rfl fl6_21 ob7 rfl ?_
  refine ac_iconst 100 0 dX6_copyFrom_99 rfl (by decide) ?_
  refine ac_iconst 101 5 dX6_copyFrom_100 rfl (by decide) ?_
  refine ac_copy 104 dX6_copyFrom_101 rfl lkj6_61 ar43 ar11 (by decide) (by decide) (by decide) (by decide) (by decide) (by decide) (Nat.le_of_ble_eq_true rfl) ?_
  refine ac_aload_n 105 dX6_copyFrom_104 rfl rfl ?_
  refine ac_getO 108 44 dX6_copyFrom_105 rfl fl6_24 ob39 rfl ?_
  refine ac_iconst 109 0 dX6_copyFrom_108 rfl (by decide) ?_
  refine ac_aload_n 110 dX6_copyFrom_109 rfl rfl ?_
  refine ac_getO 113 12 dX6_copyFrom_110 rfl fl6_24 ob7 rfl ?_
  refine ac_iconst 114 0 dX6_copyFrom_113 rfl (by decide) ?_
  refine ac_iconst 115 5 dX6_copyFrom_114 rfl (by decide) ?_
  refine ac_copy 118 dX6_copyFrom_115 rfl lkj6_61 ar44 ar12 (by decide) (by decide) (by decide) (by decide) (by decide) (by decide) (Nat.le_of_ble_eq_true rfl) ?_
  refine ac_aload_n 119 dX6_copyFrom_118 rfl rfl ?_
  refine ac_getO 122 45 dX6_copyFrom_119 rfl fl6_27 ob39 rfl ?_
  refine ac_iconst 123 0 dX6_copyFrom_122 rfl (by decide) ?_
  refine ac_aload_n 124 dX6_copyFrom_123 rfl rfl ?_
  refine ac_getO 127 13 dX6_copyFrom_124 rfl fl6_27 ob7 rfl ?_
  refine ac_iconst 128 0 dX6_copyFrom_127 rfl (by decide) ?_
  refine ac_iconst 129 3 dX6_copyFrom_128 rfl (by decide) ?_
  refine ac_copy 132 dX6_copyFrom_129 rfl lkj6_61 ar45 ar13 (by decide) (by decide) (by decide) (by decide) (by decide) (by decide) (Nat.le_of_ble_eq_true rfl) ?_
  refine ac_aload_n 133 dX6_copyFrom_132 rfl rfl ?_
  refine ac_getO 136 46 dX6_copyFrom_133 rfl fl6_30 ob39 rfl ?_
  refine ac_iconst 137 0 dX6_copyFrom_136 rfl (by decide) ?_
  refine ac_aload_n 138 dX6_copyFrom_137 rfl rfl ?_
  refine ac_getO 141 14 dX6_copyFrom_138 rfl fl6_30 ob7 rfl ?_
  refine ac_iconst 142 0 dX6_copyFrom_141 rfl (by decide) ?_
  refine ac_iconst 143 3 dX6_copyFrom_142 rfl (by decide) ?_
  refine ac_copy 146 dX6_copyFrom_143 rfl lkj6_61 ar46 ar14 (by decide) (by decide) (by decide) (by decide) (by decide) (by decide) (Nat.le_of_ble_eq_true rfl) ?_
  refine ac_aload_n 147 dX6_copyFrom_146 rfl rfl ?_
  refine ac_getO 150 47 dX6_copyFrom_147 rfl fl6_33 ob39 rfl ?_
  refine ac_iconst 151 0 dX6_copyFrom_150 rfl (by decide) ?_
  refine ac_aload_n 152 dX6_copyFrom_151 rfl rfl ?_
  refine ac_getO 155 15 dX6_copyFrom_152 rfl fl6_33 ob7 rfl ?_
  refine ac_iconst 156 0 dX6_copyFrom_155 rfl (by decide) ?_
  refine ac_bipush 158 16 dX6_copyFrom_156 rfl (by decide) ?_
  refine ac_copy 161 dX6_copyFrom_158 rfl lkj6_61 ar47 ar15 (by decide) (by decide) (by decide) (by decide) (by decide) (by decide) (Nat.le_of_ble_eq_true rfl) ?_
  refine ac_aload_n 162 dX6_copyFrom_161 rfl rfl ?_
  refine ac_getO 165 48 dX6_copyFrom_162 rfl fl6_36 ob39 rfl ?_
  refine ac_iconst 166 0 dX6_copyFrom_165 rfl (by decide) ?_
  refine ac_aload_n 167 dX6_copyFrom_166 rfl rfl ?_
  refine ac_getO 170 16 dX6_copyFrom_167 rfl fl6_36 ob7 rfl ?_
  refine ac_iconst 171 0 dX6_copyFrom_170 rfl (by decide) ?_
  refine ac_bipush 173 16 dX6_copyFrom_171 rfl (by decide) ?_
  refine ac_copy 176 dX6_copyFrom_173 rfl lkj6_61 ar48 ar16 (by decide) (by decide) (by decide) (by decide) (by decide) (by decide) (Nat.le_of_ble_eq_true rfl) ?_
  refine ac_vret dX6_copyFrom_176 rfl ?_
  exact rm_mk rfl
set_option maxRecDepth 20000 in
theorem c6_cp_7_49 {M : am_I} {V : am_J} {f : Nat → Option Nat}  : CT m6_copyFrom 2 [Value.ref 7, Value.ref 49] M V f (RM none (cpW M 7 49) V f) := by
  refine CT.of m6_copyFrom_V.1 _ (en_aa_2 7 49) ?_
  refine ac_aload_n 1 dX6_copyFrom_0 rfl rfl ?_
  refine ac_aload_n 2 dX6_copyFrom_1 rfl rfl ?_
  refine ac_getI 5 dX6_copyFrom_2 rfl fl6_42 ob49 ?_
  refine ac_putI 8 dX6_copyFrom_5 rfl fl6_42 rfl rfl ob7 ?_
  refine ac_aload_n 9 dX6_copyFrom_8 rfl rfl ?_
  refine ac_aload_n 10 dX6_copyFrom_9 rfl rfl ?_
  refine ac_getI 13 dX6_copyFrom_10 rfl fl6_46 ob49 ?_
  rw [show ((am_up M 7 0 (M 49 0)) 49 1) = (M 49 1) from rfl]
  refine ac_putI 16 dX6_copyFrom_13 rfl fl6_46 rfl rfl ob7 ?_
  refine ac_aload_n 17 dX6_copyFrom_16 rfl rfl ?_
  refine ac_aload_n 18 dX6_copyFrom_17 rfl rfl ?_
  refine ac_getI 21 dX6_copyFrom_18 rfl fl6_49 ob49 ?_
  rw [show ((am_up (am_up M 7 0 (M 49 0)) 7 1 (M 49 1)) 49 2) = (M 49 2) from rfl]
  refine ac_putI 24 dX6_copyFrom_21 rfl fl6_49 rfl rfl ob7 ?_
  refine ac_aload_n 25 dX6_copyFrom_24 rfl rfl ?_
  refine ac_aload_n 26 dX6_copyFrom_25 rfl rfl ?_
  refine ac_getI 29 dX6_copyFrom_26 rfl fl6_52 ob49 ?_
  rw [show ((am_up (am_up (am_up M 7 0 (M 49 0)) 7 1 (M 49 1)) 7 2 (M 49 2)) 49 3) = (M 49 3) from rfl]
  refine ac_putI 32 dX6_copyFrom_29 rfl fl6_52 rfl rfl ob7 ?_
  refine ac_aload_n 33 dX6_copyFrom_32 rfl rfl ?_
  refine ac_aload_n 34 dX6_copyFrom_33 rfl rfl ?_
  refine ac_getI 37 dX6_copyFrom_34 rfl fl6_55 ob49 ?_
  rw [show ((am_up (am_up (am_up (am_up M 7 0 (M 49 0)) 7 1 (M 49 1)) 7 2 (M 49 2)) 7 3 (M 49 3)) 49 4) = (M 49 4) from rfl]
  refine ac_putI 40 dX6_copyFrom_37 rfl fl6_55 rfl rfl ob7 ?_
  refine ac_aload_n 41 dX6_copyFrom_40 rfl rfl ?_
  refine ac_aload_n 42 dX6_copyFrom_41 rfl rfl ?_
  refine ac_getI 45 dX6_copyFrom_42 rfl fl6_58 ob49 ?_
  rw [show ((am_up (am_up (am_up (am_up (am_up M 7 0 (M 49 0)) 7 1 (M 49 1)) 7 2 (M 49 2)) 7 3 (M 49 3)) 7 4 (M 49 4)) 49 5) = (M 49 5) from rfl]
  refine ac_putI 48 dX6_copyFrom_45 rfl fl6_58 rfl rfl ob7 ?_
  refine ac_aload_n 49 dX6_copyFrom_48 rfl rfl ?_
  refine ac_getO 52 50 dX6_copyFrom_49 rfl fl6_9 ob49 rfl ?_
  refine ac_iconst 53 0 dX6_copyFrom_52 rfl (by decide) ?_
  refine ac_aload_n 54 dX6_copyFrom_53 rfl rfl ?_
  refine ac_getO 57 8 dX6_copyFrom_54 rfl fl6_9 ob7 rfl ?_
  refine ac_iconst 58 0 dX6_copyFrom_57 rfl (by decide) ?_
  refine ac_iconst 59 5 dX6_copyFrom_58 rfl (by decide) ?_
  refine ac_copy 62 dX6_copyFrom_59 rfl lkj6_61 ar50 ar8 (by decide) (by decide) (by decide) (by decide) (by decide) (by decide) (Nat.le_of_ble_eq_true rfl) ?_
  refine ac_aload_n 63 dX6_copyFrom_62 rfl rfl ?_
  refine ac_getO 66 51 dX6_copyFrom_63 rfl fl6_15 ob49 rfl ?_
  refine ac_iconst 67 0 dX6_copyFrom_66 rfl (by decide) ?_
  refine ac_aload_n 68 dX6_copyFrom_67 rfl rfl ?_
  refine ac_getO 71 9 dX6_copyFrom_68 rfl fl6_15 ob7 rfl ?_
  refine ac_iconst 72 0 dX6_copyFrom_71 rfl (by decide) ?_
  refine ac_iconst 73 5 dX6_copyFrom_72 rfl (by decide) ?_
  refine ac_copy 76 dX6_copyFrom_73 rfl lkj6_61 ar51 ar9 (by decide) (by decide) (by decide) (by decide) (by decide) (by decide) (Nat.le_of_ble_eq_true rfl) ?_
  refine ac_aload_n 77 dX6_copyFrom_76 rfl rfl ?_
  refine ac_getO 80 52 dX6_copyFrom_77 rfl fl6_18 ob49 rfl ?_
  refine ac_iconst 81 0 dX6_copyFrom_80 rfl (by decide) ?_
  refine ac_aload_n 82 dX6_copyFrom_81 rfl rfl ?_
  refine ac_getO 85 10 dX6_copyFrom_82 rfl fl6_18 ob7 rfl ?_
  refine ac_iconst 86 0 dX6_copyFrom_85 rfl (by decide) ?_
  refine ac_iconst 87 5 dX6_copyFrom_86 rfl (by decide) ?_
  refine ac_copy 90 dX6_copyFrom_87 rfl lkj6_61 ar52 ar10 (by decide) (by decide) (by decide) (by decide) (by decide) (by decide) (Nat.le_of_ble_eq_true rfl) ?_
  refine ac_aload_n 91 dX6_copyFrom_90 rfl rfl ?_
  refine ac_getO 94 53 dX6_copyFrom_91 rfl fl6_21 ob49 rfl ?_
  refine ac_iconst 95 0 dX6_copyFrom_94 rfl (by decide) ?_
  refine ac_aload_n 96 dX6_copyFrom_95 rfl rfl ?_
  refine ac_getO 99 11 dX6_copyFrom_96 rfl fl6_21 ob7 rfl ?_
  refine ac_iconst 100 0 dX6_copyFrom_99 rfl (by decide) ?_
  refine ac_iconst 101 5 dX6_copyFrom_100 rfl (by decide) ?_
  refine ac_copy 104 dX6_copyFrom_101 rfl lkj6_61 ar53 ar11 (by decide) (by decide) (by decide) (by decide) (by decide) (by decide) (Nat.le_of_ble_eq_true rfl) ?_
  refine ac_aload_n 105 dX6_copyFrom_104 rfl rfl ?_
  refine ac_getO 108 54 dX6_copyFrom_105 rfl fl6_24 ob49 rfl ?_
  refine ac_iconst 109 0 dX6_copyFrom_108 rfl (by decide) ?_
  refine ac_aload_n 110 dX6_copyFrom_109 rfl rfl ?_
  refine ac_getO 113 12 dX6_copyFrom_110 rfl fl6_24 ob7 rfl ?_
  refine ac_iconst 114 0 dX6_copyFrom_113 rfl (by decide) ?_
  refine ac_iconst 115 5 dX6_copyFrom_114 rfl (by decide) ?_
  refine ac_copy 118 dX6_copyFrom_115 rfl lkj6_61 ar54 ar12 (by decide) (by decide) (by decide) (by decide) (by decide) (by decide) (Nat.le_of_ble_eq_true rfl) ?_
  refine ac_aload_n 119 dX6_copyFrom_118 rfl rfl ?_
  refine ac_getO 122 55 dX6_copyFrom_119 rfl fl6_27 ob49 rfl ?_
  refine ac_iconst 123 0 dX6_copyFrom_122 rfl (by decide) ?_
  refine ac_aload_n 124 dX6_copyFrom_123 rfl rfl ?_
  refine ac_getO 127 13 dX6_copyFrom_124 rfl fl6_27 ob7 rfl ?_
  refine ac_iconst 128 0 dX6_copyFrom_127 rfl (by decide) ?_
  refine ac_iconst 129 3 dX6_copyFrom_128 rfl (by decide) ?_
  refine ac_copy 132 dX6_copyFrom_129 rfl lkj6_61 ar55 ar13 (by decide) (by decide) (by decide) (by decide) (by decide) (by decide) (Nat.le_of_ble_eq_true rfl) ?_
  refine ac_aload_n 133 dX6_copyFrom_132 rfl rfl ?_
  refine ac_getO 136 56 dX6_copyFrom_133 rfl fl6_30 ob49 rfl ?_
  refine ac_iconst 137 0 dX6_copyFrom_136 rfl (by decide) ?_
  refine ac_aload_n 138 dX6_copyFrom_137 rfl rfl ?_
  refine ac_getO 141 14 dX6_copyFrom_138 rfl fl6_30 ob7 rfl ?_
  refine ac_iconst 142 0 dX6_copyFrom_141 rfl (by decide) ?_
  refine ac_iconst 143 3 dX6_copyFrom_142 rfl (by decide) ?_
  refine ac_copy 146 dX6_copyFrom_143 rfl lkj6_61 ar56 ar14 (by decide) (by decide) (by decide) (by decide) (by decide) (by decide) (Nat.le_of_ble_eq_true rfl) ?_
  refine ac_aload_n 147 dX6_copyFrom_146 rfl rfl ?_
  refine ac_getO 150 57 dX6_copyFrom_147 rfl fl6_33 ob49 rfl ?_
  refine ac_iconst 151 0 dX6_copyFrom_150 rfl (by decide) ?_
  refine ac_aload_n 152 dX6_copyFrom_151 rfl rfl ?_
  refine ac_getO 155 15 dX6_copyFrom_152 rfl fl6_33 ob7 rfl ?_
  refine ac_iconst 156 0 dX6_copyFrom_155 rfl (by decide) ?_
  refine ac_bipush 158 16 dX6_copyFrom_156 rfl (by decide) ?_
  refine ac_copy 161 dX6_copyFrom_158 rfl lkj6_61 ar57 ar15 (by decide) (by decide) (by decide) (by decide) (by decide) (by decide) (Nat.le_of_ble_eq_true rfl) ?_
  refine ac_aload_n 162 dX6_copyFrom_161 rfl rfl ?_
  refine ac_getO 165 58 dX6_copyFrom_162 rfl fl6_36 ob49 rfl ?_
  refine ac_iconst 166 0 dX6_copyFrom_165 rfl (by decide) ?_
  refine ac_aload_n 167 dX6_copyFrom_166 rfl rfl ?_
  refine ac_getO 170 16 dX6_copyFrom_167 rfl fl6_36 ob7 rfl ?_
  refine ac_iconst 171 0 dX6_copyFrom_170 rfl (by decide) ?_
  refine ac_bipush 173 16 dX6_copyFrom_171 rfl (by decide) ?_
  refine ac_copy 176 dX6_copyFrom_173 rfl lkj6_61 ar58 ar16 (by decide) (by decide) (by decide) (by decide) (by decide) (by decide) (Nat.le_of_ble_eq_true rfl) ?_
  refine ac_vret dX6_copyFrom_176 rfl ?_
  exact rm_mk rfl
set_option maxRecDepth 20000 in
theorem c6_cp_7_59 {M : am_I} {V : am_J} {f : Nat → Option Nat}  : CT m6_copyFrom 2 [Value.ref 7, Value.ref 59] M V f (RM none (cpW M 7 59) V f) := by
  refine CT.of m6_copyFrom_V.1 _ (en_aa_2 7 59) ?_
  refine ac_aload_n 1 dX6_copyFrom_0 rfl rfl ?_
  refine ac_aload_n 2 dX6_copyFrom_1 rfl rfl ?_
  refine ac_getI 5 dX6_copyFrom_2 rfl fl6_42 ob59 ?_
  refine ac_putI 8 dX6_copyFrom_5 rfl fl6_42 rfl rfl ob7 ?_
  refine ac_aload_n 9 dX6_copyFrom_8 rfl rfl ?_
  refine ac_aload_n 10 dX6_copyFrom_9 rfl rfl ?_
  refine ac_getI 13 dX6_copyFrom_10 rfl fl6_46 ob59 ?_
  rw [show ((am_up M 7 0 (M 59 0)) 59 1) = (M 59 1) from rfl]
  refine ac_putI 16 dX6_copyFrom_13 rfl fl6_46 rfl rfl ob7 ?_
  refine ac_aload_n 17 dX6_copyFrom_16 rfl rfl ?_
  refine ac_aload_n 18 dX6_copyFrom_17 rfl rfl ?_
  refine ac_getI 21 dX6_copyFrom_18 rfl fl6_49 ob59 ?_
  rw [show ((am_up (am_up M 7 0 (M 59 0)) 7 1 (M 59 1)) 59 2) = (M 59 2) from rfl]
  refine ac_putI 24 dX6_copyFrom_21 rfl fl6_49 rfl rfl ob7 ?_
  refine ac_aload_n 25 dX6_copyFrom_24 rfl rfl ?_
  refine ac_aload_n 26 dX6_copyFrom_25 rfl rfl ?_
  refine ac_getI 29 dX6_copyFrom_26 rfl fl6_52 ob59 ?_
  rw [show ((am_up (am_up (am_up M 7 0 (M 59 0)) 7 1 (M 59 1)) 7 2 (M 59 2)) 59 3) = (M 59 3) from rfl]
  refine ac_putI 32 dX6_copyFrom_29 rfl fl6_52 rfl rfl ob7 ?_
  refine ac_aload_n 33 dX6_copyFrom_32 rfl rfl ?_
  refine ac_aload_n 34 dX6_copyFrom_33 rfl rfl ?_
  refine ac_getI 37 dX6_copyFrom_34 rfl fl6_55 ob59 ?_
  rw [show ((am_up (am_up (am_up (am_up M 7 0 (M 59 0)) 7 1 (M 59 1)) 7 2 (M 59 2)) 7 3 (M 59 3)) 59 4) = (M 59 4) from rfl]
  refine ac_putI 40 dX6_copyFrom_37 rfl fl6_55 rfl rfl ob7 ?_
  refine ac_aload_n 41 dX6_copyFrom_40 rfl rfl ?_
  refine ac_aload_n 42 dX6_copyFrom_41 rfl rfl ?_
  refine ac_getI 45 dX6_copyFrom_42 rfl fl6_58 ob59 ?_
  rw [show ((am_up (am_up (am_up (am_up (am_up M 7 0 (M 59 0)) 7 1 (M 59 1)) 7 2 (M 59 2)) 7 3 (M 59 3)) 7 4 (M 59 4)) 59 5) = (M 59 5) from rfl]
  refine ac_putI 48 dX6_copyFrom_45 rfl fl6_58 rfl rfl ob7 ?_
  refine ac_aload_n 49 dX6_copyFrom_48 rfl rfl ?_
  refine ac_getO 52 60 dX6_copyFrom_49 rfl fl6_9 ob59 rfl ?_
  refine ac_iconst 53 0 dX6_copyFrom_52 rfl (by decide) ?_
  refine ac_aload_n 54 dX6_copyFrom_53 rfl rfl ?_
  refine ac_getO 57 8 dX6_copyFrom_54 rfl fl6_9 ob7 rfl ?_
  refine ac_iconst 58 0 dX6_copyFrom_57 rfl (by decide) ?_
  refine ac_iconst 59 5 dX6_copyFrom_58 rfl (by decide) ?_
  refine ac_copy 62 dX6_copyFrom_59 rfl lkj6_61 ar60 ar8 (by decide) (by decide) (by decide) (by decide) (by decide) (by decide) (Nat.le_of_ble_eq_true rfl) ?_
  refine ac_aload_n 63 dX6_copyFrom_62 rfl rfl ?_
  refine ac_getO 66 61 dX6_copyFrom_63 rfl fl6_15 ob59 rfl ?_
  refine ac_iconst 67 0 dX6_copyFrom_66 rfl (by decide) ?_
  refine ac_aload_n 68 dX6_copyFrom_67 rfl rfl ?_
  refine ac_getO 71 9 dX6_copyFrom_68 rfl fl6_15 ob7 rfl ?_
  refine ac_iconst 72 0 dX6_copyFrom_71 rfl (by decide) ?_
  refine ac_iconst 73 5 dX6_copyFrom_72 rfl (by decide) ?_
  refine ac_copy 76 dX6_copyFrom_73 rfl lkj6_61 ar61 ar9 (by decide) (by decide) (by decide) (by decide) (by decide) (by decide) (Nat.le_of_ble_eq_true rfl) ?_
  refine ac_aload_n 77 dX6_copyFrom_76 rfl rfl ?_
  refine ac_getO 80 62 dX6_copyFrom_77 rfl fl6_18 ob59 rfl ?_
  refine ac_iconst 81 0 dX6_copyFrom_80 rfl (by decide) ?_
  refine ac_aload_n 82 dX6_copyFrom_81 rfl rfl ?_
  refine ac_getO 85 10 dX6_copyFrom_82 rfl fl6_18 ob7 rfl ?_
  refine ac_iconst 86 0 dX6_copyFrom_85 rfl (by decide) ?_
  refine ac_iconst 87 5 dX6_copyFrom_86 rfl (by decide) ?_
  refine ac_copy 90 dX6_copyFrom_87 rfl lkj6_61 ar62 ar10 (by decide) (by decide) (by decide) (by decide) (by decide) (by decide) (Nat.le_of_ble_eq_true rfl) ?_
  refine ac_aload_n 91 dX6_copyFrom_90 rfl rfl ?_
  refine ac_getO 94 63 dX6_copyFrom_91 rfl fl6_21 ob59 rfl ?_
  refine ac_iconst 95 0 dX6_copyFrom_94 rfl (by decide) ?_
  refine ac_aload_n 96 dX6_copyFrom_95 rfl rfl ?_
  refine ac_getO 99 11 dX6_copyFrom_96 rfl fl6_21 ob7 rfl ?_
  refine ac_iconst 100 0 dX6_copyFrom_99 rfl (by decide) ?_
  refine ac_iconst 101 5 dX6_copyFrom_100 rfl (by decide) ?_
  refine ac_copy 104 dX6_copyFrom_101 rfl lkj6_61 ar63 ar11 (by decide) (by decide) (by decide) (by decide) (by decide) (by decide) (Nat.le_of_ble_eq_true rfl) ?_
  refine ac_aload_n 105 dX6_copyFrom_104 rfl rfl ?_
  refine ac_getO 108 64 dX6_copyFrom_105 rfl fl6_24 ob59 rfl ?_
  refine ac_iconst 109 0 dX6_copyFrom_108 rfl (by decide) ?_
  refine ac_aload_n 110 dX6_copyFrom_109 rfl rfl ?_
  refine ac_getO 113 12 dX6_copyFrom_110 rfl fl6_24 ob7 rfl ?_
  refine ac_iconst 114 0 dX6_copyFrom_113 rfl (by decide) ?_
  refine ac_iconst 115 5 dX6_copyFrom_114 rfl (by decide) ?_
  refine ac_copy 118 dX6_copyFrom_115 rfl lkj6_61 ar64 ar12 (by decide) (by decide) (by decide) (by decide) (by decide) (by decide) (Nat.le_of_ble_eq_true rfl) ?_
  refine ac_aload_n 119 dX6_copyFrom_118 rfl rfl ?_
  refine ac_getO 122 65 dX6_copyFrom_119 rfl fl6_27 ob59 rfl ?_
  refine ac_iconst 123 0 dX6_copyFrom_122 rfl (by decide) ?_
  refine ac_aload_n 124 dX6_copyFrom_123 rfl rfl ?_
  refine ac_getO 127 13 dX6_copyFrom_124 rfl fl6_27 ob7 rfl ?_
  refine ac_iconst 128 0 dX6_copyFrom_127 rfl (by decide) ?_
  refine ac_iconst 129 3 dX6_copyFrom_128 rfl (by decide) ?_
  refine ac_copy 132 dX6_copyFrom_129 rfl lkj6_61 ar65 ar13 (by decide) (by decide) (by decide) (by decide) (by decide) (by decide) (Nat.le_of_ble_eq_true rfl) ?_
  refine ac_aload_n 133 dX6_copyFrom_132 rfl rfl ?_
  refine ac_getO 136 66 dX6_copyFrom_133 rfl fl6_30 ob59 rfl ?_
  refine ac_iconst 137 0 dX6_copyFrom_136 rfl (by decide) ?_
  refine ac_aload_n 138 dX6_copyFrom_137 rfl rfl ?_
  refine ac_getO 141 14 dX6_copyFrom_138 rfl fl6_30 ob7 rfl ?_
  refine ac_iconst 142 0 dX6_copyFrom_141 rfl (by decide) ?_
  refine ac_iconst 143 3 dX6_copyFrom_142 rfl (by decide) ?_
  refine ac_copy 146 dX6_copyFrom_143 rfl lkj6_61 ar66 ar14 (by decide) (by decide) (by decide) (by decide) (by decide) (by decide) (Nat.le_of_ble_eq_true rfl) ?_
  refine ac_aload_n 147 dX6_copyFrom_146 rfl rfl ?_
  refine ac_getO 150 67 dX6_copyFrom_147 rfl fl6_33 ob59 rfl ?_
  refine ac_iconst 151 0 dX6_copyFrom_150 rfl (by decide) ?_
  refine ac_aload_n 152 dX6_copyFrom_151 rfl rfl ?_
  refine ac_getO 155 15 dX6_copyFrom_152 rfl fl6_33 ob7 rfl ?_
  refine ac_iconst 156 0 dX6_copyFrom_155 rfl (by decide) ?_
  refine ac_bipush 158 16 dX6_copyFrom_156 rfl (by decide) ?_
  refine ac_copy 161 dX6_copyFrom_158 rfl lkj6_61 ar67 ar15 (by decide) (by decide) (by decide) (by decide) (by decide) (by decide) (Nat.le_of_ble_eq_true rfl) ?_
  refine ac_aload_n 162 dX6_copyFrom_161 rfl rfl ?_
  refine ac_getO 165 68 dX6_copyFrom_162 rfl fl6_36 ob59 rfl ?_
  refine ac_iconst 166 0 dX6_copyFrom_165 rfl (by decide) ?_
  refine ac_aload_n 167 dX6_copyFrom_166 rfl rfl ?_
  refine ac_getO 170 16 dX6_copyFrom_167 rfl fl6_36 ob7 rfl ?_
  refine ac_iconst 171 0 dX6_copyFrom_170 rfl (by decide) ?_
  refine ac_bipush 173 16 dX6_copyFrom_171 rfl (by decide) ?_
  refine ac_copy 176 dX6_copyFrom_173 rfl lkj6_61 ar68 ar16 (by decide) (by decide) (by decide) (by decide) (by decide) (by decide) (Nat.le_of_ble_eq_true rfl) ?_
  refine ac_vret dX6_copyFrom_176 rfl ?_
  exact rm_mk rfl
set_option maxRecDepth 20000 in
theorem c6_cp_7_69 {M : am_I} {V : am_J} {f : Nat → Option Nat}  : CT m6_copyFrom 2 [Value.ref 7, Value.ref 69] M V f (RM none (cpW M 7 69) V f) := by
  refine CT.of m6_copyFrom_V.1 _ (en_aa_2 7 69) ?_
  refine ac_aload_n 1 dX6_copyFrom_0 rfl rfl ?_
  refine ac_aload_n 2 dX6_copyFrom_1 rfl rfl ?_
  refine ac_getI 5 dX6_copyFrom_2 rfl fl6_42 ob69 ?_
  refine ac_putI 8 dX6_copyFrom_5 rfl fl6_42 rfl rfl ob7 ?_
  refine ac_aload_n 9 dX6_copyFrom_8 rfl rfl ?_
  refine ac_aload_n 10 dX6_copyFrom_9 rfl rfl ?_
  refine ac_getI 13 dX6_copyFrom_10 rfl fl6_46 ob69 ?_
  rw [show ((am_up M 7 0 (M 69 0)) 69 1) = (M 69 1) from rfl]
  refine ac_putI 16 dX6_copyFrom_13 rfl fl6_46 rfl rfl ob7 ?_
  refine ac_aload_n 17 dX6_copyFrom_16 rfl rfl ?_
  refine ac_aload_n 18 dX6_copyFrom_17 rfl rfl ?_
  refine ac_getI 21 dX6_copyFrom_18 rfl fl6_49 ob69 ?_
  rw [show ((am_up (am_up M 7 0 (M 69 0)) 7 1 (M 69 1)) 69 2) = (M 69 2) from rfl]
  refine ac_putI 24 dX6_copyFrom_21 rfl fl6_49 rfl rfl ob7 ?_
  refine ac_aload_n 25 dX6_copyFrom_24 rfl rfl ?_
  refine ac_aload_n 26 dX6_copyFrom_25 rfl rfl ?_
  refine ac_getI 29 dX6_copyFrom_26 rfl fl6_52 ob69 ?_
  rw [show ((am_up (am_up (am_up M 7 0 (M 69 0)) 7 1 (M 69 1)) 7 2 (M 69 2)) 69 3) = (M 69 3) from rfl]
  refine ac_putI 32 dX6_copyFrom_29 rfl fl6_52 rfl rfl ob7 ?_
  refine ac_aload_n 33 dX6_copyFrom_32 rfl rfl ?_
  refine ac_aload_n 34 dX6_copyFrom_33 rfl rfl ?_
  refine ac_getI 37 dX6_copyFrom_34 rfl fl6_55 ob69 ?_
  rw [show ((am_up (am_up (am_up (am_up M 7 0 (M 69 0)) 7 1 (M 69 1)) 7 2 (M 69 2)) 7 3 (M 69 3)) 69 4) = (M 69 4) from rfl]
  refine ac_putI 40 dX6_copyFrom_37 rfl fl6_55 rfl rfl ob7 ?_
  refine ac_aload_n 41 dX6_copyFrom_40 rfl rfl ?_
  refine ac_aload_n 42 dX6_copyFrom_41 rfl rfl ?_
  refine ac_getI 45 dX6_copyFrom_42 rfl fl6_58 ob69 ?_
  rw [show ((am_up (am_up (am_up (am_up (am_up M 7 0 (M 69 0)) 7 1 (M 69 1)) 7 2 (M 69 2)) 7 3 (M 69 3)) 7 4 (M 69 4)) 69 5) = (M 69 5) from rfl]
  refine ac_putI 48 dX6_copyFrom_45 rfl fl6_58 rfl rfl ob7 ?_
  refine ac_aload_n 49 dX6_copyFrom_48 rfl rfl ?_
  refine ac_getO 52 70 dX6_copyFrom_49 rfl fl6_9 ob69 rfl ?_
  refine ac_iconst 53 0 dX6_copyFrom_52 rfl (by decide) ?_
  refine ac_aload_n 54 dX6_copyFrom_53 rfl rfl ?_
  refine ac_getO 57 8 dX6_copyFrom_54 rfl fl6_9 ob7 rfl ?_
  refine ac_iconst 58 0 dX6_copyFrom_57 rfl (by decide) ?_
  refine ac_iconst 59 5 dX6_copyFrom_58 rfl (by decide) ?_
  refine ac_copy 62 dX6_copyFrom_59 rfl lkj6_61 ar70 ar8 (by decide) (by decide) (by decide) (by decide) (by decide) (by decide) (Nat.le_of_ble_eq_true rfl) ?_
  refine ac_aload_n 63 dX6_copyFrom_62 rfl rfl ?_
  refine ac_getO 66 71 dX6_copyFrom_63 rfl fl6_15 ob69 rfl ?_
  refine ac_iconst 67 0 dX6_copyFrom_66 rfl (by decide) ?_
  refine ac_aload_n 68 dX6_copyFrom_67 rfl rfl ?_
  refine ac_getO 71 9 dX6_copyFrom_68 rfl fl6_15 ob7 rfl ?_
  refine ac_iconst 72 0 dX6_copyFrom_71 rfl (by decide) ?_
  refine ac_iconst 73 5 dX6_copyFrom_72 rfl (by decide) ?_
  refine ac_copy 76 dX6_copyFrom_73 rfl lkj6_61 ar71 ar9 (by decide) (by decide) (by decide) (by decide) (by decide) (by decide) (Nat.le_of_ble_eq_true rfl) ?_
  refine ac_aload_n 77 dX6_copyFrom_76 rfl rfl ?_
  refine ac_getO 80 72 dX6_copyFrom_77 rfl fl6_18 ob69 rfl ?_
  refine ac_iconst 81 0 dX6_copyFrom_80 rfl (by decide) ?_
  refine ac_aload_n 82 dX6_copyFrom_81 rfl rfl ?_
  refine ac_getO 85 10 dX6_copyFrom_82 rfl fl6_18 ob7 rfl ?_
  refine ac_iconst 86 0 dX6_copyFrom_85 rfl (by decide) ?_
  refine ac_iconst 87 5 dX6_copyFrom_86 rfl (by decide) ?_
  refine ac_copy 90 dX6_copyFrom_87 rfl lkj6_61 ar72 ar10 (by decide) (by decide) (by decide) (by decide) (by decide) (by decide) (Nat.le_of_ble_eq_true rfl) ?_
  refine ac_aload_n 91 dX6_copyFrom_90 rfl rfl ?_
  refine ac_getO 94 73 dX6_copyFrom_91 rfl fl6_21 ob69 rfl ?_
  refine ac_iconst 95 0 dX6_copyFrom_94 rfl (by decide) ?_
  refine ac_aload_n 96 dX6_copyFrom_95 rfl rfl ?_
  refine ac_getO 99 11 dX6_copyFrom_96 rfl fl6_21 ob7 rfl ?_
  refine ac_iconst 100 0 dX6_copyFrom_99 rfl (by decide) ?_
  refine ac_iconst 101 5 dX6_copyFrom_100 rfl (by decide) ?_
  refine ac_copy 104 dX6_copyFrom_101 rfl lkj6_61 ar73 ar11 (by decide) (by decide) (by decide) (by decide) (by decide) (by decide) (Nat.le_of_ble_eq_true rfl) ?_
  refine ac_aload_n 105 dX6_copyFrom_104 rfl rfl ?_
  refine ac_getO 108 74 dX6_copyFrom_105 rfl fl6_24 ob69 rfl ?_
  refine ac_iconst 109 0 dX6_copyFrom_108 rfl (by decide) ?_
  refine ac_aload_n 110 dX6_copyFrom_109 rfl rfl ?_
  refine ac_getO 113 12 dX6_copyFrom_110 rfl fl6_24 ob7 rfl ?_
  refine ac_iconst 114 0 dX6_copyFrom_113 rfl (by decide) ?_
  refine ac_iconst 115 5 dX6_copyFrom_114 rfl (by decide) ?_
  refine ac_copy 118 dX6_copyFrom_115 rfl lkj6_61 ar74 ar12 (by decide) (by decide) (by decide) (by decide) (by decide) (by decide) (Nat.le_of_ble_eq_true rfl) ?_
  refine ac_aload_n 119 dX6_copyFrom_118 rfl rfl ?_
  refine ac_getO 122 75 dX6_copyFrom_119 rfl fl6_27 ob69 rfl ?_
  refine ac_iconst 123 0 dX6_copyFrom_122 rfl (by decide) ?_
  refine ac_aload_n 124 dX6_copyFrom_123 rfl rfl ?_
  refine ac_getO 127 13 dX6_copyFrom_124 rfl fl6_27 ob7 rfl ?_
  refine ac_iconst 128 0 dX6_copyFrom_127 rfl (by decide) ?_
  refine ac_iconst 129 3 dX6_copyFrom_128 rfl (by decide) ?_
  refine ac_copy 132 dX6_copyFrom_129 rfl lkj6_61 ar75 ar13 (by decide) (by decide) (by decide) (by decide) (by decide) (by decide) (Nat.le_of_ble_eq_true rfl) ?_
  refine ac_aload_n 133 dX6_copyFrom_132 rfl rfl ?_
  refine ac_getO 136 76 dX6_copyFrom_133 rfl fl6_30 ob69 rfl ?_
  refine ac_iconst 137 0 dX6_copyFrom_136 rfl (by decide) ?_
  refine ac_aload_n 138 dX6_copyFrom_137 rfl rfl ?_
  refine ac_getO 141 14 dX6_copyFrom_138 rfl fl6_30 ob7 rfl ?_
  refine ac_iconst 142 0 dX6_copyFrom_141 rfl (by decide) ?_
  refine ac_iconst 143 3 dX6_copyFrom_142 rfl (by decide) ?_
  refine ac_copy 146 dX6_copyFrom_143 rfl lkj6_61 ar76 ar14 (by decide) (by decide) (by decide) (by decide) (by decide) (by decide) (Nat.le_of_ble_eq_true rfl) ?_
  refine ac_aload_n 147 dX6_copyFrom_146 rfl rfl ?_
  refine ac_getO 150 77 dX6_copyFrom_147 rfl fl6_33 ob69 rfl ?_
  refine ac_iconst 151 0 dX6_copyFrom_150 rfl (by decide) ?_
  refine ac_aload_n 152 dX6_copyFrom_151 rfl rfl ?_
  refine ac_getO 155 15 dX6_copyFrom_152 rfl fl6_33 ob7 rfl ?_
  refine ac_iconst 156 0 dX6_copyFrom_155 rfl (by decide) ?_
  refine ac_bipush 158 16 dX6_copyFrom_156 rfl (by decide) ?_
  refine ac_copy 161 dX6_copyFrom_158 rfl lkj6_61 ar77 ar15 (by decide) (by decide) (by decide) (by decide) (by decide) (by decide) (Nat.le_of_ble_eq_true rfl) ?_
  refine ac_aload_n 162 dX6_copyFrom_161 rfl rfl ?_
  refine ac_getO 165 78 dX6_copyFrom_162 rfl fl6_36 ob69 rfl ?_
  refine ac_iconst 166 0 dX6_copyFrom_165 rfl (by decide) ?_
  refine ac_aload_n 167 dX6_copyFrom_166 rfl rfl ?_
  refine ac_getO 170 16 dX6_copyFrom_167 rfl fl6_36 ob7 rfl ?_
  refine ac_iconst 171 0 dX6_copyFrom_170 rfl (by decide) ?_
  refine ac_bipush 173 16 dX6_copyFrom_171 rfl (by decide) ?_
  refine ac_copy 176 dX6_copyFrom_173 rfl lkj6_61 ar78 ar16 (by decide) (by decide) (by decide) (by decide) (by decide) (by decide) (Nat.le_of_ble_eq_true rfl) ?_
  refine ac_vret dX6_copyFrom_176 rfl ?_
  exact rm_mk rfl
set_option maxRecDepth 20000 in
theorem c6_cp_7_79 {M : am_I} {V : am_J} {f : Nat → Option Nat}  : CT m6_copyFrom 2 [Value.ref 7, Value.ref 79] M V f (RM none (cpW M 7 79) V f) := by
  refine CT.of m6_copyFrom_V.1 _ (en_aa_2 7 79) ?_
  refine ac_aload_n 1 dX6_copyFrom_0 rfl rfl ?_
  refine ac_aload_n 2 dX6_copyFrom_1 rfl rfl ?_
  refine ac_getI 5 dX6_copyFrom_2 rfl fl6_42 ob79 ?_
  refine ac_putI 8 dX6_copyFrom_5 rfl fl6_42 rfl rfl ob7 ?_
  refine ac_aload_n 9 dX6_copyFrom_8 rfl rfl ?_
  refine ac_aload_n 10 dX6_copyFrom_9 rfl rfl ?_
  refine ac_getI 13 dX6_copyFrom_10 rfl fl6_46 ob79 ?_
  rw [show ((am_up M 7 0 (M 79 0)) 79 1) = (M 79 1) from rfl]
  refine ac_putI 16 dX6_copyFrom_13 rfl fl6_46 rfl rfl ob7 ?_
  refine ac_aload_n 17 dX6_copyFrom_16 rfl rfl ?_
  refine ac_aload_n 18 dX6_copyFrom_17 rfl rfl ?_
  refine ac_getI 21 dX6_copyFrom_18 rfl fl6_49 ob79 ?_
  rw [show ((am_up (am_up M 7 0 (M 79 0)) 7 1 (M 79 1)) 79 2) = (M 79 2) from rfl]
  refine ac_putI 24 dX6_copyFrom_21 rfl fl6_49 rfl rfl ob7 ?_
  refine ac_aload_n 25 dX6_copyFrom_24 rfl rfl ?_
  refine ac_aload_n 26 dX6_copyFrom_25 rfl rfl ?_
  refine ac_getI 29 dX6_copyFrom_26 rfl fl6_52 ob79 ?_
  rw [show ((am_up (am_up (am_up M 7 0 (M 79 0)) 7 1 (M 79 1)) 7 2 (M 79 2)) 79 3) = (M 79 3) from rfl]
  refine ac_putI 32 dX6_copyFrom_29 rfl fl6_52 rfl rfl ob7 ?_
  refine ac_aload_n 33 dX6_copyFrom_32 rfl rfl ?_
  refine ac_aload_n 34 dX6_copyFrom_33 rfl rfl ?_
  refine ac_getI 37 dX6_copyFrom_34 rfl fl6_55 ob79 ?_
  rw [show ((am_up (am_up (am_up (am_up M 7 0 (M 79 0)) 7 1 (M 79 1)) 7 2 (M 79 2)) 7 3 (M 79 3)) 79 4) = (M 79 4) from rfl]
  refine ac_putI 40 dX6_copyFrom_37 rfl fl6_55 rfl rfl ob7 ?_
  refine ac_aload_n 41 dX6_copyFrom_40 rfl rfl ?_
  refine ac_aload_n 42 dX6_copyFrom_41 rfl rfl ?_
  refine ac_getI 45 dX6_copyFrom_42 rfl fl6_58 ob79 ?_
  rw [show ((am_up (am_up (am_up (am_up (am_up M 7 0 (M 79 0)) 7 1 (M 79 1)) 7 2 (M 79 2)) 7 3 (M 79 3)) 7 4 (M 79 4)) 79 5) = (M 79 5) from rfl]
  refine ac_putI 48 dX6_copyFrom_45 rfl fl6_58 rfl rfl ob7 ?_
  refine ac_aload_n 49 dX6_copyFrom_48 rfl rfl ?_
  refine ac_getO 52 80 dX6_copyFrom_49 rfl fl6_9 ob79 rfl ?_
  refine ac_iconst 53 0 dX6_copyFrom_52 rfl (by decide) ?_
  refine ac_aload_n 54 dX6_copyFrom_53 rfl rfl ?_
  refine ac_getO 57 8 dX6_copyFrom_54 rfl fl6_9 ob7 rfl ?_
  refine ac_iconst 58 0 dX6_copyFrom_57 rfl (by decide) ?_
  refine ac_iconst 59 5 dX6_copyFrom_58 rfl (by decide) ?_
  refine ac_copy 62 dX6_copyFrom_59 rfl lkj6_61 ar80 ar8 (by decide) (by decide) (by decide) (by decide) (by decide) (by decide) (Nat.le_of_ble_eq_true rfl) ?_
  refine ac_aload_n 63 dX6_copyFrom_62 rfl rfl ?_
  refine ac_getO 66 81 dX6_copyFrom_63 rfl fl6_15 ob79 rfl ?_
  refine ac_iconst 67 0 dX6_copyFrom_66 rfl (by decide) ?_
  refine ac_aload_n 68 dX6_copyFrom_67 rfl rfl ?_
  refine ac_getO 71 9 dX6_copyFrom_68 rfl fl6_15 ob7 rfl ?_
  refine ac_iconst 72 0 dX6_copyFrom_71 rfl (by decide) ?_
  refine ac_iconst 73 5 dX6_copyFrom_72 rfl (by decide) ?_
  refine ac_copy 76 dX6_copyFrom_73 rfl lkj6_61 ar81 ar9 (by decide) (by decide) (by decide) (by decide) (by decide) (by decide) (Nat.le_of_ble_eq_true rfl) ?_
  refine ac_aload_n 77 dX6_copyFrom_76 rfl rfl ?_
  refine ac_getO 80 82 dX6_copyFrom_77 rfl fl6_18 ob79 rfl ?_
  refine ac_iconst 81 0 dX6_copyFrom_80 rfl (by decide) ?_
  refine ac_aload_n 82 dX6_copyFrom_81 rfl rfl ?_
  refine ac_getO 85 10 dX6_copyFrom_82 rfl fl6_18 ob7 rfl ?_
  refine ac_iconst 86 0 dX6_copyFrom_85 rfl (by decide) ?_
  refine ac_iconst 87 5 dX6_copyFrom_86 rfl (by decide) ?_
  refine ac_copy 90 dX6_copyFrom_87 rfl lkj6_61 ar82 ar10 (by decide) (by decide) (by decide) (by decide) (by decide) (by decide) (Nat.le_of_ble_eq_true rfl) ?_
  refine ac_aload_n 91 dX6_copyFrom_90 rfl rfl ?_
  refine ac_getO 94 83 dX6_copyFrom_91 rfl fl6_21 ob79 rfl ?_
  refine ac_iconst 95 0 dX6_copyFrom_94 rfl (by decide) ?_
  refine ac_aload_n 96 dX6_copyFrom_95 rfl rfl ?_
  refine ac_getO 99 11 dX6_copyFrom_96 rfl fl6_21 ob7 rfl ?_
  refine ac_iconst 100 0 dX6_copyFrom_99 rfl (by decide) ?_
  refine ac_iconst 101 5 dX6_copyFrom_100 rfl (by decide) ?_
  refine ac_copy 104 dX6_copyFrom_101 rfl lkj6_61 ar83 ar11 (by decide) (by decide) (by decide) (by decide) (by decide) (by decide) (Nat.le_of_ble_eq_true rfl) ?_
  refine ac_aload_n 105 dX6_copyFrom_104 rfl rfl ?_
  refine ac_getO 108 84 dX6_copyFrom_105 rfl fl6_24 ob79 rfl ?_
  refine ac_iconst 109 0 dX6_copyFrom_108 rfl (by decide) ?_
  refine ac_aload_n 110 dX6_copyFrom_109 rfl rfl ?_
  refine ac_getO 113 12 dX6_copyFrom_110 rfl fl6_24 ob7 rfl ?_
  refine ac_iconst 114 0 dX6_copyFrom_113 rfl (by decide) ?_
  refine ac_iconst 115 5 dX6_copyFrom_114 rfl (by decide) ?_
  refine ac_copy 118 dX6_copyFrom_115 rfl lkj6_61 ar84 ar12 (by decide) (by decide) (by decide) (by decide) (by decide) (by decide) (Nat.le_of_ble_eq_true rfl) ?_
  refine ac_aload_n 119 dX6_copyFrom_118 rfl rfl ?_
  refine ac_getO 122 85 dX6_copyFrom_119 rfl fl6_27 ob79 rfl ?_
  refine ac_iconst 123 0 dX6_copyFrom_122 rfl (by decide) ?_
  refine ac_aload_n 124 dX6_copyFrom_123 rfl rfl ?_
  refine ac_getO 127 13 dX6_copyFrom_124 rfl fl6_27 ob7 rfl ?_
  refine ac_iconst 128 0 dX6_copyFrom_127 rfl (by decide) ?_
  refine ac_iconst 129 3 dX6_copyFrom_128 rfl (by decide) ?_
  refine ac_copy 132 dX6_copyFrom_129 rfl lkj6_61 ar85 ar13 (by decide) (by decide) (by decide) (by decide) (by decide) (by decide) (Nat.le_of_ble_eq_true rfl) ?_
  refine ac_aload_n 133 dX6_copyFrom_132 rfl rfl ?_
  refine ac_getO 136 86 dX6_copyFrom_133 rfl fl6_30 ob79 rfl ?_
  refine ac_iconst 137 0 dX6_copyFrom_136 rfl (by decide) ?_
  refine ac_aload_n 138 dX6_copyFrom_137 rfl rfl ?_
  refine ac_getO 141 14 dX6_copyFrom_138 rfl fl6_30 ob7 rfl ?_
  refine ac_iconst 142 0 dX6_copyFrom_141 rfl (by decide) ?_
  refine ac_iconst 143 3 dX6_copyFrom_142 rfl (by decide) ?_
  refine ac_copy 146 dX6_copyFrom_143 rfl lkj6_61 ar86 ar14 (by decide) (by decide) (by decide) (by decide) (by decide) (by decide) (Nat.le_of_ble_eq_true rfl) ?_
  refine ac_aload_n 147 dX6_copyFrom_146 rfl rfl ?_
  refine ac_getO 150 87 dX6_copyFrom_147 rfl fl6_33 ob79 rfl ?_
  refine ac_iconst 151 0 dX6_copyFrom_150 rfl (by decide) ?_
  refine ac_aload_n 152 dX6_copyFrom_151 rfl rfl ?_
  refine ac_getO 155 15 dX6_copyFrom_152 rfl fl6_33 ob7 rfl ?_
  refine ac_iconst 156 0 dX6_copyFrom_155 rfl (by decide) ?_
  refine ac_bipush 158 16 dX6_copyFrom_156 rfl (by decide) ?_
  refine ac_copy 161 dX6_copyFrom_158 rfl lkj6_61 ar87 ar15 (by decide) (by decide) (by decide) (by decide) (by decide) (by decide) (Nat.le_of_ble_eq_true rfl) ?_
  refine ac_aload_n 162 dX6_copyFrom_161 rfl rfl ?_
  refine ac_getO 165 88 dX6_copyFrom_162 rfl fl6_36 ob79 rfl ?_
  refine ac_iconst 166 0 dX6_copyFrom_165 rfl (by decide) ?_
  refine ac_aload_n 167 dX6_copyFrom_166 rfl rfl ?_
  refine ac_getO 170 16 dX6_copyFrom_167 rfl fl6_36 ob7 rfl ?_
  refine ac_iconst 171 0 dX6_copyFrom_170 rfl (by decide) ?_
  refine ac_bipush 173 16 dX6_copyFrom_171 rfl (by decide) ?_
  refine ac_copy 176 dX6_copyFrom_173 rfl lkj6_61 ar88 ar16 (by decide) (by decide) (by decide) (by decide) (by decide) (by decide) (Nat.le_of_ble_eq_true rfl) ?_
  refine ac_vret dX6_copyFrom_176 rfl ?_
  exact rm_mk rfl
set_option maxRecDepth 20000 in
theorem c6_cp_100_7 {M : am_I} {V : am_J} {f : Nat → Option Nat}  : CT m6_copyFrom 2 [Value.ref 100, Value.ref 7] M V f (RM none (cpW M 100 7) V f) := by
  refine CT.of m6_copyFrom_V.1 _ (en_aa_2 100 7) ?_
  refine ac_aload_n 1 dX6_copyFrom_0 rfl rfl ?_
  refine ac_aload_n 2 dX6_copyFrom_1 rfl rfl ?_
  refine ac_getI 5 dX6_copyFrom_2 rfl fl6_42 ob7 ?_
  refine ac_putI 8 dX6_copyFrom_5 rfl fl6_42 rfl rfl ob100 ?_
  refine ac_aload_n 9 dX6_copyFrom_8 rfl rfl ?_
  refine ac_aload_n 10 dX6_copyFrom_9 rfl rfl ?_
  refine ac_getI 13 dX6_copyFrom_10 rfl fl6_46 ob7 ?_
  rw [show ((am_up M 100 0 (M 7 0)) 7 1) = (M 7 1) from rfl]
  refine ac_putI 16 dX6_copyFrom_13 rfl fl6_46 rfl rfl ob100 ?_
  refine ac_aload_n 17 dX6_copyFrom_16 rfl rfl ?_
  refine ac_aload_n 18 dX6_copyFrom_17 rfl rfl ?_
  refine ac_getI 21 dX6_copyFrom_18 rfl fl6_49 ob7 ?_
  rw [show ((am_up (am_up M 100 0 (M 7 0)) 100 1 (M 7 1)) 7 2) = (M 7 2) from rfl]
  refine ac_putI 24 dX6_copyFrom_21 rfl fl6_49 rfl rfl ob100 ?_
  refine ac_aload_n 25 dX6_copyFrom_24 rfl rfl ?_
  refine ac_aload_n 26 dX6_copyFrom_25 rfl rfl ?_
  refine ac_getI 29 dX6_copyFrom_26 rfl fl6_52 ob7 ?_
  rw [show ((am_up (am_up (am_up M 100 0 (M 7 0)) 100 1 (M 7 1)) 100 2 (M 7 2)) 7 3) = (M 7 3) from rfl]
  refine ac_putI 32 dX6_copyFrom_29 rfl fl6_52 rfl rfl ob100 ?_
  refine ac_aload_n 33 dX6_copyFrom_32 rfl rfl ?_
  refine ac_aload_n 34 dX6_copyFrom_33 rfl rfl ?_
  refine ac_getI 37 dX6_copyFrom_34 rfl fl6_55 ob7 ?_
  rw [show ((am_up (am_up (am_up (am_up M 100 0 (M 7 0)) 100 1 (M 7 1)) 100 2 (M 7 2)) 100 3 (M 7 3)) 7 4) = (M 7 4) from rfl]
  refine ac_putI 40 dX6_copyFrom_37 rfl fl6_55 rfl rfl ob100 ?_
  refine ac_aload_n 41 dX6_copyFrom_40 rfl rfl ?_
  refine ac_aload_n 42 dX6_copyFrom_41 rfl rfl ?_
  refine ac_getI 45 dX6_copyFrom_42 rfl fl6_58 ob7 ?_
  rw [show ((am_up (am_up (am_up (am_up (am_up M 100 0 (M 7 0)) 100 1 (M 7 1)) 100 2 (M 7 2)) 100 3 (M 7 3)) 100 4 (M 7 4)) 7 5) = (M 7 5) from rfl]
  refine ac_putI 48 dX6_copyFrom_45 rfl fl6_58 rfl rfl ob100 ?_
  refine ac_aload_n 49 dX6_copyFrom_48 rfl rfl ?_
  refine ac_getO 52 8 dX6_copyFrom_49 rfl fl6_9 ob7 rfl ?_
  refine ac_iconst 53 0 dX6_copyFrom_52 rfl (by decide) ?_
  refine ac_aload_n 54 dX6_copyFrom_53 rfl rfl ?_
  refine ac_getO 57 101 dX6_copyFrom_54 rfl fl6_9 ob100 rfl ?_
  refine ac_iconst 58 0 dX6_copyFrom_57 rfl (by decide) ?_
  refine ac_iconst 59 5 dX6_copyFrom_58 rfl (by decide) ?_
  refine ac_copy 62 dX6_copyFrom_59 rfl lkj6_61 ar8 ar101 (by decide) (by decide) (by decide) (by decide) (by decide) (by decide) (Nat.le_of_ble_eq_true rfl) ?_
  refine ac_aload_n 63 dX6_copyFrom_62 rfl rfl ?_
  refine ac_getO 66 9 dX6_copyFrom_63 rfl fl6_15 ob7 rfl ?_
  refine ac_iconst 67 0 dX6_copyFrom_66 rfl (by decide) ?_
  refine ac_aload_n 68 dX6_copyFrom_67 rfl rfl ?_
  refine ac_getO 71 102 dX6_copyFrom_68 rfl fl6_15 ob100 rfl ?_
  refine ac_iconst 72 0 dX6_copyFrom_71 rfl (by decide) ?_
  refine ac_iconst 73 5 dX6_copyFrom_72 rfl (by decide) ?_
  refine ac_copy 76 dX6_copyFrom_73 rfl lkj6_61 ar9 ar102 (by decide) (by decide) (by decide) (by decide) (by decide) (by decide) (Nat.le_of_ble_eq_true rfl) ?_
  refine ac_aload_n 77 dX6_copyFrom_76 rfl rfl ?_
  refine ac_getO 80 10 dX6_copyFrom_77 rfl fl6_18 ob7 rfl ?_
  refine ac_iconst 81 0 dX6_copyFrom_80 rfl (by decide) ?_
  refine ac_aload_n 82 dX6_copyFrom_81 rfl rfl ?_
  refine ac_getO 85 103 dX6_copyFrom_82 rfl fl6_18 ob100 rfl ?_
  refine ac_iconst 86 0 dX6_copyFrom_85 rfl (by decide) ?_
  refine ac_iconst 87 5 dX6_copyFrom_86 rfl (by decide) ?_
  refine ac_copy 90 dX6_copyFrom_87 rfl lkj6_61 ar10 ar103 (by decide) (by decide) (by decide) (by decide) (by decide) (by decide) (Nat.le_of_ble_eq_true rfl) ?_
  refine ac_aload_n 91 dX6_copyFrom_90 rfl rfl ?_
  refine ac_getO 94 11 dX6_copyFrom_91 rfl fl6_21 ob7 rfl ?_
  refine ac_iconst 95 0 dX6_copyFrom_94 rfl (by decide) ?_
  refine ac_aload_n 96 dX6_copyFrom_95 rfl rfl ?_
  refine ac_getO 99 104 dX6_copyFrom_96 rfl fl6_21 ob100 rfl ?_
  refine ac_iconst 100 0 dX6_copyFrom_99 rfl (by decide) ?_
  refine ac_iconst 101 5 dX6_copyFrom_100 rfl (by decide) ?_
  refine ac_copy 104 dX6_copyFrom_101 rfl lkj6_61 ar11 ar104 (by decide) (by decide) (by decide) (by decide) (by decide) (by decide) (Nat.le_of_ble_eq_true rfl) ?_
  refine ac_aload_n 105 dX6_copyFrom_104 rfl rfl ?_
  refine ac_getO 108 12 dX6_copyFrom_105 rfl fl6_24 ob7 rfl ?_
  refine ac_iconst 109 0 dX6_copyFrom_108 rfl (by decide) ?_
  refine ac_aload_n 110 dX6_copyFrom_109 rfl rfl ?_
  refine ac_getO 113 105 dX6_copyFrom_110 rfl fl6_24 ob100 rfl ?_
  refine ac_iconst 114 0 dX6_copyFrom_113 rfl (by decide) ?_
  refine ac_iconst 115 5 dX6_copyFrom_114 rfl (by decide) ?_
  refine ac_copy 118 dX6_copyFrom_115 rfl lkj6_61 ar12 ar105 (by decide) (by decide) (by decide) (by decide) (by decide) (by decide) (Nat.le_of_ble_eq_true rfl) ?_
  refine ac_aload_n 119 dX6_copyFrom_118 rfl rfl ?_
  refine ac_getO 122 13 dX6_copyFrom_119 rfl fl6_27 ob7 rfl ?_
  refine ac_iconst 123 0 dX6_copyFrom_122 rfl (by decide) ?_
  refine ac_aload_n 124 dX6_copyFrom_123 rfl rfl ?_
  refine ac_getO 127 106 dX6_copyFrom_124 rfl fl6_27 ob100 rfl ?_
  refine ac_iconst 128 0 dX6_copyFrom_127 rfl (by decide) ?_
  refine ac_iconst 129 3 dX6_copyFrom_128 rfl (by decide) ?_
  refine ac_copy 132 dX6_copyFrom_129 rfl lkj6_61 ar13 ar106 (by decide) (by decide) (by decide) (by decide) (by decide) (by decide) (Nat.le_of_ble_eq_true rfl) ?_
  refine ac_aload_n 133 dX6_copyFrom_132 rfl rfl ?_
  refine ac_getO 136 14 dX6_copyFrom_133 rfl fl6_30 ob7 rfl ?_
  refine ac_iconst 137 0 dX6_copyFrom_136 rfl (by decide) ?_
  refine ac_aload_n 138 dX6_copyFrom_137 rfl rfl ?_
  refine ac_getO 141 107 dX6_copyFrom_138 rfl fl6_30 ob100 rfl ?_
  refine ac_iconst 142 0 dX6_copyFrom_141 rfl (by decide) ?_
  refine ac_iconst 143 3 dX6_copyFrom_142 rfl (by decide) ?_
  refine ac_copy 146 dX6_copyFrom_143 rfl lkj6_61 ar14 ar107 (by decide) (by decide) (by decide) (by decide) (by decide) (by decide) (Nat.le_of_ble_eq_true rfl) ?_
  refine ac_aload_n 147 dX6_copyFrom_146 rfl rfl ?_
  refine ac_getO 150 15 dX6_copyFrom_147 rfl fl6_33 ob7 rfl ?_
  refine ac_iconst 151 0 dX6_copyFrom_150 rfl (by decide) ?_
  refine ac_aload_n 152 dX6_copyFrom_151 rfl rfl ?_
  refine ac_getO 155 108 dX6_copyFrom_152 rfl fl6_33 ob100 rfl ?_
  refine ac_iconst 156 0 dX6_copyFrom_155 rfl (by decide) ?_
  refine ac_bipush 158 16 dX6_copyFrom_156 rfl (by decide) ?_
  refine ac_copy 161 dX6_copyFrom_158 rfl lkj6_61 ar15 ar108 (by decide) (by decide) (by decide) (by decide) (by decide) (by decide) (Nat.le_of_ble_eq_true rfl) ?_
  refine ac_aload_n 162 dX6_copyFrom_161 rfl rfl ?_
  refine ac_getO 165 16 dX6_copyFrom_162 rfl fl6_36 ob7 rfl ?_
  refine ac_iconst 166 0 dX6_copyFrom_165 rfl (by decide) ?_
  refine ac_aload_n 167 dX6_copyFrom_166 rfl rfl ?_
  refine ac_getO 170 109 dX6_copyFrom_167 rfl fl6_36 ob100 rfl ?_
  refine ac_iconst 171 0 dX6_copyFrom_170 rfl (by decide) ?_
  refine ac_bipush 173 16 dX6_copyFrom_171 rfl (by decide) ?_
  refine ac_copy 176 dX6_copyFrom_173 rfl lkj6_61 ar16 ar109 (by decide) (by decide) (by decide) (by decide) (by decide) (by decide) (Nat.le_of_ble_eq_true rfl) ?_
  refine ac_vret dX6_copyFrom_176 rfl ?_
  exact rm_mk rfl
set_option maxRecDepth 20000 in
theorem c6_cp_110_7 {M : am_I} {V : am_J} {f : Nat → Option Nat}  : CT m6_copyFrom 2 [Value.ref 110, Value.ref 7] M V f (RM none (cpW M 110 7) V f) := by
  refine CT.of m6_copyFrom_V.1 _ (en_aa_2 110 7) ?_
  refine ac_aload_n 1 dX6_copyFrom_0 rfl rfl ?_
  refine ac_aload_n 2 dX6_copyFrom_1 rfl rfl ?_
  refine ac_getI 5 dX6_copyFrom_2 rfl fl6_42 ob7 ?_
  refine ac_putI 8 dX6_copyFrom_5 rfl fl6_42 rfl rfl ob110 ?_
  refine ac_aload_n 9 dX6_copyFrom_8 rfl rfl ?_
  refine ac_aload_n 10 dX6_copyFrom_9 rfl rfl ?_
  refine ac_getI 13 dX6_copyFrom_10 rfl fl6_46 ob7 ?_
  rw [show ((am_up M 110 0 (M 7 0)) 7 1) = (M 7 1) from rfl]
  refine ac_putI 16 dX6_copyFrom_13 rfl fl6_46 rfl rfl ob110 ?_
  refine ac_aload_n 17 dX6_copyFrom_16 rfl rfl ?_
  refine ac_aload_n 18 dX6_copyFrom_17 rfl rfl ?_
  refine ac_getI 21 dX6_copyFrom_18 rfl fl6_49 ob7 ?_
  rw [show ((am_up (am_up M 110 0 (M 7 0)) 110 1 (M 7 1)) 7 2) = (M 7 2) from rfl]
  refine ac_putI 24 dX6_copyFrom_21 rfl fl6_49 rfl rfl ob110 ?_
  refine ac_aload_n 25 dX6_copyFrom_24 rfl rfl ?_
  refine ac_aload_n 26 dX6_copyFrom_25 rfl rfl ?_
  refine ac_getI 29 dX6_copyFrom_26 rfl fl6_52 ob7 ?_
  rw [show ((am_up (am_up (am_up M 110 0 (M 7 0)) 110 1 (M 7 1)) 110 2 (M 7 2)) 7 3) = (M 7 3) from rfl]
  refine ac_putI 32 dX6_copyFrom_29 rfl fl6_52 rfl rfl ob110 ?_
  refine ac_aload_n 33 dX6_copyFrom_32 rfl rfl ?_
  refine ac_aload_n 34 dX6_copyFrom_33 rfl rfl ?_
  refine ac_getI 37 dX6_copyFrom_34 rfl fl6_55 ob7 ?_
  rw [show ((am_up (am_up (am_up (am_up M 110 0 (M 7 0)) 110 1 (M 7 1)) 110 2 (M 7 2)) 110 3 (M 7 3)) 7 4) = (M 7 4) from rfl]
  refine ac_putI 40 dX6_copyFrom_37 rfl fl6_55 rfl rfl ob110 ?_
  refine ac_aload_n 41 dX6_copyFrom_40 rfl rfl ?_
  refine ac_aload_n 42 dX6_copyFrom_41 rfl rfl ?_
  refine ac_getI 45 dX6_copyFrom_42 rfl fl6_58 ob7 ?_
  rw [show ((am_up (am_up (am_up (am_up (am_up M 110 0 (M 7 0)) 110 1 (M 7 1)) 110 2 (M 7 2)) 110 3 (M 7 3)) 110 4 (M 7 4)) 7 5) = (M 7 5) from rfl]
  refine ac_putI 48 dX6_copyFrom_45 rfl fl6_58 rfl rfl ob110 ?_
  refine ac_aload_n 49 dX6_copyFrom_48 rfl rfl ?_
  refine ac_getO 52 8 dX6_copyFrom_49 rfl fl6_9 ob7 rfl ?_
  refine ac_iconst 53 0 dX6_copyFrom_52 rfl (by decide) ?_
  refine ac_aload_n 54 dX6_copyFrom_53 rfl rfl ?_
  refine ac_getO 57 111 dX6_copyFrom_54 rfl fl6_9 ob110 rfl ?_
  refine ac_iconst 58 0 dX6_copyFrom_57 rfl (by decide) ?_
  refine ac_iconst 59 5 dX6_copyFrom_58 rfl (by decide) ?_
  refine ac_copy 62 dX6_copyFrom_59 rfl lkj6_61 ar8 ar111 (by decide) (by decide) (by decide) (by decide) (by decide) (by decide) (Nat.le_of_ble_eq_true rfl) ?_
  refine ac_aload_n 63 dX6_copyFrom_62 rfl rfl ?_
  refine ac_getO 66 9 dX6_copyFrom_63 rfl fl6_15 ob7 rfl ?_
  refine ac_iconst 67 0 dX6_copyFrom_66 rfl (by decide) ?_
  refine ac_aload_n 68 dX6_copyFrom_67 rfl rfl ?_
  refine ac_getO 71 112 dX6_copyFrom_68 rfl fl6_15 ob110 rfl ?_
  refine ac_iconst 72 0 dX6_copyFrom_71 rfl (by decide) ?_
  refine ac_iconst 73 5 dX6_copyFrom_72 rfl (by decide) ?_
  refine ac_copy 76 dX6_copyFrom_73 rfl lkj6_61 ar9 ar112 (by decide) (by decide) (by decide) (by decide) (by decide) (by decide) (Nat.le_of_ble_eq_true rfl) ?_
  refine ac_aload_n 77 dX6_copyFrom_76 rfl rfl ?_
  refine ac_getO 80 10 dX6_copyFrom_77 rfl fl6_18 ob7 rfl ?_
  refine ac_iconst 81 0 dX6_copyFrom_80 rfl (by decide) ?_
  refine ac_aload_n 82 dX6_copyFrom_81 rfl rfl ?_
  refine ac_getO 85 113 dX6_copyFrom_82 rfl fl6_18 ob110 rfl ?_
  refine ac_iconst 86 0 dX6_copyFrom_85 rfl (by decide) ?_
  refine ac_iconst 87 5 dX6_copyFrom_86 rfl (by decide) ?_
  refine ac_copy 90 dX6_copyFrom_87 rfl lkj6_61 ar10 ar113 (by decide) (by decide) (by decide) (by decide) (by decide) (by decide) (Nat.le_of_ble_eq_true rfl) ?_
  refine ac_aload_n 91 dX6_copyFrom_90 rfl rfl ?_
  refine ac_getO 94 11 dX6_copyFrom_91 rfl fl6_21 ob7 rfl ?_
  refine ac_iconst 95 0 dX6_copyFrom_94 rfl (by decide) ?_
  refine ac_aload_n 96 dX6_copyFrom_95 rfl rfl ?_
  refine ac_getO 99 114 dX6_copyFrom_96 rfl fl6_21 ob110 rfl ?_
  refine ac_iconst 100 0 dX6_copyFrom_99 rfl (by decide) ?_
  refine ac_iconst 101 5 dX6_copyFrom_100 rfl (by decide) ?_
  refine ac_copy 104 dX6_copyFrom_101 rfl lkj6_61 ar11 ar114 (by decide) (by decide) (by decide) (by decide) (by decide) (by decide) (Nat.le_of_ble_eq_true rfl) ?_
  refine ac_aload_n 105 dX6_copyFrom_104 rfl rfl ?_
  refine ac_getO 108 12 dX6_copyFrom_105 rfl fl6_24 ob7 rfl ?_
  refine ac_iconst 109 0 dX6_copyFrom_108 rfl (by decide) ?_
  refine ac_aload_n 110 dX6_copyFrom_109 rfl rfl ?_
  refine ac_getO 113 115 dX6_copyFrom_110 rfl fl6_24 ob110 rfl ?_
  refine ac_iconst 114 0 dX6_copyFrom_113 rfl (by decide) ?_
  refine ac_iconst 115 5 dX6_copyFrom_114 rfl (by decide) ?_
  refine ac_copy 118 dX6_copyFrom_115 rfl lkj6_61 ar12 ar115 (by decide) (by decide) (by decide) (by decide) (by decide) (by decide) (Nat.le_of_ble_eq_true rfl) ?_
  refine ac_aload_n 119 dX6_copyFrom_118 rfl rfl ?_
  refine ac_getO 122 13 dX6_copyFrom_119 rfl fl6_27 ob7 rfl ?_
  refine ac_iconst 123 0 dX6_copyFrom_122 rfl (by decide) ?_
  refine ac_aload_n 124 dX6_copyFrom_123 rfl rfl ?_
  refine ac_getO 127 116 dX6_copyFrom_124 rfl fl6_27 ob110 rfl ?_
  refine ac_iconst 128 0 dX6_copyFrom_127 rfl (by decide) ?_
  refine ac_iconst 129 3 dX6_copyFrom_128 rfl (by decide) ?_
  refine ac_copy 132 dX6_copyFrom_129 rfl lkj6_61 ar13 ar116 (by decide) (by decide) (by decide) (by decide) (by decide) (by decide) (Nat.le_of_ble_eq_true rfl) ?_
  refine ac_aload_n 133 dX6_copyFrom_132 rfl rfl ?_
  refine ac_getO 136 14 dX6_copyFrom_133 rfl fl6_30 ob7 rfl ?_
  refine ac_iconst 137 0 dX6_copyFrom_136 rfl (by decide) ?_
  refine ac_aload_n 138 dX6_copyFrom_137 rfl rfl ?_
  refine ac_getO 141 117 dX6_copyFrom_138 rfl fl6_30 ob110 rfl ?_
  refine ac_iconst 142 0 dX6_copyFrom_141 rfl (by decide) ?_
  refine ac_iconst 143 3 dX6_copyFrom_142 rfl (by decide) ?_
  refine ac_copy 146 dX6_copyFrom_143 rfl lkj6_61 ar14 ar117 (by decide) (by decide) (by decide) (by decide) (by decide) (by decide) (Nat.le_of_ble_eq_true rfl) ?_
  refine ac_aload_n 147 dX6_copyFrom_146 rfl rfl ?_
  refine ac_getO 150 15 dX6_copyFrom_147 rfl fl6_33 ob7 rfl ?_
  refine ac_iconst 151 0 dX6_copyFrom_150 rfl (by decide) ?_
  refine ac_aload_n 152 dX6_copyFrom_151 rfl rfl ?_
  refine ac_getO 155 118 dX6_copyFrom_152 rfl fl6_33 ob110 rfl ?_
  refine ac_iconst 156 0 dX6_copyFrom_155 rfl (by decide) ?_
  refine ac_bipush 158 16 dX6_copyFrom_156 rfl (by decide) ?_
  refine ac_copy 161 dX6_copyFrom_158 rfl lkj6_61 ar15 ar118 (by decide) (by decide) (by decide) (by decide) (by decide) (by decide) (Nat.le_of_ble_eq_true rfl) ?_
  refine ac_aload_n 162 dX6_copyFrom_161 rfl rfl ?_
  refine ac_getO 165 16 dX6_copyFrom_162 rfl fl6_36 ob7 rfl ?_
  refine ac_iconst 166 0 dX6_copyFrom_165 rfl (by decide) ?_
  refine ac_aload_n 167 dX6_copyFrom_166 rfl rfl ?_
  refine ac_getO 170 119 dX6_copyFrom_167 rfl fl6_36 ob110 rfl ?_
  refine ac_iconst 171 0 dX6_copyFrom_170 rfl (by decide) ?_
  refine ac_bipush 173 16 dX6_copyFrom_171 rfl (by decide) ?_
  refine ac_copy 176 dX6_copyFrom_173 rfl lkj6_61 ar16 ar119 (by decide) (by decide) (by decide) (by decide) (by decide) (by decide) (Nat.le_of_ble_eq_true rfl) ?_
  refine ac_vret dX6_copyFrom_176 rfl ?_
  exact rm_mk rfl
set_option maxRecDepth 20000 in
theorem c6_cp_7_100 {M : am_I} {V : am_J} {f : Nat → Option Nat}  : CT m6_copyFrom 2 [Value.ref 7, Value.ref 100] M V f (RM none (cpW M 7 100) V f) := by
  refine CT.of m6_copyFrom_V.1 _ (en_aa_2 7 100) ?_
  refine ac_aload_n 1 dX6_copyFrom_0 rfl rfl ?_
  refine ac_aload_n 2 dX6_copyFrom_1 rfl rfl ?_
  refine ac_getI 5 dX6_copyFrom_2 rfl fl6_42 ob100 ?_
  refine ac_putI 8 dX6_copyFrom_5 rfl fl6_42 rfl rfl ob7 ?_
  refine ac_aload_n 9 dX6_copyFrom_8 rfl rfl ?_
  refine ac_aload_n 10 dX6_copyFrom_9 rfl rfl ?_
  refine ac_getI 13 dX6_copyFrom_10 rfl fl6_46 ob100 ?_
  rw [show ((am_up M 7 0 (M 100 0)) 100 1) = (M 100 1) from rfl]
  refine ac_putI 16 dX6_copyFrom_13 rfl fl6_46 rfl rfl ob7 ?_
  refine ac_aload_n 17 dX6_copyFrom_16 rfl rfl ?_
  refine ac_aload_n 18 dX6_copyFrom_17 rfl rfl ?_
  refine ac_getI 21 dX6_copyFrom_18 rfl fl6_49 ob100 ?_
  rw [show ((am_up (am_up M 7 0 (M 100 0)) 7 1 (M 100 1)) 100 2) = (M 100 2) from rfl]
  refine ac_putI 24 dX6_copyFrom_21 rfl fl6_49 rfl rfl ob7 ?_
  refine ac_aload_n 25 dX6_copyFrom_24 rfl rfl ?_
  refine ac_aload_n 26 dX6_copyFrom_25 rfl rfl ?_
  refine ac_getI 29 dX6_copyFrom_26 rfl fl6_52 ob100 ?_
  rw [show ((am_up (am_up (am_up M 7 0 (M 100 0)) 7 1 (M 100 1)) 7 2 (M 100 2)) 100 3) = (M 100 3) from rfl]
  refine ac_putI 32 dX6_copyFrom_29 rfl fl6_52 rfl rfl ob7 ?_
  refine ac_aload_n 33 dX6_copyFrom_32 rfl rfl ?_
  refine ac_aload_n 34 dX6_copyFrom_33 rfl rfl ?_
  refine ac_getI 37 dX6_copyFrom_34 rfl fl6_55 ob100 ?_
  rw [show ((am_up (am_up (am_up (am_up M 7 0 (M 100 0)) 7 1 (M 100 1)) 7 2 (M 100 2)) 7 3 (M 100 3)) 100 4) = (M 100 4) from rfl]
  refine ac_putI 40 dX6_copyFrom_37 rfl fl6_55 rfl rfl ob7 ?_
  refine ac_aload_n 41 dX6_copyFrom_40 rfl rfl ?_
  refine ac_aload_n 42 dX6_copyFrom_41 rfl rfl ?_
  refine ac_getI 45 dX6_copyFrom_42 rfl fl6_58 ob100 ?_
  rw [show ((am_up (am_up (am_up (am_up (am_up M 7 0 (M 100 0)) 7 1 (M 100 1)) 7 2 (M 100 2)) 7 3 (M 100 3)) 7 4 (M 100 4)) 100 5) = (M 100 5) from rfl]
  refine ac_putI 48 dX6_copyFrom_45 rfl fl6_58 rfl rfl ob7 ?_
  refine ac_aload_n 49 dX6_copyFrom_48 rfl rfl ?_
  refine ac_getO 52 101 dX6_copyFrom_49 rfl fl6_9 ob100 rfl ?_
  refine ac_iconst 53 0 dX6_copyFrom_52 rfl (by decide) ?_
  refine ac_aload_n 54 dX6_copyFrom_53 rfl rfl ?_
  refine ac_getO 57 8 dX6_copyFrom_54 rfl fl6_9 ob7 rfl ?_
  refine ac_iconst 58 0 dX6_copyFrom_57 rfl (by decide) ?_
  refine ac_iconst 59 5 dX6_copyFrom_58 rfl (by decide) ?_
  refine ac_copy 62 dX6_copyFrom_59 rfl lkj6_61 ar101 ar8 (by decide) (by decide) (by decide) (by decide) (by decide) (by decide) (Nat.le_of_ble_eq_true rfl) ?_
  refine ac_aload_n 63 dX6_copyFrom_62 rfl rfl ?_
  refine ac_getO 66 102 dX6_copyFrom_63 rfl fl6_15 ob100 rfl ?_
  refine ac_iconst 67 0 dX6_copyFrom_66 rfl (by decide) ?_
  refine ac_aload_n 68 dX6_copyFrom_67 rfl rfl ?_
  refine ac_getO 71 9 dX6_copyFrom_68 rfl fl6_15 ob7 rfl ?_
  refine ac_iconst 72 0 dX6_copyFrom_71 rfl (by decide) ?_
  refine ac_iconst 73 5 dX6_copyFrom_72 rfl (by decide) ?_
  refine ac_copy 76 dX6_copyFrom_73 rfl lkj6_61 ar102 ar9 (by decide) (by decide) (by decide) (by decide) (by decide) (by decide) (Nat.le_of_ble_eq_true rfl) ?_
  refine ac_aload_n 77 dX6_copyFrom_76 rfl rfl ?_
  refine ac_getO 80 103 dX6_copyFrom_77 rfl fl6_18 ob100 rfl ?_
  refine ac_iconst 81 0 dX6_copyFrom_80 rfl (by decide) ?_
  refine ac_aload_n 82 dX6_copyFrom_81 rfl rfl ?_
  refine ac_getO 85 10 dX6_copyFrom_82 rfl fl6_18 ob7 rfl ?_
  refine ac_iconst 86 0 dX6_copyFrom_85 rfl (by decide) ?_
  refine ac_iconst 87 5 dX6_copyFrom_86 rfl (by decide) ?_
  refine ac_copy 90 dX6_copyFrom_87 rfl lkj6_61 ar103 ar10 (by decide) (by decide) (by decide) (by decide) (by decide) (by decide) (Nat.le_of_ble_eq_true rfl) ?_
  refine ac_aload_n 91 dX6_copyFrom_90 rfl rfl ?_
  refine ac_getO 94 104 dX6_copyFrom_91 rfl fl6_21 ob100 rfl ?_
  refine ac_iconst 95 0 dX6_copyFrom_94 rfl (by decide) ?_
  refine ac_aload_n 96 dX6_copyFrom_95 rfl rfl ?_
  refine ac_getO 99 11 dX6_copyFrom_96 rfl fl6_21 ob7 rfl ?_
  refine ac_iconst 100 0 dX6_copyFrom_99 rfl (by decide) ?_
  refine ac_iconst 101 5 dX6_copyFrom_100 rfl (by decide) ?_
  refine ac_copy 104 dX6_copyFrom_101 rfl lkj6_61 ar104 ar11 (by decide) (by decide) (by decide) (by decide) (by decide) (by decide) (Nat.le_of_ble_eq_true rfl) ?_
  refine ac_aload_n 105 dX6_copyFrom_104 rfl rfl ?_
  refine ac_getO 108 105 dX6_copyFrom_105 rfl fl6_24 ob100 rfl ?_
  refine ac_iconst 109 0 dX6_copyFrom_108 rfl (by decide) ?_
  refine ac_aload_n 110 dX6_copyFrom_109 rfl rfl ?_
  refine ac_getO 113 12 dX6_copyFrom_110 rfl fl6_24 ob7 rfl ?_
  refine ac_iconst 114 0 dX6_copyFrom_113 rfl (by decide) ?_
  refine ac_iconst 115 5 dX6_copyFrom_114 rfl (by decide) ?_
  refine ac_copy 118 dX6_copyFrom_115 rfl lkj6_61 ar105 ar12 (by decide) (by decide) (by decide) (by decide) (by decide) (by decide) (Nat.le_of_ble_eq_true rfl) ?_
  refine ac_aload_n 119 dX6_copyFrom_118 rfl rfl ?_
  refine ac_getO 122 106 dX6_copyFrom_119 rfl fl6_27 ob100 rfl ?_
  refine ac_iconst 123 0 dX6_copyFrom_122 rfl (by decide) ?_
  refine ac_aload_n 124 dX6_copyFrom_123 rfl rfl ?_
  refine ac_getO 127 13 dX6_copyFrom_124 rfl fl6_27 ob7 rfl ?_
  refine ac_iconst 128 0 dX6_copyFrom_127 rfl (by decide) ?_
  refine ac_iconst 129 3 dX6_copyFrom_128 rfl (by decide) ?_
  refine ac_copy 132 dX6_copyFrom_129 rfl lkj6_61 ar106 ar13 (by decide) (by decide) (by decide) (by decide) (by decide) (by decide) (Nat.le_of_ble_eq_true rfl) ?_
  refine ac_aload_n 133 dX6_copyFrom_132 rfl rfl ?_
  refine ac_getO 136 107 dX6_copyFrom_133 rfl fl6_30 ob100 rfl ?_
  refine ac_iconst 137 0 dX6_copyFrom_136 rfl (by decide) ?_
  refine ac_aload_n 138 dX6_copyFrom_137 rfl rfl ?_
  refine ac_getO 141 14 dX6_copyFrom_138 rfl fl6_30 ob7 rfl ?_
  refine ac_iconst 142 0 dX6_copyFrom_141 rfl (by decide) ?_
  refine ac_iconst 143 3 dX6_copyFrom_142 rfl (by decide) ?_
  refine ac_copy 146 dX6_copyFrom_143 rfl lkj6_61 ar107 ar14 (by decide) (by decide) (by decide) (by decide) (by decide) (by decide) (Nat.le_of_ble_eq_true rfl) ?_
  refine ac_aload_n 147 dX6_copyFrom_146 rfl rfl ?_
  refine ac_getO 150 108 dX6_copyFrom_147 rfl fl6_33 ob100 rfl ?_
  refine ac_iconst 151 0 dX6_copyFrom_150 rfl (by decide) ?_
  refine ac_aload_n 152 dX6_copyFrom_151 rfl rfl ?_
  refine ac_getO 155 15 dX6_copyFrom_152 rfl fl6_33 ob7 rfl ?_
  refine ac_iconst 156 0 dX6_copyFrom_155 rfl (by decide) ?_
  refine ac_bipush 158 16 dX6_copyFrom_156 rfl (by decide) ?_
  refine ac_copy 161 dX6_copyFrom_158 rfl lkj6_61 ar108 ar15 (by decide) (by decide) (by decide) (by decide) (by decide) (by decide) (Nat.le_of_ble_eq_true rfl) ?_
  refine ac_aload_n 162 dX6_copyFrom_161 rfl rfl ?_
  refine ac_getO 165 109 dX6_copyFrom_162 rfl fl6_36 ob100 rfl ?_
  refine ac_iconst 166 0 dX6_copyFrom_165 rfl (by decide) ?_
  refine ac_aload_n 167 dX6_copyFrom_166 rfl rfl ?_
  refine ac_getO 170 16 dX6_copyFrom_167 rfl fl6_36 ob7 rfl ?_
  refine ac_iconst 171 0 dX6_copyFrom_170 rfl (by decide) ?_
  refine ac_bipush 173 16 dX6_copyFrom_171 rfl (by decide) ?_
  refine ac_copy 176 dX6_copyFrom_173 rfl lkj6_61 ar109 ar16 (by decide) (by decide) (by decide) (by decide) (by decide) (by decide) (Nat.le_of_ble_eq_true rfl) ?_
  refine ac_vret dX6_copyFrom_176 rfl ?_
  exact rm_mk rfl
set_option maxRecDepth 20000 in
theorem c6_cp_7_110 {M : am_I} {V : am_J} {f : Nat → Option Nat}  : CT m6_copyFrom 2 [Value.ref 7, Value.ref 110] M V f (RM none (cpW M 7 110) V f) := by
  refine CT.of m6_copyFrom_V.1 _ (en_aa_2 7 110) ?_
  refine ac_aload_n 1 dX6_copyFrom_0 rfl rfl ?_
  refine ac_aload_n 2 dX6_copyFrom_1 rfl rfl ?_
  refine ac_getI 5 dX6_copyFrom_2 rfl fl6_42 ob110 ?_
  refine ac_putI 8 dX6_copyFrom_5 rfl fl6_42 rfl rfl ob7 ?_
  refine ac_aload_n 9 dX6_copyFrom_8 rfl rfl ?_
  refine ac_aload_n 10 dX6_copyFrom_9 rfl rfl ?_
  refine ac_getI 13 dX6_copyFrom_10 rfl fl6_46 ob110 ?_
  rw [show ((am_up M 7 0 (M 110 0)) 110 1) = (M 110 1) from rfl]
  refine ac_putI 16 dX6_copyFrom_13 rfl fl6_46 rfl rfl ob7 ?_
  refine ac_aload_n 17 dX6_copyFrom_16 rfl rfl ?_
  refine ac_aload_n 18 dX6_copyFrom_17 rfl rfl ?_
  refine ac_getI 21 dX6_copyFrom_18 rfl fl6_49 ob110 ?_
  rw [show ((am_up (am_up M 7 0 (M 110 0)) 7 1 (M 110 1)) 110 2) = (M 110 2) from rfl]
  refine ac_putI 24 dX6_copyFrom_21 rfl fl6_49 rfl rfl ob7 ?_
  refine ac_aload_n 25 dX6_copyFrom_24 rfl rfl ?_
  refine ac_aload_n 26 dX6_copyFrom_25 rfl rfl ?_
  refine ac_getI 29 dX6_copyFrom_26 rfl fl6_52 ob110 ?_
  rw [show ((am_up (am_up (am_up M 7 0 (M 110 0)) 7 1 (M 110 1)) 7 2 (M 110 2)) 110 3) = (M 110 3) from rfl]
  refine ac_putI 32 dX6_copyFrom_29 rfl fl6_52 rfl rfl ob7 ?_
  refine ac_aload_n 33 dX6_copyFrom_32 rfl rfl ?_
  refine ac_aload_n 34 dX6_copyFrom_33 rfl rfl ?_
  refine ac_getI 37 dX6_copyFrom_34 rfl fl6_55 ob110 ?_
  rw [show ((am_up (am_up (am_up (am_up M 7 0 (M 110 0)) 7 1 (M 110 1)) 7 2 (M 110 2)) 7 3 (M 110 3)) 110 4) = (M 110 4) from rfl]
  refine ac_putI 40 dX6_copyFrom_37 rfl fl6_55 rfl rfl ob7 ?_
  refine ac_aload_n 41 dX6_copyFrom_40 rfl rfl ?_
  refine ac_aload_n 42 dX6_copyFrom_41 rfl rfl ?_
  refine ac_getI 45 dX6_copyFrom_42 rfl fl6_58 ob110 ?_
  rw [show ((am_up (am_up (am_up (am_up (am_up M 7 0 (M 110 0)) 7 1 (M 110 1)) 7 2 (M 110 2)) 7 3 (M 110 3)) 7 4 (M 110 4)) 110 5) = (M 110 5) from rfl]
  refine ac_putI 48 dX6_copyFrom_45 rfl fl6_58 rfl rfl ob7 ?_
  refine ac_aload_n 49 dX6_copyFrom_48 rfl rfl ?_
  refine ac_getO 52 111 dX6_copyFrom_49 rfl fl6_9 ob110 rfl ?_
  refine ac_iconst 53 0 dX6_copyFrom_52 rfl (by decide) ?_
  refine ac_aload_n 54 dX6_copyFrom_53 rfl rfl ?_
  refine ac_getO 57 8 dX6_copyFrom_54 rfl fl6_9 ob7 rfl ?_
  refine ac_iconst 58 0 dX6_copyFrom_57 rfl (by decide) ?_
  refine ac_iconst 59 5 dX6_copyFrom_58 rfl (by decide) ?_
  refine ac_copy 62 dX6_copyFrom_59 rfl lkj6_61 ar111 ar8 (by decide) (by decide) (by decide) (by decide) (by decide) (by decide) (Nat.le_of_ble_eq_true rfl) ?_
  refine ac_aload_n 63 dX6_copyFrom_62 rfl rfl ?_
  refine ac_getO 66 112 dX6_copyFrom_63 rfl fl6_15 ob110 rfl ?_
  refine ac_iconst 67 0 dX6_copyFrom_66 rfl (by decide) ?_
  refine ac_aload_n 68 dX6_copyFrom_67 rfl rfl ?_
  refine ac_getO 71 9 dX6_copyFrom_68 rfl fl6_15 ob7 rfl ?_
  refine ac_iconst 72 0 dX6_copyFrom_71 rfl (by decide) ?_
  refine ac_iconst 73 5 dX6_copyFrom_72 rfl (by decide) ?_
  refine ac_copy 76 dX6_copyFrom_73 rfl lkj6_61 ar112 ar9 (by decide) (by decide) (by decide) (by decide) (by decide) (by decide) (Nat.le_of_ble_eq_true rfl) ?_
  refine ac_aload_n 77 dX6_copyFrom_76 rfl rfl ?_
  refine ac_getO 80 113 dX6_copyFrom_77 rfl fl6_18 ob110 rfl ?_
  refine ac_iconst 81 0 dX6_copyFrom_80 rfl (by decide) ?_
  refine ac_aload_n 82 dX6_copyFrom_81 rfl rfl ?_
  refine ac_getO 85 10 dX6_copyFrom_82 rfl fl6_18 ob7 rfl ?_
  refine ac_iconst 86 0 dX6_copyFrom_85 rfl (by decide) ?_
  refine ac_iconst 87 5 dX6_copyFrom_86 rfl (by decide) ?_
  refine ac_copy 90 dX6_copyFrom_87 rfl lkj6_61 ar113 ar10 (by decide) (by decide) (by decide) (by decide) (by decide) (by decide) (Nat.le_of_ble_eq_true rfl) ?_
  refine ac_aload_n 91 dX6_copyFrom_90 rfl rfl ?_
  refine ac_getO 94 114 dX6_copyFrom_91 rfl fl6_21 ob110 rfl ?_
  refine ac_iconst 95 0 dX6_copyFrom_94 rfl (by decide) ?_
  refine ac_aload_n 96 dX6_copyFrom_95 rfl rfl ?_
  refine ac_getO 99 11 dX6_copyFrom_96 rfl fl6_21 ob7 rfl ?_
  refine ac_iconst 100 0 dX6_copyFrom_99 rfl (by decide) ?_
  refine ac_iconst 101 5 dX6_copyFrom_100 rfl (by decide) ?_
  refine ac_copy 104 dX6_copyFrom_101 rfl lkj6_61 ar114 ar11 (by decide) (by decide) (by decide) (by decide) (by decide) (by decide) (Nat.le_of_ble_eq_true rfl) ?_
  refine ac_aload_n 105 dX6_copyFrom_104 rfl rfl ?_
  refine ac_getO 108 115 dX6_copyFrom_105 rfl fl6_24 ob110 rfl ?_
  refine ac_iconst 109 0 dX6_copyFrom_108 rfl (by decide) ?_
  refine ac_aload_n 110 dX6_copyFrom_109 rfl rfl ?_
  refine ac_getO 113 12 dX6_copyFrom_110 rfl fl6_24 ob7 rfl ?_
  refine ac_iconst 114 0 dX6_copyFrom_113 rfl (by decide) ?_
  refine ac_iconst 115 5 dX6_copyFrom_114 rfl (by decide) ?_
  refine ac_copy 118 dX6_copyFrom_115 rfl lkj6_61 ar115 ar12 (by decide) (by decide) (by decide) (by decide) (by decide) (by decide) (Nat.le_of_ble_eq_true rfl) ?_
  refine ac_aload_n 119 dX6_copyFrom_118 rfl rfl ?_
  refine ac_getO 122 116 dX6_copyFrom_119 rfl fl6_27 ob110 rfl ?_
  refine ac_iconst 123 0 dX6_copyFrom_122 rfl (by decide) ?_
  refine ac_aload_n 124 dX6_copyFrom_123 rfl rfl ?_
  refine ac_getO 127 13 dX6_copyFrom_124 rfl fl6_27 ob7 rfl ?_
  refine ac_iconst 128 0 dX6_copyFrom_127 rfl (by decide) ?_
  refine ac_iconst 129 3 dX6_copyFrom_128 rfl (by decide) ?_
  refine ac_copy 132 dX6_copyFrom_129 rfl lkj6_61 ar116 ar13 (by decide) (by decide) (by decide) (by decide) (by decide) (by decide) (Nat.le_of_ble_eq_true rfl) ?_
  refine ac_aload_n 133 dX6_copyFrom_132 rfl rfl ?_
  refine ac_getO 136 117 dX6_copyFrom_133 rfl fl6_30 ob110 rfl ?_
  refine ac_iconst 137 0 dX6_copyFrom_136 rfl (by decide) ?_
  refine ac_aload_n 138 dX6_copyFrom_137 rfl rfl ?_
  refine ac_getO 141 14 dX6_copyFrom_138 rfl fl6_30 ob7 rfl ?_
  refine ac_iconst 142 0 dX6_copyFrom_141 rfl (by decide) ?_
  refine ac_iconst 143 3 dX6_copyFrom_142 rfl (by decide) ?_
  refine ac_copy 146 dX6_copyFrom_143 rfl lkj6_61 ar117 ar14 (by decide) (by decide) (by decide) (by decide) (by decide) (by decide) (Nat.le_of_ble_eq_true rfl) ?_
  refine ac_aload_n 147 dX6_copyFrom_146 rfl rfl ?_
  refine ac_getO 150 118 dX6_copyFrom_147 rfl fl6_33 ob110 rfl ?_
  refine ac_iconst 151 0 dX6_copyFrom_150 rfl (by decide) ?_
  refine ac_aload_n 152 dX6_copyFrom_151 rfl rfl ?_
  refine ac_getO 155 15 dX6_copyFrom_152 rfl fl6_33 ob7 rfl ?_
  refine ac_iconst 156 0 dX6_copyFrom_155 rfl (by decide) ?_
  refine ac_bipush 158 16 dX6_copyFrom_156 rfl (by decide) ?_
  refine ac_copy 161 dX6_copyFrom_158 rfl lkj6_61 ar118 ar15 (by decide) (by decide) (by decide) (by decide) (by decide) (by decide) (Nat.le_of_ble_eq_true rfl) ?_
  refine ac_aload_n 162 dX6_copyFrom_161 rfl rfl ?_
  refine ac_getO 165 119 dX6_copyFrom_162 rfl fl6_36 ob110 rfl ?_
  refine ac_iconst 166 0 dX6_copyFrom_165 rfl (by decide) ?_
  refine ac_aload_n 167 dX6_copyFrom_166 rfl rfl ?_
  refine ac_getO 170 16 dX6_copyFrom_167 rfl fl6_36 ob7 rfl ?_
  refine ac_iconst 171 0 dX6_copyFrom_170 rfl (by decide) ?_
  refine ac_bipush 173 16 dX6_copyFrom_171 rfl (by decide) ?_
  refine ac_copy 176 dX6_copyFrom_173 rfl lkj6_61 ar119 ar16 (by decide) (by decide) (by decide) (by decide) (by decide) (by decide) (Nat.le_of_ble_eq_true rfl) ?_
  refine ac_vret dX6_copyFrom_176 rfl ?_
  exact rm_mk rfl
def PB (b : Nat) : Prop := b ∈ ([29, 39, 49, 59, 69, 79] : List Nat)
def IB (b : Nat) : Prop := b ∈ ([100, 110] : List Nat)
theorem PB.wb {b : Nat} (h : PB b) : WB b := (by unfold PB WB at *; simp at *; omega)
theorem PB.ob {b : Nat} (h : PB b) : am_ob G0 b 6 := h.wb.ob
theorem IB.wb {b : Nat} (h : IB b) : WB b := (by unfold IB WB at *; simp at *; omega)
theorem IB.ob {b : Nat} (h : IB b) : am_ob G0 b 6 := h.wb.ob
theorem PB.cases {P : Nat → Prop} (h0 : P 29) (h1 : P 39) (h2 : P 49) (h3 : P 59) (h4 : P 69) (h5 : P 79) : ∀ b, PB b → P b := by
  intro b h
  unfold PB at h
  simp only [List.mem_cons, List.not_mem_nil, or_false] at h
  rcases h with rfl | rfl | rfl | rfl | rfl | rfl
  · exact h0
  · exact h1
  · exact h2
  · exact h3
  · exact h4
  · exact h5
theorem c6_cpP {M : am_I} {V : am_J} {f : Nat → Option Nat} : ∀ b, PB b → CT m6_copyFrom 2 [.ref b, .ref 7] M V f (RM none (cpW M b 7) V f) := PB.cases (P := fun b => CT m6_copyFrom 2 [.ref b, .ref 7] M V f (RM none (cpW M b 7) V f)) c6_cp_29_7 c6_cp_39_7 c6_cp_49_7 c6_cp_59_7 c6_cp_69_7 c6_cp_79_7
theorem c6_cpQ {M : am_I} {V : am_J} {f : Nat → Option Nat} : ∀ b, PB b → CT m6_copyFrom 2 [.ref 7, .ref b] M V f (RM none (cpW M 7 b) V f) := PB.cases (P := fun b => CT m6_copyFrom 2 [.ref 7, .ref b] M V f (RM none (cpW M 7 b) V f)) c6_cp_7_29 c6_cp_7_39 c6_cp_7_49 c6_cp_7_59 c6_cp_7_69 c6_cp_7_79
theorem cpW_o {M : am_I} {b c i : Nat} (h : i < b ∨ b + 9 < i) : cpW M b c i = M i := by
  unfold cpW
  simp only [am_row]
  repeat rw [if_neg (by omega)]
  funext k
  simp only [am_up, if_neg (show ¬ i = b by omega)]
theorem cpW_0 {M : am_I} {b c k : Nat} (hk : k < 6) : cpW M b c b k = M c k := by
  unfold cpW
  simp only [am_row]
  repeat rw [if_neg (by omega)]
  simp only [am_up, if_true]
  rcases (show k = 0 ∨ k = 1 ∨ k = 2 ∨ k = 3 ∨ k = 4 ∨ k = 5 by omega) with rfl | rfl | rfl | rfl | rfl | rfl <;> rfl
theorem cpW_1 {M : am_I} {b c i : Nat} (hi : 1 ≤ i ∧ i ≤ 9) : cpW M b c (b + i) = va_cpy (M (c + i)) (M (b + i)) 0 0 (if i ≤ 5 then 5 else if i ≤ 7 then 3 else 16) := by
  unfold cpW
  rcases (show i = 1 ∨ i = 2 ∨ i = 3 ∨ i = 4 ∨ i = 5 ∨ i = 6 ∨ i = 7 ∨ i = 8 ∨ i = 9 by omega) with rfl | rfl | rfl | rfl | rfl | rfl | rfl | rfl | rfl <;> simp [am_row]
theorem cp_00 {α : Type} {f g : Nat → α} {n i : Nat} (h : i < n) : va_cpy f g 0 0 n i = f i := by
  have := cp_in (f := f) (g := g) (sp := 0) (dp := 0) h
  rwa [Nat.zero_add] at this
/-- a copy tells what the copied wall told -/
theorem CW.copy {M : am_I} {b c : Nat} {w : rN} {np nd nh : Nat} (h : CW M c w np nd nh) : CW (cpW M b c) b w np nd nh := by
  have h5 := h.n5
  have h3 := h.n3
  have h16 := h.n16
  refine ⟨h.1, ⟨?_, ?_, ?_, ?_, ?_, ?_⟩, fun j hj => ⟨?_, ?_, ?_, ?_, ?_⟩, fun k hk => ⟨?_, ?_⟩, fun k hk => ⟨?_, ?_⟩⟩
  · rw [cpW_0 (by decide)]; exact h.2.1.1
  · rw [cpW_0 (by decide)]; exact h.2.1.2.1
  · rw [cpW_0 (by decide)]; exact h.2.1.2.2.1
  · rw [cpW_0 (by decide)]; exact h.2.1.2.2.2.1
  · rw [cpW_0 (by decide)]; exact h.2.1.2.2.2.2.1
  · rw [cpW_0 (by decide)]; exact h.2.1.2.2.2.2.2
  · rw [cpW_1 (by decide), cp_00 (by show j < 5; omega)]; exact h.p0 hj
  · rw [cpW_1 (by decide), cp_00 (by show j < 5; omega)]; exact h.p1 hj
  · rw [cpW_1 (by decide), cp_00 (by show j < 5; omega)]; exact h.p2 hj
  · rw [cpW_1 (by decide), cp_00 (by show j < 5; omega)]; exact h.p3 hj
  · rw [cpW_1 (by decide), cp_00 (by show j < 5; omega)]; exact h.p4 hj
  · rw [cpW_1 (by decide), cp_00 (by show k < 3; omega)]; exact h.d0 hk
  · rw [cpW_1 (by decide), cp_00 (by show k < 3; omega)]; exact h.d1 hk
  · rw [cpW_1 (by decide), cp_00 (by show k < 16; omega)]; exact h.h0 hk
  · rw [cpW_1 (by decide), cp_00 (by show k < 16; omega)]; exact h.h1 hk
/-- what a wall tells depends on its ten cells alone -/
theorem CW.same {M M' : am_I} {b : Nat} {w : rN} {np nd nh : Nat} (h : CW M b w np nd nh) (e : ∀ i, i ≤ 9 → M' (b + i) = M (b + i)) : CW M' b w np nd nh := by
  have e0 : M' b = M b := e 0 (by omega)
  refine ⟨h.1, ?_, fun j hj => ?_, fun k hk => ?_, fun k hk => ?_⟩
  · rw [e0]; exact h.2.1
  · rw [e 1 (by omega), e 2 (by omega), e 3 (by omega), e 4 (by omega), e 5 (by omega)]; exact h.2.2.1 j hj
  · rw [e 6 (by omega), e 7 (by omega)]; exact h.2.2.2.1 k hk
  · rw [e 8 (by omega), e 9 (by omega)]; exact h.2.2.2.2 k hk
set_option maxRecDepth 20000 in
theorem c1_add {M : am_I} {V : am_J} {f : Nat → Option Nat} {u b : Nat} (hu : M 27 1 = nI u) (hu6 : u < 6) (hb : f u = some b) (hp : PB b) : CT m1_add 3 [Value.ref 27, Value.ref 7] M V f (RM none (am_up (cpW M b 7) 27 1 (nI (u + 1))) V f) := by
  refine CT.of m1_add_V.1 _ (en_aa_2 27 7) ?_
  refine ac_aload_n 1 dX1_add_0 rfl rfl ?_
  refine ac_getI 4 dX1_add_1 rfl fl1_18 ob27 ?_
  rw [show (M 27 1) = (nI u) from hu]
  refine ac_bipush 6 6 dX1_add_4 rfl (by decide) ?_
  refine ac_icmp_lt 13 9 dX1_add_6 (by decide) rfl (fun _ => ?_) (fun c_6 => absurd (nI_lt (b := 6) hu6 (by decide)) c_6)
  refine ac_aload_n 14 dX1_add_13 rfl rfl ?_
  refine ac_getO 17 28 dX1_add_14 rfl fl1_11 ob27 rfl ?_
  refine ac_aload_n 18 dX1_add_17 rfl rfl ?_
  refine ac_getI 21 dX1_add_18 rfl fl1_18 ob27 ?_
  rw [show (M 27 1) = (nI u) from hu]
  refine ac_aald 22 b dX1_add_21 rfl ar28 (ix_nI (by omega) (by decide)) hb ?_
  refine ac_aload_n 23 dX1_add_22 rfl rfl ?_
  refine ac_callVm (μ' := m6_copyFrom) 26 dX1_add_23 rfl lk1_25 m6_copyFrom_V hp.ob (c6_cpP b hp) rfl rfl (by decide) (Nat.le_of_ble_eq_true rfl) ?_
  refine ac_aload_n 27 dX1_add_26 rfl rfl ?_
  refine ac_dup 28 dX1_add_27 rfl rfl ?_
  refine ac_getI 31 dX1_add_28 rfl fl1_18 ob27 ?_
  rw [show ((cpW M b 7) 27 1) = (nI u) from ((congrFun (cpW_o (by unfold PB at hp; simp at hp; omega)) 1).trans hu)]
  refine ac_iconst 32 1 dX1_add_31 rfl (by decide) ?_
  refine ac_iadd 33 dX1_add_32 rfl ?_
  refine ac_putI 36 dX1_add_33 rfl fl1_18 rfl rfl ob27 ?_
  refine ac_vret dX1_add_36 rfl ?_
  exact rm_mk (by rw [nI_1])
set_option maxRecDepth 20000 in
theorem c1_lose {M : am_I} {V : am_J} {f : Nat → Option Nat} {b0 : Nat} (h0 : f 0 = some b0) (p0 : PB b0) {b1 : Nat} (h1 : f 1 = some b1) (p1 : PB b1) {b2 : Nat} (h2 : f 2 = some b2) (p2 : PB b2) {b3 : Nat} (h3 : f 3 = some b3) (p3 : PB b3) {b4 : Nat} (h4 : f 4 = some b4) (p4 : PB b4) {b5 : Nat} (h5 : f 5 = some b5) (p5 : PB b5) : CT m1_loseOldest 1 [Value.ref 27] M V f (fun v M' V' f' => v = none ∧ M' = am_up M 27 1 5 ∧ V' = V ∧ f' = (va_up (va_up (va_up (va_up (va_up (va_up f 0 (some b1)) 1 (some b2)) 2 (some b3)) 3 (some b4)) 4 (some b5)) 5 (some b0))) := by
  refine CT.of m1_loseOldest_V.1 _ (en_a_3 27) ?_
  refine ac_aload_n 1 dX1_loseOldest_0 rfl rfl ?_
  refine ac_getO 4 28 dX1_loseOldest_1 rfl fl1_11 ob27 rfl ?_
  refine ac_iconst 5 0 dX1_loseOldest_4 rfl (by decide) ?_
  refine ac_aald 6 b0 dX1_loseOldest_5 rfl ar28 (ix_nI (k := 0) (by decide) (by decide)) h0 ?_
  refine ac_astore_n 7 [some (Value.ref 27), some (Value.ref b0), none] dX1_loseOldest_6 rfl rfl (Nat.le_of_ble_eq_true rfl) (by decide) rfl ?_
  refine ac_iconst 8 1 dX1_loseOldest_7 rfl (by decide) ?_
  refine ac_istore_n 9 [some (Value.ref 27), some (Value.ref b0), some (Value.int 1)] dX1_loseOldest_8 rfl rfl (Nat.le_of_ble_eq_true rfl) (by decide) rfl ?_
  refine ac_iload_n 10 dX1_loseOldest_9 rfl rfl ?_
  refine ac_bipush 12 6 dX1_loseOldest_10 rfl (by decide) ?_
  refine ac_icmp_ge 35 15 dX1_loseOldest_12 (by decide) rfl (fun c_12 => absurd c_12 (by decide)) (fun _ => ?_)
  refine ac_aload_n 16 dX1_loseOldest_15 rfl rfl ?_
  refine ac_getO 19 28 dX1_loseOldest_16 rfl fl1_11 ob27 rfl ?_
  refine ac_iload_n 20 dX1_loseOldest_19 rfl rfl ?_
  refine ac_iconst 21 1 dX1_loseOldest_20 rfl (by decide) ?_
  refine ac_isub 22 dX1_loseOldest_21 rfl ?_
  rw [show ((1 : Int32) - 1) = 0 from (by decide)]
  refine ac_aload_n 23 dX1_loseOldest_22 rfl rfl ?_
  refine ac_getO 26 28 dX1_loseOldest_23 rfl fl1_11 ob27 rfl ?_
  refine ac_iload_n 27 dX1_loseOldest_26 rfl rfl ?_
  refine ac_aald 28 b1 dX1_loseOldest_27 rfl ar28 (ix_nI (k := 1) (by decide) (by decide)) h1 ?_
  refine ac_aast 29 dX1_loseOldest_28 rfl ar28 (ix_nI (k := 0) (by decide) (by decide)) p1.ob ?_
  refine ac_iinc 32 2 [some (Value.ref 27), some (Value.ref b0), some (Value.int 2)] dX1_loseOldest_29 rfl rfl (by decide) rfl (by decide) rfl ?_
  refine ac_goto 9 dX1_loseOldest_32 (by decide) ?_
  refine ac_iload_n 10 dX1_loseOldest_9 rfl rfl ?_
  refine ac_bipush 12 6 dX1_loseOldest_10 rfl (by decide) ?_
  refine ac_icmp_ge 35 15 dX1_loseOldest_12 (by decide) rfl (fun c_12 => absurd c_12 (by decide)) (fun _ => ?_)
  refine ac_aload_n 16 dX1_loseOldest_15 rfl rfl ?_
  refine ac_getO 19 28 dX1_loseOldest_16 rfl fl1_11 ob27 rfl ?_
  refine ac_iload_n 20 dX1_loseOldest_19 rfl rfl ?_
  refine ac_iconst 21 1 dX1_loseOldest_20 rfl (by decide) ?_
  refine ac_isub 22 dX1_loseOldest_21 rfl ?_
  rw [show ((2 : Int32) - 1) = 1 from (by decide)]
  refine ac_aload_n 23 dX1_loseOldest_22 rfl rfl ?_
  refine ac_getO 26 28 dX1_loseOldest_23 rfl fl1_11 ob27 rfl ?_
  refine ac_iload_n 27 dX1_loseOldest_26 rfl rfl ?_
  refine ac_aald 28 b2 dX1_loseOldest_27 rfl ar28 (ix_nI (k := 2) (by decide) (by decide)) h2 ?_
  refine ac_aast 29 dX1_loseOldest_28 rfl ar28 (ix_nI (k := 1) (by decide) (by decide)) p2.ob ?_
  refine ac_iinc 32 3 [some (Value.ref 27), some (Value.ref b0), some (Value.int 3)] dX1_loseOldest_29 rfl rfl (by decide) rfl (by decide) rfl ?_
  refine ac_goto 9 dX1_loseOldest_32 (by decide) ?_
  refine ac_iload_n 10 dX1_loseOldest_9 rfl rfl ?_
  refine ac_bipush 12 6 dX1_loseOldest_10 rfl (by decide) ?_
  refine ac_icmp_ge 35 15 dX1_loseOldest_12 (by decide) rfl (fun c_12 => absurd c_12 (by decide)) (fun _ => ?_)
  refine ac_aload_n 16 dX1_loseOldest_15 rfl rfl ?_
  refine ac_getO 19 28 dX1_loseOldest_16 rfl fl1_11 ob27 rfl ?_
  refine ac_iload_n 20 dX1_loseOldest_19 rfl rfl ?_
  refine ac_iconst 21 1 dX1_loseOldest_20 rfl (by decide) ?_
  refine ac_isub 22 dX1_loseOldest_21 rfl ?_
  rw [show ((3 : Int32) - 1) = 2 from (by decide)]
  refine ac_aload_n 23 dX1_loseOldest_22 rfl rfl ?_
  refine ac_getO 26 28 dX1_loseOldest_23 rfl fl1_11 ob27 rfl ?_
  refine ac_iload_n 27 dX1_loseOldest_26 rfl rfl ?_
  refine ac_aald 28 b3 dX1_loseOldest_27 rfl ar28 (ix_nI (k := 3) (by decide) (by decide)) h3 ?_
  refine ac_aast 29 dX1_loseOldest_28 rfl ar28 (ix_nI (k := 2) (by decide) (by decide)) p3.ob ?_
  refine ac_iinc 32 4 [some (Value.ref 27), some (Value.ref b0), some (Value.int 4)] dX1_loseOldest_29 rfl rfl (by decide) rfl (by decide) rfl ?_
  refine ac_goto 9 dX1_loseOldest_32 (by decide) ?_
  refine ac_iload_n 10 dX1_loseOldest_9 rfl rfl ?_
  refine ac_bipush 12 6 dX1_loseOldest_10 rfl (by decide) ?_
  refine ac_icmp_ge 35 15 dX1_loseOldest_12 (by decide) rfl (fun c_12 => absurd c_12 (by decide)) (fun _ => ?_)
  refine ac_aload_n 16 dX1_loseOldest_15 rfl rfl ?_
  refine ac_getO 19 28 dX1_loseOldest_16 rfl fl1_11 ob27 rfl ?_
  refine ac_iload_n 20 dX1_loseOldest_19 rfl rfl ?_
  refine ac_iconst 21 1 dX1_loseOldest_20 rfl (by decide) ?_
  refine ac_isub 22 dX1_loseOldest_21 rfl ?_
  rw [show ((4 : Int32) - 1) = 3 from (by decide)]
  refine ac_aload_n 23 dX1_loseOldest_22 rfl rfl ?_
  refine ac_getO 26 28 dX1_loseOldest_23 rfl fl1_11 ob27 rfl ?_
  refine ac_iload_n 27 dX1_loseOldest_26 rfl rfl ?_
  refine ac_aald 28 b4 dX1_loseOldest_27 rfl ar28 (ix_nI (k := 4) (by decide) (by decide)) h4 ?_
  refine ac_aast 29 dX1_loseOldest_28 rfl ar28 (ix_nI (k := 3) (by decide) (by decide)) p4.ob ?_
  refine ac_iinc 32 5 [some (Value.ref 27), some (Value.ref b0), some (Value.int 5)] dX1_loseOldest_29 rfl rfl (by decide) rfl (by decide) rfl ?_
  refine ac_goto 9 dX1_loseOldest_32 (by decide) ?_
  refine ac_iload_n 10 dX1_loseOldest_9 rfl rfl ?_
  refine ac_bipush 12 6 dX1_loseOldest_10 rfl (by decide) ?_
  refine ac_icmp_ge 35 15 dX1_loseOldest_12 (by decide) rfl (fun c_12 => absurd c_12 (by decide)) (fun _ => ?_)
  refine ac_aload_n 16 dX1_loseOldest_15 rfl rfl ?_
  refine ac_getO 19 28 dX1_loseOldest_16 rfl fl1_11 ob27 rfl ?_
  refine ac_iload_n 20 dX1_loseOldest_19 rfl rfl ?_
  refine ac_iconst 21 1 dX1_loseOldest_20 rfl (by decide) ?_
  refine ac_isub 22 dX1_loseOldest_21 rfl ?_
  rw [show ((5 : Int32) - 1) = 4 from (by decide)]
  refine ac_aload_n 23 dX1_loseOldest_22 rfl rfl ?_
  refine ac_getO 26 28 dX1_loseOldest_23 rfl fl1_11 ob27 rfl ?_
  refine ac_iload_n 27 dX1_loseOldest_26 rfl rfl ?_
  refine ac_aald 28 b5 dX1_loseOldest_27 rfl ar28 (ix_nI (k := 5) (by decide) (by decide)) h5 ?_
  refine ac_aast 29 dX1_loseOldest_28 rfl ar28 (ix_nI (k := 4) (by decide) (by decide)) p5.ob ?_
  refine ac_iinc 32 6 [some (Value.ref 27), some (Value.ref b0), some (Value.int 6)] dX1_loseOldest_29 rfl rfl (by decide) rfl (by decide) rfl ?_
  refine ac_goto 9 dX1_loseOldest_32 (by decide) ?_
  refine ac_iload_n 10 dX1_loseOldest_9 rfl rfl ?_
  refine ac_bipush 12 6 dX1_loseOldest_10 rfl (by decide) ?_
  refine ac_icmp_ge 35 15 dX1_loseOldest_12 (by decide) rfl (fun _ => ?_) (fun c_12 => absurd (by decide) c_12)
  refine ac_aload_n 36 dX1_loseOldest_35 rfl rfl ?_
  refine ac_getO 39 28 dX1_loseOldest_36 rfl fl1_11 ob27 rfl ?_
  refine ac_iconst 40 5 dX1_loseOldest_39 rfl (by decide) ?_
  refine ac_aload_n 41 dX1_loseOldest_40 rfl rfl ?_
  refine ac_aast 42 dX1_loseOldest_41 rfl ar28 (ix_nI (k := 5) (by decide) (by decide)) p0.ob ?_
  refine ac_aload_n 43 dX1_loseOldest_42 rfl rfl ?_
  refine ac_iconst 44 5 dX1_loseOldest_43 rfl (by decide) ?_
  refine ac_putI 47 dX1_loseOldest_44 rfl fl1_18 rfl rfl ob27 ?_
  refine ac_vret dX1_loseOldest_47 rfl ?_
  exact ⟨rfl, rfl, rfl, rfl⟩
set_option maxRecDepth 20000 in
theorem c1_add6 {M : am_I} {V : am_J} {f : Nat → Option Nat} (hu : M 27 1 = 6) {b0 : Nat} (h0 : f 0 = some b0) (p0 : PB b0) {b1 : Nat} (h1 : f 1 = some b1) (p1 : PB b1) {b2 : Nat} (h2 : f 2 = some b2) (p2 : PB b2) {b3 : Nat} (h3 : f 3 = some b3) (p3 : PB b3) {b4 : Nat} (h4 : f 4 = some b4) (p4 : PB b4) {b5 : Nat} (h5 : f 5 = some b5) (p5 : PB b5) : CT m1_add 3 [Value.ref 27, Value.ref 7] M V f (fun v M' V' f' => v = none ∧ M' = am_up (cpW (am_up M 27 1 5) b0 7) 27 1 6 ∧ V' = V ∧ f' = (va_up (va_up (va_up (va_up (va_up (va_up f 0 (some b1)) 1 (some b2)) 2 (some b3)) 3 (some b4)) 4 (some b5)) 5 (some b0))) := by
  refine CT.of m1_add_V.1 _ (en_aa_2 27 7) ?_
  refine ac_aload_n 1 dX1_add_0 rfl rfl ?_
  refine ac_getI 4 dX1_add_1 rfl fl1_18 ob27 ?_
  rw [show (M 27 1) = 6 from hu]
  refine ac_bipush 6 6 dX1_add_4 rfl (by decide) ?_
  refine ac_icmp_lt 13 9 dX1_add_6 (by decide) rfl (fun c_6 => absurd c_6 (by decide)) (fun _ => ?_)
  refine ac_aload_n 10 dX1_add_9 rfl rfl ?_
  refine ac_callVg (μ' := m1_loseOldest) 13 dX1_add_10 rfl lk1_22 m1_loseOldest_V ob27 (c1_lose h0 p0 h1 p1 h2 p2 h3 p3 h4 p4 h5 p5) rfl rfl (by decide) (Nat.le_of_ble_eq_true rfl) (fun v M' V' f' hq => ?_)
  obtain ⟨rfl, rfl, rfl, rfl⟩ := hq
  refine ac_aload_n 14 dX1_add_13 rfl rfl ?_
  refine ac_getO 17 28 dX1_add_14 rfl fl1_11 ob27 rfl ?_
  refine ac_aload_n 18 dX1_add_17 rfl rfl ?_
  refine ac_getI 21 dX1_add_18 rfl fl1_18 ob27 ?_
  rw [show ((am_up M 27 1 5) 27 1) = 5 from rfl]
  refine ac_aald 22 b0 dX1_add_21 rfl ar28 (ix_nI (k := 5) (by decide) (by decide)) rfl ?_
  refine ac_aload_n 23 dX1_add_22 rfl rfl ?_
  refine ac_callVm (μ' := m6_copyFrom) 26 dX1_add_23 rfl lk1_25 m6_copyFrom_V p0.ob (c6_cpP b0 p0) rfl rfl (by decide) (Nat.le_of_ble_eq_true rfl) ?_
  refine ac_aload_n 27 dX1_add_26 rfl rfl ?_
  refine ac_dup 28 dX1_add_27 rfl rfl ?_
  refine ac_getI 31 dX1_add_28 rfl fl1_18 ob27 ?_
  rw [show ((cpW (am_up M 27 1 5) b0 7) 27 1) = 5 from (congrFun (cpW_o (by unfold PB at p0; simp at p0; omega)) 1)]
  refine ac_iconst 32 1 dX1_add_31 rfl (by decide) ?_
  refine ac_iadd 33 dX1_add_32 rfl ?_
  rw [show ((5 : Int32) + 1) = 6 from (by decide)]
  refine ac_putI 36 dX1_add_33 rfl fl1_18 rfl rfl ob27 ?_
  refine ac_vret dX1_add_36 rfl ?_
  exact ⟨rfl, rfl, rfl, rfl⟩
set_option maxRecDepth 20000 in
theorem c1_give0 {M : am_I} {V : am_J} {f : Nat → Option Nat} (hu : M 27 1 = 0) : CT m1_giveLatestTo 3 [Value.ref 27, Value.ref 7] M V f (RV 0 M V f) := by
  refine CT.of m1_giveLatestTo_V.1 _ (en_aa_2 27 7) ?_
  refine ac_aload_n 1 dX1_giveLatestTo_0 rfl rfl ?_
  refine ac_getI 4 dX1_giveLatestTo_1 rfl fl1_18 ob27 ?_
  rw [show (M 27 1) = 0 from hu]
  refine ac_if_gt 9 7 dX1_giveLatestTo_4 (by decide) rfl (fun c_4 => absurd c_4 (by decide)) (fun _ => ?_)
  refine ac_iconst 8 0 dX1_giveLatestTo_7 rfl (by decide) ?_
  refine ac_iret dX1_giveLatestTo_8 ⟨_, rfl, rfl⟩ ?_
  exact rv_mk rfl
set_option maxRecDepth 20000 in
theorem c1_give {M : am_I} {V : am_J} {f : Nat → Option Nat} {u b : Nat} (hu : M 27 1 = nI (u + 1)) (hu6 : u < 6) (hb : f u = some b) (hp : PB b) : CT m1_giveLatestTo 3 [Value.ref 27, Value.ref 7] M V f (RM (some (.int 1)) (cpW (am_up M 27 1 (nI u)) 7 b) V f) := by
  refine CT.of m1_giveLatestTo_V.1 _ (en_aa_2 27 7) ?_
  refine ac_aload_n 1 dX1_giveLatestTo_0 rfl rfl ?_
  refine ac_getI 4 dX1_giveLatestTo_1 rfl fl1_18 ob27 ?_
  rw [show (M 27 1) = (nI (u + 1)) from hu]
  refine ac_if_gt 9 7 dX1_giveLatestTo_4 (by decide) rfl (fun _ => ?_) (fun c_4 => absurd (Int32.not_le.mp (nI_nle (by omega) (by omega))) c_4)
  refine ac_aload_n 10 dX1_giveLatestTo_9 rfl rfl ?_
  refine ac_dup 11 dX1_giveLatestTo_10 rfl rfl ?_
  refine ac_getI 14 dX1_giveLatestTo_11 rfl fl1_18 ob27 ?_
  rw [show (M 27 1) = (nI (u + 1)) from hu]
  refine ac_iconst 15 1 dX1_giveLatestTo_14 rfl (by decide) ?_
  refine ac_isub 16 dX1_giveLatestTo_15 rfl ?_
  rw [show ((nI (u + 1)) - 1) = (nI u) from (nI_pred u)]
  refine ac_putI 19 dX1_giveLatestTo_16 rfl fl1_18 rfl rfl ob27 ?_
  refine ac_aload_n 20 dX1_giveLatestTo_19 rfl rfl ?_
  refine ac_aload_n 21 dX1_giveLatestTo_20 rfl rfl ?_
  refine ac_getO 24 28 dX1_giveLatestTo_21 rfl fl1_11 ob27 rfl ?_
  refine ac_aload_n 25 dX1_giveLatestTo_24 rfl rfl ?_
  refine ac_getI 28 dX1_giveLatestTo_25 rfl fl1_18 ob27 ?_
  rw [show ((am_up M 27 1 (nI u)) 27 1) = (nI u) from rfl]
  refine ac_aald 29 b dX1_giveLatestTo_28 rfl ar28 (ix_nI (by omega) (by decide)) hb ?_
  refine ac_callVm (μ' := m6_copyFrom) 32 dX1_giveLatestTo_29 rfl lk1_25 m6_copyFrom_V ob7 (c6_cpQ b hp) rfl rfl (by decide) (Nat.le_of_ble_eq_true rfl) ?_
  refine ac_iconst 33 1 dX1_giveLatestTo_32 rfl (by decide) ?_
  refine ac_iret dX1_giveLatestTo_33 ⟨_, rfl, rfl⟩ ?_
  exact rm_mk rfl
set_option maxRecDepth 20000 in
theorem c7_remember {M : am_I} {V : am_J} {f : Nat → Option Nat} {u b : Nat} (hu : M 27 1 = nI u) (hu6 : u < 6) (hb : f u = some b) (hp : PB b) : CT m7_remember 4 [Value.ref 0] M V f (RM none (am_up (am_up (cpW M b 7) 27 1 (nI (u + 1))) 0 7 0) V f) := by
  refine CT.of m7_remember_V.1 _ (en_a_1 0) ?_
  refine ac_aload_n 1 dX7_remember_0 rfl rfl ?_
  refine ac_getO 4 27 dX7_remember_1 rfl fl7_37 ob0 rfl ?_
  refine ac_aload_n 5 dX7_remember_4 rfl rfl ?_
  refine ac_getO 8 7 dX7_remember_5 rfl fl7_27 ob0 rfl ?_
  refine ac_callVm (μ' := m1_add) 11 dX7_remember_8 rfl lk7_220 m1_add_V ob27 (c1_add hu hu6 hb hp) rfl rfl (by decide) (Nat.le_of_ble_eq_true rfl) ?_
  refine ac_aload_n 12 dX7_remember_11 rfl rfl ?_
  refine ac_iconst 13 0 dX7_remember_12 rfl (by decide) ?_
  refine ac_putI 16 dX7_remember_13 rfl fl7_48 rfl rfl ob0 ?_
  refine ac_vret dX7_remember_16 rfl ?_
  exact rm_mk rfl
set_option maxRecDepth 20000 in
theorem c7_remember6 {M : am_I} {V : am_J} {f : Nat → Option Nat} (hu : M 27 1 = 6) {b0 : Nat} (h0 : f 0 = some b0) (p0 : PB b0) {b1 : Nat} (h1 : f 1 = some b1) (p1 : PB b1) {b2 : Nat} (h2 : f 2 = some b2) (p2 : PB b2) {b3 : Nat} (h3 : f 3 = some b3) (p3 : PB b3) {b4 : Nat} (h4 : f 4 = some b4) (p4 : PB b4) {b5 : Nat} (h5 : f 5 = some b5) (p5 : PB b5) : CT m7_remember 4 [Value.ref 0] M V f (fun v M' V' f' => v = none ∧ M' = am_up (am_up (cpW (am_up M 27 1 5) b0 7) 27 1 6) 0 7 0 ∧ V' = V ∧ f' = (va_up (va_up (va_up (va_up (va_up (va_up f 0 (some b1)) 1 (some b2)) 2 (some b3)) 3 (some b4)) 4 (some b5)) 5 (some b0))) := by
  refine CT.of m7_remember_V.1 _ (en_a_1 0) ?_
  refine ac_aload_n 1 dX7_remember_0 rfl rfl ?_
  refine ac_getO 4 27 dX7_remember_1 rfl fl7_37 ob0 rfl ?_
  refine ac_aload_n 5 dX7_remember_4 rfl rfl ?_
  refine ac_getO 8 7 dX7_remember_5 rfl fl7_27 ob0 rfl ?_
  refine ac_callVg (μ' := m1_add) 11 dX7_remember_8 rfl lk7_220 m1_add_V ob27 (c1_add6 hu h0 p0 h1 p1 h2 p2 h3 p3 h4 p4 h5 p5) rfl rfl (by decide) (Nat.le_of_ble_eq_true rfl) (fun v M' V' f' hq => ?_)
  obtain ⟨rfl, rfl, rfl, rfl⟩ := hq
  refine ac_aload_n 12 dX7_remember_11 rfl rfl ?_
  refine ac_iconst 13 0 dX7_remember_12 rfl (by decide) ?_
  refine ac_putI 16 dX7_remember_13 rfl fl7_48 rfl rfl ob0 ?_
  refine ac_vret dX7_remember_16 rfl ?_
  exact ⟨rfl, rfl, rfl, rfl⟩
