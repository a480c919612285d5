/-! The reference: its small methods. -/
set_option maxRecDepth 20000 in
theorem c8_within {M : am_I} {V : am_J} {f : Nat → Option Nat} (v lo hi : Int32) : CT m8_within 1 [Value.int v, Value.int lo, Value.int hi] M V f (RV (bi (lo ≤ v ∧ v ≤ hi)) M V f) := by
  refine CT.of m8_within_S.1 _ (en_iii_3 v lo hi) ?_
  refine ac_iload_n 1 dX8_within_0 rfl rfl ?_
  refine ac_iload_n 2 dX8_within_1 rfl rfl ?_
  refine ac_icmp_lt 14 5 dX8_within_2 (by decide) rfl (fun c_2 => ?_) (fun c_2 => ?_)
  · refine ac_iconst 15 0 dX8_within_14 rfl (by decide) ?_
    refine ac_iret dX8_within_15 ⟨_, rfl, rfl⟩ ?_
    exact rv_mk (bi_f (by simp only [Int32.le_iff_toInt_le, Int32.lt_iff_toInt_lt] at *; omega)).symm
  · refine ac_iload_n 6 dX8_within_5 rfl rfl ?_
    refine ac_iload_n 7 dX8_within_6 rfl rfl ?_
    refine ac_icmp_gt 14 10 dX8_within_7 (by decide) rfl (fun c_7 => ?_) (fun c_7 => ?_)
    · refine ac_iconst 15 0 dX8_within_14 rfl (by decide) ?_
      refine ac_iret dX8_within_15 ⟨_, rfl, rfl⟩ ?_
      exact rv_mk (bi_f (by simp only [Int32.le_iff_toInt_le, Int32.lt_iff_toInt_lt] at *; omega)).symm
    · refine ac_iconst 11 1 dX8_within_10 rfl (by decide) ?_
      refine ac_goto 15 dX8_within_11 (by decide) ?_
      refine ac_iret dX8_within_15 ⟨_, rfl, rfl⟩ ?_
      exact rv_mk (bi_t (by simp only [Int32.le_iff_toInt_le, Int32.lt_iff_toInt_lt] at *; omega)).symm
set_option maxRecDepth 20000 in
theorem c8_isPicture {M : am_I} {V : am_J} {f : Nat → Option Nat} (p : Int32) : CT m8_isPicture 2 [Value.ref 121, Value.int p] M V f (RV (bi (0 ≤ p ∧ p ≤ M 122 3 - 1)) M V f) := by
  refine CT.of m8_isPicture_V.1 _ (en_ai_2 121 p) ?_
  refine ac_iload_n 1 dX8_isPicture_0 rfl rfl ?_
  refine ac_iconst 2 0 dX8_isPicture_1 rfl (by decide) ?_
  refine ac_aload_n 3 dX8_isPicture_2 rfl rfl ?_
  refine ac_getO 6 122 dX8_isPicture_3 rfl fl8_7 ob121 rfl ?_
  refine ac_iconst 7 3 dX8_isPicture_6 rfl (by decide) ?_
  refine ac_iald 8 dX8_isPicture_7 rfl ar122 (ix_nI (k := 3) (by decide) (by decide)) ?_
  refine ac_iconst 9 1 dX8_isPicture_8 rfl (by decide) ?_
  refine ac_isub 10 dX8_isPicture_9 rfl ?_
  refine ac_callS (μ' := m8_within) 13 dX8_isPicture_10 rfl lk8_67 m8_within_S (c8_within _ _ _) rfl rfl (by decide) (Nat.le_of_ble_eq_true rfl) ?_
  refine ac_iret dX8_isPicture_13 (bi_nr rfl _) ?_
  exact rv_mk rfl
set_option maxRecDepth 20000 in
theorem c8_ofPicture {M : am_I} {V : am_J} {f : Nat → Option Nat} {j w : Nat} (hj : j < 5) (hw : w < 4) : CT m8_ofPicture 1 [Value.ref 121, Value.int (nI j), Value.int (nI w)] M V f (RV (M 122 (4 + 4 * j + w)) M V f) := by
  refine CT.of m8_ofPicture_V.1 _ (en_aii_3 121 (nI j) (nI w)) ?_
  refine ac_aload_n 1 dX8_ofPicture_0 rfl rfl ?_
  refine ac_getO 4 122 dX8_ofPicture_1 rfl fl8_7 ob121 rfl ?_
  refine ac_iconst 5 4 dX8_ofPicture_4 rfl (by decide) ?_
  refine ac_iconst 6 4 dX8_ofPicture_5 rfl (by decide) ?_
  refine ac_iload_n 7 dX8_ofPicture_6 rfl rfl ?_
  refine ac_imul 8 dX8_ofPicture_7 rfl ?_
  refine ac_iadd 9 dX8_ofPicture_8 rfl ?_
  refine ac_iload_n 10 dX8_ofPicture_9 rfl rfl ?_
  refine ac_iadd 11 dX8_ofPicture_10 rfl ?_
  refine ac_iald 12 dX8_ofPicture_11 rfl ar122 (ix_of (k := ((4 + (4 * (j))) + (w))) (by simp only [show (4 : Int32) = nI 4 from rfl, pk_mul, nI_add]) (by omega) (by decide)) ?_
  refine ac_iret dX8_ofPicture_12 ⟨_, rfl, rfl⟩ ?_
  exact rv_mk rfl
set_option maxRecDepth 20000 in
theorem c8_hookX {M : am_I} {V : am_J} {f : Nat → Option Nat} {j : Nat} (hj : j < 5) (x : Int32) : CT m8_hookX 2 [Value.ref 121, Value.int (nI j), Value.int x] M V f (RV (2 * x + M 122 (4 + 4 * j)) M V f) := by
  refine CT.of m8_hookX_V.1 _ (en_aii_3 121 (nI j) x) ?_
  refine ac_iconst 1 2 dX8_hookX_0 rfl (by decide) ?_
  refine ac_iload_n 2 dX8_hookX_1 rfl rfl ?_
  refine ac_imul 3 dX8_hookX_2 rfl ?_
  refine ac_aload_n 4 dX8_hookX_3 rfl rfl ?_
  refine ac_iload_n 5 dX8_hookX_4 rfl rfl ?_
  refine ac_iconst 6 0 dX8_hookX_5 rfl (by decide) ?_
  refine ac_callV (μ' := m8_ofPicture) 9 dX8_hookX_6 rfl lk8_118 m8_ofPicture_V ob121 (c8_ofPicture (w := 0) hj (by decide)) rfl rfl (by decide) (Nat.le_of_ble_eq_true rfl) ?_
  refine ac_iadd 10 dX8_hookX_9 rfl ?_
  refine ac_iret dX8_hookX_10 ⟨_, rfl, rfl⟩ ?_
  exact rv_mk rfl
set_option maxRecDepth 20000 in
theorem c8_hookY {M : am_I} {V : am_J} {f : Nat → Option Nat} {j : Nat} (hj : j < 5) : CT m8_hookY 2 [Value.ref 121, Value.int (nI j)] M V f (RV (2 * M 122 1 + M 122 (4 + 4 * j + 1) - 2 * M 122 (4 + 4 * j + 2)) M V f) := by
  refine CT.of m8_hookY_V.1 _ (en_ai_2 121 (nI j)) ?_
  refine ac_iconst 1 2 dX8_hookY_0 rfl (by decide) ?_
  refine ac_aload_n 2 dX8_hookY_1 rfl rfl ?_
  refine ac_getO 5 122 dX8_hookY_2 rfl fl8_7 ob121 rfl ?_
  refine ac_iconst 6 1 dX8_hookY_5 rfl (by decide) ?_
  refine ac_iald 7 dX8_hookY_6 rfl ar122 (ix_nI (k := 1) (by decide) (by decide)) ?_
  refine ac_imul 8 dX8_hookY_7 rfl ?_
  refine ac_aload_n 9 dX8_hookY_8 rfl rfl ?_
  refine ac_iload_n 10 dX8_hookY_9 rfl rfl ?_
  refine ac_iconst 11 1 dX8_hookY_10 rfl (by decide) ?_
  refine ac_callV (μ' := m8_ofPicture) 14 dX8_hookY_11 rfl lk8_118 m8_ofPicture_V ob121 (c8_ofPicture (w := 1) hj (by decide)) rfl rfl (by decide) (Nat.le_of_ble_eq_true rfl) ?_
  refine ac_iadd 15 dX8_hookY_14 rfl ?_
  refine ac_iconst 16 2 dX8_hookY_15 rfl (by decide) ?_
  refine ac_aload_n 17 dX8_hookY_16 rfl rfl ?_
  refine ac_iload_n 18 dX8_hookY_17 rfl rfl ?_
  refine ac_iconst 19 2 dX8_hookY_18 rfl (by decide) ?_
  refine ac_callV (μ' := m8_ofPicture) 22 dX8_hookY_19 rfl lk8_118 m8_ofPicture_V ob121 (c8_ofPicture (w := 2) hj (by decide)) rfl rfl (by decide) (Nat.le_of_ble_eq_true rfl) ?_
  refine ac_imul 23 dX8_hookY_22 rfl ?_
  refine ac_isub 24 dX8_hookY_23 rfl ?_
  refine ac_iret dX8_hookY_24 ⟨_, rfl, rfl⟩ ?_
  exact rv_mk rfl
set_option maxRecDepth 20000 in
theorem c8_hangsNow {M : am_I} {V : am_J} {f : Nat → Option Nat} {j : Nat} (hj : j < 5) : CT m8_hangsNow 1 [Value.ref 121, Value.int (nI j)] M V f (RV (bi (M 122 (64 + j) ≠ -9)) M V f) := by
  refine CT.of m8_hangsNow_V.1 _ (en_ai_2 121 (nI j)) ?_
  refine ac_aload_n 1 dX8_hangsNow_0 rfl rfl ?_
  refine ac_getO 4 122 dX8_hangsNow_1 rfl fl8_7 ob121 rfl ?_
  refine ac_bipush 6 64 dX8_hangsNow_4 rfl (by decide) ?_
  refine ac_iload_n 7 dX8_hangsNow_6 rfl rfl ?_
  refine ac_iadd 8 dX8_hangsNow_7 rfl ?_
  refine ac_iald 9 dX8_hangsNow_8 rfl ar122 (ix_of (k := (64 + (j))) (by simp only [show (64 : Int32) = nI 64 from rfl, pk_mul, nI_add]) (by omega) (by decide)) ?_
  refine ac_bipush 11 (-9) dX8_hangsNow_9 rfl (by decide) ?_
  refine ac_icmp_eq 18 14 dX8_hangsNow_11 (by decide) rfl (fun c_11 => ?_) (fun c_11 => ?_)
  · refine ac_iconst 19 0 dX8_hangsNow_18 rfl (by decide) ?_
    refine ac_iret dX8_hangsNow_19 ⟨_, rfl, rfl⟩ ?_
    exact rv_mk (bi_f (by simp_all)).symm
  · refine ac_iconst 15 1 dX8_hangsNow_14 rfl (by decide) ?_
    refine ac_goto 19 dX8_hangsNow_15 (by decide) ?_
    refine ac_iret dX8_hangsNow_19 ⟨_, rfl, rfl⟩ ?_
    exact rv_mk (bi_t (by simp_all)).symm
set_option maxRecDepth 20000 in
theorem c8_isHole {M : am_I} {V : am_J} {f : Nat → Option Nat} (k : Int32) : CT m8_isHole 2 [Value.ref 121, Value.int k] M V f (RV (bi (0 ≤ k ∧ k ≤ M 122 31 - 1)) M V f) := by
  refine CT.of m8_isHole_V.1 _ (en_ai_2 121 k) ?_
  refine ac_iload_n 1 dX8_isHole_0 rfl rfl ?_
  refine ac_iconst 2 0 dX8_isHole_1 rfl (by decide) ?_
  refine ac_aload_n 3 dX8_isHole_2 rfl rfl ?_
  refine ac_getO 6 122 dX8_isHole_3 rfl fl8_7 ob121 rfl ?_
  refine ac_bipush 8 31 dX8_isHole_6 rfl (by decide) ?_
  refine ac_iald 9 dX8_isHole_8 rfl ar122 (ix_nI (k := 31) (by decide) (by decide)) ?_
  refine ac_iconst 10 1 dX8_isHole_9 rfl (by decide) ?_
  refine ac_isub 11 dX8_isHole_10 rfl ?_
  refine ac_callS (μ' := m8_within) 14 dX8_isHole_11 rfl lk8_67 m8_within_S (c8_within _ _ _) rfl rfl (by decide) (Nat.le_of_ble_eq_true rfl) ?_
  refine ac_iret dX8_isHole_14 (bi_nr rfl _) ?_
  exact rv_mk rfl
set_option maxRecDepth 20000 in
theorem c8_off {M : am_I} {V : am_J} {f : Nat → Option Nat} (x : Int32) : CT m8_off 1 [Value.int x] M V f (RV (if x < 0 then -x else x) M V f) := by
  refine CT.of m8_off_S.1 _ (en_i_1 x) ?_
  refine ac_iload_n 1 dX8_off_0 rfl rfl ?_
  refine ac_if_ge 9 4 dX8_off_1 (by decide) rfl (fun c_1 => ?_) (fun c_1 => ?_)
  · refine ac_iload_n 10 dX8_off_9 rfl rfl ?_
    refine ac_iret dX8_off_10 ⟨_, rfl, rfl⟩ ?_
    exact rv_mk (if_neg (by simp only [Int32.le_iff_toInt_le, Int32.lt_iff_toInt_lt] at *; omega)).symm
  · refine ac_iload_n 5 dX8_off_4 rfl rfl ?_
    refine ac_ineg 6 dX8_off_5 rfl ?_
    refine ac_goto 10 dX8_off_6 (by decide) ?_
    refine ac_iret dX8_off_10 ⟨_, rfl, rfl⟩ ?_
    exact rv_mk (if_pos (by simp only [Int32.le_iff_toInt_le, Int32.lt_iff_toInt_lt] at *; omega)).symm
set_option maxRecDepth 20000 in
theorem c8_leanOf {M : am_I} {V : am_J} {f : Nat → Option Nat} {j : Nat} (hj : j < 5) (x : Int32) : CT m8_leanOf 3 [Value.ref 121, Value.int (nI j), Value.int x] M V f (RV (M 122 (4 + 4 * j + 3) * (2 * x + M 122 (4 + 4 * j) - M 122 0)) M V f) := by
  refine CT.of m8_leanOf_V.1 _ (en_aii_3 121 (nI j) x) ?_
  refine ac_aload_n 1 dX8_leanOf_0 rfl rfl ?_
  refine ac_iload_n 2 dX8_leanOf_1 rfl rfl ?_
  refine ac_iconst 3 3 dX8_leanOf_2 rfl (by decide) ?_
  refine ac_callV (μ' := m8_ofPicture) 6 dX8_leanOf_3 rfl lk8_118 m8_ofPicture_V ob121 (c8_ofPicture (w := 3) hj (by decide)) rfl rfl (by decide) (Nat.le_of_ble_eq_true rfl) ?_
  refine ac_aload_n 7 dX8_leanOf_6 rfl rfl ?_
  refine ac_iload_n 8 dX8_leanOf_7 rfl rfl ?_
  refine ac_iload_n 9 dX8_leanOf_8 rfl rfl ?_
  refine ac_callV (μ' := m8_hookX) 12 dX8_leanOf_9 rfl lk8_126 m8_hookX_V ob121 (c8_hookX hj _) rfl rfl (by decide) (Nat.le_of_ble_eq_true rfl) ?_
  refine ac_aload_n 13 dX8_leanOf_12 rfl rfl ?_
  refine ac_getO 16 122 dX8_leanOf_13 rfl fl8_7 ob121 rfl ?_
  refine ac_iconst 17 0 dX8_leanOf_16 rfl (by decide) ?_
  refine ac_iald 18 dX8_leanOf_17 rfl ar122 (ix_nI (k := 0) (by decide) (by decide)) ?_
  refine ac_isub 19 dX8_leanOf_18 rfl ?_
  refine ac_imul 20 dX8_leanOf_19 rfl ?_
  refine ac_iret dX8_leanOf_20 ⟨_, rfl, rfl⟩ ?_
  exact rv_mk rfl
