/-! The law's loop, and its start. -/
theorem l_sub {L i : Nat} (hL : L ≤ 1536) (hi : i ≤ L) : (nI L - 3 < nI i) ↔ L < i + 3 := by
  by_cases h : 3 ≤ L
  · rw [show (3 : Int32) = nI 3 from rfl, nI_subN h, nI_ltI (by omega) (by omega)]
    omega
  · have h1 : nI L - 3 < 0 := by
      rcases (show L = 0 ∨ L = 1 ∨ L = 2 by omega) with rfl | rfl | rfl <;> decide
    exact ⟨fun _ => by omega, fun _ => Int32.lt_of_lt_of_le h1 (nI_pos0 (by omega))⟩
set_option maxRecDepth 20000 in
theorem l_loop {L : Nat} {xs : Nat → Int32} (hL : L ≤ 1536) : ∀ (k i : Nat) (M : am_I) (V : am_J) (f : Nat → Option Nat), IV M f → i ≤ L → L - i < k → L0 L xs 18 (LL i) [] M V f
  | 0, i, M, V, f, _, _, h => absurd h (Nat.not_lt_zero _)
  | k + 1, i, M, V, f, h, hi, hk => by
    have nx : i + 3 ≤ L → ∀ M V f, IV M f → L0 L xs 625 (LL i) [] M V f := fun h3 M V f h => by
      refine lw_iinc 628 (nI (i + 3)) (LL (i + 3)) dL_law_625 rfl rfl (nI_add i 3) rfl (by decide) rfl ?_
      refine lw_goto 18 dL_law_628 (by decide) ?_
      exact l_loop hL k (i + 3) M V f h h3 (by omega)
    refine lw_iload_n 19 dL_law_18 rfl rfl ?_
    refine lw_aload_n 20 dL_law_19 rfl rfl ?_
    refine lw_slen 21 dL_law_20 rfl ?_
    refine lw_iconst 22 3 dL_law_21 rfl (by decide) ?_
    refine lw_isub 23 dL_law_22 rfl ?_
    refine lw_icmp_gt 631 26 dL_law_23 (by decide) rfl (fun _ => ?_) (fun c => ?_)
    · refine lw_iconst 632 1 dL_law_631 rfl (by decide) ?_
      exact lw_end dL_law_632
    · have h3 : i + 3 ≤ L := by
        exact Nat.le_of_not_lt (fun q => c ((l_sub hL hi).mpr q))
      refine lw_aload_n 27 dL_law_26 rfl rfl ?_
      refine lw_iload_n 28 dL_law_27 rfl rfl ?_
      refine lw_sld 29 i dL_law_28 rfl rfl (by omega) (by omega) ?_
      refine lw_bipush 31 31 dL_law_29 rfl (by decide) ?_
      refine lw_iand 32 dL_law_31 rfl ?_
      obtain ⟨j, hj, ej⟩ := pk_andE (xs i) (m := 31) 5 (by decide)
      rw [ej]
      by_cases h20 : j ≤ 20
      · rcases (show j = 0 ∨ j = 1 ∨ j = 2 ∨ j = 3 ∨ j = 4 ∨ j = 5 ∨ j = 6 ∨ j = 7 ∨ j = 8 ∨ j = 9 ∨ j = 10 ∨ j = 11 ∨ j = 12 ∨ j = 13 ∨ j = 14 ∨ j = 15 ∨ j = 16 ∨ j = 17 ∨ j = 18 ∨ j = 19 ∨ j = 20 by omega) with rfl | rfl | rfl | rfl | rfl | rfl | rfl | rfl | rfl | rfl | rfl | rfl | rfl | rfl | rfl | rfl | rfl | rfl | rfl | rfl | rfl
        · exact lw_tableIn 132 0 100 dL_law_32 (by decide) (by decide) (by decide) (by decide) (lc_0 h h3 hL (nx h3))
        · exact lw_tableIn 155 1 123 dL_law_32 (by decide) (by decide) (by decide) (by decide) (lc_1 h h3 hL (nx h3))
        · exact lw_tableIn 168 2 136 dL_law_32 (by decide) (by decide) (by decide) (by decide) (lc_2 h h3 hL (nx h3))
        · exact lw_tableIn 181 3 149 dL_law_32 (by decide) (by decide) (by decide) (by decide) (lc_3 h h3 hL (nx h3))
        · exact lw_tableIn 214 4 182 dL_law_32 (by decide) (by decide) (by decide) (by decide) (lc_4 h h3 hL (nx h3))
        · exact lw_tableIn 237 5 205 dL_law_32 (by decide) (by decide) (by decide) (by decide) (lc_5 h h3 hL (nx h3))
        · exact lw_tableIn 260 6 228 dL_law_32 (by decide) (by decide) (by decide) (by decide) (lc_6 h h3 hL (nx h3))
        · exact lw_tableIn 283 7 251 dL_law_32 (by decide) (by decide) (by decide) (by decide) (lc_7 h h3 hL (nx h3))
        · exact lw_tableIn 296 8 264 dL_law_32 (by decide) (by decide) (by decide) (by decide) (lc_8 h h3 hL (nx h3))
        · exact lw_tableIn 329 9 297 dL_law_32 (by decide) (by decide) (by decide) (by decide) (lc_9 h h3 hL (nx h3))
        · exact lw_tableIn 362 10 330 dL_law_32 (by decide) (by decide) (by decide) (by decide) (lc_10 h h3 hL (nx h3))
        · exact lw_tableIn 395 11 363 dL_law_32 (by decide) (by decide) (by decide) (by decide) (lc_11 h h3 hL (nx h3))
        · exact lw_tableIn 418 12 386 dL_law_32 (by decide) (by decide) (by decide) (by decide) (lc_12 h h3 hL (nx h3))
        · exact lw_tableIn 441 13 409 dL_law_32 (by decide) (by decide) (by decide) (by decide) (lc_13 h h3 hL (nx h3))
        · exact lw_tableIn 474 14 442 dL_law_32 (by decide) (by decide) (by decide) (by decide) (lc_14 h h3 hL (nx h3))
        · exact lw_tableIn 487 15 455 dL_law_32 (by decide) (by decide) (by decide) (by decide) (lc_15 h h3 hL (nx h3))
        · exact lw_tableIn 520 16 488 dL_law_32 (by decide) (by decide) (by decide) (by decide) (lc_16 h h3 hL (nx h3))
        · exact lw_tableIn 533 17 501 dL_law_32 (by decide) (by decide) (by decide) (by decide) (lc_17 h h3 hL (nx h3))
        · exact lw_tableIn 556 18 524 dL_law_32 (by decide) (by decide) (by decide) (by decide) (lc_18 h h3 hL (nx h3))
        · exact lw_tableIn 579 19 547 dL_law_32 (by decide) (by decide) (by decide) (by decide) (lc_19 h h3 hL (nx h3))
        · exact lw_tableIn 602 20 570 dL_law_32 (by decide) (by decide) (by decide) (by decide) (lc_20 h h3 hL (nx h3))
      · exact lw_tableOut 625 dL_law_32 (Or.inr (by rw [nI_toInt (by omega)]; omega)) (by decide) (nx h3 M V f h)
theorem RF_un {n : Nat} (h : ∀ i, i < 136 → ∀ k, k < 21 → ((RR f0 i k).all (fun t => decide (t ≠ n)) = true)) : RF (XS n []) = RF (XS (n + 1) []) := by
  funext i k
  unfold RF
  cases hc : RR f0 i k with
  | none => rfl
  | some t =>
    have ht : t ≠ n := by
      by_cases hi : i < 136
      · by_cases hk : k < 21
        · have h1 := h i hi k hk
          rw [hc] at h1
          simpa using h1
        · rw [RR_out (Or.inr (by omega))] at hc; cases hc
      · rw [RR_out (Or.inl (by omega))] at hc; cases hc
    have e : XS n [] t = XS (n + 1) [] t := by
      unfold XS
      by_cases hl : t < n
      · rw [decide_eq_true hl, decide_eq_true (show t < n + 1 by omega)]
      · rw [decide_eq_false hl, decide_eq_false (show ¬ t < n + 1 by omega)]
    dsimp only
    rw [e]
theorem RF_0 : RF (XS 0 []) = RF (XS 1 []) := RF_un (by decide +kernel)
theorem RF_121 : RF (XS 121 []) = RF (XS 122 []) := RF_un (by decide +kernel)
theorem lz_new {L : Nat} {xs : Nat → Int32} {pc : Nat} {ls : List (Option Value)} {st : List Value} {n m : Nat} {O : List Nat} (q b1 b2 c0 : Nat) {idx : Nat} (hd : decode code pc = .ok (.new idx, 3)) (hp : pc + 3 = q) (hw : am_nw RL idx c0) (hlt : n < 1000) (h1 : g0K.getD n 0 = c0 + 4) (h2 : g0L.getD n 0 = 0) (hm : m ≤ n) (k : LW L xs b1 b2 (GS (n + 1)) q ls (.ref n :: st) (MZ m) VZ (RF (XS n O))) : LW L xs (b1 + 1) (b2 + am_N c0) (GS n) pc ls st (MZ m) VZ (RF (XS n O)) := by
  refine lw_new q hd hp hw hlt ?_
  rw [gs_gN h1 h2, show (GS n).1 = n from rfl, ← MZ_row hm, row_id, ← RF_new (n := n) (O := O), row_id]
  exact k
theorem M0_row : CW M0 7 (M0 122) 0 0 0 := ⟨⟨rfl, by decide, rfl, by decide, rfl, by decide⟩, ⟨rfl, rfl, rfl, rfl, rfl, rfl⟩, fun j hj => absurd hj (Nat.not_lt_zero j), fun j hj => absurd hj (Nat.not_lt_zero j), fun j hj => absurd hj (Nat.not_lt_zero j)⟩
theorem IV_0 : IV M0 f0 := by
  refine ⟨⟨0, fun _ => 0, by decide, rfl, rfl, fun y hy => absurd hy (Nat.not_lt_zero y)⟩, ⟨⟨0, 0, 0, M0_row⟩, 0, 0, 0, fun _ => 0, 0, 20, M0_row.1, ⟨fun p hp => absurd hp (Nat.not_lt_zero p), rfl, by decide⟩, fun p hp => absurd hp (Nat.not_lt_zero p), rfl, by decide, fun p hp => absurd hp (Nat.not_lt_zero p), fun p q x y hp => absurd hp (Nat.not_lt_zero p)⟩, ⟨0, ⟨rfl, by decide, fun j hj => ?_, ?_, fun j hj => absurd hj (Nat.not_lt_zero j)⟩, rfl, fun j hj => absurd hj (Nat.not_lt_zero j)⟩, ⟨0, ⟨rfl, by decide, fun k hk => absurd hk (Nat.not_lt_zero k)⟩, ⟨rfl, by decide, fun k hk => absurd hk (Nat.not_lt_zero k)⟩, fun k hk => absurd hk (Nat.not_lt_zero k)⟩, ⟨Or.inl ⟨rfl, rfl⟩, Or.inl ⟨rfl, rfl⟩⟩, Or.inl rfl, rfl⟩
  · match j, hj with
    | 0, _ => exact ⟨29, rfl, by unfold PB; decide⟩
    | 1, _ => exact ⟨39, rfl, by unfold PB; decide⟩
    | 2, _ => exact ⟨49, rfl, by unfold PB; decide⟩
    | 3, _ => exact ⟨59, rfl, by unfold PB; decide⟩
    | 4, _ => exact ⟨69, rfl, by unfold PB; decide⟩
    | 5, _ => exact ⟨79, rfl, by unfold PB; decide⟩
  · have h : ∀ i, i < 6 → ∀ j, j < 6 → f0 i = f0 j → i = j := by decide
    exact fun i j hi hj e => h i hi j hj e
set_option maxRecDepth 20000 in
theorem l_start {L : Nat} {xs : Nat → Int32} (hL : L ≤ 1536) : LW L xs (0 + 14 + 1 + 120 + 1) (0 + 1270 + am_N 8 + 1367 + am_N 7) (GS 0) 0 [some (.ref 1013), none, none, none] [] (MZ 0) VZ (RF (XS 0 [])) := by
  refine lz_new 3 _ _ 7 dL_law_0 rfl ⟨by decide, am_gi 17 (by decide +kernel) rfl, am_gi 18 (by decide +kernel) rfl, am_gi 1 (by decide +kernel) rfl⟩ (by decide) rfl rfl (Nat.le_refl _) ?_
  refine lw_dup 4 dL_law_3 rfl rfl ?_
  rw [RF_0]
  refine lw_callI (μ' := m7_init) (As := []) (rest := [.ref 0]) 7 dL_law_4 rfl (am_gi 19 (by decide +kernel) rfl) m7_init_I (by decide) z_m7_init rfl rfl (by decide) (Nat.le_of_ble_eq_true rfl) (fun v g' M' V' R' _ hq => ?_)
  obtain ⟨rfl, rfl, rfl, rfl, rfl⟩ := hq
  refine lw_astore_n 8 [some (.ref 1013), some (.ref 0), none, none] dL_law_7 rfl rfl (Nat.le_of_ble_eq_true rfl) (by decide) rfl ?_
  refine lz_new 11 _ _ 8 dL_law_8 rfl ⟨by decide, am_gi 720 (by decide +kernel) rfl, am_gi 721 (by decide +kernel) rfl, am_gi 9 (by decide +kernel) rfl⟩ (by decide) rfl rfl (by decide) ?_
  refine lw_dup 12 dL_law_11 rfl rfl ?_
  rw [RF_121]
  refine lw_callI (μ' := m8_init) (As := []) (rest := [.ref 121]) 15 dL_law_12 rfl (am_gi 722 (by decide +kernel) rfl) m8_init_I (by decide) z_m8_init rfl rfl (by decide) (Nat.le_of_ble_eq_true rfl) (fun v g' M' V' R' _ hq => ?_)
  obtain ⟨rfl, rfl, rfl, rfl, rfl⟩ := hq
  refine lw_astore_n 16 [some (.ref 1013), some (.ref 0), some (.ref 121), none] dL_law_15 rfl rfl (Nat.le_of_ble_eq_true rfl) (by decide) rfl ?_
  refine lw_iconst 17 0 dL_law_16 rfl (by decide) ?_
  refine lw_istore_n 18 (LL 0) dL_law_17 rfl rfl (Nat.le_of_ble_eq_true rfl) (by decide) rfl ?_
  exact l_loop hL (L + 1) 0 M0 VZ f0 IV_0 (Nat.zero_le _) (by omega)
