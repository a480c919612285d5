/-! Reading from the start. -/
def bareR (g : rN) : rN := fun j => if j = 1 then 10 else if j = 0 then 20 else va_cpy (fun i => if i < 64 then 0 else -9) g 0 0 69 j
theorem bareR_RW (g : rN) : RW (bareR g) 0 0 0 := ⟨rfl, by decide, rfl, by decide, rfl, by decide⟩
set_option maxRecDepth 20000 in
theorem c8_reads {M : am_I} {V : am_J} {f : Nat → Option Nat} {tx : Nat → Nat} {n : Nat} (h10 : M 121 10 = nI n) (hn : n ≤ 120) (hT : ∀ y, y < n → M 129 y = nI (tx y) ∧ tx y ≤ 255) : CT m8_reads 6 [Value.ref 121] M V f (RQ M V f (pAll tx n 121 False 0 0 0 0 (skP tx n 0) (bareR (M 123)))) := by
  have hP : RP (am_up (am_up (am_up (am_up (am_row M 123 (va_cpy (fun i => if i < 64 then 0 else -9) (M 123) 0 0 69)) 123 0 20) 123 1 10) 121 13 0) 121 11 0) tx n 0 := ⟨h10, hn, rfl, Nat.zero_le _, hT⟩
  have hK : KP M (am_up (am_up (am_up (am_up (am_row M 123 (va_cpy (fun i => if i < 64 then 0 else -9) (M 123) 0 0 69)) 123 0 20) 123 1 10) 121 13 0) 121 11 0) := ⟨fun i z1 z2 => by rw [am_up_ne z1, am_up_ne z1, am_up_ne z2, am_up_ne z2, row_ne z2], fun k z1 z2 z3 => by rw [up_ne z1, up_ne z3]; rfl⟩
  refine CT.of m8_reads_V.1 _ (en_a_2 121) ?_
  refine ac_aload_n 1 dX8_reads_0 rfl rfl ?_
  refine ac_getO 4 123 dX8_reads_1 rfl fl8_13 ob121 rfl ?_
  refine ac_callSm (μ' := m8_bares) 7 dX8_reads_4 rfl lk8_53 m8_bares_S c8_bares123 rfl rfl (by decide) (Nat.le_of_ble_eq_true rfl) ?_
  refine ac_aload_n 8 dX8_reads_7 rfl rfl ?_
  refine ac_iconst 9 0 dX8_reads_8 rfl (by decide) ?_
  refine ac_putI 12 dX8_reads_9 rfl fl8_78 rfl rfl ob121 ?_
  refine ac_aload_n 13 dX8_reads_12 rfl rfl ?_
  refine ac_iconst 14 0 dX8_reads_13 rfl (by decide) ?_
  refine ac_putI 17 dX8_reads_14 rfl fl8_57 rfl rfl ob121 ?_
  refine ac_iconst 18 0 dX8_reads_17 rfl (by decide) ?_
  refine ac_istore_n 19 [some (Value.ref 121), some (Value.int 0)] dX8_reads_18 rfl rfl (Nat.le_of_ble_eq_true rfl) (by decide) rfl ?_
  refine ac_aload_n 20 dX8_reads_19 rfl rfl ?_
  refine ac_callVg (μ' := m8_skips) 23 dX8_reads_20 rfl lk8_71 m8_skips_V ob121 (c8_skips (M := (am_up (am_up (am_up (am_up (am_row M 123 (va_cpy (fun i => if i < 64 then 0 else -9) (M 123) 0 0 69)) 123 0 20) 123 1 10) 121 13 0) 121 11 0)) hP) rfl rfl (by decide) (Nat.le_of_ble_eq_true rfl) (fun v3 Mc V3 f3 h9 => ?_)
  obtain ⟨c1, c2, c3, c4, c5, c6, c7, c8⟩ := h9
  subst c1
  obtain rfl := c2.symm
  obtain rfl := c3.symm
  have fr : Mc 123 = bareR (M 123) := c5
  rw [← fr]
  exact c8_readsL 121 Mc False 0 0 0 0 (skP tx n 0) (hP.next c4 c7 (skP_le hP.2.2.2.1).2) (c6.trans (bi_f id).symm) (by rw [fr]; exact bareR_RW _) (hK.trans c4) (by omega)
set_option maxRecDepth 20000 in
theorem q8_tellsF {M : am_I} {V : am_J} {f : Nat → Option Nat} {tx : Nat → Nat} {n : Nat} (h10 : M 121 10 = nI n) (hn : n ≤ 120) (hT : ∀ y, y < n → M 129 y = nI (tx y) ∧ tx y ≤ 255) {p : Nat} (hr : pAll tx n 121 False 0 0 0 0 (skP tx n 0) (bareR (M 123)) = .inl p) : CT m8_tells 7 [Value.ref 121] M V f (fun v M' V' f' => v = some (.int (-10 - nI p)) ∧ V' = V ∧ f' = f ∧ KP M M') := by
  refine CT.of m8_tells_V.1 _ (en_a_3 121) ?_
  refine ac_aload_n 1 dX8_tells_0 rfl rfl ?_
  refine ac_callVg (μ' := m8_reads) 4 dX8_tells_1 rfl lk8_111 m8_reads_V ob121 (c8_reads h10 hn hT) rfl rfl (by decide) (Nat.le_of_ble_eq_true rfl) (fun v1 Ma V1 f1 h9 => ?_)
  unfold RQ at h9
  rw [hr] at h9
  obtain ⟨d1, d2, d3, d4, d5⟩ := h9
  subst d4
  obtain rfl := d1.symm
  obtain rfl := d2.symm
  refine ac_istore_n 5 [some (Value.ref 121), some (Value.int (-1)), none] dX8_tells_4 rfl rfl (Nat.le_of_ble_eq_true rfl) (by decide) rfl ?_
  refine ac_iload_n 6 dX8_tells_5 rfl rfl ?_
  refine ac_if_ge 17 9 dX8_tells_6 (by decide) rfl (fun c_6 => absurd c_6 (by decide)) (fun _ => ?_)
  refine ac_bipush 11 (-10) dX8_tells_9 rfl (by decide) ?_
  refine ac_aload_n 12 dX8_tells_11 rfl rfl ?_
  refine ac_getI 15 dX8_tells_12 rfl fl8_64 ob121 ?_
  rw [show (Ma 121 12) = (nI p) from d5]
  refine ac_isub 16 dX8_tells_15 rfl ?_
  refine ac_iret dX8_tells_16 ⟨_, rfl, rfl⟩ ?_
  exact ⟨rfl, rfl, rfl, d3⟩
set_option maxRecDepth 20000 in
theorem q8_tellsS {M : am_I} {V : am_J} {f : Nat → Option Nat} {tx : Nat → Nat} {n : Nat} (h10 : M 121 10 = nI n) (hn : n ≤ 120) (hT : ∀ y, y < n → M 129 y = nI (tx y) ∧ tx y ≤ 255) {s : pS} {u : Nat} (hr : pAll tx n 121 False 0 0 0 0 (skP tx n 0) (bareR (M 123)) = .inr s) (hs : s.1 < 2 ^ 31) (hu : M 121 3 = nI u) (hu6 : u ≤ 6) : CT m8_tells 7 [Value.ref 121] M V f (fun v M' V' f' => v = some (.int (nI s.1)) ∧ V' = V ∧ f' = f ∧ (∀ i, i ≠ 121 → i ≠ 122 → i ≠ 123 → i ≠ 124 → M' i = M i) ∧ M' 124 = kpr (M 124) (M 122) u ∧ (∀ j, j < 69 → M' 122 j = s.2 j) ∧ (∀ j, j ≠ 3 → j ≠ 10 → j ≠ 11 → j ≠ 12 → j ≠ 13 → M' 121 j = M 121 j) ∧ M' 121 3 = nI (kpn u) ∧ M' 121 10 = 0) := by
  refine CT.of m8_tells_V.1 _ (en_a_3 121) ?_
  refine ac_aload_n 1 dX8_tells_0 rfl rfl ?_
  refine ac_callVg (μ' := m8_reads) 4 dX8_tells_1 rfl lk8_111 m8_reads_V ob121 (c8_reads h10 hn hT) rfl rfl (by decide) (Nat.le_of_ble_eq_true rfl) (fun v1 Ma V1 f1 h9 => ?_)
  unfold RQ at h9
  rw [hr] at h9
  obtain ⟨d1, d2, d3, d4, d5⟩ := h9
  subst d4
  obtain rfl := d1.symm
  obtain rfl := d2.symm
  refine ac_istore_n 5 [some (Value.ref 121), some (Value.int (nI s.1)), none] dX8_tells_4 rfl rfl (Nat.le_of_ble_eq_true rfl) (by decide) rfl ?_
  refine ac_iload_n 6 dX8_tells_5 rfl rfl ?_
  refine ac_if_ge 17 9 dX8_tells_6 (by decide) rfl (fun _ => ?_) (fun c_6 => absurd (nI_pos0 hs) c_6)
  refine ac_aload_n 18 dX8_tells_17 rfl rfl ?_
  refine ac_callVm (μ' := m8_keeps) 21 dX8_tells_18 rfl lk8_115 m8_keeps_V ob121 (c8_kp (M := Ma) (u := u) ((d3.2 3 (by decide) (by decide) (by decide)).trans hu) hu6) rfl rfl (by decide) (Nat.le_of_ble_eq_true rfl) ?_
  refine ac_iconst 22 0 dX8_tells_21 rfl (by decide) ?_
  refine ac_istore_n 23 [some (Value.ref 121), some (Value.int (nI s.1)), some (Value.int 0)] dX8_tells_22 rfl rfl (Nat.le_of_ble_eq_true rfl) (by decide) rfl ?_
  refine ac_down (n := 69) (P := fun k => ∀ (M2 : am_I), ((∀ i, i ≠ 122 → M2 i = (am_up (am_row Ma 124 (kpr (Ma 124) (Ma 122) u)) 121 3 (nI (kpn u))) i) ∧ ∀ j, j < k → M2 122 j = s.2 j) → A0 m8_tells 7 23 [some (Value.ref 121), some (Value.int (nI s.1)), some (Value.int (nI k))] [] M2 V f (fun v M' V' f' => v = some (.int (nI s.1)) ∧ V' = V ∧ f' = f ∧ (∀ i, i ≠ 121 → i ≠ 122 → i ≠ 123 → i ≠ 124 → M' i = M i) ∧ M' 124 = kpr (M 124) (M 122) u ∧ (∀ j, j < 69 → M' 122 j = s.2 j) ∧ (∀ j, j ≠ 3 → j ≠ 10 → j ≠ 11 → j ≠ 12 → j ≠ 13 → M' 121 j = M 121 j) ∧ M' 121 3 = nI (kpn u) ∧ M' 121 10 = 0)) ?_ ?_ 0 (Nat.zero_le _) (am_up (am_row Ma 124 (kpr (Ma 124) (Ma 122) u)) 121 3 (nI (kpn u))) ⟨fun _ _ => rfl, fun j hj => absurd hj (Nat.not_lt_zero j)⟩
  · intro M2 hpr
    obtain ⟨k1, k2⟩ := hpr
    refine ac_iload_n 24 dX8_tells_23 rfl rfl ?_
    refine ac_bipush 26 69 dX8_tells_24 rfl (by decide) ?_
    refine ac_icmp_ge 47 29 dX8_tells_26 (by decide) rfl (fun _ => ?_) (fun c_26 => absurd (by decide) c_26)
    refine ac_aload_n 48 dX8_tells_47 rfl rfl ?_
    refine ac_iconst 49 0 dX8_tells_48 rfl (by decide) ?_
    refine ac_putI 52 dX8_tells_49 rfl fl8_61 rfl rfl ob121 ?_
    refine ac_iload_n 53 dX8_tells_52 rfl rfl ?_
    refine ac_iret dX8_tells_53 ⟨_, rfl, rfl⟩ ?_
    refine ⟨rfl, rfl, rfl, fun i z1 z2 z3 z4 => ?_, ?_, k2, fun j z1 z2 z3 z4 z5 => ?_, ?_, rfl⟩
    · rw [am_up_ne z1, k1 i z2, am_up_ne z1, row_ne z4]; exact d3.1 i z1 z3
    · rw [am_up_ne (by decide), k1 124 (by decide), am_up_ne (by decide), row_at, d3.1 124 (by decide) (by decide), d3.1 122 (by decide) (by decide)]
    · rw [up_ne z2, k1 121 (by decide), up_ne z1, row_ne (by decide)]; exact d3.2 j z3 z4 z5
    · rw [up_ne (by decide), k1 121 (by decide), up_eq]
  · intro k hk ih M2 hpr
    obtain ⟨k1, k2⟩ := hpr
    have e123 : M2 123 = s.2 := (k1 123 (by decide)).trans d5
    refine ac_iload_n 24 dX8_tells_23 rfl rfl ?_
    refine ac_bipush 26 69 dX8_tells_24 rfl (by decide) ?_
    refine ac_icmp_ge 47 29 dX8_tells_26 (by decide) rfl (fun c_26 => absurd c_26 (nI_ge (b := 69) hk (by decide))) (fun _ => ?_)
    refine ac_aload_n 30 dX8_tells_29 rfl rfl ?_
    refine ac_getO 33 122 dX8_tells_30 rfl fl8_7 ob121 rfl ?_
    refine ac_iload_n 34 dX8_tells_33 rfl rfl ?_
    refine ac_aload_n 35 dX8_tells_34 rfl rfl ?_
    refine ac_getO 38 123 dX8_tells_35 rfl fl8_13 ob121 rfl ?_
    refine ac_iload_n 39 dX8_tells_38 rfl rfl ?_
    refine ac_iald 40 dX8_tells_39 rfl ar123 (ix_nI (by omega) (by decide)) ?_
    rw [show (M2 123 k) = (s.2 k) from (by rw [e123])]
    refine ac_iast 41 dX8_tells_40 rfl ar122 (ix_nI (by omega) (by decide)) ?_
    refine ac_iinc 44 (nI (k + 1)) [some (Value.ref 121), some (Value.int (nI s.1)), some (Value.int (nI (k + 1)))] dX8_tells_41 rfl rfl (nI_1 _) rfl (by decide) rfl ?_
    refine ac_goto 23 dX8_tells_44 (by decide) ?_
    exact ih _ ⟨fun i hi => (am_up_ne hi).trans (k1 i hi), fun j hj => by
      by_cases hjk : j = k
      · subst hjk; exact up_eq
      · rw [up_ne hjk]; exact k2 j (by omega)⟩
