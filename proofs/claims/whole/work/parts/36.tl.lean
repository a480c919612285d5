/-! Reading from the start. -/
def bareR (g : rN) : rN := fun j => if j = 1 then 10 else if j = 0 then 20 else va_cpy (fun i => if i < 64 then 0 else -9) g 0 0 69 j
theorem bareR_RW (g : rN) : RW (bareR g) 0 0 0 := ⟨rfl, by decide, rfl, by decide, rfl, by decide⟩
set_option maxRecDepth 20000 in
theorem c8_reads {M : am_I} {V : am_J} {f : Nat → Option Nat} {tx : Nat → Nat} {n : Nat} (h10 : M 121 10 = nI n) (hn : n ≤ 120) (hT : ∀ y, y < n → M 129 y = nI (tx y) ∧ tx y ≤ 255) : CT m8_reads 6 [Value.ref 121] M V f (RQ M V f (pAll tx n 121 False 0 0 0 0 (skP tx n 0) (bareR (M 123)))) := by
  have hP : RP (am_up (am_up (am_up (am_up (am_row M 123 (va_cpy (fun i => if i < 64 then 0 else -9) (M 123) 0 0 69)) 123 0 20) 123 1 10) 121 13 0) 121 11 0) tx n 0 := ⟨h10, hn, rfl, Nat.zero_le _, hT⟩
  have hK : KP M (am_up (am_up (am_up (am_up (am_row M 123 (va_cpy (fun i => if i < 64 then 0 else -9) (M 123) 0 0 69)) 123 0 20) 123 1 10) 121 13 0) 121 11 0) := ⟨fun i z1 z2 => by rw [am_up_ne z1, am_up_ne z1, am_up_ne z2, am_up_ne z2, row_ne z2], fun k z1 z2 z3 => by rw [up_ne z1, up_ne z3]; rfl⟩
  refine CT.of m8_reads_V.1 _ (en_a_2 121) ?_
  refine ac_aload_n 1 dX8_reads_0 rfl rfl ?_
  refine ac_getO 4 123 dX8_reads_1 rfl fl8_13 ob121 rfl ?_
  refine ac_callSm (μ' := m8_bares) 7 dX8_reads_4 rfl lk8_53 m8_bares_S c8_bares123 rfl rfl (by decide) (Nat.le_of_ble_eq_true rfl) ?_
  refine ac_aload_n 8 dX8_reads_7 rfl rfl ?_
  refine ac_iconst 9 0 dX8_reads_8 rfl (by decide) ?_
  refine ac_putI 12 dX8_reads_9 rfl fl8_78 rfl rfl ob121 ?_
  refine ac_aload_n 13 dX8_reads_12 rfl rfl ?_
  refine ac_iconst 14 0 dX8_reads_13 rfl (by decide) ?_
  refine ac_putI 17 dX8_reads_14 rfl fl8_57 rfl rfl ob121 ?_
  refine ac_iconst 18 0 dX8_reads_17 rfl (by decide) ?_
  refine ac_istore_n 19 [some (Value.ref 121), some (Value.int 0)] dX8_reads_18 rfl rfl (Nat.le_of_ble_eq_true rfl) (by decide) rfl ?_
  refine ac_aload_n 20 dX8_reads_19 rfl rfl ?_
  refine ac_callVg (μ' := m8_skips) 23 dX8_reads_20 rfl lk8_71 m8_skips_V ob121 (c8_skips (M := (am_up (am_up (am_up (am_up (am_row M 123 (va_cpy (fun i => if i < 64 then 0 else -9) (M 123) 0 0 69)) 123 0 20) 123 1 10) 121 13 0) 121 11 0)) hP) rfl rfl (by decide) (Nat.le_of_ble_eq_true rfl) (fun v3 Mc V3 f3 h9 => ?_)
  obtain ⟨c1, c2, c3, c4, c5, c6, c7, c8⟩ := h9
  subst c1
  obtain rfl := c2.symm
  obtain rfl := c3.symm
  have fr : Mc 123 = bareR (M 123) := c5
  rw [← fr]
  exact c8_readsL 121 Mc False 0 0 0 0 (skP tx n 0) (hP.next c4 c7 (skP_le hP.2.2.2.1).2) (c6.trans (bi_f id).symm) (by rw [fr]; exact bareR_RW _) (hK.trans c4) (by omega)
