/-! The class: undo, images, letters, what is seen. -/
set_option maxRecDepth 20000 in
theorem q7_undF {M : am_I} {V : am_J} {f : Nat → Option Nat} (hu : M 27 1 = 0) : CT m7_undo 4 [Value.ref 0] M V f (RV (-2) M V f) := by
  refine CT.of m7_undo_V.1 _ (en_a_1 0) ?_
  refine ac_aload_n 1 dX7_undo_0 rfl rfl ?_
  refine ac_getO 4 27 dX7_undo_1 rfl fl7_37 ob0 rfl ?_
  refine ac_aload_n 5 dX7_undo_4 rfl rfl ?_
  refine ac_getO 8 7 dX7_undo_5 rfl fl7_27 ob0 rfl ?_
  refine ac_callV (μ' := m1_giveLatestTo) 11 dX7_undo_8 rfl lk7_126 m1_giveLatestTo_V ob27 (c1_give0 hu) rfl rfl (by decide) (Nat.le_of_ble_eq_true rfl) ?_
  refine ac_if_ne 17 14 dX7_undo_11 (by decide) rfl (fun c_11 => absurd (by decide) c_11) (fun _ => ?_)
  refine ac_bipush 16 (-2) dX7_undo_14 rfl (by decide) ?_
  refine ac_iret dX7_undo_16 ⟨_, rfl, rfl⟩ ?_
  exact rv_mk rfl
set_option maxRecDepth 20000 in
theorem q7_und0 {M : am_I} {V : am_J} {f : Nat → Option Nat} {u b : Nat} (hu : M 27 1 = nI (u + 1)) (hu6 : u < 6) (hb : f u = some b) (hp : PB b) : CT m7_undo 4 [Value.ref 0] M V f (RM (some (.int (nI u))) (am_up (cpW (am_up M 27 1 (nI u)) 7 b) 0 7 0) V f) := by
  refine CT.of m7_undo_V.1 _ (en_a_1 0) ?_
  refine ac_aload_n 1 dX7_undo_0 rfl rfl ?_
  refine ac_getO 4 27 dX7_undo_1 rfl fl7_37 ob0 rfl ?_
  refine ac_aload_n 5 dX7_undo_4 rfl rfl ?_
  refine ac_getO 8 7 dX7_undo_5 rfl fl7_27 ob0 rfl ?_
  refine ac_callVm (μ' := m1_giveLatestTo) 11 dX7_undo_8 rfl lk7_126 m1_giveLatestTo_V ob27 (c1_give hu hu6 hb hp) rfl rfl (by decide) (Nat.le_of_ble_eq_true rfl) ?_
  refine ac_if_ne 17 14 dX7_undo_11 (by decide) rfl (fun _ => ?_) (fun c_11 => absurd c_11 (by decide))
  refine ac_aload_n 18 dX7_undo_17 rfl rfl ?_
  refine ac_iconst 19 0 dX7_undo_18 rfl (by decide) ?_
  refine ac_putI 22 dX7_undo_19 rfl fl7_48 rfl rfl ob0 ?_
  refine ac_aload_n 23 dX7_undo_22 rfl rfl ?_
  refine ac_getO 26 27 dX7_undo_23 rfl fl7_37 ob0 rfl ?_
  refine ac_getI 29 dX7_undo_26 rfl fl7_130 ob27 ?_
  rw [show ((am_up (cpW (am_up M 27 1 (nI u)) 7 b) 0 7 0) 27 1) = ((cpW (am_up M 27 1 (nI u)) 7 b) 27 1) from rfl]
  rw [show ((cpW (am_up M 27 1 (nI u)) 7 b) 27 1) = (nI u) from (congrFun (cpW_o (by omega)) 1)]
  refine ac_iret dX7_undo_29 ⟨_, rfl, rfl⟩ ?_
  exact rm_mk rfl
theorem q7_und {M : am_I} {V : am_J} {f : Nat → Option Nat} {u : Nat} {pw : Nat → rN} (hp : PI M f (u + 1) pw) : CT m7_undo 4 [.ref 0] M V f (fun v M' V' f' => v = some (.int (nI u)) ∧ V' = V ∧ PI M' f' u pw ∧ (∃ np nd nh, CW M' 7 (pw u) np nd nh) ∧ KQ M M') := by
  obtain ⟨h1, h2, h3, h4, h5⟩ := hp
  obtain ⟨b, np, nd, nh, hb, hc⟩ := h5 u (by omega)
  obtain ⟨b2, hb2, pb⟩ := h3 u (by omega)
  rw [hb] at hb2
  cases hb2
  have hr := pb.rng
  refine (q7_und0 h1 (by omega) hb pb).weaken ?_
  rintro v M' V' f' ⟨rfl, rfl, rfl, rfl⟩
  have hs : ∀ i, i ≠ 0 → i ≠ 27 → (i < 7 ∨ 16 < i) → am_up (cpW (am_up M 27 1 (nI u)) 7 b) 0 7 0 i = M i := by
    intro i a1 a2 a3
    rw [am_up_ne a1, cpW_o (by omega), am_up_ne a2]
  refine ⟨rfl, rfl, ⟨?_, by omega, h3, h4, fun j hj => ?_⟩, ⟨np, nd, nh, ?_⟩, rfl, fun k hk => ?_, fun i a1 a2 => hs i (by omega) (by omega) (by omega), fun i a1 => hs i (by omega) (by omega) (by omega)⟩
  · rw [am_up_ne (by decide), cpW_o (by omega), up_eq]
  · obtain ⟨b', c1, c2, c3, hb', hc'⟩ := h5 j (by omega)
    obtain ⟨b3, hb3, pb3⟩ := h3 j (by omega)
    rw [hb'] at hb3
    cases hb3
    have hr3 := pb3.rng
    exact ⟨b', c1, c2, c3, hb', hc'.same (fun i hi => hs _ (by omega) (by omega) (by omega))⟩
  · refine (CW.copy (b := 7) (hc.same (M' := am_up M 27 1 (nI u)) (fun i hi => am_up_ne (by omega)))).same (fun i hi => am_up_ne (by omega))
  · rw [up_ne hk, cpW_o (by omega), am_up_ne (by decide)]
set_option maxRecDepth 20000 in
theorem q7_keeF {M : am_I} {V : am_J} {f : Nat → Option Nat} {i : Int32} (hq : ¬ vI i 2) : CT m7_keep 3 [Value.ref 0, Value.int i] M V f (RV (-1) M V f) := by
  refine CT.of m7_keep_V.1 _ (en_ai_2 0 i) ?_
  refine ac_iload_n 1 dX7_keep_0 rfl rfl ?_
  refine ac_if_lt 9 4 dX7_keep_1 (by decide) rfl (fun c_1 => ?_) (fun c_1 => ?_)
  · refine ac_iconst 10 (-1) dX7_keep_9 rfl (by decide) ?_
    refine ac_iret dX7_keep_10 ⟨_, rfl, rfl⟩ ?_
    exact rv_mk rfl
  · refine ac_iload_n 5 dX7_keep_4 rfl rfl ?_
    refine ac_iconst 6 2 dX7_keep_5 rfl (by decide) ?_
    refine ac_icmp_lt 11 9 dX7_keep_6 (by decide) rfl (fun c_6 => ?_) (fun c_6 => ?_)
    · obtain ⟨a, ha, rfl⟩ := nI_of c_1
      exact absurd ⟨a, (nI_ltI (b := 2) ha (by decide)).mp c_6, rfl⟩ hq
    · refine ac_iconst 10 (-1) dX7_keep_9 rfl (by decide) ?_
      refine ac_iret dX7_keep_10 ⟨_, rfl, rfl⟩ ?_
      exact rv_mk rfl
set_option maxRecDepth 20000 in
theorem q7_bacF {M : am_I} {V : am_J} {f : Nat → Option Nat} {i : Int32} (hq : ¬ vI i 2) : CT m7_back 3 [Value.ref 0, Value.int i] M V f (RV (-1) M V f) := by
  refine CT.of m7_back_V.1 _ (en_ai_2 0 i) ?_
  refine ac_iload_n 1 dX7_back_0 rfl rfl ?_
  refine ac_if_lt 9 4 dX7_back_1 (by decide) rfl (fun c_1 => ?_) (fun c_1 => ?_)
  · refine ac_iconst 10 (-1) dX7_back_9 rfl (by decide) ?_
    refine ac_iret dX7_back_10 ⟨_, rfl, rfl⟩ ?_
    exact rv_mk rfl
  · refine ac_iload_n 5 dX7_back_4 rfl rfl ?_
    refine ac_iconst 6 2 dX7_back_5 rfl (by decide) ?_
    refine ac_icmp_lt 11 9 dX7_back_6 (by decide) rfl (fun c_6 => ?_) (fun c_6 => ?_)
    · obtain ⟨a, ha, rfl⟩ := nI_of c_1
      exact absurd ⟨a, (nI_ltI (b := 2) ha (by decide)).mp c_6, rfl⟩ hq
    · refine ac_iconst 10 (-1) dX7_back_9 rfl (by decide) ?_
      refine ac_iret dX7_back_10 ⟨_, rfl, rfl⟩ ?_
      exact rv_mk rfl
set_option maxRecDepth 20000 in
theorem q7_kee0 {M : am_I} {V : am_J} {f : Nat → Option Nat} {w : rN} {np nd nh : Nat} (hw : CW M 7 w np nd nh) : CT m7_keep 3 [Value.ref 0, Value.int 0] M V f (RM (some (.int (upN w np))) (am_up (cpW M 100 7) 120 0 1) V f) := by
  refine CT.of m7_keep_V.1 _ (en_ai_2 0 0) ?_
  refine ac_iload_n 1 dX7_keep_0 rfl rfl ?_
  refine ac_if_lt 9 4 dX7_keep_1 (by decide) rfl (fun c_1 => absurd c_1 (by decide)) (fun _ => ?_)
  refine ac_iload_n 5 dX7_keep_4 rfl rfl ?_
  refine ac_iconst 6 2 dX7_keep_5 rfl (by decide) ?_
  refine ac_icmp_lt 11 9 dX7_keep_6 (by decide) rfl (fun _ => ?_) (fun c_6 => absurd (by decide) c_6)
  refine ac_aload_n 12 dX7_keep_11 rfl rfl ?_
  refine ac_getO 15 99 dX7_keep_12 rfl fl7_66 ob0 rfl ?_
  refine ac_iload_n 16 dX7_keep_15 rfl rfl ?_
  refine ac_aald 17 100 dX7_keep_16 rfl ar99 (ix_nI (k := 0) (by decide) (by decide)) rfl ?_
  refine ac_aload_n 18 dX7_keep_17 rfl rfl ?_
  refine ac_getO 21 7 dX7_keep_18 rfl fl7_27 ob0 rfl ?_
  refine ac_callVm (μ' := m6_copyFrom) 24 dX7_keep_21 rfl lk7_81 m6_copyFrom_V ob100 c6_cp_100_7 rfl rfl (by decide) (Nat.le_of_ble_eq_true rfl) ?_
  refine ac_aload_n 25 dX7_keep_24 rfl rfl ?_
  refine ac_getO 28 120 dX7_keep_25 rfl fl7_70 ob0 rfl ?_
  refine ac_iload_n 29 dX7_keep_28 rfl rfl ?_
  refine ac_iconst 30 1 dX7_keep_29 rfl (by decide) ?_
  refine ac_zast 31 dX7_keep_30 rfl ar120 (ix_nI (k := 0) (by decide) (by decide)) rfl ?_
  refine ac_aload_n 32 dX7_keep_31 rfl rfl ?_
  refine ac_getO 35 7 dX7_keep_32 rfl fl7_27 ob0 rfl ?_
  refine ac_callV (μ' := m6_countUp) 38 dX7_keep_35 rfl lk7_205 m6_countUp_V ob7 (c6_countUp (M := (am_up (cpW M 100 7) 120 0 1)) (hw.same (fun i hi => by rw [am_up_ne (by omega), cpW_o (by omega)]))) rfl rfl (by decide) (Nat.le_of_ble_eq_true rfl) ?_
  refine ac_iret dX7_keep_38 ⟨_, rfl, rfl⟩ ?_
  exact rm_mk rfl
set_option maxRecDepth 20000 in
theorem q7_bacN0 {M : am_I} {V : am_J} {f : Nat → Option Nat} (hk : M 120 0 = 0) : CT m7_back 3 [Value.ref 0, Value.int 0] M V f (RV (-2) M V f) := by
  refine CT.of m7_back_V.1 _ (en_ai_2 0 0) ?_
  refine ac_iload_n 1 dX7_back_0 rfl rfl ?_
  refine ac_if_lt 9 4 dX7_back_1 (by decide) rfl (fun c_1 => absurd c_1 (by decide)) (fun _ => ?_)
  refine ac_iload_n 5 dX7_back_4 rfl rfl ?_
  refine ac_iconst 6 2 dX7_back_5 rfl (by decide) ?_
  refine ac_icmp_lt 11 9 dX7_back_6 (by decide) rfl (fun _ => ?_) (fun c_6 => absurd (by decide) c_6)
  refine ac_aload_n 12 dX7_back_11 rfl rfl ?_
  refine ac_getO 15 120 dX7_back_12 rfl fl7_70 ob0 rfl ?_
  refine ac_iload_n 16 dX7_back_15 rfl rfl ?_
  refine ac_zald 17 dX7_back_16 rfl ar120 (ix_nI (k := 0) (by decide) (by decide)) ?_
  refine ac_if_ne 23 20 dX7_back_17 (by decide) rfl (fun c_17 => absurd hk c_17) (fun _ => ?_)
  refine ac_bipush 22 (-2) dX7_back_20 rfl (by decide) ?_
  refine ac_iret dX7_back_22 ⟨_, rfl, rfl⟩ ?_
  exact rv_mk rfl
set_option maxRecDepth 20000 in
theorem q7_bac0 {M : am_I} {V : am_J} {f : Nat → Option Nat} {w : rN} {np nd nh : Nat} (hw : CW M 100 w np nd nh) (hk : M 120 0 = 1) : CT m7_back 3 [Value.ref 0, Value.int 0] M V f (RM (some (.int (upN w np))) (am_up (am_up (cpW M 7 100) 27 1 0) 0 7 0) V f) := by
  refine CT.of m7_back_V.1 _ (en_ai_2 0 0) ?_
  refine ac_iload_n 1 dX7_back_0 rfl rfl ?_
  refine ac_if_lt 9 4 dX7_back_1 (by decide) rfl (fun c_1 => absurd c_1 (by decide)) (fun _ => ?_)
  refine ac_iload_n 5 dX7_back_4 rfl rfl ?_
  refine ac_iconst 6 2 dX7_back_5 rfl (by decide) ?_
  refine ac_icmp_lt 11 9 dX7_back_6 (by decide) rfl (fun _ => ?_) (fun c_6 => absurd (by decide) c_6)
  refine ac_aload_n 12 dX7_back_11 rfl rfl ?_
  refine ac_getO 15 120 dX7_back_12 rfl fl7_70 ob0 rfl ?_
  refine ac_iload_n 16 dX7_back_15 rfl rfl ?_
  refine ac_zald 17 dX7_back_16 rfl ar120 (ix_nI (k := 0) (by decide) (by decide)) ?_
  refine ac_if_ne 23 20 dX7_back_17 (by decide) rfl (fun _ => ?_) (fun c_17 => absurd c_17 (by rw [hk]; decide))
  refine ac_aload_n 24 dX7_back_23 rfl rfl ?_
  refine ac_getO 27 7 dX7_back_24 rfl fl7_27 ob0 rfl ?_
  refine ac_aload_n 28 dX7_back_27 rfl rfl ?_
  refine ac_getO 31 99 dX7_back_28 rfl fl7_66 ob0 rfl ?_
  refine ac_iload_n 32 dX7_back_31 rfl rfl ?_
  refine ac_aald 33 100 dX7_back_32 rfl ar99 (ix_nI (k := 0) (by decide) (by decide)) rfl ?_
  refine ac_callVm (μ' := m6_copyFrom) 36 dX7_back_33 rfl lk7_81 m6_copyFrom_V ob7 c6_cp_7_100 rfl rfl (by decide) (Nat.le_of_ble_eq_true rfl) ?_
  refine ac_aload_n 37 dX7_back_36 rfl rfl ?_
  refine ac_getO 40 27 dX7_back_37 rfl fl7_37 ob0 rfl ?_
  refine ac_iconst 41 0 dX7_back_40 rfl (by decide) ?_
  refine ac_putI 44 dX7_back_41 rfl fl7_130 rfl rfl ob27 ?_
  refine ac_aload_n 45 dX7_back_44 rfl rfl ?_
  refine ac_iconst 46 0 dX7_back_45 rfl (by decide) ?_
  refine ac_putI 49 dX7_back_46 rfl fl7_48 rfl rfl ob0 ?_
  refine ac_aload_n 50 dX7_back_49 rfl rfl ?_
  refine ac_getO 53 7 dX7_back_50 rfl fl7_27 ob0 rfl ?_
  refine ac_callV (μ' := m6_countUp) 56 dX7_back_53 rfl lk7_205 m6_countUp_V ob7 (c6_countUp (M := (am_up (am_up (cpW M 7 100) 27 1 0) 0 7 0)) ((CW.copy (b := 7) hw).same (fun i hi => by rw [am_up_ne (by omega), am_up_ne (by omega)]))) rfl rfl (by decide) (Nat.le_of_ble_eq_true rfl) ?_
  refine ac_iret dX7_back_56 ⟨_, rfl, rfl⟩ ?_
  exact rm_mk rfl
set_option maxRecDepth 20000 in
theorem q7_kee1 {M : am_I} {V : am_J} {f : Nat → Option Nat} {w : rN} {np nd nh : Nat} (hw : CW M 7 w np nd nh) : CT m7_keep 3 [Value.ref 0, Value.int 1] M V f (RM (some (.int (upN w np))) (am_up (cpW M 110 7) 120 1 1) V f) := by
  refine CT.of m7_keep_V.1 _ (en_ai_2 0 1) ?_
  refine ac_iload_n 1 dX7_keep_0 rfl rfl ?_
  refine ac_if_lt 9 4 dX7_keep_1 (by decide) rfl (fun c_1 => absurd c_1 (by decide)) (fun _ => ?_)
  refine ac_iload_n 5 dX7_keep_4 rfl rfl ?_
  refine ac_iconst 6 2 dX7_keep_5 rfl (by decide) ?_
  refine ac_icmp_lt 11 9 dX7_keep_6 (by decide) rfl (fun _ => ?_) (fun c_6 => absurd (by decide) c_6)
  refine ac_aload_n 12 dX7_keep_11 rfl rfl ?_
  refine ac_getO 15 99 dX7_keep_12 rfl fl7_66 ob0 rfl ?_
  refine ac_iload_n 16 dX7_keep_15 rfl rfl ?_
  refine ac_aald 17 110 dX7_keep_16 rfl ar99 (ix_nI (k := 1) (by decide) (by decide)) rfl ?_
  refine ac_aload_n 18 dX7_keep_17 rfl rfl ?_
  refine ac_getO 21 7 dX7_keep_18 rfl fl7_27 ob0 rfl ?_
  refine ac_callVm (μ' := m6_copyFrom) 24 dX7_keep_21 rfl lk7_81 m6_copyFrom_V ob110 c6_cp_110_7 rfl rfl (by decide) (Nat.le_of_ble_eq_true rfl) ?_
  refine ac_aload_n 25 dX7_keep_24 rfl rfl ?_
  refine ac_getO 28 120 dX7_keep_25 rfl fl7_70 ob0 rfl ?_
  refine ac_iload_n 29 dX7_keep_28 rfl rfl ?_
  refine ac_iconst 30 1 dX7_keep_29 rfl (by decide) ?_
  refine ac_zast 31 dX7_keep_30 rfl ar120 (ix_nI (k := 1) (by decide) (by decide)) rfl ?_
  refine ac_aload_n 32 dX7_keep_31 rfl rfl ?_
  refine ac_getO 35 7 dX7_keep_32 rfl fl7_27 ob0 rfl ?_
  refine ac_callV (μ' := m6_countUp) 38 dX7_keep_35 rfl lk7_205 m6_countUp_V ob7 (c6_countUp (M := (am_up (cpW M 110 7) 120 1 1)) (hw.same (fun i hi => by rw [am_up_ne (by omega), cpW_o (by omega)]))) rfl rfl (by decide) (Nat.le_of_ble_eq_true rfl) ?_
  refine ac_iret dX7_keep_38 ⟨_, rfl, rfl⟩ ?_
  exact rm_mk rfl
set_option maxRecDepth 20000 in
theorem q7_bacN1 {M : am_I} {V : am_J} {f : Nat → Option Nat} (hk : M 120 1 = 0) : CT m7_back 3 [Value.ref 0, Value.int 1] M V f (RV (-2) M V f) := by
  refine CT.of m7_back_V.1 _ (en_ai_2 0 1) ?_
  refine ac_iload_n 1 dX7_back_0 rfl rfl ?_
  refine ac_if_lt 9 4 dX7_back_1 (by decide) rfl (fun c_1 => absurd c_1 (by decide)) (fun _ => ?_)
  refine ac_iload_n 5 dX7_back_4 rfl rfl ?_
  refine ac_iconst 6 2 dX7_back_5 rfl (by decide) ?_
  refine ac_icmp_lt 11 9 dX7_back_6 (by decide) rfl (fun _ => ?_) (fun c_6 => absurd (by decide) c_6)
  refine ac_aload_n 12 dX7_back_11 rfl rfl ?_
  refine ac_getO 15 120 dX7_back_12 rfl fl7_70 ob0 rfl ?_
  refine ac_iload_n 16 dX7_back_15 rfl rfl ?_
  refine ac_zald 17 dX7_back_16 rfl ar120 (ix_nI (k := 1) (by decide) (by decide)) ?_
  refine ac_if_ne 23 20 dX7_back_17 (by decide) rfl (fun c_17 => absurd hk c_17) (fun _ => ?_)
  refine ac_bipush 22 (-2) dX7_back_20 rfl (by decide) ?_
  refine ac_iret dX7_back_22 ⟨_, rfl, rfl⟩ ?_
  exact rv_mk rfl
set_option maxRecDepth 20000 in
theorem q7_bac1 {M : am_I} {V : am_J} {f : Nat → Option Nat} {w : rN} {np nd nh : Nat} (hw : CW M 110 w np nd nh) (hk : M 120 1 = 1) : CT m7_back 3 [Value.ref 0, Value.int 1] M V f (RM (some (.int (upN w np))) (am_up (am_up (cpW M 7 110) 27 1 0) 0 7 0) V f) := by
  refine CT.of m7_back_V.1 _ (en_ai_2 0 1) ?_
  refine ac_iload_n 1 dX7_back_0 rfl rfl ?_
  refine ac_if_lt 9 4 dX7_back_1 (by decide) rfl (fun c_1 => absurd c_1 (by decide)) (fun _ => ?_)
  refine ac_iload_n 5 dX7_back_4 rfl rfl ?_
  refine ac_iconst 6 2 dX7_back_5 rfl (by decide) ?_
  refine ac_icmp_lt 11 9 dX7_back_6 (by decide) rfl (fun _ => ?_) (fun c_6 => absurd (by decide) c_6)
  refine ac_aload_n 12 dX7_back_11 rfl rfl ?_
  refine ac_getO 15 120 dX7_back_12 rfl fl7_70 ob0 rfl ?_
  refine ac_iload_n 16 dX7_back_15 rfl rfl ?_
  refine ac_zald 17 dX7_back_16 rfl ar120 (ix_nI (k := 1) (by decide) (by decide)) ?_
  refine ac_if_ne 23 20 dX7_back_17 (by decide) rfl (fun _ => ?_) (fun c_17 => absurd c_17 (by rw [hk]; decide))
  refine ac_aload_n 24 dX7_back_23 rfl rfl ?_
  refine ac_getO 27 7 dX7_back_24 rfl fl7_27 ob0 rfl ?_
  refine ac_aload_n 28 dX7_back_27 rfl rfl ?_
  refine ac_getO 31 99 dX7_back_28 rfl fl7_66 ob0 rfl ?_
  refine ac_iload_n 32 dX7_back_31 rfl rfl ?_
  refine ac_aald 33 110 dX7_back_32 rfl ar99 (ix_nI (k := 1) (by decide) (by decide)) rfl ?_
  refine ac_callVm (μ' := m6_copyFrom) 36 dX7_back_33 rfl lk7_81 m6_copyFrom_V ob7 c6_cp_7_110 rfl rfl (by decide) (Nat.le_of_ble_eq_true rfl) ?_
  refine ac_aload_n 37 dX7_back_36 rfl rfl ?_
  refine ac_getO 40 27 dX7_back_37 rfl fl7_37 ob0 rfl ?_
  refine ac_iconst 41 0 dX7_back_40 rfl (by decide) ?_
  refine ac_putI 44 dX7_back_41 rfl fl7_130 rfl rfl ob27 ?_
  refine ac_aload_n 45 dX7_back_44 rfl rfl ?_
  refine ac_iconst 46 0 dX7_back_45 rfl (by decide) ?_
  refine ac_putI 49 dX7_back_46 rfl fl7_48 rfl rfl ob0 ?_
  refine ac_aload_n 50 dX7_back_49 rfl rfl ?_
  refine ac_getO 53 7 dX7_back_50 rfl fl7_27 ob0 rfl ?_
  refine ac_callV (μ' := m6_countUp) 56 dX7_back_53 rfl lk7_205 m6_countUp_V ob7 (c6_countUp (M := (am_up (am_up (cpW M 7 110) 27 1 0) 0 7 0)) ((CW.copy (b := 7) hw).same (fun i hi => by rw [am_up_ne (by omega), am_up_ne (by omega)]))) rfl rfl (by decide) (Nat.le_of_ble_eq_true rfl) ?_
  refine ac_iret dX7_back_56 ⟨_, rfl, rfl⟩ ?_
  exact rm_mk rfl
set_option maxRecDepth 20000 in
theorem q7_typF {M : am_I} {V : am_J} {f : Nat → Option Nat} {x : Int32} (hx : ¬ (0 ≤ x ∧ x ≤ 255)) : CT m7_type 1 [Value.ref 0, Value.int x] M V f (RV (-1) M V f) := by
  refine CT.of m7_type_V.1 _ (en_ai_2 0 x) ?_
  refine ac_iload_n 1 dX7_type_0 rfl rfl ?_
  refine ac_if_lt 11 4 dX7_type_1 (by decide) rfl (fun c_1 => ?_) (fun c_1 => ?_)
  · refine ac_iconst 12 (-1) dX7_type_11 rfl (by decide) ?_
    refine ac_iret dX7_type_12 ⟨_, rfl, rfl⟩ ?_
    exact rv_mk rfl
  · refine ac_iload_n 5 dX7_type_4 rfl rfl ?_
    refine ac_sipush 8 255 dX7_type_5 rfl (by decide) ?_
    refine ac_icmp_le 13 11 dX7_type_8 (by decide) rfl (fun c_8 => ?_) (fun c_8 => ?_)
    · exact absurd ⟨Int32.not_lt.mp c_1, c_8⟩ hx
    · refine ac_iconst 12 (-1) dX7_type_11 rfl (by decide) ?_
      refine ac_iret dX7_type_12 ⟨_, rfl, rfl⟩ ?_
      exact rv_mk rfl
set_option maxRecDepth 20000 in
theorem q7_typL {M : am_I} {V : am_J} {f : Nat → Option Nat} {x : Int32} (hx : 0 ≤ x ∧ x ≤ 255) (hl : M 0 1 = 120) : CT m7_type 1 [Value.ref 0, Value.int x] M V f (RV (-3) M V f) := by
  refine CT.of m7_type_V.1 _ (en_ai_2 0 x) ?_
  refine ac_iload_n 1 dX7_type_0 rfl rfl ?_
  refine ac_if_lt 11 4 dX7_type_1 (by decide) rfl (fun c_1 => absurd c_1 (Int32.not_lt.mpr hx.1)) (fun _ => ?_)
  refine ac_iload_n 5 dX7_type_4 rfl rfl ?_
  refine ac_sipush 8 255 dX7_type_5 rfl (by decide) ?_
  refine ac_icmp_le 13 11 dX7_type_8 (by decide) rfl (fun _ => ?_) (fun c_8 => absurd hx.2 c_8)
  refine ac_aload_n 14 dX7_type_13 rfl rfl ?_
  refine ac_getI 17 dX7_type_14 rfl fl7_13 ob0 ?_
  rw [show (M 0 1) = 120 from hl]
  refine ac_bipush 19 120 dX7_type_17 rfl (by decide) ?_
  refine ac_icmp_lt 25 22 dX7_type_19 (by decide) rfl (fun c_19 => absurd c_19 (by decide)) (fun _ => ?_)
  refine ac_bipush 24 (-3) dX7_type_22 rfl (by decide) ?_
  refine ac_iret dX7_type_24 ⟨_, rfl, rfl⟩ ?_
  exact rv_mk rfl
set_option maxRecDepth 20000 in
theorem q7_typ {M : am_I} {V : am_J} {f : Nat → Option Nat} {x : Int32} {nl : Nat} (hx : 0 ≤ x ∧ x ≤ 255) (hl : M 0 1 = nI nl) (hn : nl < 120) : CT m7_type 1 [Value.ref 0, Value.int x] M V f (RM (some (.int (nI (nl + 1)))) (am_up (am_up M 1 nl x) 0 1 (nI (nl + 1))) V f) := by
  refine CT.of m7_type_V.1 _ (en_ai_2 0 x) ?_
  refine ac_iload_n 1 dX7_type_0 rfl rfl ?_
  refine ac_if_lt 11 4 dX7_type_1 (by decide) rfl (fun c_1 => absurd c_1 (Int32.not_lt.mpr hx.1)) (fun _ => ?_)
  refine ac_iload_n 5 dX7_type_4 rfl rfl ?_
  refine ac_sipush 8 255 dX7_type_5 rfl (by decide) ?_
  refine ac_icmp_le 13 11 dX7_type_8 (by decide) rfl (fun _ => ?_) (fun c_8 => absurd hx.2 c_8)
  refine ac_aload_n 14 dX7_type_13 rfl rfl ?_
  refine ac_getI 17 dX7_type_14 rfl fl7_13 ob0 ?_
  rw [show (M 0 1) = (nI nl) from hl]
  refine ac_bipush 19 120 dX7_type_17 rfl (by decide) ?_
  refine ac_icmp_lt 25 22 dX7_type_19 (by decide) rfl (fun _ => ?_) (fun c_19 => absurd (nI_lt (b := 120) hn (by decide)) c_19)
  refine ac_aload_n 26 dX7_type_25 rfl rfl ?_
  refine ac_getO 29 1 dX7_type_26 rfl fl7_9 ob0 rfl ?_
  refine ac_aload_n 30 dX7_type_29 rfl rfl ?_
  refine ac_getI 33 dX7_type_30 rfl fl7_13 ob0 ?_
  rw [show (M 0 1) = (nI nl) from hl]
  refine ac_iload_n 34 dX7_type_33 rfl rfl ?_
  refine ac_iast 35 dX7_type_34 rfl ar1 (ix_nI (by omega) (by decide)) ?_
  refine ac_aload_n 36 dX7_type_35 rfl rfl ?_
  refine ac_dup 37 dX7_type_36 rfl rfl ?_
  refine ac_getI 40 dX7_type_37 rfl fl7_13 ob0 ?_
  rw [show ((am_up M 1 nl x) 0 1) = (M 0 1) from rfl]
  rw [show (M 0 1) = (nI nl) from hl]
  refine ac_iconst 41 1 dX7_type_40 rfl (by decide) ?_
  refine ac_iadd 42 dX7_type_41 rfl ?_
  rw [show ((nI nl) + 1) = (nI (nl + 1)) from (nI_1 nl)]
  refine ac_putI 45 dX7_type_42 rfl fl7_13 rfl rfl ob0 ?_
  refine ac_aload_n 46 dX7_type_45 rfl rfl ?_
  refine ac_getI 49 dX7_type_46 rfl fl7_13 ob0 ?_
  rw [show ((am_up (am_up M 1 nl x) 0 1 (nI (nl + 1))) 0 1) = (nI (nl + 1)) from rfl]
  refine ac_iret dX7_type_49 ⟨_, rfl, rfl⟩ ?_
  exact rm_mk rfl
set_option maxRecDepth 20000 in
theorem q7_clear {M : am_I} {V : am_J} {f : Nat → Option Nat}  : CT m7_clear 1 [Value.ref 0] M V f (RM (some (.int (M 0 1))) (am_up M 0 1 0) V f) := by
  refine CT.of m7_clear_V.1 _ (en_a_2 0) ?_
  refine ac_aload_n 1 dX7_clear_0 rfl rfl ?_
  refine ac_getI 4 dX7_clear_1 rfl fl7_13 ob0 ?_
  refine ac_istore_n 5 [some (Value.ref 0), some (Value.int (M 0 1))] dX7_clear_4 rfl rfl (Nat.le_of_ble_eq_true rfl) (by decide) rfl ?_
  refine ac_aload_n 6 dX7_clear_5 rfl rfl ?_
  refine ac_iconst 7 0 dX7_clear_6 rfl (by decide) ?_
  refine ac_putI 10 dX7_clear_7 rfl fl7_13 rfl rfl ob0 ?_
  refine ac_iload_n 11 dX7_clear_10 rfl rfl ?_
  refine ac_iret dX7_clear_11 ⟨_, rfl, rfl⟩ ?_
  exact rm_mk rfl
set_option maxRecDepth 20000 in
theorem q7_seeF {M : am_I} {V : am_J} {f : Nat → Option Nat} {a n : Int32} (ha : ¬ (0 ≤ a ∧ a ≤ 3)) : CT m7_sees 2 [Value.ref 0, Value.int a, Value.int n] M V f (RV (-1) M V f) := by
  refine CT.of m7_sees_V.1 _ (en_aii_3 0 a n) ?_
  refine ac_iload_n 1 dX7_sees_0 rfl rfl ?_
  refine ac_if_lt 21 4 dX7_sees_1 (by decide) rfl (fun c_1 => ?_) (fun c_1 => ?_)
  · refine ac_iconst 22 (-1) dX7_sees_21 rfl (by decide) ?_
    refine ac_iret dX7_sees_22 ⟨_, rfl, rfl⟩ ?_
    exact rv_mk rfl
  · refine ac_iload_n 5 dX7_sees_4 rfl rfl ?_
    refine ac_iconst 6 3 dX7_sees_5 rfl (by decide) ?_
    refine ac_icmp_gt 21 9 dX7_sees_6 (by decide) rfl (fun c_6 => ?_) (fun c_6 => ?_)
    · refine ac_iconst 22 (-1) dX7_sees_21 rfl (by decide) ?_
      refine ac_iret dX7_sees_22 ⟨_, rfl, rfl⟩ ?_
      exact rv_mk rfl
    · exact absurd ⟨Int32.not_lt.mp c_1, Int32.not_lt.mp c_6⟩ ha
set_option maxRecDepth 20000 in
theorem q7_seeG {M : am_I} {V : am_J} {f : Nat → Option Nat} {a n : Int32} (ha : 0 ≤ a ∧ a ≤ 3) (hb : ¬ (-99 ≤ n ∧ n ≤ 99)) : CT m7_sees 2 [Value.ref 0, Value.int a, Value.int n] M V f (RV (-1) M V f) := by
  refine CT.of m7_sees_V.1 _ (en_aii_3 0 a n) ?_
  refine ac_iload_n 1 dX7_sees_0 rfl rfl ?_
  refine ac_if_lt 21 4 dX7_sees_1 (by decide) rfl (fun c_1 => absurd c_1 (Int32.not_lt.mpr ha.1)) (fun _ => ?_)
  refine ac_iload_n 5 dX7_sees_4 rfl rfl ?_
  refine ac_iconst 6 3 dX7_sees_5 rfl (by decide) ?_
  refine ac_icmp_gt 21 9 dX7_sees_6 (by decide) rfl (fun c_6 => absurd c_6 (Int32.not_lt.mpr ha.2)) (fun _ => ?_)
  refine ac_iload_n 10 dX7_sees_9 rfl rfl ?_
  refine ac_bipush 12 (-99) dX7_sees_10 rfl (by decide) ?_
  refine ac_icmp_lt 21 15 dX7_sees_12 (by decide) rfl (fun c_12 => ?_) (fun c_12 => ?_)
  · refine ac_iconst 22 (-1) dX7_sees_21 rfl (by decide) ?_
    refine ac_iret dX7_sees_22 ⟨_, rfl, rfl⟩ ?_
    exact rv_mk rfl
  · refine ac_iload_n 16 dX7_sees_15 rfl rfl ?_
    refine ac_bipush 18 99 dX7_sees_16 rfl (by decide) ?_
    refine ac_icmp_le 23 21 dX7_sees_18 (by decide) rfl (fun c_18 => ?_) (fun c_18 => ?_)
    · exact absurd ⟨Int32.not_lt.mp c_12, c_18⟩ hb
    · refine ac_iconst 22 (-1) dX7_sees_21 rfl (by decide) ?_
      refine ac_iret dX7_sees_22 ⟨_, rfl, rfl⟩ ?_
      exact rv_mk rfl
set_option maxRecDepth 20000 in
theorem q7_seeL {M : am_I} {V : am_J} {f : Nat → Option Nat} {a n : Int32} (ha : 0 ≤ a ∧ a ≤ 3) (hb : -99 ≤ n ∧ n ≤ 99) (hl : M 96 2 = 6) : CT m7_sees 2 [Value.ref 0, Value.int a, Value.int n] M V f (RV (-3) M V f) := by
  refine CT.of m7_sees_V.1 _ (en_aii_3 0 a n) ?_
  refine ac_iload_n 1 dX7_sees_0 rfl rfl ?_
  refine ac_if_lt 21 4 dX7_sees_1 (by decide) rfl (fun c_1 => absurd c_1 (Int32.not_lt.mpr ha.1)) (fun _ => ?_)
  refine ac_iload_n 5 dX7_sees_4 rfl rfl ?_
  refine ac_iconst 6 3 dX7_sees_5 rfl (by decide) ?_
  refine ac_icmp_gt 21 9 dX7_sees_6 (by decide) rfl (fun c_6 => absurd c_6 (Int32.not_lt.mpr ha.2)) (fun _ => ?_)
  refine ac_iload_n 10 dX7_sees_9 rfl rfl ?_
  refine ac_bipush 12 (-99) dX7_sees_10 rfl (by decide) ?_
  refine ac_icmp_lt 21 15 dX7_sees_12 (by decide) rfl (fun c_12 => absurd c_12 (Int32.not_lt.mpr hb.1)) (fun _ => ?_)
  refine ac_iload_n 16 dX7_sees_15 rfl rfl ?_
  refine ac_bipush 18 99 dX7_sees_16 rfl (by decide) ?_
  refine ac_icmp_le 23 21 dX7_sees_18 (by decide) rfl (fun _ => ?_) (fun c_18 => absurd hb.2 c_18)
  refine ac_aload_n 24 dX7_sees_23 rfl rfl ?_
  refine ac_getO 27 96 dX7_sees_24 rfl fl7_62 ob0 rfl ?_
  refine ac_getI 30 dX7_sees_27 rfl fl7_193 ob96 ?_
  rw [show (M 96 2) = 6 from hl]
  refine ac_bipush 32 6 dX7_sees_30 rfl (by decide) ?_
  refine ac_icmp_lt 38 35 dX7_sees_32 (by decide) rfl (fun c_32 => absurd c_32 (by decide)) (fun _ => ?_)
  refine ac_bipush 37 (-3) dX7_sees_35 rfl (by decide) ?_
  refine ac_iret dX7_sees_37 ⟨_, rfl, rfl⟩ ?_
  exact rv_mk rfl
set_option maxRecDepth 20000 in
theorem c4_add {M : am_I} {V : am_J} {f : Nat → Option Nat} {ns : Nat} (hl : M 96 2 = nI ns) (hn : ns < 6) (a n : Int32) : CT m4_add 1 [Value.ref 96, Value.int a, Value.int n] M V f (RM none (am_up (am_up (am_up M 97 ns a) 98 ns n) 96 2 (nI (ns + 1))) V f) := by
  refine CT.of m4_add_V.1 _ (en_aii_3 96 a n) ?_
  refine ac_aload_n 1 dX4_add_0 rfl rfl ?_
  refine ac_getI 4 dX4_add_1 rfl fl4_18 ob96 ?_
  rw [show (M 96 2) = (nI ns) from hl]
  refine ac_bipush 6 6 dX4_add_4 rfl (by decide) ?_
  refine ac_icmp_ge 39 9 dX4_add_6 (by decide) rfl (fun c_6 => absurd c_6 (nI_ge (b := 6) hn (by decide))) (fun _ => ?_)
  refine ac_aload_n 10 dX4_add_9 rfl rfl ?_
  refine ac_getO 13 97 dX4_add_10 rfl fl4_9 ob96 rfl ?_
  refine ac_aload_n 14 dX4_add_13 rfl rfl ?_
  refine ac_getI 17 dX4_add_14 rfl fl4_18 ob96 ?_
  rw [show (M 96 2) = (nI ns) from hl]
  refine ac_iload_n 18 dX4_add_17 rfl rfl ?_
  refine ac_iast 19 dX4_add_18 rfl ar97 (ix_nI (by omega) (by decide)) ?_
  refine ac_aload_n 20 dX4_add_19 rfl rfl ?_
  refine ac_getO 23 98 dX4_add_20 rfl fl4_15 ob96 rfl ?_
  refine ac_aload_n 24 dX4_add_23 rfl rfl ?_
  refine ac_getI 27 dX4_add_24 rfl fl4_18 ob96 ?_
  rw [show ((am_up M 97 ns a) 96 2) = (M 96 2) from rfl]
  rw [show (M 96 2) = (nI ns) from hl]
  refine ac_iload_n 28 dX4_add_27 rfl rfl ?_
  refine ac_iast 29 dX4_add_28 rfl ar98 (ix_nI (by omega) (by decide)) ?_
  refine ac_aload_n 30 dX4_add_29 rfl rfl ?_
  refine ac_dup 31 dX4_add_30 rfl rfl ?_
  refine ac_getI 34 dX4_add_31 rfl fl4_18 ob96 ?_
  rw [show ((am_up (am_up M 97 ns a) 98 ns n) 96 2) = (M 96 2) from rfl]
  rw [show (M 96 2) = (nI ns) from hl]
  refine ac_iconst 35 1 dX4_add_34 rfl (by decide) ?_
  refine ac_iadd 36 dX4_add_35 rfl ?_
  rw [show ((nI ns) + 1) = (nI (ns + 1)) from (nI_1 ns)]
  refine ac_putI 39 dX4_add_36 rfl fl4_18 rfl rfl ob96 ?_
  refine ac_vret dX4_add_39 rfl ?_
  exact rm_mk rfl
set_option maxRecDepth 20000 in
theorem q7_see {M : am_I} {V : am_J} {f : Nat → Option Nat} {a n : Int32} (ha : 0 ≤ a ∧ a ≤ 3) (hb : -99 ≤ n ∧ n ≤ 99) {ns : Nat} (hl : M 96 2 = nI ns) (hn : ns < 6) : CT m7_sees 2 [Value.ref 0, Value.int a, Value.int n] M V f (RM (some (.int (nI (ns + 1)))) (am_up (am_up (am_up M 97 ns a) 98 ns n) 96 2 (nI (ns + 1))) V f) := by
  refine CT.of m7_sees_V.1 _ (en_aii_3 0 a n) ?_
  refine ac_iload_n 1 dX7_sees_0 rfl rfl ?_
  refine ac_if_lt 21 4 dX7_sees_1 (by decide) rfl (fun c_1 => absurd c_1 (Int32.not_lt.mpr ha.1)) (fun _ => ?_)
  refine ac_iload_n 5 dX7_sees_4 rfl rfl ?_
  refine ac_iconst 6 3 dX7_sees_5 rfl (by decide) ?_
  refine ac_icmp_gt 21 9 dX7_sees_6 (by decide) rfl (fun c_6 => absurd c_6 (Int32.not_lt.mpr ha.2)) (fun _ => ?_)
  refine ac_iload_n 10 dX7_sees_9 rfl rfl ?_
  refine ac_bipush 12 (-99) dX7_sees_10 rfl (by decide) ?_
  refine ac_icmp_lt 21 15 dX7_sees_12 (by decide) rfl (fun c_12 => absurd c_12 (Int32.not_lt.mpr hb.1)) (fun _ => ?_)
  refine ac_iload_n 16 dX7_sees_15 rfl rfl ?_
  refine ac_bipush 18 99 dX7_sees_16 rfl (by decide) ?_
  refine ac_icmp_le 23 21 dX7_sees_18 (by decide) rfl (fun _ => ?_) (fun c_18 => absurd hb.2 c_18)
  refine ac_aload_n 24 dX7_sees_23 rfl rfl ?_
  refine ac_getO 27 96 dX7_sees_24 rfl fl7_62 ob0 rfl ?_
  refine ac_getI 30 dX7_sees_27 rfl fl7_193 ob96 ?_
  rw [show (M 96 2) = (nI ns) from hl]
  refine ac_bipush 32 6 dX7_sees_30 rfl (by decide) ?_
  refine ac_icmp_lt 38 35 dX7_sees_32 (by decide) rfl (fun _ => ?_) (fun c_32 => absurd (nI_lt (b := 6) hn (by decide)) c_32)
  refine ac_aload_n 39 dX7_sees_38 rfl rfl ?_
  refine ac_getO 42 96 dX7_sees_39 rfl fl7_62 ob0 rfl ?_
  refine ac_iload_n 43 dX7_sees_42 rfl rfl ?_
  refine ac_iload_n 44 dX7_sees_43 rfl rfl ?_
  refine ac_callVm (μ' := m4_add) 47 dX7_sees_44 rfl lk7_196 m4_add_V ob96 (c4_add hl hn _ _) rfl rfl (by decide) (Nat.le_of_ble_eq_true rfl) ?_
  refine ac_aload_n 48 dX7_sees_47 rfl rfl ?_
  refine ac_getO 51 96 dX7_sees_48 rfl fl7_62 ob0 rfl ?_
  refine ac_getI 54 dX7_sees_51 rfl fl7_193 ob96 ?_
  rw [show ((am_up (am_up (am_up M 97 ns a) 98 ns n) 96 2 (nI (ns + 1))) 96 2) = (nI (ns + 1)) from rfl]
  refine ac_iret dX7_sees_54 ⟨_, rfl, rfl⟩ ?_
  exact rm_mk rfl
set_option maxRecDepth 20000 in
theorem q7_forget {M : am_I} {V : am_J} {f : Nat → Option Nat}  : CT m7_forget 1 [Value.ref 0] M V f (RM (some (.int (M 96 2))) (am_up M 96 2 0) V f) := by
  refine CT.of m7_forget_V.1 _ (en_a_2 0) ?_
  refine ac_aload_n 1 dX7_forget_0 rfl rfl ?_
  refine ac_getO 4 96 dX7_forget_1 rfl fl7_62 ob0 rfl ?_
  refine ac_getI 7 dX7_forget_4 rfl fl7_193 ob96 ?_
  refine ac_istore_n 8 [some (Value.ref 0), some (Value.int (M 96 2))] dX7_forget_7 rfl rfl (Nat.le_of_ble_eq_true rfl) (by decide) rfl ?_
  refine ac_aload_n 9 dX7_forget_8 rfl rfl ?_
  refine ac_getO 12 96 dX7_forget_9 rfl fl7_62 ob0 rfl ?_
  refine ac_iconst 13 0 dX7_forget_12 rfl (by decide) ?_
  refine ac_putI 16 dX7_forget_13 rfl fl7_193 rfl rfl ob96 ?_
  refine ac_iload_n 17 dX7_forget_16 rfl rfl ?_
  refine ac_iret dX7_forget_17 ⟨_, rfl, rfl⟩ ?_
  exact rm_mk rfl
