/-! The best row: gaps, the search, the answer. -/
def KD (M M' : am_I) : Prop := (∀ i, i ≠ 89 → i ≠ 92 → i ≠ 93 → M' i = M i) ∧ ∀ k, k < 9 → k ≠ 4 → k ≠ 5 → M' 89 k = M 89 k
theorem KD.refl (M : am_I) : KD M M := ⟨fun _ _ _ _ => rfl, fun _ _ _ _ => rfl⟩
theorem ps_up {y : cd} {g x K : Nat} (h : psC y < g * 262144 + x * 4096 + K) (h3 : K ≤ 3125) : psC y < g * 262144 + (x + 1) * 4096 := by
  rw [show (x + 1) * 4096 = x * 4096 + 4096 from Nat.succ_mul x 4096]
  have h9 : ∀ G X : Nat, psC y < G + X + K → psC y < G + (X + 4096) := fun G X q => by omega
  exact h9 _ _ h
theorem ps_q {p q g x : Nat} (h : p * 262144 + q * 4096 < g * 262144 + (x + 1) * 4096) : p * 262144 + q * 4096 ≤ g * 262144 + x * 4096 := by
  have e : ∀ a b : Nat, a * 262144 + b * 4096 = (a * 64 + b) * 4096 := fun a b => by rw [Nat.add_mul, Nat.mul_assoc]
  rw [e, e] at h ⊢
  have h1 := Nat.lt_of_mul_lt_mul_right h
  exact Nat.mul_le_mul_right _ (by omega)
theorem ps_dn {y : cd} {g x K : Nat} (h : psC y < g * 262144 + (x + 1) * 4096) (z3 : y.2.2 < K) : psC y < g * 262144 + x * 4096 + K := by
  unfold psC at h ⊢
  exact Nat.add_lt_add_of_le_of_lt (ps_q (Nat.lt_of_le_of_lt (Nat.le_add_right _ _) h)) z3
def KS (M M' : am_I) : Prop := ∀ i, i ≠ 89 → i ≠ 92 → i ≠ 93 → M' i = M i
set_option maxRecDepth 20000 in
theorem c3_gaps {M : am_I} {V : am_J} {f : Nat → Option Nat} {w : rN} {np nd nh gp W : Nat} {wd : Nat → Nat} (hw : CW M 7 w np nd nh) (hwd : WD w np wd gp) (hwg : WG w np) (hW : w 0 = nI W) (hW9 : W ≤ 40) (hMD : ∀ p, p < np → MD (V 90 p) W (FB w nd p) ∧ MD (V 91 p) W (fun x => FB w nd p x ∧ HB w nh p x)) (h0 : 0 < np) (h6 : M 89 6 = nI np) (h7 : M 89 7 = nI (smB (eN w nd nh W) np)) (h8 : M 89 8 = loP w np) (h9 : M 89 9 = 0) : CT m3_tryAllGaps 10 [Value.ref 89, Value.ref 7, Value.int (nI W - nI (smB wd np))] M V f (fun v M' V' f' => v = none ∧ V' = V ∧ f' = f ∧ KD M M' ∧ ∃ r, RBc wd (HB w nh) (LB w) np M' r ∧ BestB wd (FB w nd) (HB w nh) (LB w) np gp r) := by
  have hnp := hw.n5
  have h3125 := npp np hnp
  have hgp := hwd.2.2
  have hs9 := smB_9 (wd := wd) np (fun p hp => (hwd.1 p hp).2.2)
  have hs1 := smB_ge1 (wd := wd) np h0 (fun p hp => (hwd.1 p hp).2.1)
  have hel := smB_el (w := w) (nd := nd) (nh := nh) (W := W) np
  refine CT.of m3_tryAllGaps_V.1 _ (en_aai_5 89 7 (nI W - nI (smB wd np))) ?_
  refine ac_aload_n 1 dX3_tryAllGaps_0 rfl rfl ?_
  refine ac_getI 4 dX3_tryAllGaps_1 rfl fl3_88 ob7 ?_
  rw [show (M 7 2) = (nI gp) from (hw.s2.trans hwd.2.1)]
  refine ac_istore_n 5 [some (Value.ref 89), some (Value.ref 7), some (Value.int (nI W - nI (smB wd np))), some (Value.int (nI gp)), none] dX3_tryAllGaps_4 rfl rfl (Nat.le_of_ble_eq_true rfl) (by decide) rfl ?_
  refine ac_down (n := 21) (P := fun g => ∀ (Mq : am_I), (KD M Mq ∧ gp ≤ g ∧ ∃ r, RBc wd (HB w nh) (LB w) np Mq r ∧ IsB (VLB wd (FB w nd) np gp) (bB wd (HB w nh) np) (oB wd (LB w) np) (fun y => psC y < g * 262144) r) → A0 m3_tryAllGaps 10 5 [some (Value.ref 89), some (Value.ref 7), some (Value.int (nI W - nI (smB wd np))), some (Value.int (nI g)), none] [] Mq V f (fun v M' V' f' => v = none ∧ V' = V ∧ f' = f ∧ KD M M' ∧ ∃ r, RBc wd (HB w nh) (LB w) np M' r ∧ BestB wd (FB w nd) (HB w nh) (LB w) np gp r)) ?_ ?_ gp (by omega) M ⟨KD.refl M, Nat.le_refl _, none, ⟨fun _ => h9, fun y h => by (cases h)⟩, fun y z hy => by
    have z1 : psC y < gp * 262144 := z
    have z2 := hy.1
    unfold psC at z1
    omega⟩
  · intro Mq hpr
    obtain ⟨q1, q6, r3, q3, q4⟩ := hpr
    refine ac_iload_n 6 dX3_tryAllGaps_5 rfl rfl ?_
    refine ac_bipush 8 20 dX3_tryAllGaps_6 rfl (by decide) ?_
    refine ac_icmp_gt 93 11 dX3_tryAllGaps_8 (by decide) rfl (fun _ => ?_) (fun c_8 => absurd (by decide) c_8)
    refine ac_vret dX3_tryAllGaps_93 rfl ?_
    exact ⟨rfl, rfl, rfl, q1, r3, q3, IsB_all q4 (fun y hy => by
      have z1 := hy.2.1
      have z2 : y.2.1 < 40 := (hy.2.2.2.2 0 h0).1
      have z3 := hy.2.2.1
      show psC y < _
      unfold psC
      omega)⟩
  · intro g hg ih Mq hpr
    obtain ⟨q1, q6, r3, q3, q4⟩ := hpr
    have ih3 := ih
    have hgm : g * (np - 1) ≤ 20 * 4 := Nat.mul_le_mul (by omega) (by omega)
    refine ac_iload_n 6 dX3_tryAllGaps_5 rfl rfl ?_
    refine ac_bipush 8 20 dX3_tryAllGaps_6 rfl (by decide) ?_
    refine ac_icmp_gt 93 11 dX3_tryAllGaps_8 (by decide) rfl (fun c_8 => absurd c_8 (nI_nlt (a := 20) (by omega) (by decide))) (fun _ => ?_)
    refine ac_iconst 12 0 dX3_tryAllGaps_11 rfl (by decide) ?_
    refine ac_istore 14 [some (Value.ref 89), some (Value.ref 7), some (Value.int (nI W - nI (smB wd np))), some (Value.int (nI g)), some (Value.int 0)] dX3_tryAllGaps_12 rfl rfl (Nat.le_of_ble_eq_true rfl) (by decide) rfl ?_
    refine ac_down (n := (W + 1 - (smB wd np + g * (np - 1)))) (P := fun x => ∀ (Mr : am_I), (KD M Mr ∧ ∃ r, RBc wd (HB w nh) (LB w) np Mr r ∧ IsB (VLB wd (FB w nd) np gp) (bB wd (HB w nh) np) (oB wd (LB w) np) (fun y => psC y < g * 262144 + x * 4096) r) → A0 m3_tryAllGaps 10 14 [some (Value.ref 89), some (Value.ref 7), some (Value.int (nI W - nI (smB wd np))), some (Value.int (nI g)), some (Value.int (nI x))] [] Mr V f (fun v M' V' f' => v = none ∧ V' = V ∧ f' = f ∧ KD M M' ∧ ∃ r, RBc wd (HB w nh) (LB w) np M' r ∧ BestB wd (FB w nd) (HB w nh) (LB w) np gp r)) ?_ ?_ 0 (Nat.zero_le _) Mq ⟨q1, r3, q3, by rw [Nat.zero_mul, Nat.add_zero]; exact q4⟩
    · intro Mr hpr
      obtain ⟨u1, r4, u3, u4⟩ := hpr
      have h61 : Mr 89 6 = nI np := (u1.2 6 (by decide) (by decide) (by decide)).trans h6
      refine ac_iload 16 dX3_tryAllGaps_14 rfl rfl ?_
      refine ac_iload_n 17 dX3_tryAllGaps_16 rfl rfl ?_
      refine ac_iload_n 18 dX3_tryAllGaps_17 rfl rfl ?_
      refine ac_aload_n 19 dX3_tryAllGaps_18 rfl rfl ?_
      refine ac_getI 22 dX3_tryAllGaps_19 rfl fl3_46 ob89 ?_
      rw [show (Mr 89 6) = (nI np) from h61]
      refine ac_iconst 23 1 dX3_tryAllGaps_22 rfl (by decide) ?_
      refine ac_isub 24 dX3_tryAllGaps_23 rfl ?_
      rw [show ((nI np) - 1) = (nI (np - 1)) from (nI_sub1 h0)]
      refine ac_imul 25 dX3_tryAllGaps_24 rfl ?_
      rw [show ((nI g) * (nI (np - 1))) = (nI (g * (np - 1))) from (pk_mul _ _)]
      refine ac_isub 26 dX3_tryAllGaps_25 rfl ?_
      rw [show ((nI W - nI (smB wd np)) - (nI (g * (np - 1)))) = (nI W - nI (smB wd np + g * (np - 1))) from (sub_nn (by omega) (by omega) (by omega))]
      refine ac_icmp_gt 87 29 dX3_tryAllGaps_26 (by decide) rfl (fun _ => ?_) (fun c_26 => absurd ((gt_ok (by omega) (by omega) (by omega)).mpr (by omega)) c_26)
      refine ac_iinc 90 (nI (g + 1)) [some (Value.ref 89), some (Value.ref 7), some (Value.int (nI W - nI (smB wd np))), some (Value.int (nI (g + 1))), some (Value.int (nI (W + 1 - (smB wd np + g * (np - 1)))))] dX3_tryAllGaps_87 rfl rfl (nI_1 _) rfl (by decide) rfl ?_
      refine ac_goto 5 dX3_tryAllGaps_90 (by decide) ?_
      refine ac_kill 4 [some (Value.ref 89), some (Value.ref 7), some (Value.int (nI W - nI (smB wd np))), some (Value.int (nI (g + 1))), none] rfl ?_
      exact ih3 _ ⟨u1, by omega, r4, u3, IsB_more u4 (fun y z => by
        have z1 : psC y < _ := z
        show psC y < _
        omega) (fun y z hy => by
        have z1 : psC y < (g + 1) * 262144 := z
        have z2 : y.2.1 < 40 := (hy.2.2.2.2 0 h0).1
        have z3 := hy.2.2.1
        have z4 := row_end hy hwd hW hW9
        show psC y < _
        by_cases hyg : y.1 = g
        · rw [hyg] at z4
          unfold psC
          rw [hyg]
          omega
        · unfold psC at z1 ⊢
          omega)⟩
    · intro x hx ih Mr hpr
      obtain ⟨u1, r4, u3, u4⟩ := hpr
      have h61 : Mr 89 6 = nI np := (u1.2 6 (by decide) (by decide) (by decide)).trans h6
      have h71 : Mr 89 7 = nI (smB (eN w nd nh W) np) := (u1.2 7 (by decide) (by decide) (by decide)).trans h7
      have h81 : Mr 89 8 = loP w np := (u1.2 8 (by decide) (by decide) (by decide)).trans h8
      have hwU : CW (am_up (am_up Mr 89 4 (nI g)) 89 5 (nI x)) 7 w np nd nh := hw.same (fun i hi => by rw [am_up_ne (by omega), am_up_ne (by omega)]; exact u1.1 (7 + i) (by omega) (by omega) (by omega))
      refine ac_iload 16 dX3_tryAllGaps_14 rfl rfl ?_
      refine ac_iload_n 17 dX3_tryAllGaps_16 rfl rfl ?_
      refine ac_iload_n 18 dX3_tryAllGaps_17 rfl rfl ?_
      refine ac_aload_n 19 dX3_tryAllGaps_18 rfl rfl ?_
      refine ac_getI 22 dX3_tryAllGaps_19 rfl fl3_46 ob89 ?_
      rw [show (Mr 89 6) = (nI np) from h61]
      refine ac_iconst 23 1 dX3_tryAllGaps_22 rfl (by decide) ?_
      refine ac_isub 24 dX3_tryAllGaps_23 rfl ?_
      rw [show ((nI np) - 1) = (nI (np - 1)) from (nI_sub1 h0)]
      refine ac_imul 25 dX3_tryAllGaps_24 rfl ?_
      rw [show ((nI g) * (nI (np - 1))) = (nI (g * (np - 1))) from (pk_mul _ _)]
      refine ac_isub 26 dX3_tryAllGaps_25 rfl ?_
      rw [show ((nI W - nI (smB wd np)) - (nI (g * (np - 1)))) = (nI W - nI (smB wd np + g * (np - 1))) from (sub_nn (by omega) (by omega) (by omega))]
      refine ac_icmp_gt 87 29 dX3_tryAllGaps_26 (by decide) rfl (fun c_26 => absurd c_26 (fun q => absurd ((gt_ok (by omega) (by omega) (by omega)).mp q) (by omega))) (fun _ => ?_)
      refine ac_aload_n 30 dX3_tryAllGaps_29 rfl rfl ?_
      refine ac_getI 33 dX3_tryAllGaps_30 rfl fl3_25 ob89 ?_
      refine ac_if_eq 59 36 dX3_tryAllGaps_33 (by decide) rfl (fun c_33 => ?_) (fun c_33 => ?_)
      · refine ac_aload_n 60 dX3_tryAllGaps_59 rfl rfl ?_
        refine ac_iload_n 61 dX3_tryAllGaps_60 rfl rfl ?_
        refine ac_putI 64 dX3_tryAllGaps_61 rfl fl3_89 rfl rfl ob89 ?_
        refine ac_aload_n 65 dX3_tryAllGaps_64 rfl rfl ?_
        refine ac_iload 67 dX3_tryAllGaps_65 rfl rfl ?_
        refine ac_putI 70 dX3_tryAllGaps_67 rfl fl3_92 rfl rfl ob89 ?_
        refine ac_aload_n 71 dX3_tryAllGaps_70 rfl rfl ?_
        refine ac_aload_n 72 dX3_tryAllGaps_71 rfl rfl ?_
        refine ac_iconst 73 0 dX3_tryAllGaps_72 rfl (by decide) ?_
        refine ac_iload 75 dX3_tryAllGaps_73 rfl rfl ?_
        refine ac_iconst 76 0 dX3_tryAllGaps_75 rfl (by decide) ?_
        refine ac_iconst 77 0 dX3_tryAllGaps_76 rfl (by decide) ?_
        refine ac_iconst 78 0 dX3_tryAllGaps_77 rfl (by decide) ?_
        refine ac_callSg (μ' := m3_tryOrders) 81 dX3_tryAllGaps_78 rfl lk3_95 m3_tryOrders_S (c3_tO (g := g) (x := x) hwd hW hW9 h0 (by omega) q6 (by omega) hMD np (am_up (am_up Mr 89 4 (nI g)) 89 5 (nI x)) 0 0 0 _ (nI x) 0 0 (Nat.zero_add np) rfl rfl rfl ⟨hwU, Nat.one_pos, fun j hj => absurd hj (Nat.not_lt_zero j), fun i j _ hj => absurd hj (Nat.not_lt_zero j), Nat.two_pow_pos np, fun p => ⟨fun z => absurd z (by rw [Nat.zero_testBit]; decide), fun ⟨k, hk, _⟩ => absurd hk (Nat.not_lt_zero k)⟩, fun k hk => absurd hk (Nat.not_lt_zero k), h61, rfl, rfl, u3.same (fun k hk => by rw [up_ne (by omega), up_ne (by omega)]) (by rw [am_up_ne (by decide), am_up_ne (by decide)])⟩ (by rw [Nat.zero_mul, Nat.add_zero]; exact u4)) rfl rfl (by omega) (Nat.le_of_ble_eq_true rfl) (fun v3 Md V3 f3 h3 => ?_)
        obtain ⟨j1, j2, j3, j4, j5, r5, j6, j7⟩ := h3
        subst j1
        obtain rfl := j2.symm
        obtain rfl := j3.symm
        rw [Nat.zero_add, Nat.one_mul] at j7
        refine ac_iinc 84 (nI (x + 1)) [some (Value.ref 89), some (Value.ref 7), some (Value.int (nI W - nI (smB wd np))), some (Value.int (nI g)), some (Value.int (nI (x + 1)))] dX3_tryAllGaps_81 rfl rfl (nI_1 _) rfl (by decide) rfl ?_
        refine ac_goto 14 dX3_tryAllGaps_84 (by decide) ?_
        exact ih _ ⟨⟨fun i a1 a2 a3 => by rw [j4.1 i a1 a2 a3, am_up_ne a1, am_up_ne a1]; exact u1.1 i a1 a2 a3, fun k k1 k2 k3 => by rw [j4.2 k k1, up_ne k3, up_ne k2]; exact u1.2 k k1 k2 k3⟩, r5, j6, IsB_more j7 (fun y z => ps_up z h3125) (fun y z hy => ps_dn z hy.2.2.1)⟩
      · obtain ⟨y0, hr, e0, e1, e2, e3, e4⟩ := RBc_s u3 c_33
        subst hr
        have b4 : (bB wd (HB w nh) np) y0 ≤ np := bkB_le np
        refine ac_aload_n 37 dX3_tryAllGaps_36 rfl rfl ?_
        refine ac_getI 40 dX3_tryAllGaps_37 rfl fl3_29 ob89 ?_
        rw [show (Mr 89 10) = (nI ((bB wd (HB w nh) np) y0)) from e0]
        refine ac_aload_n 41 dX3_tryAllGaps_40 rfl rfl ?_
        refine ac_getI 44 dX3_tryAllGaps_41 rfl fl3_54 ob89 ?_
        rw [show (Mr 89 7) = (nI (smB (eN w nd nh W) np)) from h71]
        refine ac_icmp_ne 59 47 dX3_tryAllGaps_44 (by decide) rfl (fun c_44 => ?_) (fun c_44 => ?_)
        · refine ac_aload_n 60 dX3_tryAllGaps_59 rfl rfl ?_
          refine ac_iload_n 61 dX3_tryAllGaps_60 rfl rfl ?_
          refine ac_putI 64 dX3_tryAllGaps_61 rfl fl3_89 rfl rfl ob89 ?_
          refine ac_aload_n 65 dX3_tryAllGaps_64 rfl rfl ?_
          refine ac_iload 67 dX3_tryAllGaps_65 rfl rfl ?_
          refine ac_putI 70 dX3_tryAllGaps_67 rfl fl3_92 rfl rfl ob89 ?_
          refine ac_aload_n 71 dX3_tryAllGaps_70 rfl rfl ?_
          refine ac_aload_n 72 dX3_tryAllGaps_71 rfl rfl ?_
          refine ac_iconst 73 0 dX3_tryAllGaps_72 rfl (by decide) ?_
          refine ac_iload 75 dX3_tryAllGaps_73 rfl rfl ?_
          refine ac_iconst 76 0 dX3_tryAllGaps_75 rfl (by decide) ?_
          refine ac_iconst 77 0 dX3_tryAllGaps_76 rfl (by decide) ?_
          refine ac_iconst 78 0 dX3_tryAllGaps_77 rfl (by decide) ?_
          refine ac_callSg (μ' := m3_tryOrders) 81 dX3_tryAllGaps_78 rfl lk3_95 m3_tryOrders_S (c3_tO (g := g) (x := x) hwd hW hW9 h0 (by omega) q6 (by omega) hMD np (am_up (am_up Mr 89 4 (nI g)) 89 5 (nI x)) 0 0 0 _ (nI x) 0 0 (Nat.zero_add np) rfl rfl rfl ⟨hwU, Nat.one_pos, fun j hj => absurd hj (Nat.not_lt_zero j), fun i j _ hj => absurd hj (Nat.not_lt_zero j), Nat.two_pow_pos np, fun p => ⟨fun z => absurd z (by rw [Nat.zero_testBit]; decide), fun ⟨k, hk, _⟩ => absurd hk (Nat.not_lt_zero k)⟩, fun k hk => absurd hk (Nat.not_lt_zero k), h61, rfl, rfl, u3.same (fun k hk => by rw [up_ne (by omega), up_ne (by omega)]) (by rw [am_up_ne (by decide), am_up_ne (by decide)])⟩ (by rw [Nat.zero_mul, Nat.add_zero]; exact u4)) rfl rfl (by omega) (Nat.le_of_ble_eq_true rfl) (fun v3 Md V3 f3 h3 => ?_)
          obtain ⟨j1, j2, j3, j4, j5, r5, j6, j7⟩ := h3
          subst j1
          obtain rfl := j2.symm
          obtain rfl := j3.symm
          rw [Nat.zero_add, Nat.one_mul] at j7
          refine ac_iinc 84 (nI (x + 1)) [some (Value.ref 89), some (Value.ref 7), some (Value.int (nI W - nI (smB wd np))), some (Value.int (nI g)), some (Value.int (nI (x + 1)))] dX3_tryAllGaps_81 rfl rfl (nI_1 _) rfl (by decide) rfl ?_
          refine ac_goto 14 dX3_tryAllGaps_84 (by decide) ?_
          exact ih _ ⟨⟨fun i a1 a2 a3 => by rw [j4.1 i a1 a2 a3, am_up_ne a1, am_up_ne a1]; exact u1.1 i a1 a2 a3, fun k k1 k2 k3 => by rw [j4.2 k k1, up_ne k3, up_ne k2]; exact u1.2 k k1 k2 k3⟩, r5, j6, IsB_more j7 (fun y z => ps_up z h3125) (fun y z hy => ps_dn z hy.2.2.1)⟩
        · refine ac_aload_n 48 dX3_tryAllGaps_47 rfl rfl ?_
          refine ac_getI 51 dX3_tryAllGaps_48 rfl fl3_33 ob89 ?_
          rw [show (Mr 89 11) = ((oB wd (LB w) np) y0) from e1]
          refine ac_aload_n 52 dX3_tryAllGaps_51 rfl rfl ?_
          refine ac_getI 55 dX3_tryAllGaps_52 rfl fl3_57 ob89 ?_
          rw [show (Mr 89 8) = (loP w np) from h81]
          refine ac_icmp_ne 59 58 dX3_tryAllGaps_55 (by decide) rfl (fun c_55 => ?_) (fun c_55 => ?_)
          · refine ac_aload_n 60 dX3_tryAllGaps_59 rfl rfl ?_
            refine ac_iload_n 61 dX3_tryAllGaps_60 rfl rfl ?_
            refine ac_putI 64 dX3_tryAllGaps_61 rfl fl3_89 rfl rfl ob89 ?_
            refine ac_aload_n 65 dX3_tryAllGaps_64 rfl rfl ?_
            refine ac_iload 67 dX3_tryAllGaps_65 rfl rfl ?_
            refine ac_putI 70 dX3_tryAllGaps_67 rfl fl3_92 rfl rfl ob89 ?_
            refine ac_aload_n 71 dX3_tryAllGaps_70 rfl rfl ?_
            refine ac_aload_n 72 dX3_tryAllGaps_71 rfl rfl ?_
            refine ac_iconst 73 0 dX3_tryAllGaps_72 rfl (by decide) ?_
            refine ac_iload 75 dX3_tryAllGaps_73 rfl rfl ?_
            refine ac_iconst 76 0 dX3_tryAllGaps_75 rfl (by decide) ?_
            refine ac_iconst 77 0 dX3_tryAllGaps_76 rfl (by decide) ?_
            refine ac_iconst 78 0 dX3_tryAllGaps_77 rfl (by decide) ?_
            refine ac_callSg (μ' := m3_tryOrders) 81 dX3_tryAllGaps_78 rfl lk3_95 m3_tryOrders_S (c3_tO (g := g) (x := x) hwd hW hW9 h0 (by omega) q6 (by omega) hMD np (am_up (am_up Mr 89 4 (nI g)) 89 5 (nI x)) 0 0 0 _ (nI x) 0 0 (Nat.zero_add np) rfl rfl rfl ⟨hwU, Nat.one_pos, fun j hj => absurd hj (Nat.not_lt_zero j), fun i j _ hj => absurd hj (Nat.not_lt_zero j), Nat.two_pow_pos np, fun p => ⟨fun z => absurd z (by rw [Nat.zero_testBit]; decide), fun ⟨k, hk, _⟩ => absurd hk (Nat.not_lt_zero k)⟩, fun k hk => absurd hk (Nat.not_lt_zero k), h61, rfl, rfl, u3.same (fun k hk => by rw [up_ne (by omega), up_ne (by omega)]) (by rw [am_up_ne (by decide), am_up_ne (by decide)])⟩ (by rw [Nat.zero_mul, Nat.add_zero]; exact u4)) rfl rfl (by omega) (Nat.le_of_ble_eq_true rfl) (fun v3 Md V3 f3 h3 => ?_)
            obtain ⟨j1, j2, j3, j4, j5, r5, j6, j7⟩ := h3
            subst j1
            obtain rfl := j2.symm
            obtain rfl := j3.symm
            rw [Nat.zero_add, Nat.one_mul] at j7
            refine ac_iinc 84 (nI (x + 1)) [some (Value.ref 89), some (Value.ref 7), some (Value.int (nI W - nI (smB wd np))), some (Value.int (nI g)), some (Value.int (nI (x + 1)))] dX3_tryAllGaps_81 rfl rfl (nI_1 _) rfl (by decide) rfl ?_
            refine ac_goto 14 dX3_tryAllGaps_84 (by decide) ?_
            exact ih _ ⟨⟨fun i a1 a2 a3 => by rw [j4.1 i a1 a2 a3, am_up_ne a1, am_up_ne a1]; exact u1.1 i a1 a2 a3, fun k k1 k2 k3 => by rw [j4.2 k k1, up_ne k3, up_ne k2]; exact u1.2 k k1 k2 k3⟩, r5, j6, IsB_more j7 (fun y z => ps_up z h3125) (fun y z hy => ps_dn z hy.2.2.1)⟩
          · refine ac_vret dX3_tryAllGaps_58 rfl ?_
            exact ⟨rfl, rfl, rfl, u1, some y0, u3, IsB_keep u4 (fun _ _ => trivial) (fun y _ z2 z3 => by
              have d1 : (bB wd (HB w nh) np) y0 = smB (eN w nd nh W) np := (nI_eq (by omega) (by omega)).mp c_44
              have d2 := lb_le (nh := nh) z3 hwd hW hW9
              have d3 := lo_le z3 hwd hwg hW hW9 hnp
              rw [← c_55] at d3
              have d4 : psC y0 < _ := u4.2.1
              have d5 : ¬ psC y < g * 262144 + x * 4096 := z2
              refine ⟨y0, rfl, ?_⟩
              unfold btr
              omega)⟩
set_option maxRecDepth 20000 in
theorem c3_search {M : am_I} {V : am_J} {f : Nat → Option Nat} {w : rN} {np nd nh gp W : Nat} {wd : Nat → Nat} (hw : CW M 7 w np nd nh) (hwd : WD w np wd gp) (hwg : WG w np) (hW : w 0 = nI W) (hW9 : W ≤ 40) : CT m3_search 11 [Value.ref 89, Value.ref 7] M V f (fun v M' V' f' => v = none ∧ f' = f ∧ KS M M' ∧ M' 89 6 = nI np ∧ ∃ r, RBc wd (HB w nh) (LB w) np M' r ∧ BestB wd (FB w nd) (HB w nh) (LB w) np gp r) := by
  have hnp := hw.n5
  refine CT.of m3_search_V.1 _ (en_aa_4 89 7) ?_
  refine ac_aload_n 1 dX3_search_0 rfl rfl ?_
  refine ac_iconst 2 0 dX3_search_1 rfl (by decide) ?_
  refine ac_putI 5 dX3_search_2 rfl fl3_25 rfl rfl ob89 ?_
  refine ac_aload_n 6 dX3_search_5 rfl rfl ?_
  refine ac_aload_n 7 dX3_search_6 rfl rfl ?_
  refine ac_getI 10 dX3_search_7 rfl fl3_49 ob7 ?_
  rw [show ((am_up M 89 9 0) 7 3) = (M 7 3) from rfl]
  rw [show (M 7 3) = (nI np) from hw.s3]
  refine ac_putI 13 dX3_search_10 rfl fl3_46 rfl rfl ob89 ?_
  refine ac_aload_n 14 dX3_search_13 rfl rfl ?_
  refine ac_iconst 15 0 dX3_search_14 rfl (by decide) ?_
  refine ac_putI 18 dX3_search_15 rfl fl3_54 rfl rfl ob89 ?_
  refine ac_aload_n 19 dX3_search_18 rfl rfl ?_
  refine ac_iconst 20 0 dX3_search_19 rfl (by decide) ?_
  refine ac_putI 23 dX3_search_20 rfl fl3_57 rfl rfl ob89 ?_
  refine ac_aload_n 24 dX3_search_23 rfl rfl ?_
  refine ac_getI 27 dX3_search_24 rfl fl3_60 ob7 ?_
  rw [show ((am_up (am_up (am_up (am_up M 89 9 0) 89 6 (nI np)) 89 7 0) 89 8 0) 7 0) = (M 7 0) from rfl]
  rw [show (M 7 0) = (nI W) from (hw.s0.trans hW)]
  refine ac_istore_n 28 [some (Value.ref 89), some (Value.ref 7), some (Value.int (nI W)), none] dX3_search_27 rfl rfl (Nat.le_of_ble_eq_true rfl) (by decide) rfl ?_
  have hL : A0 m3_search 11 30 [some (Value.ref 89), some (Value.ref 7), some (Value.int (nI W - nI (smB wd 0))), some (Value.int (nI 0))] [] (am_up (am_up (am_up (am_up M 89 9 0) 89 6 (nI np)) 89 7 0) 89 8 0) V f (fun v M' V' f' => v = none ∧ f' = f ∧ KS M M' ∧ M' 89 6 = nI np ∧ ∃ r, RBc wd (HB w nh) (LB w) np M' r ∧ BestB wd (FB w nd) (HB w nh) (LB w) np gp r) := by
    refine ac_down (n := np) (P := fun p => ∀ (M1 : am_I) (V1 : am_J), ((∀ i, i ≠ 89 → M1 i = M i) ∧ M1 89 9 = 0 ∧ M1 89 6 = nI np ∧ M1 89 7 = nI (smB (eN w nd nh W) p) ∧ M1 89 8 = loP w p ∧ ∀ q, q < p → MD (V1 90 q) W (FB w nd q) ∧ MD (V1 91 q) W (fun x => FB w nd q x ∧ HB w nh q x)) → A0 m3_search 11 30 [some (Value.ref 89), some (Value.ref 7), some (Value.int (nI W - nI (smB wd p))), some (Value.int (nI p))] [] M1 V1 f (fun v M' V' f' => v = none ∧ f' = f ∧ KS M M' ∧ M' 89 6 = nI np ∧ ∃ r, RBc wd (HB w nh) (LB w) np M' r ∧ BestB wd (FB w nd) (HB w nh) (LB w) np gp r)) ?_ ?_ 0 (Nat.zero_le _) (am_up (am_up (am_up (am_up M 89 9 0) 89 6 (nI np)) 89 7 0) 89 8 0) V ⟨fun i hi => by rw [am_up_ne hi, am_up_ne hi, am_up_ne hi, am_up_ne hi], rfl, rfl, rfl, rfl, fun q hq => absurd hq (Nat.not_lt_zero q)⟩
    · intro M1 V1 hpr
      obtain ⟨k1, k9, k6, k7, k8, kM⟩ := hpr
      have hw1 : CW M1 7 w np nd nh := hw.same (fun i hi => k1 (7 + i) (by omega))
      refine ac_iload_n 31 dX3_search_30 rfl rfl ?_
      refine ac_aload_n 32 dX3_search_31 rfl rfl ?_
      refine ac_getI 35 dX3_search_32 rfl fl3_46 ob89 ?_
      rw [show (M1 89 6) = (nI np) from k6]
      refine ac_icmp_ge 101 38 dX3_search_35 (by decide) rfl (fun _ => ?_) (fun c_35 => absurd (Int32.le_refl _) c_35)
      refine ac_aload_n 102 dX3_search_101 rfl rfl ?_
      refine ac_getI 105 dX3_search_102 rfl fl3_46 ob89 ?_
      rw [show (M1 89 6) = (nI np) from k6]
      refine ac_if_le 114 108 dX3_search_105 (by decide) rfl (fun c_105 => ?_) (fun c_105 => ?_)
      · refine ac_vret dX3_search_114 rfl ?_
        exact ⟨rfl, rfl, fun i a1 a2 a3 => k1 i a1, k6, none, ⟨fun _ => k9, fun y h => by (cases h)⟩, fun y _ hy => absurd hy.2.2.2.1.2 (fun q => absurd ((nI_leI (b := 0) (by omega) (by decide)).mp c_105) (by omega))⟩
      · have h0 : 0 < np := Nat.lt_of_not_le (fun q => c_105 (nI_le (b := 0) q (by decide)))
        refine ac_aload_n 109 dX3_search_108 rfl rfl ?_
        refine ac_aload_n 110 dX3_search_109 rfl rfl ?_
        refine ac_iload_n 111 dX3_search_110 rfl rfl ?_
        refine ac_callVg (μ' := m3_tryAllGaps) 114 dX3_search_111 rfl lk3_74 m3_tryAllGaps_V ob89 (c3_gaps hw1 hwd hwg hW hW9 kM h0 k6 k7 k8 k9) rfl rfl (by omega) (Nat.le_of_ble_eq_true rfl) (fun v3 Md V3 f3 h3 => ?_)
        obtain ⟨j1, j2, j3, j4, r5, j5, j6⟩ := h3
        subst j1
        obtain rfl := j2.symm
        obtain rfl := j3.symm
        refine ac_vret dX3_search_114 rfl ?_
        exact ⟨rfl, rfl, fun i a1 a2 a3 => (j4.1 i a1 a2 a3).trans (k1 i a1), (j4.2 6 (by decide) (by decide) (by decide)).trans k6, r5, j5, j6⟩
    · intro p hp ih M1 V1 hpr
      obtain ⟨k1, k9, k6, k7, k8, kM⟩ := hpr
      have hw1 : CW M1 7 w np nd nh := hw.same (fun i hi => k1 (7 + i) (by omega))
      have hw2 : CW (am_up M1 89 7 (nI (smB (eN w nd nh W) (p + 1)))) 7 w np nd nh := hw1.same (fun i hi => am_up_ne (by omega))
      have hsp := smB_9 (wd := wd) p (fun q hq => (hwd.1 q (by omega)).2.2)
      have hwp := hwd.1 p hp
      refine ac_iload_n 31 dX3_search_30 rfl rfl ?_
      refine ac_aload_n 32 dX3_search_31 rfl rfl ?_
      refine ac_getI 35 dX3_search_32 rfl fl3_46 ob89 ?_
      rw [show (M1 89 6) = (nI np) from k6]
      refine ac_icmp_ge 101 38 dX3_search_35 (by decide) rfl (fun c_35 => absurd c_35 (nI_ge hp (by omega))) (fun _ => ?_)
      refine ac_aload_n 39 dX3_search_38 rfl rfl ?_
      refine ac_aload_n 40 dX3_search_39 rfl rfl ?_
      refine ac_iload_n 41 dX3_search_40 rfl rfl ?_
      refine ac_callVg (μ' := m3_markPlaces) 44 dX3_search_41 rfl lk3_63 m3_markPlaces_V ob89 (c3_marks hw1 hW hW9 hp) rfl rfl (by omega) (Nat.le_of_ble_eq_true rfl) (fun v3 Md Va f3 h3 => ?_)
      obtain ⟨j1, j2, j3, j4, j5, j6⟩ := h3
      subst j1
      obtain rfl := j2.symm
      obtain rfl := j3.symm
      refine ac_iload_n 45 dX3_search_44 rfl rfl ?_
      refine ac_aload_n 46 dX3_search_45 rfl rfl ?_
      refine ac_getO 49 8 dX3_search_46 rfl fl3_67 ob7 rfl ?_
      refine ac_iload_n 50 dX3_search_49 rfl rfl ?_
      refine ac_iald 51 dX3_search_50 rfl ar8 (ix_nI (by omega) (by decide)) ?_
      rw [show (M1 8 p) = (nI (wd p)) from ((hw1.p0 hp).trans hwp.1)]
      refine ac_isub 52 dX3_search_51 rfl ?_
      rw [show ((nI W - nI (smB wd p)) - (nI (wd p))) = (nI W - nI (smB wd (p + 1))) from (sub_nn (by omega) (by omega) (by omega))]
      refine ac_istore_n 53 [some (Value.ref 89), some (Value.ref 7), some (Value.int (nI W - nI (smB wd (p + 1)))), some (Value.int (nI p))] dX3_search_52 rfl rfl (Nat.le_of_ble_eq_true rfl) (by decide) rfl ?_
      refine ac_aload_n 54 dX3_search_53 rfl rfl ?_
      refine ac_dup 55 dX3_search_54 rfl rfl ?_
      refine ac_getI 58 dX3_search_55 rfl fl3_54 ob89 ?_
      rw [show (M1 89 7) = (nI (smB (eN w nd nh W) p)) from k7]
      refine ac_aload_n 59 dX3_search_58 rfl rfl ?_
      refine ac_getO 62 91 dX3_search_59 rfl fl3_15 ob89 rfl ?_
      refine ac_iload_n 63 dX3_search_62 rfl rfl ?_
      refine ac_lald 64 dX3_search_63 rfl ar91 (ix_nI (by omega) (by decide)) ?_
      refine ac_lconst 65 0 dX3_search_64 rfl (by decide) ?_
      refine ac_lcmp 66 dX3_search_65 rfl ?_
      refine ac_if_ne 73 69 dX3_search_66 (by decide) rfl (fun c_66 => ?_) (fun c_66 => ?_)
      · have eE : eN w nd nh W p = 0 := cif_f (fun q => c_66 ((lg_cmp_eq _ _).mpr ((MD_zero j6).mpr q)))
        refine ac_iconst 74 0 dX3_search_73 rfl (by decide) ?_
        refine ac_iadd 75 dX3_search_74 rfl ?_
        rw [show ((nI (smB (eN w nd nh W) p)) + 0) = (nI (smB (eN w nd nh W) (p + 1))) from (by rw [Int32.add_zero]; exact congrArg nI (congrArg ((smB (eN w nd nh W) p) + ·) eE.symm))]
        refine ac_putI 78 dX3_search_75 rfl fl3_54 rfl rfl ob89 ?_
        refine ac_aload_n 79 dX3_search_78 rfl rfl ?_
        refine ac_dup 80 dX3_search_79 rfl rfl ?_
        refine ac_getI 83 dX3_search_80 rfl fl3_57 ob89 ?_
        rw [show ((am_up M1 89 7 (nI (smB (eN w nd nh W) (p + 1)))) 89 8) = (M1 89 8) from rfl]
        rw [show (M1 89 8) = (loP w p) from k8]
        refine ac_aload_n 84 dX3_search_83 rfl rfl ?_
        refine ac_iload_n 85 dX3_search_84 rfl rfl ?_
        refine ac_iconst 86 0 dX3_search_85 rfl (by decide) ?_
        refine ac_callV (μ' := m6_momentAt) 89 dX3_search_86 rfl lk3_70 m6_momentAt_V ob7 (c6_momentAt (M := (am_up M1 89 7 (nI (smB (eN w nd nh W) (p + 1))))) hw2 hp _) rfl rfl (by omega) (Nat.le_of_ble_eq_true rfl) ?_
        refine ac_iconst 90 1 dX3_search_89 rfl (by decide) ?_
        refine ac_iand 91 dX3_search_90 rfl ?_
        refine ac_ixor 92 dX3_search_91 rfl ?_
        rw [show ((loP w p) ^^^ ((leN w p 0) &&& 1)) = (loP w (p + 1)) from rfl]
        refine ac_putI 95 dX3_search_92 rfl fl3_57 rfl rfl ob89 ?_
        refine ac_iinc 98 (nI (p + 1)) [some (Value.ref 89), some (Value.ref 7), some (Value.int (nI W - nI (smB wd (p + 1)))), some (Value.int (nI (p + 1)))] dX3_search_95 rfl rfl (nI_1 _) rfl (by decide) rfl ?_
        refine ac_goto 30 dX3_search_98 (by decide) ?_
        exact ih _ _ ⟨fun i hi => by rw [am_up_ne hi, am_up_ne hi]; exact k1 i hi, k9, k6, rfl, rfl, fun q hq => by
          by_cases hqp : q = p
          · subst hqp; exact ⟨j5, j6⟩
          · rw [j4 90 q (by omega) (by omega), j4 91 q (by omega) (by omega)]
            exact kM q (by omega)⟩
      · have eE : eN w nd nh W p = 1 := cif_t ((MD_zero j6).mp ((lg_cmp_eq _ _).mp c_66))
        refine ac_iconst 70 1 dX3_search_69 rfl (by decide) ?_
        refine ac_goto 74 dX3_search_70 (by decide) ?_
        refine ac_iadd 75 dX3_search_74 rfl ?_
        rw [show ((nI (smB (eN w nd nh W) p)) + 1) = (nI (smB (eN w nd nh W) (p + 1))) from (by rw [nI_1]; exact congrArg nI (congrArg ((smB (eN w nd nh W) p) + ·) eE.symm))]
        refine ac_putI 78 dX3_search_75 rfl fl3_54 rfl rfl ob89 ?_
        refine ac_aload_n 79 dX3_search_78 rfl rfl ?_
        refine ac_dup 80 dX3_search_79 rfl rfl ?_
        refine ac_getI 83 dX3_search_80 rfl fl3_57 ob89 ?_
        rw [show ((am_up M1 89 7 (nI (smB (eN w nd nh W) (p + 1)))) 89 8) = (M1 89 8) from rfl]
        rw [show (M1 89 8) = (loP w p) from k8]
        refine ac_aload_n 84 dX3_search_83 rfl rfl ?_
        refine ac_iload_n 85 dX3_search_84 rfl rfl ?_
        refine ac_iconst 86 0 dX3_search_85 rfl (by decide) ?_
        refine ac_callV (μ' := m6_momentAt) 89 dX3_search_86 rfl lk3_70 m6_momentAt_V ob7 (c6_momentAt (M := (am_up M1 89 7 (nI (smB (eN w nd nh W) (p + 1))))) hw2 hp _) rfl rfl (by omega) (Nat.le_of_ble_eq_true rfl) ?_
        refine ac_iconst 90 1 dX3_search_89 rfl (by decide) ?_
        refine ac_iand 91 dX3_search_90 rfl ?_
        refine ac_ixor 92 dX3_search_91 rfl ?_
        rw [show ((loP w p) ^^^ ((leN w p 0) &&& 1)) = (loP w (p + 1)) from rfl]
        refine ac_putI 95 dX3_search_92 rfl fl3_57 rfl rfl ob89 ?_
        refine ac_iinc 98 (nI (p + 1)) [some (Value.ref 89), some (Value.ref 7), some (Value.int (nI W - nI (smB wd (p + 1)))), some (Value.int (nI (p + 1)))] dX3_search_95 rfl rfl (nI_1 _) rfl (by decide) rfl ?_
        refine ac_goto 30 dX3_search_98 (by decide) ?_
        exact ih _ _ ⟨fun i hi => by rw [am_up_ne hi, am_up_ne hi]; exact k1 i hi, k9, k6, rfl, rfl, fun q hq => by
          by_cases hqp : q = p
          · subst hqp; exact ⟨j5, j6⟩
          · rw [j4 90 q (by omega) (by omega), j4 91 q (by omega) (by omega)]
            exact kM q (by omega)⟩
  refine ac_iconst 29 0 dX3_search_28 rfl (by decide) ?_
  refine ac_istore_n 30 [some (Value.ref 89), some (Value.ref 7), some (Value.int (nI W)), some (Value.int 0)] dX3_search_29 rfl rfl (Nat.le_of_ble_eq_true rfl) (by decide) rfl ?_
  rw [show nI (smB wd 0) = 0 from rfl, Int32.sub_zero] at hL
  exact hL
set_option maxRecDepth 20000 in
theorem c3_picIn {M : am_I} {V : am_J} {f : Nat → Option Nat} {np j : Nat} (h6 : M 89 6 = nI np) (h5 : np ≤ 5) (hj : j < np) : CT m3_pictureAt 1 [Value.ref 89, Value.int (nI j)] M V f (RV (M 93 j) M V f) := by
  refine CT.of m3_pictureAt_V.1 _ (en_ai_2 89 (nI j)) ?_
  refine ac_iload_n 1 dX3_pictureAt_0 rfl rfl ?_
  refine ac_if_lt 21 4 dX3_pictureAt_1 (by decide) rfl (fun c_1 => absurd c_1 (nI_pos (by omega))) (fun _ => ?_)
  refine ac_iload_n 5 dX3_pictureAt_4 rfl rfl ?_
  refine ac_aload_n 6 dX3_pictureAt_5 rfl rfl ?_
  refine ac_getI 9 dX3_pictureAt_6 rfl fl3_46 ob89 ?_
  rw [show (M 89 6) = (nI np) from h6]
  refine ac_icmp_ge 21 12 dX3_pictureAt_9 (by decide) rfl (fun c_9 => absurd c_9 (nI_ge hj (by omega))) (fun _ => ?_)
  refine ac_aload_n 13 dX3_pictureAt_12 rfl rfl ?_
  refine ac_getO 16 93 dX3_pictureAt_13 rfl fl3_22 ob89 rfl ?_
  refine ac_iload_n 17 dX3_pictureAt_16 rfl rfl ?_
  refine ac_iald 18 dX3_pictureAt_17 rfl ar93 (ix_nI (by omega) (by decide)) ?_
  refine ac_goto 23 dX3_pictureAt_18 (by decide) ?_
  refine ac_iret dX3_pictureAt_23 ⟨_, rfl, rfl⟩ ?_
  exact rv_mk rfl
set_option maxRecDepth 20000 in
theorem c3_picOut {M : am_I} {V : am_J} {f : Nat → Option Nat} {np j : Nat} (h6 : M 89 6 = nI np) (h5 : np ≤ 5) (hj : ¬ j < np) (hj2 : j < 2 ^ 31) : CT m3_pictureAt 1 [Value.ref 89, Value.int (nI j)] M V f (RV (-9) M V f) := by
  refine CT.of m3_pictureAt_V.1 _ (en_ai_2 89 (nI j)) ?_
  refine ac_iload_n 1 dX3_pictureAt_0 rfl rfl ?_
  refine ac_if_lt 21 4 dX3_pictureAt_1 (by decide) rfl (fun c_1 => absurd c_1 (nI_pos hj2)) (fun _ => ?_)
  refine ac_iload_n 5 dX3_pictureAt_4 rfl rfl ?_
  refine ac_aload_n 6 dX3_pictureAt_5 rfl rfl ?_
  refine ac_getI 9 dX3_pictureAt_6 rfl fl3_46 ob89 ?_
  rw [show (M 89 6) = (nI np) from h6]
  refine ac_icmp_ge 21 12 dX3_pictureAt_9 (by decide) rfl (fun _ => ?_) (fun c_9 => absurd (nI_le (by omega) hj2) c_9)
  refine ac_bipush 23 (-9) dX3_pictureAt_21 rfl (by decide) ?_
  refine ac_iret dX3_pictureAt_23 ⟨_, rfl, rfl⟩ ?_
  exact rv_mk rfl
set_option maxRecDepth 20000 in
theorem c3_ansN {M : am_I} {V : am_J} {f : Nat → Option Nat} {what : Int32} (h9 : M 89 9 = 0) : CT m3_answer 2 [Value.ref 89, Value.int what] M V f (RV (-9) M V f) := by
  refine CT.of m3_answer_V.1 _ (en_ai_2 89 what) ?_
  refine ac_aload_n 1 dX3_answer_0 rfl rfl ?_
  refine ac_getI 4 dX3_answer_1 rfl fl3_25 ob89 ?_
  refine ac_if_ne 10 7 dX3_answer_4 (by decide) rfl (fun c_4 => absurd h9 c_4) (fun _ => ?_)
  refine ac_bipush 9 (-9) dX3_answer_7 rfl (by decide) ?_
  refine ac_iret dX3_answer_9 ⟨_, rfl, rfl⟩ ?_
  exact rv_mk rfl
set_option maxRecDepth 20000 in
theorem c3_ans0 {M : am_I} {V : am_J} {f : Nat → Option Nat} (h9 : M 89 9 = 1) : CT m3_answer 2 [Value.ref 89, Value.int 0] M V f (RV (M 89 10) M V f) := by
  refine CT.of m3_answer_V.1 _ (en_ai_2 89 0) ?_
  refine ac_aload_n 1 dX3_answer_0 rfl rfl ?_
  refine ac_getI 4 dX3_answer_1 rfl fl3_25 ob89 ?_
  refine ac_if_ne 10 7 dX3_answer_4 (by decide) rfl (fun _ => ?_) (fun c_4 => absurd c_4 (by rw [h9]; decide))
  refine ac_iload_n 11 dX3_answer_10 rfl rfl ?_
  refine ac_tableIn 40 0 29 dX3_answer_11 (by decide) (by decide) (by decide) (by decide) ?_
  refine ac_aload_n 41 dX3_answer_40 rfl rfl ?_
  refine ac_getI 44 dX3_answer_41 rfl fl3_29 ob89 ?_
  refine ac_iret dX3_answer_44 ⟨_, rfl, rfl⟩ ?_
  exact rv_mk rfl
set_option maxRecDepth 20000 in
theorem c3_ans1 {M : am_I} {V : am_J} {f : Nat → Option Nat} (h9 : M 89 9 = 1) : CT m3_answer 2 [Value.ref 89, Value.int 1] M V f (RV (M 89 11) M V f) := by
  refine CT.of m3_answer_V.1 _ (en_ai_2 89 1) ?_
  refine ac_aload_n 1 dX3_answer_0 rfl rfl ?_
  refine ac_getI 4 dX3_answer_1 rfl fl3_25 ob89 ?_
  refine ac_if_ne 10 7 dX3_answer_4 (by decide) rfl (fun _ => ?_) (fun c_4 => absurd c_4 (by rw [h9]; decide))
  refine ac_iload_n 11 dX3_answer_10 rfl rfl ?_
  refine ac_tableIn 45 1 34 dX3_answer_11 (by decide) (by decide) (by decide) (by decide) ?_
  refine ac_aload_n 46 dX3_answer_45 rfl rfl ?_
  refine ac_getI 49 dX3_answer_46 rfl fl3_33 ob89 ?_
  refine ac_iret dX3_answer_49 ⟨_, rfl, rfl⟩ ?_
  exact rv_mk rfl
set_option maxRecDepth 20000 in
theorem c3_ans2 {M : am_I} {V : am_J} {f : Nat → Option Nat} (h9 : M 89 9 = 1) : CT m3_answer 2 [Value.ref 89, Value.int 2] M V f (RV (M 89 12) M V f) := by
  refine CT.of m3_answer_V.1 _ (en_ai_2 89 2) ?_
  refine ac_aload_n 1 dX3_answer_0 rfl rfl ?_
  refine ac_getI 4 dX3_answer_1 rfl fl3_25 ob89 ?_
  refine ac_if_ne 10 7 dX3_answer_4 (by decide) rfl (fun _ => ?_) (fun c_4 => absurd c_4 (by rw [h9]; decide))
  refine ac_iload_n 11 dX3_answer_10 rfl rfl ?_
  refine ac_tableIn 50 2 39 dX3_answer_11 (by decide) (by decide) (by decide) (by decide) ?_
  refine ac_aload_n 51 dX3_answer_50 rfl rfl ?_
  refine ac_getI 54 dX3_answer_51 rfl fl3_36 ob89 ?_
  refine ac_iret dX3_answer_54 ⟨_, rfl, rfl⟩ ?_
  exact rv_mk rfl
set_option maxRecDepth 20000 in
theorem c3_ans3 {M : am_I} {V : am_J} {f : Nat → Option Nat} (h9 : M 89 9 = 1) : CT m3_answer 2 [Value.ref 89, Value.int 3] M V f (RV (M 89 13) M V f) := by
  refine CT.of m3_answer_V.1 _ (en_ai_2 89 3) ?_
  refine ac_aload_n 1 dX3_answer_0 rfl rfl ?_
  refine ac_getI 4 dX3_answer_1 rfl fl3_25 ob89 ?_
  refine ac_if_ne 10 7 dX3_answer_4 (by decide) rfl (fun _ => ?_) (fun c_4 => absurd c_4 (by rw [h9]; decide))
  refine ac_iload_n 11 dX3_answer_10 rfl rfl ?_
  refine ac_tableIn 55 3 44 dX3_answer_11 (by decide) (by decide) (by decide) (by decide) ?_
  refine ac_aload_n 56 dX3_answer_55 rfl rfl ?_
  refine ac_getI 59 dX3_answer_56 rfl fl3_39 ob89 ?_
  refine ac_iret dX3_answer_59 ⟨_, rfl, rfl⟩ ?_
  exact rv_mk rfl
theorem w_out {x : Int32} (h : 4 ≤ x) : x.toInt < 0 ∨ 3 < x.toInt := by
  have h1 := Int32.le_iff_toInt_le.mp h
  have e1 : (4 : Int32).toInt = 4 := by decide
  omega
set_option maxRecDepth 20000 in
theorem c3_ans4 {M : am_I} {V : am_J} {f : Nat → Option Nat} {what : Int32} {np j : Nat} (h9 : M 89 9 = 1) (h6 : M 89 6 = nI np) (h5 : np ≤ 5) (hw : 4 ≤ what) (ej : what - 4 = nI j) (hj : j < np) : CT m3_answer 2 [Value.ref 89, Value.int what] M V f (RV (M 93 j) M V f) := by
  refine CT.of m3_answer_V.1 _ (en_ai_2 89 what) ?_
  refine ac_aload_n 1 dX3_answer_0 rfl rfl ?_
  refine ac_getI 4 dX3_answer_1 rfl fl3_25 ob89 ?_
  refine ac_if_ne 10 7 dX3_answer_4 (by decide) rfl (fun _ => ?_) (fun c_4 => absurd c_4 (by rw [h9]; decide))
  refine ac_iload_n 11 dX3_answer_10 rfl rfl ?_
  refine ac_tableOut 60 dX3_answer_11 (w_out hw) (by decide) ?_
  refine ac_aload_n 61 dX3_answer_60 rfl rfl ?_
  refine ac_iload_n 62 dX3_answer_61 rfl rfl ?_
  refine ac_iconst 63 4 dX3_answer_62 rfl (by decide) ?_
  refine ac_isub 64 dX3_answer_63 rfl ?_
  rw [show (what - 4) = (nI j) from ej]
  refine ac_callV (μ' := m3_pictureAt) 67 dX3_answer_64 rfl lk3_42 m3_pictureAt_V ob89 (c3_picIn h6 h5 hj) rfl rfl (by decide) (Nat.le_of_ble_eq_true rfl) ?_
  refine ac_iret dX3_answer_67 ⟨_, rfl, rfl⟩ ?_
  exact rv_mk rfl
set_option maxRecDepth 20000 in
theorem c3_ans5 {M : am_I} {V : am_J} {f : Nat → Option Nat} {what : Int32} {np j : Nat} (h9 : M 89 9 = 1) (h6 : M 89 6 = nI np) (h5 : np ≤ 5) (hw : 4 ≤ what) (ej : what - 4 = nI j) (hj : ¬ j < np) (hj2 : j < 2 ^ 31) : CT m3_answer 2 [Value.ref 89, Value.int what] M V f (RV (-9) M V f) := by
  refine CT.of m3_answer_V.1 _ (en_ai_2 89 what) ?_
  refine ac_aload_n 1 dX3_answer_0 rfl rfl ?_
  refine ac_getI 4 dX3_answer_1 rfl fl3_25 ob89 ?_
  refine ac_if_ne 10 7 dX3_answer_4 (by decide) rfl (fun _ => ?_) (fun c_4 => absurd c_4 (by rw [h9]; decide))
  refine ac_iload_n 11 dX3_answer_10 rfl rfl ?_
  refine ac_tableOut 60 dX3_answer_11 (w_out hw) (by decide) ?_
  refine ac_aload_n 61 dX3_answer_60 rfl rfl ?_
  refine ac_iload_n 62 dX3_answer_61 rfl rfl ?_
  refine ac_iconst 63 4 dX3_answer_62 rfl (by decide) ?_
  refine ac_isub 64 dX3_answer_63 rfl ?_
  rw [show (what - 4) = (nI j) from ej]
  refine ac_callV (μ' := m3_pictureAt) 67 dX3_answer_64 rfl lk3_42 m3_pictureAt_V ob89 (c3_picOut h6 h5 hj hj2) rfl rfl (by decide) (Nat.le_of_ble_eq_true rfl) ?_
  refine ac_iret dX3_answer_67 ⟨_, rfl, rfl⟩ ?_
  exact rv_mk rfl
theorem c3_answer {M : am_I} {V : am_J} {f : Nat → Option Nat} {what : Int32} {w : rN} {np nh : Nat} {wd : Nat → Nat} {r : Option cd} (hR : RBc wd (HB w nh) (LB w) np M r) (h6 : M 89 6 = nI np) (h5 : np ≤ 5) (hw : ¬ what < 0) : CT m3_answer 2 [.ref 89, .int what] M V f (RV (ansB wd (HB w nh) (LB w) np what r) M V f) := by
  cases r with
  | none => exact c3_ansN (hR.1 rfl)
  | some y =>
    obtain ⟨e, e0, e1, e2, e3, e4⟩ := hR.2 y rfl
    by_cases h4 : 4 ≤ what
    · obtain ⟨j, hj, ej⟩ := w4_ge h4
      rw [ans_4 h4, ej, nI_clamp hj]
      by_cases hjn : j < np
      · rw [if_pos (nI_lt hjn (by omega)), ← e4 j hjn]
        exact c3_ans4 e h6 h5 h4 ej hjn
      · rw [if_neg (nI_nlt (by omega) hj)]
        exact c3_ans5 e h6 h5 h4 ej hjn hj
    · obtain ⟨j, hj, rfl⟩ := w4_lt hw h4
      rw [← ans_j (fun j => M 89 (10 + j)) hj e0 e1 e2 e3]
      rcases (show j = 0 ∨ j = 1 ∨ j = 2 ∨ j = 3 by omega) with rfl | rfl | rfl | rfl
      · exact c3_ans0 e
      · exact c3_ans1 e
      · exact c3_ans2 e
      · exact c3_ans3 e
set_option maxRecDepth 20000 in
theorem q7_bestN {M : am_I} {V : am_J} {f : Nat → Option Nat} {what : Int32} (hw : what < 0) : CT m7_best 12 [Value.ref 0, Value.int what] M V f (RV (-1) M V f) := by
  refine CT.of m7_best_V.1 _ (en_ai_2 0 what) ?_
  refine ac_iload_n 1 dX7_best_0 rfl rfl ?_
  refine ac_if_ge 6 4 dX7_best_1 (by decide) rfl (fun c_1 => absurd c_1 (Int32.not_le.mpr hw)) (fun _ => ?_)
  refine ac_iconst 5 (-1) dX7_best_4 rfl (by decide) ?_
  refine ac_iret dX7_best_5 ⟨_, rfl, rfl⟩ ?_
  exact rv_mk rfl
set_option maxRecDepth 20000 in
theorem q7_bestK {M : am_I} {V : am_J} {f : Nat → Option Nat} {what : Int32} {w : rN} {np nh : Nat} {wd : Nat → Nat} {r : Option cd} (hR : RBc wd (HB w nh) (LB w) np M r) (h6 : M 89 6 = nI np) (h5 : np ≤ 5) (hk : M 0 7 = 1) (hw : ¬ what < 0) : CT m7_best 12 [Value.ref 0, Value.int what] M V f (RV (ansB wd (HB w nh) (LB w) np what r) M V f) := by
  refine CT.of m7_best_V.1 _ (en_ai_2 0 what) ?_
  refine ac_iload_n 1 dX7_best_0 rfl rfl ?_
  refine ac_if_ge 6 4 dX7_best_1 (by decide) rfl (fun _ => ?_) (fun c_1 => absurd (Int32.not_lt.mp hw) c_1)
  refine ac_aload_n 7 dX7_best_6 rfl rfl ?_
  refine ac_getI 10 dX7_best_7 rfl fl7_48 ob0 ?_
  refine ac_if_ne 29 13 dX7_best_10 (by decide) rfl (fun _ => ?_) (fun c_10 => absurd c_10 (by rw [hk]; decide))
  refine ac_aload_n 30 dX7_best_29 rfl rfl ?_
  refine ac_getO 33 89 dX7_best_30 rfl fl7_44 ob0 rfl ?_
  refine ac_iload_n 34 dX7_best_33 rfl rfl ?_
  refine ac_callV (μ' := m3_answer) 37 dX7_best_34 rfl lk7_176 m3_answer_V ob89 (c3_answer hR h6 h5 hw) rfl rfl (by decide) (Nat.le_of_ble_eq_true rfl) ?_
  refine ac_iret dX7_best_37 ⟨_, rfl, rfl⟩ ?_
  exact rv_mk rfl
set_option maxRecDepth 20000 in
theorem q7_bestS {M : am_I} {V : am_J} {f : Nat → Option Nat} {what : Int32} {w : rN} {np nd nh gp W : Nat} {wd : Nat → Nat} (hw : CW M 7 w np nd nh) (hwd : WD w np wd gp) (hwg : WG w np) (hW : w 0 = nI W) (hW9 : W ≤ 40) (hk : M 0 7 = 0) (h : ¬ what < 0) : CT m7_best 12 [Value.ref 0, Value.int what] M V f (fun v M' V' f' => ∃ r, BestB wd (FB w nd) (HB w nh) (LB w) np gp r ∧ v = some (.int (ansB wd (HB w nh) (LB w) np what r)) ∧ f' = f ∧ (∀ i, i ≠ 0 → i ≠ 89 → i ≠ 92 → i ≠ 93 → M' i = M i) ∧ (∀ k, k ≠ 7 → M' 0 k = M 0 k) ∧ M' 0 7 = 1 ∧ M' 89 6 = nI np ∧ RBc wd (HB w nh) (LB w) np M' r) := by
  have hnp := hw.n5
  refine CT.of m7_best_V.1 _ (en_ai_2 0 what) ?_
  refine ac_iload_n 1 dX7_best_0 rfl rfl ?_
  refine ac_if_ge 6 4 dX7_best_1 (by decide) rfl (fun _ => ?_) (fun c_1 => absurd (Int32.not_lt.mp h) c_1)
  refine ac_aload_n 7 dX7_best_6 rfl rfl ?_
  refine ac_getI 10 dX7_best_7 rfl fl7_48 ob0 ?_
  refine ac_if_ne 29 13 dX7_best_10 (by decide) rfl (fun c_10 => absurd hk c_10) (fun _ => ?_)
  refine ac_aload_n 14 dX7_best_13 rfl rfl ?_
  refine ac_getO 17 89 dX7_best_14 rfl fl7_44 ob0 rfl ?_
  refine ac_aload_n 18 dX7_best_17 rfl rfl ?_
  refine ac_getO 21 7 dX7_best_18 rfl fl7_27 ob0 rfl ?_
  refine ac_callVg (μ' := m3_search) 24 dX7_best_21 rfl lk7_173 m3_search_V ob89 (c3_search hw hwd hwg hW hW9) rfl rfl (by decide) (Nat.le_of_ble_eq_true rfl) (fun v3 Ma Va f3 h3 => ?_)
  obtain ⟨j1, j2, j3, j4, r5, j5, j6⟩ := h3
  subst j1
  obtain rfl := j2.symm
  refine ac_aload_n 25 dX7_best_24 rfl rfl ?_
  refine ac_iconst 26 1 dX7_best_25 rfl (by decide) ?_
  refine ac_putI 29 dX7_best_26 rfl fl7_48 rfl rfl ob0 ?_
  refine ac_aload_n 30 dX7_best_29 rfl rfl ?_
  refine ac_getO 33 89 dX7_best_30 rfl fl7_44 ob0 rfl ?_
  refine ac_iload_n 34 dX7_best_33 rfl rfl ?_
  refine ac_callV (μ' := m3_answer) 37 dX7_best_34 rfl lk7_176 m3_answer_V ob89 (c3_answer (M := (am_up Ma 0 7 1)) (wd := wd) (r := r5) (w := w) (np := np) (nh := nh) (j5.same (fun _ _ => rfl) rfl) j4 hnp h) rfl rfl (by decide) (Nat.le_of_ble_eq_true rfl) ?_
  refine ac_iret dX7_best_37 ⟨_, rfl, rfl⟩ ?_
  exact ⟨r5, j6, rfl, rfl, fun i a0 a1 a2 a3 => by rw [am_up_ne a0]; exact j3 i a1 a2 a3, fun k hk => by rw [up_ne hk, j3 0 (by decide) (by decide) (by decide)], rfl, j4, j5.same (fun _ _ => rfl) rfl⟩
