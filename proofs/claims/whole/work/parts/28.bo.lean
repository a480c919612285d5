/-! Trying the orders: a call tries the orders that begin as it was told, a range of numbers. -/
theorem pre_dg {np d c t p y3 : Nat} (hd : d + (t + 1) = np) (hp : p < np) (h : y3 / np ^ t = c * np + p) : dgB np np y3 d = p ∧ ∀ k, k < d → dgB np np y3 k = dgB np d c k := by
  have e : ∀ k, k < d + 1 → dgB np np y3 k = dgB np (d + 1) (c * np + p) k := fun k hk => dg_pre (by omega) hk (by rw [show np - (d + 1) = t by omega]; exact h)
  exact ⟨(e d (by omega)).trans (dg_last hp), fun k hk => (e k (by omega)).trans (dg_ext hk hp)⟩
theorem pre_d0 {np d c t y3 : Nat} (hd : d + t = np) (h : y3 / np ^ t = c) : ∀ k, k < d → dgB np np y3 k = dgB np d c k := fun k hk => dg_pre (by omega) hk (by rw [show np - d = t by omega]; exact h)
theorem cK_le {np d c t : Nat} (hd : d + t = np) (h5 : np ≤ 5) (hc : c < np ^ d) : (c + 1) * np ^ t ≤ 3125 := by
  have h1 : (c + 1) * np ^ t ≤ np ^ d * np ^ t := Nat.mul_le_mul_right _ hc
  rw [← Nat.pow_add, hd] at h1
  exact Nat.le_trans h1 (npp np h5)
theorem rng_y {wd : Nat → Nat} {F : Nat → Nat → Prop} {np gp g x c t : Nat} {y : cd} (hP : VLB wd F np gp y) (h5 : np ≤ 5) (hx : x < 40) (hc : (c + 1) * np ^ t ≤ 3125) (h1 : g * 262144 + x * 4096 + c * np ^ t ≤ psC y) (h2 : psC y < g * 262144 + x * 4096 + (c + 1) * np ^ t) : y.1 = g ∧ y.2.1 = x ∧ y.2.2 / np ^ t = c := by
  have h0 := hP.2.2.2.1.2
  have hK : 0 < np ^ t := Nat.pow_pos h0
  have b2 : y.2.1 < 40 := (hP.2.2.2.2 0 h0).1
  have b3 := hP.2.2.1
  have b4 := npp np h5
  unfold psC at h1 h2
  rw [Nat.succ_mul] at hc h2
  have e1 : y.1 = g := by omega
  have e2 : y.2.1 = x := by omega
  refine ⟨e1, e2, ?_⟩
  have a1 : c ≤ y.2.2 / np ^ t := (Nat.le_div_iff_mul_le hK).mpr (by rw [e1, e2] at h1; omega)
  have a2 : y.2.2 / np ^ t < c + 1 := (Nat.div_lt_iff_lt_mul hK).mpr (by rw [Nat.succ_mul]; rw [e1, e2] at h2; omega)
  omega
/-- what an order begins with bares no more than all of it -/
theorem pre_b {wd : Nat → Nat} {F H : Nat → Nat → Prop} {np gp g x c t d : Nat} {y : cd} (hd : d + t = np) (h1 : y.1 = g) (h2 : y.2.1 = x) (h3 : y.2.2 / np ^ t = c) : bkB wd H (dgB np d c) g x d ≤ bB wd H np y := by
  unfold bB
  rw [h1, h2, ← bkB_congr d (pre_d0 hd h3), show np = d + t from hd.symm]
  exact bkB_mono t
theorem skipU {wd : Nat → Nat} {F : Nat → Nat → Prop} {np gp c t d p : Nat} {y : cd} (hP : VLB wd F np gp y) (hd : d + (t + 1) = np) (hp : p < np) (h3 : y.2.2 / np ^ t = c * np + p) (hu : imB (dgB np d c) d p) : False := by
  obtain ⟨e1, e2⟩ := pre_dg hd hp h3
  obtain ⟨k, hk, e⟩ := hu
  exact hP.2.2.2.1.1 k d hk (by omega) (by rw [e1, e2 k hk, e])
theorem skipF {wd : Nat → Nat} {F : Nat → Nat → Prop} {np gp g x c t d p : Nat} {y : cd} (hP : VLB wd F np gp y) (hd : d + (t + 1) = np) (hp : p < np) (h1 : y.1 = g) (h2 : y.2.1 = x) (h3 : y.2.2 / np ^ t = c * np + p) : F p (xkB wd (dgB np d c) g x d) ∧ xkB wd (dgB np d c) g x d < 40 := by
  obtain ⟨e1, e2⟩ := pre_dg hd hp h3
  have h9 := hP.2.2.2.2 d (by omega)
  rw [e1, h1, h2, xkB_congr d e2] at h9
  exact ⟨h9.2, h9.1⟩
theorem K_st {np c t : Nat} : c * np ^ (t + 1) = (c * np) * np ^ t := by rw [Nat.pow_succ, Nat.mul_comm (np ^ t) np, Nat.mul_assoc]
theorem FB_W {w : rN} {nd j x W : Nat} {np gp : Nat} {wd : Nat → Nat} (h : FB w nd j x) (hx : x < 40) (hj : j < np) (hwd : WD w np wd gp) (hW : w 0 = nI W) (hW9 : W ≤ 40) : x < W := by
  have hp := hwd.1 j hj
  have := fit_lt (show fitN w nd j (nI x) from h) hW hp.1 hp.2.1 (by omega) hp.2.2 hW9
  omega
def TOs (w : rN) (np nd nh gp g x W : Nat) (wd : Nat → Nat) (V : am_J) (f : Nat → Option Nat) (t : Nat) : Prop := ∀ (M : am_I) (d c u : Nat) (r : Option cd) (xv bv mv : Int32), d + t = np → xv = nI (xkB wd (dgB np d c) g x d) → bv = nI (bkB wd (HB w nh) (dgB np d c) g x d) → mv = (mkB wd (LB w) (dgB np d c) g x d) → (CW M 7 w np nd nh) ∧ (c < np ^ d) ∧ (okB wd (FB w nd) (dgB np d c) g x d) ∧ (njB (dgB np d c) d) ∧ (u < 2 ^ np) ∧ (∀ p, u.testBit p = true ↔ imB (dgB np d c) d p) ∧ (∀ k, k < d → M 92 k = nI (dgB np d c k)) ∧ (M 89 6 = nI np) ∧ (M 89 4 = nI g) ∧ (M 89 5 = nI x) ∧ (RBc wd (HB w nh) (LB w) np M r) → IsB (VLB wd (FB w nd) np gp) (bB wd (HB w nh) np) (oB wd (LB w) np) (fun y => psC y < g * 262144 + x * 4096 + c * np ^ t) r → CT m3_tryOrders (4 + t) [.ref 89, .ref 7, .int (nI d), .int xv, .int (nI u), .int bv, .int mv] M V f (fun v M' V' f' => v = none ∧ V' = V ∧ f' = f ∧ KC M M' ∧ (∀ k, k < d → M' 92 k = M 92 k) ∧ ∃ r', RBc wd (HB w nh) (LB w) np M' r' ∧ IsB (VLB wd (FB w nd) np gp) (bB wd (HB w nh) np) (oB wd (LB w) np) (fun y => psC y < g * 262144 + x * 4096 + (c + 1) * np ^ t) r')
set_option maxRecDepth 20000 in
theorem c3_tO0 {M : am_I} {V : am_J} {f : Nat → Option Nat} {w : rN} {np nd nh gp g x W : Nat} {wd : Nat → Nat} {c u : Nat} {r : Option cd} (hwd : WD w np wd gp) (hW : w 0 = nI W) (hW9 : W ≤ 40) (h0 : 0 < np) (hx : x < 40) (hg : gp ≤ g) (hg2 : g ≤ 20) (hMD : ∀ p, p < np → MD (V 90 p) W (FB w nd p) ∧ MD (V 91 p) W (fun x => FB w nd p x ∧ HB w nh p x)) (hw : CW M 7 w np nd nh) (hc : c < np ^ np) (hok : okB wd (FB w nd) (dgB np np c) g x np) (hnj : njB (dgB np np c) np) (hu : u < 2 ^ np) (hub : ∀ p, u.testBit p = true ↔ imB (dgB np np c) np p) (ho : ∀ k, k < np → M 92 k = nI (dgB np np c k)) (h6 : M 89 6 = nI np) (h4 : M 89 4 = nI g) (h5 : M 89 5 = nI x) (hR : RBc wd (HB w nh) (LB w) np M r) (hI : IsB (VLB wd (FB w nd) np gp) (bB wd (HB w nh) np) (oB wd (LB w) np) (fun y => psC y < g * 262144 + x * 4096 + c * np ^ 0) r) : CT m3_tryOrders 4 [Value.ref 89, Value.ref 7, Value.int (nI np), Value.int (nI (xkB wd (dgB np np c) g x np)), Value.int (nI u), Value.int (nI (bkB wd (HB w nh) (dgB np np c) g x np)), Value.int (mkB wd (LB w) (dgB np np c) g x np)] M V f (fun v M' V' f' => v = none ∧ V' = V ∧ f' = f ∧ KC M M' ∧ (∀ k, k < np → M' 92 k = M 92 k) ∧ ∃ r', RBc wd (HB w nh) (LB w) np M' r' ∧ IsB (VLB wd (FB w nd) np gp) (bB wd (HB w nh) np) (oB wd (LB w) np) (fun y => psC y < g * 262144 + x * 4096 + (c + 1) * np ^ 0) r') := by
  have hnp := hw.n5
  have hcK := cK_le (np := np) (d := np) (t := 0) rfl hnp hc
  have b5 : (bkB wd (HB w nh) (dgB np np c) g x np) ≤ np := bkB_le np
  refine CT.of m3_tryOrders_S.1 _ (en_aaiiiii_8 89 7 (nI np) (nI (xkB wd (dgB np np c) g x np)) (nI u) (nI (bkB wd (HB w nh) (dgB np np c) g x np)) (mkB wd (LB w) (dgB np np c) g x np)) ?_
  refine ac_aload_n 1 dX3_tryOrders_0 rfl rfl ?_
  refine ac_getI 4 dX3_tryOrders_1 rfl fl3_25 ob89 ?_
  refine ac_if_eq 17 7 dX3_tryOrders_4 (by decide) rfl (fun c_4 => ?_) (fun c_4 => ?_)
  · refine ac_iload_n 18 dX3_tryOrders_17 rfl rfl ?_
    refine ac_aload_n 19 dX3_tryOrders_18 rfl rfl ?_
    refine ac_getI 22 dX3_tryOrders_19 rfl fl3_46 ob89 ?_
    rw [show (M 89 6) = (nI np) from h6]
    refine ac_icmp_lt 37 25 dX3_tryOrders_22 (by decide) rfl (fun c_22 => absurd c_22 (Int32.not_lt.mpr (Int32.le_refl _))) (fun _ => ?_)
    refine ac_aload_n 26 dX3_tryOrders_25 rfl rfl ?_
    refine ac_iload 28 dX3_tryOrders_26 rfl rfl ?_
    refine ac_iload 30 dX3_tryOrders_28 rfl rfl ?_
    refine ac_abs 33 dX3_tryOrders_30 rfl lkj3_99 (by decide) (Nat.le_of_ble_eq_true rfl) ?_
    refine ac_callVg (μ' := m3_takeIfBetter) 36 dX3_tryOrders_33 rfl lk3_104 m3_takeIfBetter_V ob89 (c3_take (w := w) (nd := nd) (nh := nh) (gp := gp) (g := g) (x := x) (c := c) (wd := wd) (S := (fun y => psC y < g * 262144 + x * 4096 + c * np ^ 0)) (S' := (fun y => psC y < g * 262144 + x * 4096 + (c + 1) * np ^ 0)) hnp h4 h5 ho ⟨hg, hg2, hc, ⟨hnj, h0⟩, hok⟩ hR hI (fun y z => by
      have z2 : psC y < _ := z
      show psC y < _
      rw [Nat.succ_mul]
      omega) (by
      show psC (g, x, c) < _
      rw [Nat.pow_zero, Nat.mul_one]
      unfold psC
      dsimp only
      omega) (fun y z hy => by
      by_cases hS : psC y < g * 262144 + x * 4096 + c * np ^ 0
      · exact Or.inl hS
      · obtain ⟨q1, q2, q3⟩ := rng_y hy hnp hx hcK (Nat.not_lt.mp hS) z
        rw [Nat.pow_zero, Nat.div_one] at q3
        refine Or.inr ?_
        obtain ⟨y1, y2, y3⟩ := y
        dsimp only at q1 q2 q3
        rw [q1, q2, q3]) (fun y z _ => by
      have z2 : psC y < g * 262144 + x * 4096 + c * np ^ 0 := z
      rw [Nat.pow_zero, Nat.mul_one] at z2
      exact z2)) rfl rfl (by decide) (Nat.le_of_ble_eq_true rfl) (fun v1 Ma V1 f1 h1 => ?_)
    obtain ⟨i1, i2, i3, i4, i5, r2, i6, i7⟩ := h1
    subst i1
    obtain rfl := i2.symm
    obtain rfl := i3.symm
    refine ac_vret dX3_tryOrders_36 rfl ?_
    exact ⟨rfl, rfl, rfl, i4, fun k _ => by rw [i5], r2, i6, i7⟩
  · obtain ⟨y0, hr, e0, e1, e2, e3, e4⟩ := RBc_s hR c_4
    subst hr
    have b4 : (bB wd (HB w nh) np) y0 ≤ np := bkB_le np
    refine ac_iload 9 dX3_tryOrders_7 rfl rfl ?_
    refine ac_aload_n 10 dX3_tryOrders_9 rfl rfl ?_
    refine ac_getI 13 dX3_tryOrders_10 rfl fl3_29 ob89 ?_
    rw [show (M 89 10) = (nI ((bB wd (HB w nh) np) y0)) from e0]
    refine ac_icmp_le 17 16 dX3_tryOrders_13 (by decide) rfl (fun c_13 => ?_) (fun c_13 => ?_)
    · refine ac_iload_n 18 dX3_tryOrders_17 rfl rfl ?_
      refine ac_aload_n 19 dX3_tryOrders_18 rfl rfl ?_
      refine ac_getI 22 dX3_tryOrders_19 rfl fl3_46 ob89 ?_
      rw [show (M 89 6) = (nI np) from h6]
      refine ac_icmp_lt 37 25 dX3_tryOrders_22 (by decide) rfl (fun c_22 => absurd c_22 (Int32.not_lt.mpr (Int32.le_refl _))) (fun _ => ?_)
      refine ac_aload_n 26 dX3_tryOrders_25 rfl rfl ?_
      refine ac_iload 28 dX3_tryOrders_26 rfl rfl ?_
      refine ac_iload 30 dX3_tryOrders_28 rfl rfl ?_
      refine ac_abs 33 dX3_tryOrders_30 rfl lkj3_99 (by decide) (Nat.le_of_ble_eq_true rfl) ?_
      refine ac_callVg (μ' := m3_takeIfBetter) 36 dX3_tryOrders_33 rfl lk3_104 m3_takeIfBetter_V ob89 (c3_take (w := w) (nd := nd) (nh := nh) (gp := gp) (g := g) (x := x) (c := c) (wd := wd) (S := (fun y => psC y < g * 262144 + x * 4096 + c * np ^ 0)) (S' := (fun y => psC y < g * 262144 + x * 4096 + (c + 1) * np ^ 0)) hnp h4 h5 ho ⟨hg, hg2, hc, ⟨hnj, h0⟩, hok⟩ hR hI (fun y z => by
        have z2 : psC y < _ := z
        show psC y < _
        rw [Nat.succ_mul]
        omega) (by
        show psC (g, x, c) < _
        rw [Nat.pow_zero, Nat.mul_one]
        unfold psC
        dsimp only
        omega) (fun y z hy => by
        by_cases hS : psC y < g * 262144 + x * 4096 + c * np ^ 0
        · exact Or.inl hS
        · obtain ⟨q1, q2, q3⟩ := rng_y hy hnp hx hcK (Nat.not_lt.mp hS) z
          rw [Nat.pow_zero, Nat.div_one] at q3
          refine Or.inr ?_
          obtain ⟨y1, y2, y3⟩ := y
          dsimp only at q1 q2 q3
          rw [q1, q2, q3]) (fun y z _ => by
        have z2 : psC y < g * 262144 + x * 4096 + c * np ^ 0 := z
        rw [Nat.pow_zero, Nat.mul_one] at z2
        exact z2)) rfl rfl (by decide) (Nat.le_of_ble_eq_true rfl) (fun v1 Ma V1 f1 h1 => ?_)
      obtain ⟨i1, i2, i3, i4, i5, r2, i6, i7⟩ := h1
      subst i1
      obtain rfl := i2.symm
      obtain rfl := i3.symm
      refine ac_vret dX3_tryOrders_36 rfl ?_
      exact ⟨rfl, rfl, rfl, i4, fun k _ => by rw [i5], r2, i6, i7⟩
    · have hbl : (bB wd (HB w nh) np) y0 < (bkB wd (HB w nh) (dgB np np c) g x np) := (nI_ltI (by omega) (by omega)).mp (Int32.not_le.mp c_13)
      refine ac_vret dX3_tryOrders_16 rfl ?_
      exact ⟨rfl, rfl, rfl, KC.refl _, fun _ _ => rfl, some y0, hR, IsB_keep hI (fun y hy => by
        have hy2 : psC y < _ := hy
        rw [Nat.succ_mul]
        show psC y < _
        omega) (fun y z1 z2 z3 => by
        obtain ⟨e1, e2, e3⟩ := rng_y z3 hnp hx hcK (Nat.not_lt.mp z2) z1
        have hbb := pre_b (np := np) (wd := wd) (F := FB w nd) (H := HB w nh) (gp := gp) (d := np) (t := 0) rfl e1 e2 e3
        exact ⟨y0, rfl, Or.inl (by omega)⟩)⟩
set_option maxRecDepth 20000 in
theorem c3_tOs {M : am_I} {V : am_J} {f : Nat → Option Nat} {w : rN} {np nd nh gp g x W : Nat} {wd : Nat → Nat} {t d c u : Nat} {r : Option cd} (hwd : WD w np wd gp) (hW : w 0 = nI W) (hW9 : W ≤ 40) (h0 : 0 < np) (hx : x < 40) (hg : gp ≤ g) (hg2 : g ≤ 20) (hMD : ∀ p, p < np → MD (V 90 p) W (FB w nd p) ∧ MD (V 91 p) W (fun x => FB w nd p x ∧ HB w nh p x)) (IH : TOs w np nd nh gp g x W wd V f t) (hd : d + (t + 1) = np) (hw : CW M 7 w np nd nh) (hc : c < np ^ d) (hok : okB wd (FB w nd) (dgB np d c) g x d) (hnj : njB (dgB np d c) d) (hu : u < 2 ^ np) (hub : ∀ p, u.testBit p = true ↔ imB (dgB np d c) d p) (ho : ∀ k, k < d → M 92 k = nI (dgB np d c k)) (h6 : M 89 6 = nI np) (h4 : M 89 4 = nI g) (h5 : M 89 5 = nI x) (hR : RBc wd (HB w nh) (LB w) np M r) (hI : IsB (VLB wd (FB w nd) np gp) (bB wd (HB w nh) np) (oB wd (LB w) np) (fun y => psC y < g * 262144 + x * 4096 + c * np ^ (t + 1)) r) : CT m3_tryOrders (4 + (t + 1)) [Value.ref 89, Value.ref 7, Value.int (nI d), Value.int (nI (xkB wd (dgB np d c) g x d)), Value.int (nI u), Value.int (nI (bkB wd (HB w nh) (dgB np d c) g x d)), Value.int (mkB wd (LB w) (dgB np d c) g x d)] M V f (fun v M' V' f' => v = none ∧ V' = V ∧ f' = f ∧ KC M M' ∧ (∀ k, k < d → M' 92 k = M 92 k) ∧ ∃ r', RBc wd (HB w nh) (LB w) np M' r' ∧ IsB (VLB wd (FB w nd) np gp) (bB wd (HB w nh) np) (oB wd (LB w) np) (fun y => psC y < g * 262144 + x * 4096 + (c + 1) * np ^ (t + 1)) r') := by
  have hnp := hw.n5
  have hcK := cK_le (np := np) hd hnp hc
  have b5 : (bkB wd (HB w nh) (dgB np d c) g x d) ≤ d := bkB_le d
  have hu32 : u < 32 := Nat.lt_of_lt_of_le hu (pow_le np hnp)
  have hXb : (xkB wd (dgB np d c) g x d) < 70 := xkB_lt (np := np) hx hg2 (fun p hp => (hwd.1 p hp).2.2) (fun k => dg_lt h0) hok
  refine CT.of m3_tryOrders_S.1 _ (en_aaiiiii_8 89 7 (nI d) (nI (xkB wd (dgB np d c) g x d)) (nI u) (nI (bkB wd (HB w nh) (dgB np d c) g x d)) (mkB wd (LB w) (dgB np d c) g x d)) ?_
  refine ac_aload_n 1 dX3_tryOrders_0 rfl rfl ?_
  refine ac_getI 4 dX3_tryOrders_1 rfl fl3_25 ob89 ?_
  refine ac_if_eq 17 7 dX3_tryOrders_4 (by decide) rfl (fun c_4 => ?_) (fun c_4 => ?_)
  · refine ac_iload_n 18 dX3_tryOrders_17 rfl rfl ?_
    refine ac_aload_n 19 dX3_tryOrders_18 rfl rfl ?_
    refine ac_getI 22 dX3_tryOrders_19 rfl fl3_46 ob89 ?_
    rw [show (M 89 6) = (nI np) from h6]
    refine ac_icmp_lt 37 25 dX3_tryOrders_22 (by decide) rfl (fun _ => ?_) (fun c_22 => absurd (nI_lt (by omega) (by omega)) c_22)
    refine ac_iconst 38 0 dX3_tryOrders_37 rfl (by decide) ?_
    refine ac_istore 40 [some (Value.ref 89), some (Value.ref 7), some (Value.int (nI d)), some (Value.int (nI (xkB wd (dgB np d c) g x d))), some (Value.int (nI u)), some (Value.int (nI (bkB wd (HB w nh) (dgB np d c) g x d))), some (Value.int (mkB wd (LB w) (dgB np d c) g x d)), some (Value.int 0)] dX3_tryOrders_38 rfl rfl (Nat.le_of_ble_eq_true rfl) (by decide) rfl ?_
    refine ac_down (n := np) (P := fun p => ∀ (M1 : am_I), (KC M M1 ∧ (∀ k, k < d → M1 92 k = M 92 k) ∧ ∃ r1, RBc wd (HB w nh) (LB w) np M1 r1 ∧ IsB (VLB wd (FB w nd) np gp) (bB wd (HB w nh) np) (oB wd (LB w) np) (fun y => psC y < g * 262144 + x * 4096 + (c * np + p) * np ^ t) r1) → A0 m3_tryOrders (4 + (t + 1)) 40 [some (Value.ref 89), some (Value.ref 7), some (Value.int (nI d)), some (Value.int (nI (xkB wd (dgB np d c) g x d))), some (Value.int (nI u)), some (Value.int (nI (bkB wd (HB w nh) (dgB np d c) g x d))), some (Value.int (mkB wd (LB w) (dgB np d c) g x d)), some (Value.int (nI p))] [] M1 V f (fun v M' V' f' => v = none ∧ V' = V ∧ f' = f ∧ KC M M' ∧ (∀ k, k < d → M' 92 k = M 92 k) ∧ ∃ r', RBc wd (HB w nh) (LB w) np M' r' ∧ IsB (VLB wd (FB w nd) np gp) (bB wd (HB w nh) np) (oB wd (LB w) np) (fun y => psC y < g * 262144 + x * 4096 + (c + 1) * np ^ (t + 1)) r')) ?_ ?_ 0 (Nat.zero_le _) M ⟨KC.refl M, fun _ _ => rfl, _, hR, by rw [Nat.add_zero, ← K_st]; exact hI⟩
    · intro M1 hpr
      obtain ⟨k1, k2, r1, hR1, hI1⟩ := hpr
      have h61 : M1 89 6 = nI np := (k1.2 6 (by decide)).trans h6
      refine ac_iload 42 dX3_tryOrders_40 rfl rfl ?_
      refine ac_aload_n 43 dX3_tryOrders_42 rfl rfl ?_
      refine ac_getI 46 dX3_tryOrders_43 rfl fl3_46 ob89 ?_
      rw [show (M1 89 6) = (nI np) from h61]
      refine ac_icmp_ge 149 49 dX3_tryOrders_46 (by decide) rfl (fun _ => ?_) (fun c_46 => absurd (Int32.le_refl _) c_46)
      refine ac_vret dX3_tryOrders_149 rfl ?_
      refine ⟨rfl, rfl, rfl, k1, k2, r1, hR1, ?_⟩
      rw [← Nat.succ_mul c np, ← K_st] at hI1
      exact hI1
    · intro p hp ih M1 hpr
      obtain ⟨k1, k2, r1, hR1, hI1⟩ := id hpr
      have h61 : M1 89 6 = nI np := (k1.2 6 (by decide)).trans h6
      have h41 : M1 89 4 = nI g := (k1.2 4 (by decide)).trans h4
      have h51 : M1 89 5 = nI x := (k1.2 5 (by decide)).trans h5
      have hw1 : CW M1 7 w np nd nh := hw.same (fun i hi => k1.1 (7 + i) (by omega) (by omega) (by omega))
      have hw2 : CW (am_up M1 92 d (nI p)) 7 w np nd nh := hw1.same (fun i hi => am_up_ne (by omega))
      have hK2 : KC M1 (am_up M1 92 d (nI p)) := ⟨fun i a1 a2 a3 => am_up_ne a2, fun k hk => by rw [am_up_ne (by decide)]⟩
      have hcP := cK_le (np := np) (d := d + 1) (c := c * np + p) (t := t) (by omega) hnp (by
        rw [Nat.pow_succ]
        calc c * np + p < c * np + np := by omega
          _ = (c + 1) * np := by rw [Nat.succ_mul]
          _ ≤ np ^ d * np := Nat.mul_le_mul_right _ hc)
      have bo := bit_ok u hu32 p (by omega)
      refine ac_iload 42 dX3_tryOrders_40 rfl rfl ?_
      refine ac_aload_n 43 dX3_tryOrders_42 rfl rfl ?_
      refine ac_getI 46 dX3_tryOrders_43 rfl fl3_46 ob89 ?_
      rw [show (M1 89 6) = (nI np) from h61]
      refine ac_icmp_ge 149 49 dX3_tryOrders_46 (by decide) rfl (fun c_46 => absurd c_46 (nI_ge hp (by omega))) (fun _ => ?_)
      refine ac_iload 51 dX3_tryOrders_49 rfl rfl ?_
      refine ac_iconst 52 1 dX3_tryOrders_51 rfl (by decide) ?_
      refine ac_iload 54 dX3_tryOrders_52 rfl rfl ?_
      refine ac_ishl 55 dX3_tryOrders_54 rfl ?_
      refine ac_iand 56 dX3_tryOrders_55 rfl ?_
      refine ac_if_ne 143 59 dX3_tryOrders_56 (by decide) rfl (fun c_56 => ?_) (fun c_56 => ?_)
      · have hbt : u.testBit p = true := by
          cases hc9 : u.testBit p with
          | true => rfl
          | false => exact absurd (bo.mpr hc9) c_56
        refine ac_iinc 146 (nI (p + 1)) [some (Value.ref 89), some (Value.ref 7), some (Value.int (nI d)), some (Value.int (nI (xkB wd (dgB np d c) g x d))), some (Value.int (nI u)), some (Value.int (nI (bkB wd (HB w nh) (dgB np d c) g x d))), some (Value.int (mkB wd (LB w) (dgB np d c) g x d)), some (Value.int (nI (p + 1)))] dX3_tryOrders_143 rfl rfl (nI_1 _) rfl (by decide) rfl ?_
        refine ac_goto 40 dX3_tryOrders_146 (by decide) ?_
        exact ih _ ⟨hpr.1, hpr.2.1, r1, hR1, IsB_more hI1 (fun y hy => by
          have hy2 : psC y < _ := hy
          show psC y < _
          rw [← Nat.add_assoc (c * np) p 1, Nat.succ_mul (c * np + p)]
          omega) (fun y z1 z3 => by
          by_cases z2 : psC y < g * 262144 + x * 4096 + (c * np + p) * np ^ t
          · exact z2
          · obtain ⟨e1, e2, e3⟩ := rng_y z3 hnp hx hcP (Nat.not_lt.mp z2) z1
            exact absurd (hub p |>.mp hbt) (fun q => skipU z3 hd hp e3 q))⟩
      · have hbt : u.testBit p = false := bo.mp c_56
        refine ac_aload_n 60 dX3_tryOrders_59 rfl rfl ?_
        refine ac_getO 63 90 dX3_tryOrders_60 rfl fl3_9 ob89 rfl ?_
        refine ac_iload 65 dX3_tryOrders_63 rfl rfl ?_
        refine ac_lald 66 dX3_tryOrders_65 rfl ar90 (ix_nI (by omega) (by decide)) ?_
        refine ac_iload_n 67 dX3_tryOrders_66 rfl rfl ?_
        refine ac_callS (μ' := m3_isMarked) 70 dX3_tryOrders_67 rfl lk3_108 m3_isMarked_S (c3_markD (hMD p hp).1 hW9 (by omega)) rfl rfl (by omega) (Nat.le_of_ble_eq_true rfl) ?_
        refine ac_if_eq 143 73 dX3_tryOrders_70 (by decide) rfl (fun c_70 => ?_) (fun c_70 => ?_)
        · have hnf := bi_eq0.mp c_70
          refine ac_iinc 146 (nI (p + 1)) [some (Value.ref 89), some (Value.ref 7), some (Value.int (nI d)), some (Value.int (nI (xkB wd (dgB np d c) g x d))), some (Value.int (nI u)), some (Value.int (nI (bkB wd (HB w nh) (dgB np d c) g x d))), some (Value.int (mkB wd (LB w) (dgB np d c) g x d)), some (Value.int (nI (p + 1)))] dX3_tryOrders_143 rfl rfl (nI_1 _) rfl (by decide) rfl ?_
          refine ac_goto 40 dX3_tryOrders_146 (by decide) ?_
          exact ih _ ⟨hpr.1, hpr.2.1, r1, hR1, IsB_more hI1 (fun y hy => by
            have hy2 : psC y < _ := hy
            show psC y < _
            rw [← Nat.add_assoc (c * np) p 1, Nat.succ_mul (c * np + p)]
            omega) (fun y z1 z3 => by
            by_cases z2 : psC y < g * 262144 + x * 4096 + (c * np + p) * np ^ t
            · exact z2
            · obtain ⟨e1, e2, e3⟩ := rng_y z3 hnp hx hcP (Nat.not_lt.mp z2) z1
              obtain ⟨f1, f2⟩ := skipF z3 hd hp e1 e2 e3
              exact absurd ⟨FB_W f1 f2 hp hwd hW hW9, f1⟩ hnf)⟩
        · have hf := bi_ne0.mp c_70
          refine ac_aload_n 74 dX3_tryOrders_73 rfl rfl ?_
          refine ac_getO 77 92 dX3_tryOrders_74 rfl fl3_18 ob89 rfl ?_
          refine ac_iload_n 78 dX3_tryOrders_77 rfl rfl ?_
          refine ac_iload 80 dX3_tryOrders_78 rfl rfl ?_
          refine ac_iast 81 dX3_tryOrders_80 rfl ar92 (ix_nI (by omega) (by decide)) ?_
          refine ac_aload_n 82 dX3_tryOrders_81 rfl rfl ?_
          refine ac_aload_n 83 dX3_tryOrders_82 rfl rfl ?_
          refine ac_iload_n 84 dX3_tryOrders_83 rfl rfl ?_
          refine ac_iconst 85 1 dX3_tryOrders_84 rfl (by decide) ?_
          refine ac_iadd 86 dX3_tryOrders_85 rfl ?_
          rw [show ((nI d) + 1) = (nI (d + 1)) from (nI_1 _)]
          refine ac_iload_n 87 dX3_tryOrders_86 rfl rfl ?_
          refine ac_aload_n 88 dX3_tryOrders_87 rfl rfl ?_
          refine ac_getO 91 8 dX3_tryOrders_88 rfl fl3_67 ob7 rfl ?_
          refine ac_iload 93 dX3_tryOrders_91 rfl rfl ?_
          refine ac_iald 94 dX3_tryOrders_93 rfl ar8 (ix_nI (by omega) (by decide)) ?_
          rw [show ((am_up M1 92 d (nI p)) 8 p) = (M1 8 p) from rfl]
          rw [show (M1 8 p) = (nI (wd p)) from ((hw1.p0 hp).trans (hwd.1 p hp).1)]
          refine ac_iadd 95 dX3_tryOrders_94 rfl ?_
          refine ac_aload_n 96 dX3_tryOrders_95 rfl rfl ?_
          refine ac_getI 99 dX3_tryOrders_96 rfl fl3_89 ob89 ?_
          rw [show ((am_up M1 92 d (nI p)) 89 4) = (M1 89 4) from rfl]
          rw [show (M1 89 4) = (nI g) from h41]
          refine ac_iadd 100 dX3_tryOrders_99 rfl ?_
          refine ac_iload 102 dX3_tryOrders_100 rfl rfl ?_
          refine ac_iconst 103 1 dX3_tryOrders_102 rfl (by decide) ?_
          refine ac_iload 105 dX3_tryOrders_103 rfl rfl ?_
          refine ac_ishl 106 dX3_tryOrders_105 rfl ?_
          refine ac_ior 107 dX3_tryOrders_106 rfl ?_
          rw [show ((nI u) ||| (1 <<< ((nI p) &&& 31))) = (nI (u ||| 2 ^ p)) from (by rw [shl_ok p (by omega)]; exact or_ok u hu32 p (by omega))]
          refine ac_aload_n 108 dX3_tryOrders_107 rfl rfl ?_
          refine ac_getO 111 91 dX3_tryOrders_108 rfl fl3_15 ob89 rfl ?_
          refine ac_iload 113 dX3_tryOrders_111 rfl rfl ?_
          refine ac_lald 114 dX3_tryOrders_113 rfl ar91 (ix_nI (by omega) (by decide)) ?_
          refine ac_iload_n 115 dX3_tryOrders_114 rfl rfl ?_
          refine ac_callS (μ' := m3_isMarked) 118 dX3_tryOrders_115 rfl lk3_108 m3_isMarked_S (c3_markD (hMD p hp).2 hW9 (by omega)) rfl rfl (by omega) (Nat.le_of_ble_eq_true rfl) ?_
          refine ac_if_eq 126 121 dX3_tryOrders_118 (by decide) rfl (fun c_118 => ?_) (fun c_118 => ?_)
          · have eB : (nI (bkB wd (HB w nh) (dgB np d c) g x d) + 1 : Int32) = nI (bkB wd (HB w nh) (dgB np (d + 1) (c * np + p)) g x (d + 1)) := by
              rw [nI_1]
              refine congrArg nI ?_
              show _ = bkB wd (HB w nh) (dgB np (d + 1) (c * np + p)) g x d + cif _ 0 1
              rw [cif_f, bkB_congr d (fun k hk => dg_ext hk hp)]
              rw [dg_last hp, xkB_congr d (fun k hk => dg_ext hk hp)]
              exact fun h => bi_eq0.mp c_118 ⟨hf.1, hf.2, h⟩
            refine ac_iload 128 dX3_tryOrders_126 rfl rfl ?_
            refine ac_iconst 129 1 dX3_tryOrders_128 rfl (by decide) ?_
            refine ac_iadd 130 dX3_tryOrders_129 rfl ?_
            refine ac_iload 132 dX3_tryOrders_130 rfl rfl ?_
            refine ac_aload_n 133 dX3_tryOrders_132 rfl rfl ?_
            refine ac_iload 135 dX3_tryOrders_133 rfl rfl ?_
            refine ac_iload_n 136 dX3_tryOrders_135 rfl rfl ?_
            refine ac_callV (μ' := m6_momentAt) 139 dX3_tryOrders_136 rfl lk3_70 m6_momentAt_V ob7 (c6_momentAt (M := (am_up M1 92 d (nI p))) hw2 hp _) rfl rfl (by omega) (Nat.le_of_ble_eq_true rfl) ?_
            refine ac_iadd 140 dX3_tryOrders_139 rfl ?_
            have eX : (nI (xkB wd (dgB np d c) g x d) + nI (wd p) + nI g : Int32) = nI (xkB wd (dgB np (d + 1) (c * np + p)) g x (d + 1)) := by
              rw [nI_add, nI_add]
              refine congrArg nI ?_
              show _ = xkB wd (dgB np (d + 1) (c * np + p)) g x d + wd ((dgB np (d + 1) (c * np + p)) d) + g
              rw [dg_last hp, xkB_congr d (fun k hk => dg_ext hk hp)]
            have eM : (mkB wd (LB w) (dgB np d c) g x d) + leN w p (nI (xkB wd (dgB np d c) g x d)) = mkB wd (LB w) (dgB np (d + 1) (c * np + p)) g x (d + 1) := by
              show _ = mkB wd (LB w) (dgB np (d + 1) (c * np + p)) g x d + LB w ((dgB np (d + 1) (c * np + p)) d) (xkB wd (dgB np (d + 1) (c * np + p)) g x d)
              rw [dg_last hp, xkB_congr d (fun k hk => dg_ext hk hp), mkB_congr d (fun k hk => dg_ext hk hp)]
              rfl
            have hc2 : c * np + p < np ^ (d + 1) := by
              rw [Nat.pow_succ]
              calc c * np + p < c * np + np := by omega
                _ = (c + 1) * np := by rw [Nat.succ_mul]
                _ ≤ np ^ d * np := Nat.mul_le_mul_right _ hc
            have hok2 : okB wd (FB w nd) (dgB np (d + 1) (c * np + p)) g x (d + 1) := fun j hj => by
              by_cases hjd : j = d
              · subst hjd
                rw [dg_last hp, xkB_congr j (fun k hk => dg_ext hk hp)]
                exact ⟨Nat.lt_of_lt_of_le hf.1 hW9, hf.2⟩
              · rw [dg_ext (by omega) hp, xkB_congr j (fun k hk => dg_ext (by omega) hp)]
                exact hok j (by omega)
            have hni : ¬ imB (dgB np d c) d p := fun q => absurd ((hub p).mpr q) (by rw [hbt]; decide)
            have hnj2 : njB (dgB np (d + 1) (c * np + p)) (d + 1) := fun i j hij hj => by
              by_cases hjd : j = d
              · subst hjd
                rw [dg_last hp, dg_ext hij hp]
                exact fun e => hni ⟨i, hij, e⟩
              · rw [dg_ext (by omega) hp, dg_ext (by omega) hp]
                exact hnj i j hij (by omega)
            have hub2 : ∀ q, (u ||| 2 ^ p).testBit q = true ↔ imB (dgB np (d + 1) (c * np + p)) (d + 1) q := fun q => by
              rw [Nat.testBit_or, Bool.or_eq_true, hub q, Nat.testBit_two_pow]
              constructor
              · rintro (⟨k, hk, e⟩ | h)
                · exact ⟨k, by omega, (dg_ext hk hp).trans e⟩
                · exact ⟨d, by omega, (dg_last hp).trans (by simpa using h)⟩
              · rintro ⟨k, hk, e⟩
                by_cases hkd : k = d
                · subst hkd
                  rw [dg_last hp] at e
                  right
                  simpa using e
                · rw [dg_ext (by omega) hp] at e
                  exact Or.inl ⟨k, by omega, e⟩
            have ho2 : ∀ k, k < d + 1 → (am_up M1 92 d (nI p)) 92 k = nI (dgB np (d + 1) (c * np + p) k) := fun k hk => by
              by_cases hkd : k = d
              · subst hkd
                rw [up_eq, dg_last hp]
              · rw [up_ne hkd, dg_ext (by omega) hp, k2 k (by omega)]
                exact ho k (by omega)
            refine ac_callSg (μ' := m3_tryOrders) 143 dX3_tryOrders_140 rfl lk3_95 m3_tryOrders_S (IH (am_up M1 92 d (nI p)) (d + 1) (c * np + p) (u ||| 2 ^ p) r1 _ _ _ (by omega) eX eB eM ⟨hw2, hc2, hok2, hnj2, Nat.or_lt_two_pow hu (Nat.pow_lt_pow_right (by decide) hp), hub2, ho2, h61, h41, h51, hR1.same (fun _ _ => rfl) rfl⟩ hI1) rfl rfl (by omega) (Nat.le_of_ble_eq_true rfl) (fun v3 Md V3 f3 h3 => ?_)
            obtain ⟨j1, j2, j3, j4, j5, r3, j6, j7⟩ := h3
            subst j1
            obtain rfl := j2.symm
            obtain rfl := j3.symm
            refine ac_iinc 146 (nI (p + 1)) [some (Value.ref 89), some (Value.ref 7), some (Value.int (nI d)), some (Value.int (nI (xkB wd (dgB np d c) g x d))), some (Value.int (nI u)), some (Value.int (nI (bkB wd (HB w nh) (dgB np d c) g x d))), some (Value.int (mkB wd (LB w) (dgB np d c) g x d)), some (Value.int (nI (p + 1)))] dX3_tryOrders_143 rfl rfl (nI_1 _) rfl (by decide) rfl ?_
            refine ac_goto 40 dX3_tryOrders_146 (by decide) ?_
            exact ih _ ⟨hpr.1.trans (KC.trans hK2 j4), fun k hk => (j5 k (by omega)).trans (((by rw [up_ne (by omega)]) : (am_up M1 92 d (nI p)) 92 k = M1 92 k).trans (hpr.2.1 k hk)), r3, j6, j7⟩
          · have eB : (nI (bkB wd (HB w nh) (dgB np d c) g x d) : Int32) = nI (bkB wd (HB w nh) (dgB np (d + 1) (c * np + p)) g x (d + 1)) := by
              refine congrArg nI ?_
              show _ = bkB wd (HB w nh) (dgB np (d + 1) (c * np + p)) g x d + cif _ 0 1
              rw [cif_t, bkB_congr d (fun k hk => dg_ext hk hp), Nat.add_zero]
              rw [dg_last hp, xkB_congr d (fun k hk => dg_ext hk hp)]
              exact (bi_ne0.mp c_118).2.2
            refine ac_iload 123 dX3_tryOrders_121 rfl rfl ?_
            refine ac_goto 130 dX3_tryOrders_123 (by decide) ?_
            refine ac_iload 132 dX3_tryOrders_130 rfl rfl ?_
            refine ac_aload_n 133 dX3_tryOrders_132 rfl rfl ?_
            refine ac_iload 135 dX3_tryOrders_133 rfl rfl ?_
            refine ac_iload_n 136 dX3_tryOrders_135 rfl rfl ?_
            refine ac_callV (μ' := m6_momentAt) 139 dX3_tryOrders_136 rfl lk3_70 m6_momentAt_V ob7 (c6_momentAt (M := (am_up M1 92 d (nI p))) hw2 hp _) rfl rfl (by omega) (Nat.le_of_ble_eq_true rfl) ?_
            refine ac_iadd 140 dX3_tryOrders_139 rfl ?_
            have eX : (nI (xkB wd (dgB np d c) g x d) + nI (wd p) + nI g : Int32) = nI (xkB wd (dgB np (d + 1) (c * np + p)) g x (d + 1)) := by
              rw [nI_add, nI_add]
              refine congrArg nI ?_
              show _ = xkB wd (dgB np (d + 1) (c * np + p)) g x d + wd ((dgB np (d + 1) (c * np + p)) d) + g
              rw [dg_last hp, xkB_congr d (fun k hk => dg_ext hk hp)]
            have eM : (mkB wd (LB w) (dgB np d c) g x d) + leN w p (nI (xkB wd (dgB np d c) g x d)) = mkB wd (LB w) (dgB np (d + 1) (c * np + p)) g x (d + 1) := by
              show _ = mkB wd (LB w) (dgB np (d + 1) (c * np + p)) g x d + LB w ((dgB np (d + 1) (c * np + p)) d) (xkB wd (dgB np (d + 1) (c * np + p)) g x d)
              rw [dg_last hp, xkB_congr d (fun k hk => dg_ext hk hp), mkB_congr d (fun k hk => dg_ext hk hp)]
              rfl
            have hc2 : c * np + p < np ^ (d + 1) := by
              rw [Nat.pow_succ]
              calc c * np + p < c * np + np := by omega
                _ = (c + 1) * np := by rw [Nat.succ_mul]
                _ ≤ np ^ d * np := Nat.mul_le_mul_right _ hc
            have hok2 : okB wd (FB w nd) (dgB np (d + 1) (c * np + p)) g x (d + 1) := fun j hj => by
              by_cases hjd : j = d
              · subst hjd
                rw [dg_last hp, xkB_congr j (fun k hk => dg_ext hk hp)]
                exact ⟨Nat.lt_of_lt_of_le hf.1 hW9, hf.2⟩
              · rw [dg_ext (by omega) hp, xkB_congr j (fun k hk => dg_ext (by omega) hp)]
                exact hok j (by omega)
            have hni : ¬ imB (dgB np d c) d p := fun q => absurd ((hub p).mpr q) (by rw [hbt]; decide)
            have hnj2 : njB (dgB np (d + 1) (c * np + p)) (d + 1) := fun i j hij hj => by
              by_cases hjd : j = d
              · subst hjd
                rw [dg_last hp, dg_ext hij hp]
                exact fun e => hni ⟨i, hij, e⟩
              · rw [dg_ext (by omega) hp, dg_ext (by omega) hp]
                exact hnj i j hij (by omega)
            have hub2 : ∀ q, (u ||| 2 ^ p).testBit q = true ↔ imB (dgB np (d + 1) (c * np + p)) (d + 1) q := fun q => by
              rw [Nat.testBit_or, Bool.or_eq_true, hub q, Nat.testBit_two_pow]
              constructor
              · rintro (⟨k, hk, e⟩ | h)
                · exact ⟨k, by omega, (dg_ext hk hp).trans e⟩
                · exact ⟨d, by omega, (dg_last hp).trans (by simpa using h)⟩
              · rintro ⟨k, hk, e⟩
                by_cases hkd : k = d
                · subst hkd
                  rw [dg_last hp] at e
                  right
                  simpa using e
                · rw [dg_ext (by omega) hp] at e
                  exact Or.inl ⟨k, by omega, e⟩
            have ho2 : ∀ k, k < d + 1 → (am_up M1 92 d (nI p)) 92 k = nI (dgB np (d + 1) (c * np + p) k) := fun k hk => by
              by_cases hkd : k = d
              · subst hkd
                rw [up_eq, dg_last hp]
              · rw [up_ne hkd, dg_ext (by omega) hp, k2 k (by omega)]
                exact ho k (by omega)
            refine ac_callSg (μ' := m3_tryOrders) 143 dX3_tryOrders_140 rfl lk3_95 m3_tryOrders_S (IH (am_up M1 92 d (nI p)) (d + 1) (c * np + p) (u ||| 2 ^ p) r1 _ _ _ (by omega) eX eB eM ⟨hw2, hc2, hok2, hnj2, Nat.or_lt_two_pow hu (Nat.pow_lt_pow_right (by decide) hp), hub2, ho2, h61, h41, h51, hR1.same (fun _ _ => rfl) rfl⟩ hI1) rfl rfl (by omega) (Nat.le_of_ble_eq_true rfl) (fun v3 Md V3 f3 h3 => ?_)
            obtain ⟨j1, j2, j3, j4, j5, r3, j6, j7⟩ := h3
            subst j1
            obtain rfl := j2.symm
            obtain rfl := j3.symm
            refine ac_iinc 146 (nI (p + 1)) [some (Value.ref 89), some (Value.ref 7), some (Value.int (nI d)), some (Value.int (nI (xkB wd (dgB np d c) g x d))), some (Value.int (nI u)), some (Value.int (nI (bkB wd (HB w nh) (dgB np d c) g x d))), some (Value.int (mkB wd (LB w) (dgB np d c) g x d)), some (Value.int (nI (p + 1)))] dX3_tryOrders_143 rfl rfl (nI_1 _) rfl (by decide) rfl ?_
            refine ac_goto 40 dX3_tryOrders_146 (by decide) ?_
            exact ih _ ⟨hpr.1.trans (KC.trans hK2 j4), fun k hk => (j5 k (by omega)).trans (((by rw [up_ne (by omega)]) : (am_up M1 92 d (nI p)) 92 k = M1 92 k).trans (hpr.2.1 k hk)), r3, j6, j7⟩
  · obtain ⟨y0, hr, e0, e1, e2, e3, e4⟩ := RBc_s hR c_4
    subst hr
    have b4 : (bB wd (HB w nh) np) y0 ≤ np := bkB_le np
    refine ac_iload 9 dX3_tryOrders_7 rfl rfl ?_
    refine ac_aload_n 10 dX3_tryOrders_9 rfl rfl ?_
    refine ac_getI 13 dX3_tryOrders_10 rfl fl3_29 ob89 ?_
    rw [show (M 89 10) = (nI ((bB wd (HB w nh) np) y0)) from e0]
    refine ac_icmp_le 17 16 dX3_tryOrders_13 (by decide) rfl (fun c_13 => ?_) (fun c_13 => ?_)
    · refine ac_iload_n 18 dX3_tryOrders_17 rfl rfl ?_
      refine ac_aload_n 19 dX3_tryOrders_18 rfl rfl ?_
      refine ac_getI 22 dX3_tryOrders_19 rfl fl3_46 ob89 ?_
      rw [show (M 89 6) = (nI np) from h6]
      refine ac_icmp_lt 37 25 dX3_tryOrders_22 (by decide) rfl (fun _ => ?_) (fun c_22 => absurd (nI_lt (by omega) (by omega)) c_22)
      refine ac_iconst 38 0 dX3_tryOrders_37 rfl (by decide) ?_
      refine ac_istore 40 [some (Value.ref 89), some (Value.ref 7), some (Value.int (nI d)), some (Value.int (nI (xkB wd (dgB np d c) g x d))), some (Value.int (nI u)), some (Value.int (nI (bkB wd (HB w nh) (dgB np d c) g x d))), some (Value.int (mkB wd (LB w) (dgB np d c) g x d)), some (Value.int 0)] dX3_tryOrders_38 rfl rfl (Nat.le_of_ble_eq_true rfl) (by decide) rfl ?_
      refine ac_down (n := np) (P := fun p => ∀ (M1 : am_I), (KC M M1 ∧ (∀ k, k < d → M1 92 k = M 92 k) ∧ ∃ r1, RBc wd (HB w nh) (LB w) np M1 r1 ∧ IsB (VLB wd (FB w nd) np gp) (bB wd (HB w nh) np) (oB wd (LB w) np) (fun y => psC y < g * 262144 + x * 4096 + (c * np + p) * np ^ t) r1) → A0 m3_tryOrders (4 + (t + 1)) 40 [some (Value.ref 89), some (Value.ref 7), some (Value.int (nI d)), some (Value.int (nI (xkB wd (dgB np d c) g x d))), some (Value.int (nI u)), some (Value.int (nI (bkB wd (HB w nh) (dgB np d c) g x d))), some (Value.int (mkB wd (LB w) (dgB np d c) g x d)), some (Value.int (nI p))] [] M1 V f (fun v M' V' f' => v = none ∧ V' = V ∧ f' = f ∧ KC M M' ∧ (∀ k, k < d → M' 92 k = M 92 k) ∧ ∃ r', RBc wd (HB w nh) (LB w) np M' r' ∧ IsB (VLB wd (FB w nd) np gp) (bB wd (HB w nh) np) (oB wd (LB w) np) (fun y => psC y < g * 262144 + x * 4096 + (c + 1) * np ^ (t + 1)) r')) ?_ ?_ 0 (Nat.zero_le _) M ⟨KC.refl M, fun _ _ => rfl, _, hR, by rw [Nat.add_zero, ← K_st]; exact hI⟩
      · intro M1 hpr
        obtain ⟨k1, k2, r1, hR1, hI1⟩ := hpr
        have h61 : M1 89 6 = nI np := (k1.2 6 (by decide)).trans h6
        refine ac_iload 42 dX3_tryOrders_40 rfl rfl ?_
        refine ac_aload_n 43 dX3_tryOrders_42 rfl rfl ?_
        refine ac_getI 46 dX3_tryOrders_43 rfl fl3_46 ob89 ?_
        rw [show (M1 89 6) = (nI np) from h61]
        refine ac_icmp_ge 149 49 dX3_tryOrders_46 (by decide) rfl (fun _ => ?_) (fun c_46 => absurd (Int32.le_refl _) c_46)
        refine ac_vret dX3_tryOrders_149 rfl ?_
        refine ⟨rfl, rfl, rfl, k1, k2, r1, hR1, ?_⟩
        rw [← Nat.succ_mul c np, ← K_st] at hI1
        exact hI1
      · intro p hp ih M1 hpr
        obtain ⟨k1, k2, r1, hR1, hI1⟩ := id hpr
        have h61 : M1 89 6 = nI np := (k1.2 6 (by decide)).trans h6
        have h41 : M1 89 4 = nI g := (k1.2 4 (by decide)).trans h4
        have h51 : M1 89 5 = nI x := (k1.2 5 (by decide)).trans h5
        have hw1 : CW M1 7 w np nd nh := hw.same (fun i hi => k1.1 (7 + i) (by omega) (by omega) (by omega))
        have hw2 : CW (am_up M1 92 d (nI p)) 7 w np nd nh := hw1.same (fun i hi => am_up_ne (by omega))
        have hK2 : KC M1 (am_up M1 92 d (nI p)) := ⟨fun i a1 a2 a3 => am_up_ne a2, fun k hk => by rw [am_up_ne (by decide)]⟩
        have hcP := cK_le (np := np) (d := d + 1) (c := c * np + p) (t := t) (by omega) hnp (by
          rw [Nat.pow_succ]
          calc c * np + p < c * np + np := by omega
            _ = (c + 1) * np := by rw [Nat.succ_mul]
            _ ≤ np ^ d * np := Nat.mul_le_mul_right _ hc)
        have bo := bit_ok u hu32 p (by omega)
        refine ac_iload 42 dX3_tryOrders_40 rfl rfl ?_
        refine ac_aload_n 43 dX3_tryOrders_42 rfl rfl ?_
        refine ac_getI 46 dX3_tryOrders_43 rfl fl3_46 ob89 ?_
        rw [show (M1 89 6) = (nI np) from h61]
        refine ac_icmp_ge 149 49 dX3_tryOrders_46 (by decide) rfl (fun c_46 => absurd c_46 (nI_ge hp (by omega))) (fun _ => ?_)
        refine ac_iload 51 dX3_tryOrders_49 rfl rfl ?_
        refine ac_iconst 52 1 dX3_tryOrders_51 rfl (by decide) ?_
        refine ac_iload 54 dX3_tryOrders_52 rfl rfl ?_
        refine ac_ishl 55 dX3_tryOrders_54 rfl ?_
        refine ac_iand 56 dX3_tryOrders_55 rfl ?_
        refine ac_if_ne 143 59 dX3_tryOrders_56 (by decide) rfl (fun c_56 => ?_) (fun c_56 => ?_)
        · have hbt : u.testBit p = true := by
            cases hc9 : u.testBit p with
            | true => rfl
            | false => exact absurd (bo.mpr hc9) c_56
          refine ac_iinc 146 (nI (p + 1)) [some (Value.ref 89), some (Value.ref 7), some (Value.int (nI d)), some (Value.int (nI (xkB wd (dgB np d c) g x d))), some (Value.int (nI u)), some (Value.int (nI (bkB wd (HB w nh) (dgB np d c) g x d))), some (Value.int (mkB wd (LB w) (dgB np d c) g x d)), some (Value.int (nI (p + 1)))] dX3_tryOrders_143 rfl rfl (nI_1 _) rfl (by decide) rfl ?_
          refine ac_goto 40 dX3_tryOrders_146 (by decide) ?_
          exact ih _ ⟨hpr.1, hpr.2.1, r1, hR1, IsB_more hI1 (fun y hy => by
            have hy2 : psC y < _ := hy
            show psC y < _
            rw [← Nat.add_assoc (c * np) p 1, Nat.succ_mul (c * np + p)]
            omega) (fun y z1 z3 => by
            by_cases z2 : psC y < g * 262144 + x * 4096 + (c * np + p) * np ^ t
            · exact z2
            · obtain ⟨e1, e2, e3⟩ := rng_y z3 hnp hx hcP (Nat.not_lt.mp z2) z1
              exact absurd (hub p |>.mp hbt) (fun q => skipU z3 hd hp e3 q))⟩
        · have hbt : u.testBit p = false := bo.mp c_56
          refine ac_aload_n 60 dX3_tryOrders_59 rfl rfl ?_
          refine ac_getO 63 90 dX3_tryOrders_60 rfl fl3_9 ob89 rfl ?_
          refine ac_iload 65 dX3_tryOrders_63 rfl rfl ?_
          refine ac_lald 66 dX3_tryOrders_65 rfl ar90 (ix_nI (by omega) (by decide)) ?_
          refine ac_iload_n 67 dX3_tryOrders_66 rfl rfl ?_
          refine ac_callS (μ' := m3_isMarked) 70 dX3_tryOrders_67 rfl lk3_108 m3_isMarked_S (c3_markD (hMD p hp).1 hW9 (by omega)) rfl rfl (by omega) (Nat.le_of_ble_eq_true rfl) ?_
          refine ac_if_eq 143 73 dX3_tryOrders_70 (by decide) rfl (fun c_70 => ?_) (fun c_70 => ?_)
          · have hnf := bi_eq0.mp c_70
            refine ac_iinc 146 (nI (p + 1)) [some (Value.ref 89), some (Value.ref 7), some (Value.int (nI d)), some (Value.int (nI (xkB wd (dgB np d c) g x d))), some (Value.int (nI u)), some (Value.int (nI (bkB wd (HB w nh) (dgB np d c) g x d))), some (Value.int (mkB wd (LB w) (dgB np d c) g x d)), some (Value.int (nI (p + 1)))] dX3_tryOrders_143 rfl rfl (nI_1 _) rfl (by decide) rfl ?_
            refine ac_goto 40 dX3_tryOrders_146 (by decide) ?_
            exact ih _ ⟨hpr.1, hpr.2.1, r1, hR1, IsB_more hI1 (fun y hy => by
              have hy2 : psC y < _ := hy
              show psC y < _
              rw [← Nat.add_assoc (c * np) p 1, Nat.succ_mul (c * np + p)]
              omega) (fun y z1 z3 => by
              by_cases z2 : psC y < g * 262144 + x * 4096 + (c * np + p) * np ^ t
              · exact z2
              · obtain ⟨e1, e2, e3⟩ := rng_y z3 hnp hx hcP (Nat.not_lt.mp z2) z1
                obtain ⟨f1, f2⟩ := skipF z3 hd hp e1 e2 e3
                exact absurd ⟨FB_W f1 f2 hp hwd hW hW9, f1⟩ hnf)⟩
          · have hf := bi_ne0.mp c_70
            refine ac_aload_n 74 dX3_tryOrders_73 rfl rfl ?_
            refine ac_getO 77 92 dX3_tryOrders_74 rfl fl3_18 ob89 rfl ?_
            refine ac_iload_n 78 dX3_tryOrders_77 rfl rfl ?_
            refine ac_iload 80 dX3_tryOrders_78 rfl rfl ?_
            refine ac_iast 81 dX3_tryOrders_80 rfl ar92 (ix_nI (by omega) (by decide)) ?_
            refine ac_aload_n 82 dX3_tryOrders_81 rfl rfl ?_
            refine ac_aload_n 83 dX3_tryOrders_82 rfl rfl ?_
            refine ac_iload_n 84 dX3_tryOrders_83 rfl rfl ?_
            refine ac_iconst 85 1 dX3_tryOrders_84 rfl (by decide) ?_
            refine ac_iadd 86 dX3_tryOrders_85 rfl ?_
            rw [show ((nI d) + 1) = (nI (d + 1)) from (nI_1 _)]
            refine ac_iload_n 87 dX3_tryOrders_86 rfl rfl ?_
            refine ac_aload_n 88 dX3_tryOrders_87 rfl rfl ?_
            refine ac_getO 91 8 dX3_tryOrders_88 rfl fl3_67 ob7 rfl ?_
            refine ac_iload 93 dX3_tryOrders_91 rfl rfl ?_
            refine ac_iald 94 dX3_tryOrders_93 rfl ar8 (ix_nI (by omega) (by decide)) ?_
            rw [show ((am_up M1 92 d (nI p)) 8 p) = (M1 8 p) from rfl]
            rw [show (M1 8 p) = (nI (wd p)) from ((hw1.p0 hp).trans (hwd.1 p hp).1)]
            refine ac_iadd 95 dX3_tryOrders_94 rfl ?_
            refine ac_aload_n 96 dX3_tryOrders_95 rfl rfl ?_
            refine ac_getI 99 dX3_tryOrders_96 rfl fl3_89 ob89 ?_
            rw [show ((am_up M1 92 d (nI p)) 89 4) = (M1 89 4) from rfl]
            rw [show (M1 89 4) = (nI g) from h41]
            refine ac_iadd 100 dX3_tryOrders_99 rfl ?_
            refine ac_iload 102 dX3_tryOrders_100 rfl rfl ?_
            refine ac_iconst 103 1 dX3_tryOrders_102 rfl (by decide) ?_
            refine ac_iload 105 dX3_tryOrders_103 rfl rfl ?_
            refine ac_ishl 106 dX3_tryOrders_105 rfl ?_
            refine ac_ior 107 dX3_tryOrders_106 rfl ?_
            rw [show ((nI u) ||| (1 <<< ((nI p) &&& 31))) = (nI (u ||| 2 ^ p)) from (by rw [shl_ok p (by omega)]; exact or_ok u hu32 p (by omega))]
            refine ac_aload_n 108 dX3_tryOrders_107 rfl rfl ?_
            refine ac_getO 111 91 dX3_tryOrders_108 rfl fl3_15 ob89 rfl ?_
            refine ac_iload 113 dX3_tryOrders_111 rfl rfl ?_
            refine ac_lald 114 dX3_tryOrders_113 rfl ar91 (ix_nI (by omega) (by decide)) ?_
            refine ac_iload_n 115 dX3_tryOrders_114 rfl rfl ?_
            refine ac_callS (μ' := m3_isMarked) 118 dX3_tryOrders_115 rfl lk3_108 m3_isMarked_S (c3_markD (hMD p hp).2 hW9 (by omega)) rfl rfl (by omega) (Nat.le_of_ble_eq_true rfl) ?_
            refine ac_if_eq 126 121 dX3_tryOrders_118 (by decide) rfl (fun c_118 => ?_) (fun c_118 => ?_)
            · have eB : (nI (bkB wd (HB w nh) (dgB np d c) g x d) + 1 : Int32) = nI (bkB wd (HB w nh) (dgB np (d + 1) (c * np + p)) g x (d + 1)) := by
                rw [nI_1]
                refine congrArg nI ?_
                show _ = bkB wd (HB w nh) (dgB np (d + 1) (c * np + p)) g x d + cif _ 0 1
                rw [cif_f, bkB_congr d (fun k hk => dg_ext hk hp)]
                rw [dg_last hp, xkB_congr d (fun k hk => dg_ext hk hp)]
                exact fun h => bi_eq0.mp c_118 ⟨hf.1, hf.2, h⟩
              refine ac_iload 128 dX3_tryOrders_126 rfl rfl ?_
              refine ac_iconst 129 1 dX3_tryOrders_128 rfl (by decide) ?_
              refine ac_iadd 130 dX3_tryOrders_129 rfl ?_
              refine ac_iload 132 dX3_tryOrders_130 rfl rfl ?_
              refine ac_aload_n 133 dX3_tryOrders_132 rfl rfl ?_
              refine ac_iload 135 dX3_tryOrders_133 rfl rfl ?_
              refine ac_iload_n 136 dX3_tryOrders_135 rfl rfl ?_
              refine ac_callV (μ' := m6_momentAt) 139 dX3_tryOrders_136 rfl lk3_70 m6_momentAt_V ob7 (c6_momentAt (M := (am_up M1 92 d (nI p))) hw2 hp _) rfl rfl (by omega) (Nat.le_of_ble_eq_true rfl) ?_
              refine ac_iadd 140 dX3_tryOrders_139 rfl ?_
              have eX : (nI (xkB wd (dgB np d c) g x d) + nI (wd p) + nI g : Int32) = nI (xkB wd (dgB np (d + 1) (c * np + p)) g x (d + 1)) := by
                rw [nI_add, nI_add]
                refine congrArg nI ?_
                show _ = xkB wd (dgB np (d + 1) (c * np + p)) g x d + wd ((dgB np (d + 1) (c * np + p)) d) + g
                rw [dg_last hp, xkB_congr d (fun k hk => dg_ext hk hp)]
              have eM : (mkB wd (LB w) (dgB np d c) g x d) + leN w p (nI (xkB wd (dgB np d c) g x d)) = mkB wd (LB w) (dgB np (d + 1) (c * np + p)) g x (d + 1) := by
                show _ = mkB wd (LB w) (dgB np (d + 1) (c * np + p)) g x d + LB w ((dgB np (d + 1) (c * np + p)) d) (xkB wd (dgB np (d + 1) (c * np + p)) g x d)
                rw [dg_last hp, xkB_congr d (fun k hk => dg_ext hk hp), mkB_congr d (fun k hk => dg_ext hk hp)]
                rfl
              have hc2 : c * np + p < np ^ (d + 1) := by
                rw [Nat.pow_succ]
                calc c * np + p < c * np + np := by omega
                  _ = (c + 1) * np := by rw [Nat.succ_mul]
                  _ ≤ np ^ d * np := Nat.mul_le_mul_right _ hc
              have hok2 : okB wd (FB w nd) (dgB np (d + 1) (c * np + p)) g x (d + 1) := fun j hj => by
                by_cases hjd : j = d
                · subst hjd
                  rw [dg_last hp, xkB_congr j (fun k hk => dg_ext hk hp)]
                  exact ⟨Nat.lt_of_lt_of_le hf.1 hW9, hf.2⟩
                · rw [dg_ext (by omega) hp, xkB_congr j (fun k hk => dg_ext (by omega) hp)]
                  exact hok j (by omega)
              have hni : ¬ imB (dgB np d c) d p := fun q => absurd ((hub p).mpr q) (by rw [hbt]; decide)
              have hnj2 : njB (dgB np (d + 1) (c * np + p)) (d + 1) := fun i j hij hj => by
                by_cases hjd : j = d
                · subst hjd
                  rw [dg_last hp, dg_ext hij hp]
                  exact fun e => hni ⟨i, hij, e⟩
                · rw [dg_ext (by omega) hp, dg_ext (by omega) hp]
                  exact hnj i j hij (by omega)
              have hub2 : ∀ q, (u ||| 2 ^ p).testBit q = true ↔ imB (dgB np (d + 1) (c * np + p)) (d + 1) q := fun q => by
                rw [Nat.testBit_or, Bool.or_eq_true, hub q, Nat.testBit_two_pow]
                constructor
                · rintro (⟨k, hk, e⟩ | h)
                  · exact ⟨k, by omega, (dg_ext hk hp).trans e⟩
                  · exact ⟨d, by omega, (dg_last hp).trans (by simpa using h)⟩
                · rintro ⟨k, hk, e⟩
                  by_cases hkd : k = d
                  · subst hkd
                    rw [dg_last hp] at e
                    right
                    simpa using e
                  · rw [dg_ext (by omega) hp] at e
                    exact Or.inl ⟨k, by omega, e⟩
              have ho2 : ∀ k, k < d + 1 → (am_up M1 92 d (nI p)) 92 k = nI (dgB np (d + 1) (c * np + p) k) := fun k hk => by
                by_cases hkd : k = d
                · subst hkd
                  rw [up_eq, dg_last hp]
                · rw [up_ne hkd, dg_ext (by omega) hp, k2 k (by omega)]
                  exact ho k (by omega)
              refine ac_callSg (μ' := m3_tryOrders) 143 dX3_tryOrders_140 rfl lk3_95 m3_tryOrders_S (IH (am_up M1 92 d (nI p)) (d + 1) (c * np + p) (u ||| 2 ^ p) r1 _ _ _ (by omega) eX eB eM ⟨hw2, hc2, hok2, hnj2, Nat.or_lt_two_pow hu (Nat.pow_lt_pow_right (by decide) hp), hub2, ho2, h61, h41, h51, hR1.same (fun _ _ => rfl) rfl⟩ hI1) rfl rfl (by omega) (Nat.le_of_ble_eq_true rfl) (fun v3 Md V3 f3 h3 => ?_)
              obtain ⟨j1, j2, j3, j4, j5, r3, j6, j7⟩ := h3
              subst j1
              obtain rfl := j2.symm
              obtain rfl := j3.symm
              refine ac_iinc 146 (nI (p + 1)) [some (Value.ref 89), some (Value.ref 7), some (Value.int (nI d)), some (Value.int (nI (xkB wd (dgB np d c) g x d))), some (Value.int (nI u)), some (Value.int (nI (bkB wd (HB w nh) (dgB np d c) g x d))), some (Value.int (mkB wd (LB w) (dgB np d c) g x d)), some (Value.int (nI (p + 1)))] dX3_tryOrders_143 rfl rfl (nI_1 _) rfl (by decide) rfl ?_
              refine ac_goto 40 dX3_tryOrders_146 (by decide) ?_
              exact ih _ ⟨hpr.1.trans (KC.trans hK2 j4), fun k hk => (j5 k (by omega)).trans (((by rw [up_ne (by omega)]) : (am_up M1 92 d (nI p)) 92 k = M1 92 k).trans (hpr.2.1 k hk)), r3, j6, j7⟩
            · have eB : (nI (bkB wd (HB w nh) (dgB np d c) g x d) : Int32) = nI (bkB wd (HB w nh) (dgB np (d + 1) (c * np + p)) g x (d + 1)) := by
                refine congrArg nI ?_
                show _ = bkB wd (HB w nh) (dgB np (d + 1) (c * np + p)) g x d + cif _ 0 1
                rw [cif_t, bkB_congr d (fun k hk => dg_ext hk hp), Nat.add_zero]
                rw [dg_last hp, xkB_congr d (fun k hk => dg_ext hk hp)]
                exact (bi_ne0.mp c_118).2.2
              refine ac_iload 123 dX3_tryOrders_121 rfl rfl ?_
              refine ac_goto 130 dX3_tryOrders_123 (by decide) ?_
              refine ac_iload 132 dX3_tryOrders_130 rfl rfl ?_
              refine ac_aload_n 133 dX3_tryOrders_132 rfl rfl ?_
              refine ac_iload 135 dX3_tryOrders_133 rfl rfl ?_
              refine ac_iload_n 136 dX3_tryOrders_135 rfl rfl ?_
              refine ac_callV (μ' := m6_momentAt) 139 dX3_tryOrders_136 rfl lk3_70 m6_momentAt_V ob7 (c6_momentAt (M := (am_up M1 92 d (nI p))) hw2 hp _) rfl rfl (by omega) (Nat.le_of_ble_eq_true rfl) ?_
              refine ac_iadd 140 dX3_tryOrders_139 rfl ?_
              have eX : (nI (xkB wd (dgB np d c) g x d) + nI (wd p) + nI g : Int32) = nI (xkB wd (dgB np (d + 1) (c * np + p)) g x (d + 1)) := by
                rw [nI_add, nI_add]
                refine congrArg nI ?_
                show _ = xkB wd (dgB np (d + 1) (c * np + p)) g x d + wd ((dgB np (d + 1) (c * np + p)) d) + g
                rw [dg_last hp, xkB_congr d (fun k hk => dg_ext hk hp)]
              have eM : (mkB wd (LB w) (dgB np d c) g x d) + leN w p (nI (xkB wd (dgB np d c) g x d)) = mkB wd (LB w) (dgB np (d + 1) (c * np + p)) g x (d + 1) := by
                show _ = mkB wd (LB w) (dgB np (d + 1) (c * np + p)) g x d + LB w ((dgB np (d + 1) (c * np + p)) d) (xkB wd (dgB np (d + 1) (c * np + p)) g x d)
                rw [dg_last hp, xkB_congr d (fun k hk => dg_ext hk hp), mkB_congr d (fun k hk => dg_ext hk hp)]
                rfl
              have hc2 : c * np + p < np ^ (d + 1) := by
                rw [Nat.pow_succ]
                calc c * np + p < c * np + np := by omega
                  _ = (c + 1) * np := by rw [Nat.succ_mul]
                  _ ≤ np ^ d * np := Nat.mul_le_mul_right _ hc
              have hok2 : okB wd (FB w nd) (dgB np (d + 1) (c * np + p)) g x (d + 1) := fun j hj => by
                by_cases hjd : j = d
                · subst hjd
                  rw [dg_last hp, xkB_congr j (fun k hk => dg_ext hk hp)]
                  exact ⟨Nat.lt_of_lt_of_le hf.1 hW9, hf.2⟩
                · rw [dg_ext (by omega) hp, xkB_congr j (fun k hk => dg_ext (by omega) hp)]
                  exact hok j (by omega)
              have hni : ¬ imB (dgB np d c) d p := fun q => absurd ((hub p).mpr q) (by rw [hbt]; decide)
              have hnj2 : njB (dgB np (d + 1) (c * np + p)) (d + 1) := fun i j hij hj => by
                by_cases hjd : j = d
                · subst hjd
                  rw [dg_last hp, dg_ext hij hp]
                  exact fun e => hni ⟨i, hij, e⟩
                · rw [dg_ext (by omega) hp, dg_ext (by omega) hp]
                  exact hnj i j hij (by omega)
              have hub2 : ∀ q, (u ||| 2 ^ p).testBit q = true ↔ imB (dgB np (d + 1) (c * np + p)) (d + 1) q := fun q => by
                rw [Nat.testBit_or, Bool.or_eq_true, hub q, Nat.testBit_two_pow]
                constructor
                · rintro (⟨k, hk, e⟩ | h)
                  · exact ⟨k, by omega, (dg_ext hk hp).trans e⟩
                  · exact ⟨d, by omega, (dg_last hp).trans (by simpa using h)⟩
                · rintro ⟨k, hk, e⟩
                  by_cases hkd : k = d
                  · subst hkd
                    rw [dg_last hp] at e
                    right
                    simpa using e
                  · rw [dg_ext (by omega) hp] at e
                    exact Or.inl ⟨k, by omega, e⟩
              have ho2 : ∀ k, k < d + 1 → (am_up M1 92 d (nI p)) 92 k = nI (dgB np (d + 1) (c * np + p) k) := fun k hk => by
                by_cases hkd : k = d
                · subst hkd
                  rw [up_eq, dg_last hp]
                · rw [up_ne hkd, dg_ext (by omega) hp, k2 k (by omega)]
                  exact ho k (by omega)
              refine ac_callSg (μ' := m3_tryOrders) 143 dX3_tryOrders_140 rfl lk3_95 m3_tryOrders_S (IH (am_up M1 92 d (nI p)) (d + 1) (c * np + p) (u ||| 2 ^ p) r1 _ _ _ (by omega) eX eB eM ⟨hw2, hc2, hok2, hnj2, Nat.or_lt_two_pow hu (Nat.pow_lt_pow_right (by decide) hp), hub2, ho2, h61, h41, h51, hR1.same (fun _ _ => rfl) rfl⟩ hI1) rfl rfl (by omega) (Nat.le_of_ble_eq_true rfl) (fun v3 Md V3 f3 h3 => ?_)
              obtain ⟨j1, j2, j3, j4, j5, r3, j6, j7⟩ := h3
              subst j1
              obtain rfl := j2.symm
              obtain rfl := j3.symm
              refine ac_iinc 146 (nI (p + 1)) [some (Value.ref 89), some (Value.ref 7), some (Value.int (nI d)), some (Value.int (nI (xkB wd (dgB np d c) g x d))), some (Value.int (nI u)), some (Value.int (nI (bkB wd (HB w nh) (dgB np d c) g x d))), some (Value.int (mkB wd (LB w) (dgB np d c) g x d)), some (Value.int (nI (p + 1)))] dX3_tryOrders_143 rfl rfl (nI_1 _) rfl (by decide) rfl ?_
              refine ac_goto 40 dX3_tryOrders_146 (by decide) ?_
              exact ih _ ⟨hpr.1.trans (KC.trans hK2 j4), fun k hk => (j5 k (by omega)).trans (((by rw [up_ne (by omega)]) : (am_up M1 92 d (nI p)) 92 k = M1 92 k).trans (hpr.2.1 k hk)), r3, j6, j7⟩
    · have hbl : (bB wd (HB w nh) np) y0 < (bkB wd (HB w nh) (dgB np d c) g x d) := (nI_ltI (by omega) (by omega)).mp (Int32.not_le.mp c_13)
      refine ac_vret dX3_tryOrders_16 rfl ?_
      exact ⟨rfl, rfl, rfl, KC.refl _, fun _ _ => rfl, some y0, hR, IsB_keep hI (fun y hy => by
        have hy2 : psC y < _ := hy
        rw [Nat.succ_mul]
        show psC y < _
        omega) (fun y z1 z2 z3 => by
        obtain ⟨e1, e2, e3⟩ := rng_y z3 hnp hx hcK (Nat.not_lt.mp z2) z1
        have hbb := pre_b (np := np) (wd := wd) (F := FB w nd) (H := HB w nh) (gp := gp) hd e1 e2 e3
        exact ⟨y0, rfl, Or.inl (by omega)⟩)⟩
theorem c3_tO {V : am_J} {f : Nat → Option Nat} {w : rN} {np nd nh gp g x W : Nat} {wd : Nat → Nat} (hwd : WD w np wd gp) (hW : w 0 = nI W) (hW9 : W ≤ 40) (h0 : 0 < np) (hx : x < 40) (hg : gp ≤ g) (hg2 : g ≤ 20) (hMD : ∀ p, p < np → MD (V 90 p) W (FB w nd p) ∧ MD (V 91 p) W (fun x => FB w nd p x ∧ HB w nh p x)) : ∀ t, TOs w np nd nh gp g x W wd V f t
  | 0 => fun M d c u r xv bv mv hd e1 e2 e3 ⟨a1, a2, a3, a4, a5, a6, a7, a8, a9, a10, a11⟩ hI => by
    have hd2 : d = np := hd
    subst hd2
    subst e1; subst e2; subst e3
    exact c3_tO0 hwd hW hW9 h0 hx hg hg2 hMD a1 a2 a3 a4 a5 a6 a7 a8 a9 a10 a11 hI
  | t + 1 => fun M d c u r xv bv mv hd e1 e2 e3 ⟨a1, a2, a3, a4, a5, a6, a7, a8, a9, a10, a11⟩ hI => by
    subst e1; subst e2; subst e3
    exact c3_tOs hwd hW hW9 h0 hx hg hg2 hMD (c3_tO hwd hW hW9 h0 hx hg hg2 hMD t) hd a1 a2 a3 a4 a5 a6 a7 a8 a9 a10 a11 hI
