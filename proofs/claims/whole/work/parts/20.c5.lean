/-! The class: its public methods that change something. -/
def KQ (M M' : am_I) : Prop := M' 0 7 = 0 ∧ (∀ k, k ≠ 7 → M' 0 k = M 0 k) ∧ (∀ i, 0 < i → i < 7 → M' i = M i) ∧ ∀ i, 89 ≤ i → M' i = M i
theorem KR.q {M M1 M' : am_I} (h : KR M M1) (e : ∀ i, i < 7 ∨ 89 ≤ i → M' i = M1 i) : KQ M M' := ⟨by rw [e 0 (by omega)]; exact h.1, fun k hk => by rw [e 0 (by omega)]; exact h.2.1 k hk, fun i h0 h1 => by rw [e i (by omega)]; exact h.2.2.1 i h0 (by omega), fun i hi => by rw [e i (by omega)]; exact h.2.2.2 i hi⟩
theorem PI.same {M M' : am_I} {f : Nat → Option Nat} {u : Nat} {pw : Nat → rN} (h : PI M f u pw) (e : ∀ i, 27 ≤ i → i < 89 → M' i = M i) : PI M' f u pw := by
  refine ⟨by rw [e 27 (by omega) (by omega)]; exact h.1, h.2.1, h.2.2.1, h.2.2.2.1, fun j hj => ?_⟩
  obtain ⟨b, a1, a2, a3, hb, hc⟩ := h.2.2.2.2 j hj
  have h6 := h.2.1
  obtain ⟨b2, hb2, pb⟩ := h.2.2.1 j (by omega)
  rw [hb] at hb2
  cases hb2
  have hr := pb.rng
  exact ⟨b, a1, a2, a3, hb, hc.same (fun i hi => e _ (by omega) (by omega))⟩
theorem CW.addH {M : am_I} {w : rN} {np nd nh : Nat} (h : CW M 7 w np nd nh) (h9 : nh < 16) (X Y : Int32) : CW (am_up (am_up (am_up M 15 nh X) 16 nh Y) 7 5 (nI (nh + 1))) 7 (setN (setN (setN w (32 + 2 * nh) X) (32 + 2 * nh + 1) Y) 31 (nI (nh + 1))) np nd (nh + 1) := by
  have h5 := h.n5
  have h3 := h.n3
  have hc := h.1
  have e : ∀ i, i ≠ 31 → i ≠ 32 + 2 * nh → i ≠ 32 + 2 * nh + 1 → setN (setN (setN w (32 + 2 * nh) X) (32 + 2 * nh + 1) Y) 31 (nI (nh + 1)) i = w i := fun i a b c => by rw [setN_ne a, setN_ne c, setN_ne b]
  refine ⟨⟨?_, hc.2.1, ?_, hc.2.2.2.1, setN_eq, by omega⟩, ⟨?_, ?_, ?_, ?_, ?_, ?_⟩, fun i hi => ?_, fun k hk => ?_, fun k hk => ?_⟩
  · rw [e 3 (by omega) (by omega) (by omega)]; exact hc.1
  · rw [e 24 (by omega) (by omega) (by omega)]; exact hc.2.2.1
  · rw [up_ne (by decide), am_up_ne (by decide), am_up_ne (by decide), e 0 (by omega) (by omega) (by omega)]; exact h.2.1.1
  · rw [up_ne (by decide), am_up_ne (by decide), am_up_ne (by decide), e 1 (by omega) (by omega) (by omega)]; exact h.2.1.2.1
  · rw [up_ne (by decide), am_up_ne (by decide), am_up_ne (by decide), e 2 (by omega) (by omega) (by omega)]; exact h.2.1.2.2.1
  · rw [up_ne (by decide), am_up_ne (by decide), am_up_ne (by decide), e 3 (by omega) (by omega) (by omega)]; exact h.2.1.2.2.2.1
  · rw [up_ne (by decide), am_up_ne (by decide), am_up_ne (by decide), e 24 (by omega) (by omega) (by omega)]; exact h.2.1.2.2.2.2.1
  · rw [up_eq, setN_eq]
  · show (am_up (am_up (am_up M 15 nh X) 16 nh Y) 7 5 (nI (nh + 1))) 8 i = _ ∧ (am_up (am_up (am_up M 15 nh X) 16 nh Y) 7 5 (nI (nh + 1))) 9 i = _ ∧ (am_up (am_up (am_up M 15 nh X) 16 nh Y) 7 5 (nI (nh + 1))) 10 i = _ ∧ (am_up (am_up (am_up M 15 nh X) 16 nh Y) 7 5 (nI (nh + 1))) 11 i = _ ∧ (am_up (am_up (am_up M 15 nh X) 16 nh Y) 7 5 (nI (nh + 1))) 12 i = _
    rw [e _ (by omega) (by omega) (by omega), e _ (by omega) (by omega) (by omega), e _ (by omega) (by omega) (by omega), e _ (by omega) (by omega) (by omega), e _ (by omega) (by omega) (by omega)]
    exact h.2.2.1 i hi
  · show (am_up (am_up (am_up M 15 nh X) 16 nh Y) 7 5 (nI (nh + 1))) 13 k = _ ∧ (am_up (am_up (am_up M 15 nh X) 16 nh Y) 7 5 (nI (nh + 1))) 14 k = _
    rw [e _ (by omega) (by omega) (by omega), e _ (by omega) (by omega) (by omega)]
    exact h.2.2.2.1 k hk
  · show (am_up M 15 nh X) 15 k = _ ∧ (am_up (am_up M 15 nh X) 16 nh Y) 16 k = _
    by_cases hkn : k = nh
    · subst hkn
      rw [up_eq, up_eq, setN_ne (by omega), setN_ne (by omega), setN_eq, setN_ne (by omega), setN_eq]
      exact ⟨rfl, rfl⟩
    · rw [up_ne hkn, up_ne hkn, am_up_ne (by decide), e _ (by omega) (by omega) (by omega), e _ (by omega) (by omega) (by omega)]
      exact h.2.2.2.2 k (by omega)
/-- the row of numbers behind fills(j); behind lines(l) -/
def filN (w : rN) (nh j : Nat) : rN := va_cpy (setN w 31 (nI (nh - 1))) (setN w 31 (nI (nh - 1))) (32 + 2 * j + 2) (32 + 2 * j) (2 * (nh - 1 - j))
def linN (w : rN) (l : Int32) : rN := va_cpy (fun _ => -9) (setN w 1 l) 0 64 5
theorem CW.fil {M : am_I} {w : rN} {np nd nh j : Nat} (h : CW M 7 w np nd nh) (hj : j < nh) : CW (am_up (am_row (am_row M 15 (va_cpy (M 15) (M 15) (j + 1) j (nh - 1 - j))) 16 (va_cpy (M 16) (M 16) (j + 1) j (nh - 1 - j))) 7 5 (nI (nh - 1))) 7 (filN w nh j) np nd (nh - 1) := by
  have h5 := h.n5
  have h3 := h.n3
  have h16 := h.n16
  have hc := h.1
  have e : ∀ i, i ≠ 31 → (i < 32 + 2 * j ∨ 30 + 2 * nh ≤ i) → filN w nh j i = w i := fun i a b => by unfold filN; rw [cp_out (by omega), setN_ne a]
  have e31 : filN w nh j 31 = nI (nh - 1) := by unfold filN; rw [cp_out (by omega), setN_eq]
  have ein : ∀ i, i < 2 * (nh - 1 - j) → filN w nh j (32 + 2 * j + i) = w (32 + 2 * j + 2 + i) := fun i hi => by unfold filN; rw [cp_in hi, setN_ne (by omega)]
  refine ⟨⟨?_, hc.2.1, ?_, hc.2.2.2.1, e31, by omega⟩, ⟨?_, ?_, ?_, ?_, ?_, ?_⟩, fun i hi => ?_, fun k hk => ?_, fun k hk => ?_⟩
  · rw [e 3 (by omega) (by omega)]; exact hc.1
  · rw [e 24 (by omega) (by omega)]; exact hc.2.2.1
  · rw [up_ne (by decide), e 0 (by omega) (by omega)]; exact h.2.1.1
  · rw [up_ne (by decide), e 1 (by omega) (by omega)]; exact h.2.1.2.1
  · rw [up_ne (by decide), e 2 (by omega) (by omega)]; exact h.2.1.2.2.1
  · rw [up_ne (by decide), e 3 (by omega) (by omega)]; exact h.2.1.2.2.2.1
  · rw [up_ne (by decide), e 24 (by omega) (by omega)]; exact h.2.1.2.2.2.2.1
  · rw [up_eq, e31]
  · rw [e _ (by omega) (by omega), e _ (by omega) (by omega), e _ (by omega) (by omega), e _ (by omega) (by omega), e _ (by omega) (by omega)]
    exact h.2.2.1 i hi
  · rw [e _ (by omega) (by omega), e _ (by omega) (by omega)]
    exact h.2.2.2.1 k hk
  · show va_cpy (M 15) (M 15) (j + 1) j (nh - 1 - j) k = _ ∧ va_cpy (M 16) (M 16) (j + 1) j (nh - 1 - j) k = _
    by_cases hkj : k < j
    · rw [cp_out (by omega), cp_out (by omega), e _ (by omega) (by omega), e _ (by omega) (by omega)]
      exact h.2.2.2.2 k (by omega)
    · obtain ⟨i, rfl⟩ : ∃ i, k = j + i := ⟨k - j, by omega⟩
      rw [cp_in (by omega), cp_in (by omega)]
      have h8 := h.2.2.2.2 (j + 1 + i) (by omega)
      rw [show 32 + 2 * (j + i) = 32 + 2 * j + 2 * i by omega, ein _ (by omega), show 32 + 2 * j + 2 * i + 1 = 32 + 2 * j + (2 * i + 1) by omega, ein _ (by omega)]
      rw [show 32 + 2 * (j + 1 + i) = 32 + 2 * j + 2 + 2 * i by omega] at h8
      exact ⟨h8.1, h8.2.trans (by rw [show 32 + 2 * j + 2 + 2 * i + 1 = 32 + 2 * j + 2 + (2 * i + 1) by omega])⟩
theorem CW.lin {M : am_I} {w : rN} {np nd nh : Nat} (h : CW M 7 w np nd nh) (l : Int32) : CW (am_row (am_up M 7 1 l) 12 (va_cpy (fun _ => -9) (M 12) 0 0 np)) 7 (linN w l) np nd nh := by
  have h5 := h.n5
  have h3 := h.n3
  have h16 := h.n16
  have hc := h.1
  have e : ∀ i, i ≠ 1 → i < 64 → linN w l i = w i := fun i a b => by unfold linN; rw [cp_out (by omega), setN_ne a]
  have e1 : linN w l 1 = l := by unfold linN; rw [cp_out (by omega), setN_eq]
  refine ⟨⟨?_, hc.2.1, ?_, hc.2.2.2.1, ?_, hc.2.2.2.2.2⟩, ⟨?_, ?_, ?_, ?_, ?_, ?_⟩, fun i hi => ?_, fun k hk => ?_, fun k hk => ?_⟩
  · rw [e 3 (by omega) (by omega)]; exact hc.1
  · rw [e 24 (by omega) (by omega)]; exact hc.2.2.1
  · rw [e 31 (by omega) (by omega)]; exact hc.2.2.2.2.1
  · rw [e 0 (by omega) (by omega)]; exact h.2.1.1
  · rw [e1]; rfl
  · rw [e 2 (by omega) (by omega)]; exact h.2.1.2.2.1
  · rw [e 3 (by omega) (by omega)]; exact h.2.1.2.2.2.1
  · rw [e 24 (by omega) (by omega)]; exact h.2.1.2.2.2.2.1
  · rw [e 31 (by omega) (by omega)]; exact h.2.1.2.2.2.2.2
  · rw [e _ (by omega) (by omega), e _ (by omega) (by omega), e _ (by omega) (by omega), e _ (by omega) (by omega)]
    refine ⟨h.p0 hi, h.p1 hi, h.p2 hi, h.p3 hi, ?_⟩
    show va_cpy (fun _ => -9) (M 12) 0 0 np i = va_cpy (fun _ => -9) (setN w 1 l) 0 64 5 (64 + i)
    rw [cp_00 hi, cp_in (by omega)]
  · rw [e _ (by omega) (by omega), e _ (by omega) (by omega)]
    exact h.2.2.2.1 k hk
  · rw [e _ (by omega) (by omega), e _ (by omega) (by omega)]
    exact h.2.2.2.2 k hk
set_option maxRecDepth 20000 in
theorem q7_takF {M : am_I} {V : am_J} {f : Nat → Option Nat} {w : rN} {np nd nh : Nat} (hw : CW M 7 w np nd nh) {p : Int32} (hp : ¬ vI p np) : CT m7_takes 5 [Value.ref 0, Value.int p] M V f (RV (-1) M V f) := by
  refine CT.of m7_takes_V.1 _ (en_ai_3 0 p) ?_
  refine ac_aload_n 1 dX7_takes_0 rfl rfl ?_
  refine ac_getO 4 7 dX7_takes_1 rfl fl7_27 ob0 rfl ?_
  refine ac_iload_n 5 dX7_takes_4 rfl rfl ?_
  refine ac_callV (μ' := m6_hasPicture) 8 dX7_takes_5 rfl lk7_85 m6_hasPicture_V ob7 (c6_hasPictureF hw hp) rfl rfl (by decide) (Nat.le_of_ble_eq_true rfl) ?_
  refine ac_if_ne 13 11 dX7_takes_8 (by decide) rfl (fun c_8 => absurd (by decide) c_8) (fun _ => ?_)
  refine ac_iconst 12 (-1) dX7_takes_11 rfl (by decide) ?_
  refine ac_iret dX7_takes_12 ⟨_, rfl, rfl⟩ ?_
  exact rv_mk rfl
set_option maxRecDepth 20000 in
theorem q7_takN {M : am_I} {V : am_J} {f : Nat → Option Nat} {w : rN} {np nd nh j : Nat} (hw : CW M 7 w np nd nh) (hj : j < np) (ha : w (64 + j) = -9) : CT m7_takes 5 [Value.ref 0, Value.int (nI j)] M V f (RV (-2) M V f) := by
  refine CT.of m7_takes_V.1 _ (en_ai_3 0 (nI j)) ?_
  refine ac_aload_n 1 dX7_takes_0 rfl rfl ?_
  refine ac_getO 4 7 dX7_takes_1 rfl fl7_27 ob0 rfl ?_
  refine ac_iload_n 5 dX7_takes_4 rfl rfl ?_
  refine ac_callV (μ' := m6_hasPicture) 8 dX7_takes_5 rfl lk7_85 m6_hasPicture_V ob7 (c6_hasPictureT hw hj) rfl rfl (by decide) (Nat.le_of_ble_eq_true rfl) ?_
  refine ac_if_ne 13 11 dX7_takes_8 (by decide) rfl (fun _ => ?_) (fun c_8 => absurd c_8 (by decide))
  refine ac_aload_n 14 dX7_takes_13 rfl rfl ?_
  refine ac_getO 17 7 dX7_takes_14 rfl fl7_27 ob0 rfl ?_
  refine ac_iload_n 18 dX7_takes_17 rfl rfl ?_
  refine ac_callV (μ' := m6_isUp) 21 dX7_takes_18 rfl lk7_89 m6_isUp_V ob7 (c6_isUpN hw hj ha) rfl rfl (by decide) (Nat.le_of_ble_eq_true rfl) ?_
  refine ac_if_ne 27 24 dX7_takes_21 (by decide) rfl (fun c_21 => absurd (by decide) c_21) (fun _ => ?_)
  refine ac_bipush 26 (-2) dX7_takes_24 rfl (by decide) ?_
  refine ac_iret dX7_takes_26 ⟨_, rfl, rfl⟩ ?_
  exact rv_mk rfl
set_option maxRecDepth 20000 in
theorem q7_tak {M : am_I} {V : am_J} {f : Nat → Option Nat} {w : rN} {np nd nh j : Nat} (hw : CW M 7 w np nd nh) (hj : j < np) (ha : w (64 + j) ≠ -9) {u : Nat} {pw : Nat → rN} (hp : PI M f u pw) : CT m7_takes 5 [Value.ref 0, Value.int (nI j)] M V f (fun v M' V' f' => v = some (.int (w (64 + j))) ∧ V' = V ∧ PI M' f' (kpn u) (kpw pw w u) ∧ CW M' 7 (setN w (64 + j) (-9)) np nd nh ∧ KQ M M') := by
  have h5 := hw.n5
  have h3 := hw.n3
  have h16 := hw.n16
  refine CT.of m7_takes_V.1 _ (en_ai_3 0 (nI j)) ?_
  refine ac_aload_n 1 dX7_takes_0 rfl rfl ?_
  refine ac_getO 4 7 dX7_takes_1 rfl fl7_27 ob0 rfl ?_
  refine ac_iload_n 5 dX7_takes_4 rfl rfl ?_
  refine ac_callV (μ' := m6_hasPicture) 8 dX7_takes_5 rfl lk7_85 m6_hasPicture_V ob7 (c6_hasPictureT hw hj) rfl rfl (by decide) (Nat.le_of_ble_eq_true rfl) ?_
  refine ac_if_ne 13 11 dX7_takes_8 (by decide) rfl (fun _ => ?_) (fun c_8 => absurd c_8 (by decide))
  refine ac_aload_n 14 dX7_takes_13 rfl rfl ?_
  refine ac_getO 17 7 dX7_takes_14 rfl fl7_27 ob0 rfl ?_
  refine ac_iload_n 18 dX7_takes_17 rfl rfl ?_
  refine ac_callV (μ' := m6_isUp) 21 dX7_takes_18 rfl lk7_89 m6_isUp_V ob7 (c6_isUpT hw hj ha) rfl rfl (by decide) (Nat.le_of_ble_eq_true rfl) ?_
  refine ac_if_ne 27 24 dX7_takes_21 (by decide) rfl (fun _ => ?_) (fun c_21 => absurd c_21 (by decide))
  refine ac_aload_n 28 dX7_takes_27 rfl rfl ?_
  refine ac_callVg (μ' := m7_remember) 31 dX7_takes_28 rfl lk7_78 m7_remember_V ob0 (c7_rem hp hw) rfl rfl (by decide) (Nat.le_of_ble_eq_true rfl) (fun v1 M1 V1 f1 hq => ?_)
  obtain ⟨rfl, rfl, hp1, hk1⟩ := hq
  have hw1 : CW M1 7 w np nd nh := hw.same (fun i hi => hk1.2.2.1 _ (by omega) (by omega))
  refine ac_aload_n 32 dX7_takes_31 rfl rfl ?_
  refine ac_getO 35 7 dX7_takes_32 rfl fl7_27 ob0 rfl ?_
  refine ac_getO 38 12 dX7_takes_35 rfl fl7_106 ob7 rfl ?_
  refine ac_iload_n 39 dX7_takes_38 rfl rfl ?_
  refine ac_iald 40 dX7_takes_39 rfl ar12 (ix_nI (by omega) (by decide)) ?_
  rw [show (M1 12 j) = (w (64 + j)) from (hw1.p4 hj)]
  refine ac_istore_n 41 [some (Value.ref 0), some (Value.int (nI j)), some (Value.int (w (64 + j)))] dX7_takes_40 rfl rfl (Nat.le_of_ble_eq_true rfl) (by decide) rfl ?_
  refine ac_aload_n 42 dX7_takes_41 rfl rfl ?_
  refine ac_getO 45 7 dX7_takes_42 rfl fl7_27 ob0 rfl ?_
  refine ac_getO 48 12 dX7_takes_45 rfl fl7_106 ob7 rfl ?_
  refine ac_iload_n 49 dX7_takes_48 rfl rfl ?_
  refine ac_bipush 51 (-9) dX7_takes_49 rfl (by decide) ?_
  refine ac_iast 52 dX7_takes_51 rfl ar12 (ix_nI (by omega) (by decide)) ?_
  refine ac_iload_n 53 dX7_takes_52 rfl rfl ?_
  refine ac_iret dX7_takes_53 ⟨_, rfl, rfl⟩ ?_
  exact ⟨rfl, rfl, hp1.same (fun i h0 _ => am_up_ne (by omega)), hw1.setAt (-9) hj, hk1.q (fun i hi => am_up_ne (by omega))⟩
set_option maxRecDepth 20000 in
theorem q7_hanF {M : am_I} {V : am_J} {f : Nat → Option Nat} {w : rN} {np nd nh : Nat} (hw : CW M 7 w np nd nh) {p : Int32} (hp : ¬ vI p np) (x : Int32) : CT m7_hangs 5 [Value.ref 0, Value.int p, Value.int x] M V f (RV (-1) M V f) := by
  refine CT.of m7_hangs_V.1 _ (en_aii_4 0 p x) ?_
  refine ac_aload_n 1 dX7_hangs_0 rfl rfl ?_
  refine ac_getO 4 7 dX7_hangs_1 rfl fl7_27 ob0 rfl ?_
  refine ac_iload_n 5 dX7_hangs_4 rfl rfl ?_
  refine ac_callV (μ' := m6_hasPicture) 8 dX7_hangs_5 rfl lk7_85 m6_hasPicture_V ob7 (c6_hasPictureF hw hp) rfl rfl (by decide) (Nat.le_of_ble_eq_true rfl) ?_
  refine ac_if_eq 21 11 dX7_hangs_8 (by decide) rfl (fun _ => ?_) (fun c_8 => absurd (by decide) c_8)
  refine ac_iconst 22 (-1) dX7_hangs_21 rfl (by decide) ?_
  refine ac_iret dX7_hangs_22 ⟨_, rfl, rfl⟩ ?_
  exact rv_mk rfl
set_option maxRecDepth 20000 in
theorem q7_hanX {M : am_I} {V : am_J} {f : Nat → Option Nat} {w : rN} {np nd nh j : Nat} (hw : CW M 7 w np nd nh) (hj : j < np) {x : Int32} (hq : ¬ vI x 40) : CT m7_hangs 5 [Value.ref 0, Value.int (nI j), Value.int x] M V f (RV (-1) M V f) := by
  refine CT.of m7_hangs_V.1 _ (en_aii_4 0 (nI j) x) ?_
  refine ac_aload_n 1 dX7_hangs_0 rfl rfl ?_
  refine ac_getO 4 7 dX7_hangs_1 rfl fl7_27 ob0 rfl ?_
  refine ac_iload_n 5 dX7_hangs_4 rfl rfl ?_
  refine ac_callV (μ' := m6_hasPicture) 8 dX7_hangs_5 rfl lk7_85 m6_hasPicture_V ob7 (c6_hasPictureT hw hj) rfl rfl (by decide) (Nat.le_of_ble_eq_true rfl) ?_
  refine ac_if_eq 21 11 dX7_hangs_8 (by decide) rfl (fun c_8 => absurd c_8 (by decide)) (fun _ => ?_)
  refine ac_iload_n 12 dX7_hangs_11 rfl rfl ?_
  refine ac_if_lt 21 15 dX7_hangs_12 (by decide) rfl (fun c_12 => ?_) (fun c_12 => ?_)
  · refine ac_iconst 22 (-1) dX7_hangs_21 rfl (by decide) ?_
    refine ac_iret dX7_hangs_22 ⟨_, rfl, rfl⟩ ?_
    exact rv_mk rfl
  · refine ac_iload_n 16 dX7_hangs_15 rfl rfl ?_
    refine ac_bipush 18 40 dX7_hangs_16 rfl (by decide) ?_
    refine ac_icmp_lt 23 21 dX7_hangs_18 (by decide) rfl (fun c_18 => ?_) (fun c_18 => ?_)
    · obtain ⟨i, hi, rfl⟩ := nI_of c_12
      exact absurd ⟨i, (nI_ltI (b := 40) (by omega) (by decide)).mp c_18, rfl⟩ hq
    · refine ac_iconst 22 (-1) dX7_hangs_21 rfl (by decide) ?_
      refine ac_iret dX7_hangs_22 ⟨_, rfl, rfl⟩ ?_
      exact rv_mk rfl
theorem lt40 {x : Int32} (h : x ≤ 39) : x < 40 := by
  have h1 := Int32.le_iff_toInt_le.mp h
  have e : (39 : Int32).toInt = 39 := by decide
  have e2 : (40 : Int32).toInt = 40 := by decide
  rw [Int32.lt_iff_toInt_lt]
  omega
set_option maxRecDepth 20000 in
theorem q7_hanU {M : am_I} {V : am_J} {f : Nat → Option Nat} {w : rN} {np nd nh j : Nat} (hw : CW M 7 w np nd nh) (hj : j < np) {x : Int32} (hx0 : 0 ≤ x) (hx1 : x ≤ 39) (ha : w (64 + j) ≠ -9) : CT m7_hangs 5 [Value.ref 0, Value.int (nI j), Value.int x] M V f (RV (-2) M V f) := by
  refine CT.of m7_hangs_V.1 _ (en_aii_4 0 (nI j) x) ?_
  refine ac_aload_n 1 dX7_hangs_0 rfl rfl ?_
  refine ac_getO 4 7 dX7_hangs_1 rfl fl7_27 ob0 rfl ?_
  refine ac_iload_n 5 dX7_hangs_4 rfl rfl ?_
  refine ac_callV (μ' := m6_hasPicture) 8 dX7_hangs_5 rfl lk7_85 m6_hasPicture_V ob7 (c6_hasPictureT hw hj) rfl rfl (by decide) (Nat.le_of_ble_eq_true rfl) ?_
  refine ac_if_eq 21 11 dX7_hangs_8 (by decide) rfl (fun c_8 => absurd c_8 (by decide)) (fun _ => ?_)
  refine ac_iload_n 12 dX7_hangs_11 rfl rfl ?_
  refine ac_if_lt 21 15 dX7_hangs_12 (by decide) rfl (fun c_12 => absurd c_12 (Int32.not_lt.mpr hx0)) (fun _ => ?_)
  refine ac_iload_n 16 dX7_hangs_15 rfl rfl ?_
  refine ac_bipush 18 40 dX7_hangs_16 rfl (by decide) ?_
  refine ac_icmp_lt 23 21 dX7_hangs_18 (by decide) rfl (fun _ => ?_) (fun c_18 => absurd (lt40 hx1) c_18)
  refine ac_aload_n 24 dX7_hangs_23 rfl rfl ?_
  refine ac_getO 27 7 dX7_hangs_24 rfl fl7_27 ob0 rfl ?_
  refine ac_iload_n 28 dX7_hangs_27 rfl rfl ?_
  refine ac_callV (μ' := m6_isUp) 31 dX7_hangs_28 rfl lk7_89 m6_isUp_V ob7 (c6_isUpT hw hj ha) rfl rfl (by decide) (Nat.le_of_ble_eq_true rfl) ?_
  refine ac_if_ne 46 34 dX7_hangs_31 (by decide) rfl (fun _ => ?_) (fun c_31 => absurd c_31 (by decide))
  refine ac_bipush 48 (-2) dX7_hangs_46 rfl (by decide) ?_
  refine ac_iret dX7_hangs_48 ⟨_, rfl, rfl⟩ ?_
  exact rv_mk rfl
set_option maxRecDepth 20000 in
theorem q7_hanN {M : am_I} {V : am_J} {f : Nat → Option Nat} {w : rN} {np nd nh j : Nat} (hw : CW M 7 w np nd nh) (hj : j < np) {x : Int32} (hx0 : 0 ≤ x) (hx1 : x ≤ 39) (ha : w (64 + j) = -9) (hb : ¬ (fitN w nd j x ∧ apN w np j x)) : CT m7_hangs 5 [Value.ref 0, Value.int (nI j), Value.int x] M V f (RV (-2) M V f) := by
  refine CT.of m7_hangs_V.1 _ (en_aii_4 0 (nI j) x) ?_
  refine ac_aload_n 1 dX7_hangs_0 rfl rfl ?_
  refine ac_getO 4 7 dX7_hangs_1 rfl fl7_27 ob0 rfl ?_
  refine ac_iload_n 5 dX7_hangs_4 rfl rfl ?_
  refine ac_callV (μ' := m6_hasPicture) 8 dX7_hangs_5 rfl lk7_85 m6_hasPicture_V ob7 (c6_hasPictureT hw hj) rfl rfl (by decide) (Nat.le_of_ble_eq_true rfl) ?_
  refine ac_if_eq 21 11 dX7_hangs_8 (by decide) rfl (fun c_8 => absurd c_8 (by decide)) (fun _ => ?_)
  refine ac_iload_n 12 dX7_hangs_11 rfl rfl ?_
  refine ac_if_lt 21 15 dX7_hangs_12 (by decide) rfl (fun c_12 => absurd c_12 (Int32.not_lt.mpr hx0)) (fun _ => ?_)
  refine ac_iload_n 16 dX7_hangs_15 rfl rfl ?_
  refine ac_bipush 18 40 dX7_hangs_16 rfl (by decide) ?_
  refine ac_icmp_lt 23 21 dX7_hangs_18 (by decide) rfl (fun _ => ?_) (fun c_18 => absurd (lt40 hx1) c_18)
  refine ac_aload_n 24 dX7_hangs_23 rfl rfl ?_
  refine ac_getO 27 7 dX7_hangs_24 rfl fl7_27 ob0 rfl ?_
  refine ac_iload_n 28 dX7_hangs_27 rfl rfl ?_
  refine ac_callV (μ' := m6_isUp) 31 dX7_hangs_28 rfl lk7_89 m6_isUp_V ob7 (c6_isUpN hw hj ha) rfl rfl (by decide) (Nat.le_of_ble_eq_true rfl) ?_
  refine ac_if_ne 46 34 dX7_hangs_31 (by decide) rfl (fun c_31 => absurd (by decide) c_31) (fun _ => ?_)
  refine ac_aload_n 35 dX7_hangs_34 rfl rfl ?_
  refine ac_getO 38 7 dX7_hangs_35 rfl fl7_27 ob0 rfl ?_
  refine ac_iload_n 39 dX7_hangs_38 rfl rfl ?_
  refine ac_iload_n 40 dX7_hangs_39 rfl rfl ?_
  refine ac_callV (μ' := m6_isFreeFor) 43 dX7_hangs_40 rfl lk7_92 m6_isFreeFor_V ob7 (c6_free hw hj ha _) rfl rfl (by decide) (Nat.le_of_ble_eq_true rfl) ?_
  refine ac_if_ne 49 46 dX7_hangs_43 (by decide) rfl (fun c_43 => absurd (bi_f hb) c_43) (fun _ => ?_)
  refine ac_bipush 48 (-2) dX7_hangs_46 rfl (by decide) ?_
  refine ac_iret dX7_hangs_48 ⟨_, rfl, rfl⟩ ?_
  exact rv_mk rfl
set_option maxRecDepth 20000 in
theorem q7_hanL {M : am_I} {V : am_J} {f : Nat → Option Nat} {w : rN} {np nd nh j : Nat} (hw : CW M 7 w np nd nh) (hj : j < np) {x : Int32} (hx0 : 0 ≤ x) (hx1 : x ≤ 39) (ha : w (64 + j) = -9) (hfa : fitN w nd j x ∧ apN w np j x) (hh : ¬ hoN w nh (hkX w j x) (hkY w j)) (hfull : nh = 16) : CT m7_hangs 5 [Value.ref 0, Value.int (nI j), Value.int x] M V f (RV (-3) M V f) := by
  refine CT.of m7_hangs_V.1 _ (en_aii_4 0 (nI j) x) ?_
  refine ac_aload_n 1 dX7_hangs_0 rfl rfl ?_
  refine ac_getO 4 7 dX7_hangs_1 rfl fl7_27 ob0 rfl ?_
  refine ac_iload_n 5 dX7_hangs_4 rfl rfl ?_
  refine ac_callV (μ' := m6_hasPicture) 8 dX7_hangs_5 rfl lk7_85 m6_hasPicture_V ob7 (c6_hasPictureT hw hj) rfl rfl (by decide) (Nat.le_of_ble_eq_true rfl) ?_
  refine ac_if_eq 21 11 dX7_hangs_8 (by decide) rfl (fun c_8 => absurd c_8 (by decide)) (fun _ => ?_)
  refine ac_iload_n 12 dX7_hangs_11 rfl rfl ?_
  refine ac_if_lt 21 15 dX7_hangs_12 (by decide) rfl (fun c_12 => absurd c_12 (Int32.not_lt.mpr hx0)) (fun _ => ?_)
  refine ac_iload_n 16 dX7_hangs_15 rfl rfl ?_
  refine ac_bipush 18 40 dX7_hangs_16 rfl (by decide) ?_
  refine ac_icmp_lt 23 21 dX7_hangs_18 (by decide) rfl (fun _ => ?_) (fun c_18 => absurd (lt40 hx1) c_18)
  refine ac_aload_n 24 dX7_hangs_23 rfl rfl ?_
  refine ac_getO 27 7 dX7_hangs_24 rfl fl7_27 ob0 rfl ?_
  refine ac_iload_n 28 dX7_hangs_27 rfl rfl ?_
  refine ac_callV (μ' := m6_isUp) 31 dX7_hangs_28 rfl lk7_89 m6_isUp_V ob7 (c6_isUpN hw hj ha) rfl rfl (by decide) (Nat.le_of_ble_eq_true rfl) ?_
  refine ac_if_ne 46 34 dX7_hangs_31 (by decide) rfl (fun c_31 => absurd (by decide) c_31) (fun _ => ?_)
  refine ac_aload_n 35 dX7_hangs_34 rfl rfl ?_
  refine ac_getO 38 7 dX7_hangs_35 rfl fl7_27 ob0 rfl ?_
  refine ac_iload_n 39 dX7_hangs_38 rfl rfl ?_
  refine ac_iload_n 40 dX7_hangs_39 rfl rfl ?_
  refine ac_callV (μ' := m6_isFreeFor) 43 dX7_hangs_40 rfl lk7_92 m6_isFreeFor_V ob7 (c6_free hw hj ha _) rfl rfl (by decide) (Nat.le_of_ble_eq_true rfl) ?_
  refine ac_if_ne 49 46 dX7_hangs_43 (by decide) rfl (fun _ => ?_) (fun c_43 => absurd c_43 (by rw [bi_eq0]; exact fun h => h hfa))
  refine ac_aload_n 50 dX7_hangs_49 rfl rfl ?_
  refine ac_getO 53 7 dX7_hangs_50 rfl fl7_27 ob0 rfl ?_
  refine ac_iload_n 54 dX7_hangs_53 rfl rfl ?_
  refine ac_iload_n 55 dX7_hangs_54 rfl rfl ?_
  refine ac_callV (μ' := m6_hasHoleFor) 58 dX7_hangs_55 rfl lk7_96 m6_hasHoleFor_V ob7 (c6_hasHoleFor hw hj _) rfl rfl (by decide) (Nat.le_of_ble_eq_true rfl) ?_
  refine ac_if_ne 65 61 dX7_hangs_58 (by decide) rfl (fun c_58 => absurd (bi_f hh) c_58) (fun _ => ?_)
  refine ac_iconst 62 1 dX7_hangs_61 rfl (by decide) ?_
  refine ac_goto 66 dX7_hangs_62 (by decide) ?_
  refine ac_istore_n 67 [some (Value.ref 0), some (Value.int (nI j)), some (Value.int x), some (Value.int 1)] dX7_hangs_66 rfl rfl (Nat.le_of_ble_eq_true rfl) (by decide) rfl ?_
  refine ac_iload_n 68 dX7_hangs_67 rfl rfl ?_
  refine ac_if_eq 86 71 dX7_hangs_68 (by decide) rfl (fun c_68 => absurd c_68 (by decide)) (fun _ => ?_)
  refine ac_aload_n 72 dX7_hangs_71 rfl rfl ?_
  refine ac_getO 75 7 dX7_hangs_72 rfl fl7_27 ob0 rfl ?_
  refine ac_getI 78 dX7_hangs_75 rfl fl7_99 ob7 ?_
  rw [show (M 7 5) = (nI nh) from hw.s5]
  refine ac_bipush 80 16 dX7_hangs_78 rfl (by decide) ?_
  refine ac_icmp_lt 86 83 dX7_hangs_80 (by decide) rfl (fun c_80 => absurd c_80 (by rw [hfull]; decide)) (fun _ => ?_)
  refine ac_bipush 85 (-3) dX7_hangs_83 rfl (by decide) ?_
  refine ac_iret dX7_hangs_85 ⟨_, rfl, rfl⟩ ?_
  exact rv_mk rfl
set_option maxRecDepth 20000 in
theorem q7_hanO {M : am_I} {V : am_J} {f : Nat → Option Nat} {w : rN} {np nd nh j : Nat} (hw : CW M 7 w np nd nh) (hj : j < np) {x : Int32} (hx0 : 0 ≤ x) (hx1 : x ≤ 39) (ha : w (64 + j) = -9) (hfa : fitN w nd j x ∧ apN w np j x) (hh : hoN w nh (hkX w j x) (hkY w j)) {u : Nat} {pw : Nat → rN} (hp : PI M f u pw) : CT m7_hangs 5 [Value.ref 0, Value.int (nI j), Value.int x] M V f (fun v M' V' f' => v = some (.int 0) ∧ V' = V ∧ PI M' f' (kpn u) (kpw pw w u) ∧ CW M' 7 (setN w (64 + j) x) np nd nh ∧ KQ M M') := by
  have h5 := hw.n5
  have h3 := hw.n3
  have h16 := hw.n16
  refine CT.of m7_hangs_V.1 _ (en_aii_4 0 (nI j) x) ?_
  refine ac_aload_n 1 dX7_hangs_0 rfl rfl ?_
  refine ac_getO 4 7 dX7_hangs_1 rfl fl7_27 ob0 rfl ?_
  refine ac_iload_n 5 dX7_hangs_4 rfl rfl ?_
  refine ac_callV (μ' := m6_hasPicture) 8 dX7_hangs_5 rfl lk7_85 m6_hasPicture_V ob7 (c6_hasPictureT hw hj) rfl rfl (by decide) (Nat.le_of_ble_eq_true rfl) ?_
  refine ac_if_eq 21 11 dX7_hangs_8 (by decide) rfl (fun c_8 => absurd c_8 (by decide)) (fun _ => ?_)
  refine ac_iload_n 12 dX7_hangs_11 rfl rfl ?_
  refine ac_if_lt 21 15 dX7_hangs_12 (by decide) rfl (fun c_12 => absurd c_12 (Int32.not_lt.mpr hx0)) (fun _ => ?_)
  refine ac_iload_n 16 dX7_hangs_15 rfl rfl ?_
  refine ac_bipush 18 40 dX7_hangs_16 rfl (by decide) ?_
  refine ac_icmp_lt 23 21 dX7_hangs_18 (by decide) rfl (fun _ => ?_) (fun c_18 => absurd (lt40 hx1) c_18)
  refine ac_aload_n 24 dX7_hangs_23 rfl rfl ?_
  refine ac_getO 27 7 dX7_hangs_24 rfl fl7_27 ob0 rfl ?_
  refine ac_iload_n 28 dX7_hangs_27 rfl rfl ?_
  refine ac_callV (μ' := m6_isUp) 31 dX7_hangs_28 rfl lk7_89 m6_isUp_V ob7 (c6_isUpN hw hj ha) rfl rfl (by decide) (Nat.le_of_ble_eq_true rfl) ?_
  refine ac_if_ne 46 34 dX7_hangs_31 (by decide) rfl (fun c_31 => absurd (by decide) c_31) (fun _ => ?_)
  refine ac_aload_n 35 dX7_hangs_34 rfl rfl ?_
  refine ac_getO 38 7 dX7_hangs_35 rfl fl7_27 ob0 rfl ?_
  refine ac_iload_n 39 dX7_hangs_38 rfl rfl ?_
  refine ac_iload_n 40 dX7_hangs_39 rfl rfl ?_
  refine ac_callV (μ' := m6_isFreeFor) 43 dX7_hangs_40 rfl lk7_92 m6_isFreeFor_V ob7 (c6_free hw hj ha _) rfl rfl (by decide) (Nat.le_of_ble_eq_true rfl) ?_
  refine ac_if_ne 49 46 dX7_hangs_43 (by decide) rfl (fun _ => ?_) (fun c_43 => absurd c_43 (by rw [bi_eq0]; exact fun h => h hfa))
  refine ac_aload_n 50 dX7_hangs_49 rfl rfl ?_
  refine ac_getO 53 7 dX7_hangs_50 rfl fl7_27 ob0 rfl ?_
  refine ac_iload_n 54 dX7_hangs_53 rfl rfl ?_
  refine ac_iload_n 55 dX7_hangs_54 rfl rfl ?_
  refine ac_callV (μ' := m6_hasHoleFor) 58 dX7_hangs_55 rfl lk7_96 m6_hasHoleFor_V ob7 (c6_hasHoleFor hw hj _) rfl rfl (by decide) (Nat.le_of_ble_eq_true rfl) ?_
  refine ac_if_ne 65 61 dX7_hangs_58 (by decide) rfl (fun _ => ?_) (fun c_58 => absurd c_58 (by rw [bi_eq0]; exact fun h => h hh))
  refine ac_iconst 66 0 dX7_hangs_65 rfl (by decide) ?_
  refine ac_istore_n 67 [some (Value.ref 0), some (Value.int (nI j)), some (Value.int x), some (Value.int 0)] dX7_hangs_66 rfl rfl (Nat.le_of_ble_eq_true rfl) (by decide) rfl ?_
  refine ac_iload_n 68 dX7_hangs_67 rfl rfl ?_
  refine ac_if_eq 86 71 dX7_hangs_68 (by decide) rfl (fun _ => ?_) (fun c_68 => absurd (by decide) c_68)
  refine ac_aload_n 87 dX7_hangs_86 rfl rfl ?_
  refine ac_callVg (μ' := m7_remember) 90 dX7_hangs_87 rfl lk7_78 m7_remember_V ob0 (c7_rem hp hw) rfl rfl (by decide) (Nat.le_of_ble_eq_true rfl) (fun v1 M1 V1 f1 hq => ?_)
  obtain ⟨rfl, rfl, hp1, hk1⟩ := hq
  have hw1 : CW M1 7 w np nd nh := hw.same (fun i hi => hk1.2.2.1 _ (by omega) (by omega))
  refine ac_aload_n 91 dX7_hangs_90 rfl rfl ?_
  refine ac_getO 94 7 dX7_hangs_91 rfl fl7_27 ob0 rfl ?_
  refine ac_iload_n 95 dX7_hangs_94 rfl rfl ?_
  refine ac_iload_n 96 dX7_hangs_95 rfl rfl ?_
  refine ac_callVm (μ' := m6_putUp) 99 dX7_hangs_96 rfl lk7_102 m6_putUp_V ob7 (c6_putUpO hw1 hj x hh) rfl rfl (by decide) (Nat.le_of_ble_eq_true rfl) ?_
  refine ac_iload_n 100 dX7_hangs_99 rfl rfl ?_
  refine ac_if_eq 107 103 dX7_hangs_100 (by decide) rfl (fun _ => ?_) (fun c_100 => absurd (by decide) c_100)
  refine ac_iconst 108 0 dX7_hangs_107 rfl (by decide) ?_
  refine ac_iret dX7_hangs_108 ⟨_, rfl, rfl⟩ ?_
  exact ⟨rfl, rfl, hp1.same (fun i h0 _ => am_up_ne (by omega)), hw1.setAt x hj, hk1.q (fun i hi => am_up_ne (by omega))⟩
set_option maxRecDepth 20000 in
theorem q7_hanM {M : am_I} {V : am_J} {f : Nat → Option Nat} {w : rN} {np nd nh j : Nat} (hw : CW M 7 w np nd nh) (hj : j < np) {x : Int32} (hx0 : 0 ≤ x) (hx1 : x ≤ 39) (ha : w (64 + j) = -9) (hfa : fitN w nd j x ∧ apN w np j x) (hh : ¬ hoN w nh (hkX w j x) (hkY w j)) (hroom : nh < 16) {u : Nat} {pw : Nat → rN} (hp : PI M f u pw) : CT m7_hangs 5 [Value.ref 0, Value.int (nI j), Value.int x] M V f (fun v M' V' f' => v = some (.int 1) ∧ V' = V ∧ PI M' f' (kpn u) (kpw pw w u) ∧ CW M' 7 (setN (setN (setN (setN w (64 + j) x) (32 + 2 * nh) (hkX w j x)) (32 + 2 * nh + 1) (hkY w j)) 31 (nI (nh + 1))) np nd (nh + 1) ∧ KQ M M') := by
  have h5 := hw.n5
  have h3 := hw.n3
  have h16 := hw.n16
  refine CT.of m7_hangs_V.1 _ (en_aii_4 0 (nI j) x) ?_
  refine ac_aload_n 1 dX7_hangs_0 rfl rfl ?_
  refine ac_getO 4 7 dX7_hangs_1 rfl fl7_27 ob0 rfl ?_
  refine ac_iload_n 5 dX7_hangs_4 rfl rfl ?_
  refine ac_callV (μ' := m6_hasPicture) 8 dX7_hangs_5 rfl lk7_85 m6_hasPicture_V ob7 (c6_hasPictureT hw hj) rfl rfl (by decide) (Nat.le_of_ble_eq_true rfl) ?_
  refine ac_if_eq 21 11 dX7_hangs_8 (by decide) rfl (fun c_8 => absurd c_8 (by decide)) (fun _ => ?_)
  refine ac_iload_n 12 dX7_hangs_11 rfl rfl ?_
  refine ac_if_lt 21 15 dX7_hangs_12 (by decide) rfl (fun c_12 => absurd c_12 (Int32.not_lt.mpr hx0)) (fun _ => ?_)
  refine ac_iload_n 16 dX7_hangs_15 rfl rfl ?_
  refine ac_bipush 18 40 dX7_hangs_16 rfl (by decide) ?_
  refine ac_icmp_lt 23 21 dX7_hangs_18 (by decide) rfl (fun _ => ?_) (fun c_18 => absurd (lt40 hx1) c_18)
  refine ac_aload_n 24 dX7_hangs_23 rfl rfl ?_
  refine ac_getO 27 7 dX7_hangs_24 rfl fl7_27 ob0 rfl ?_
  refine ac_iload_n 28 dX7_hangs_27 rfl rfl ?_
  refine ac_callV (μ' := m6_isUp) 31 dX7_hangs_28 rfl lk7_89 m6_isUp_V ob7 (c6_isUpN hw hj ha) rfl rfl (by decide) (Nat.le_of_ble_eq_true rfl) ?_
  refine ac_if_ne 46 34 dX7_hangs_31 (by decide) rfl (fun c_31 => absurd (by decide) c_31) (fun _ => ?_)
  refine ac_aload_n 35 dX7_hangs_34 rfl rfl ?_
  refine ac_getO 38 7 dX7_hangs_35 rfl fl7_27 ob0 rfl ?_
  refine ac_iload_n 39 dX7_hangs_38 rfl rfl ?_
  refine ac_iload_n 40 dX7_hangs_39 rfl rfl ?_
  refine ac_callV (μ' := m6_isFreeFor) 43 dX7_hangs_40 rfl lk7_92 m6_isFreeFor_V ob7 (c6_free hw hj ha _) rfl rfl (by decide) (Nat.le_of_ble_eq_true rfl) ?_
  refine ac_if_ne 49 46 dX7_hangs_43 (by decide) rfl (fun _ => ?_) (fun c_43 => absurd c_43 (by rw [bi_eq0]; exact fun h => h hfa))
  refine ac_aload_n 50 dX7_hangs_49 rfl rfl ?_
  refine ac_getO 53 7 dX7_hangs_50 rfl fl7_27 ob0 rfl ?_
  refine ac_iload_n 54 dX7_hangs_53 rfl rfl ?_
  refine ac_iload_n 55 dX7_hangs_54 rfl rfl ?_
  refine ac_callV (μ' := m6_hasHoleFor) 58 dX7_hangs_55 rfl lk7_96 m6_hasHoleFor_V ob7 (c6_hasHoleFor hw hj _) rfl rfl (by decide) (Nat.le_of_ble_eq_true rfl) ?_
  refine ac_if_ne 65 61 dX7_hangs_58 (by decide) rfl (fun c_58 => absurd (bi_f hh) c_58) (fun _ => ?_)
  refine ac_iconst 62 1 dX7_hangs_61 rfl (by decide) ?_
  refine ac_goto 66 dX7_hangs_62 (by decide) ?_
  refine ac_istore_n 67 [some (Value.ref 0), some (Value.int (nI j)), some (Value.int x), some (Value.int 1)] dX7_hangs_66 rfl rfl (Nat.le_of_ble_eq_true rfl) (by decide) rfl ?_
  refine ac_iload_n 68 dX7_hangs_67 rfl rfl ?_
  refine ac_if_eq 86 71 dX7_hangs_68 (by decide) rfl (fun c_68 => absurd c_68 (by decide)) (fun _ => ?_)
  refine ac_aload_n 72 dX7_hangs_71 rfl rfl ?_
  refine ac_getO 75 7 dX7_hangs_72 rfl fl7_27 ob0 rfl ?_
  refine ac_getI 78 dX7_hangs_75 rfl fl7_99 ob7 ?_
  rw [show (M 7 5) = (nI nh) from hw.s5]
  refine ac_bipush 80 16 dX7_hangs_78 rfl (by decide) ?_
  refine ac_icmp_lt 86 83 dX7_hangs_80 (by decide) rfl (fun _ => ?_) (fun c_80 => absurd (nI_lt (b := 16) hroom (by decide)) c_80)
  refine ac_aload_n 87 dX7_hangs_86 rfl rfl ?_
  refine ac_callVg (μ' := m7_remember) 90 dX7_hangs_87 rfl lk7_78 m7_remember_V ob0 (c7_rem hp hw) rfl rfl (by decide) (Nat.le_of_ble_eq_true rfl) (fun v1 M1 V1 f1 hq => ?_)
  obtain ⟨rfl, rfl, hp1, hk1⟩ := hq
  have hw1 : CW M1 7 w np nd nh := hw.same (fun i hi => hk1.2.2.1 _ (by omega) (by omega))
  refine ac_aload_n 91 dX7_hangs_90 rfl rfl ?_
  refine ac_getO 94 7 dX7_hangs_91 rfl fl7_27 ob0 rfl ?_
  refine ac_iload_n 95 dX7_hangs_94 rfl rfl ?_
  refine ac_iload_n 96 dX7_hangs_95 rfl rfl ?_
  refine ac_callVm (μ' := m6_putUp) 99 dX7_hangs_96 rfl lk7_102 m6_putUp_V ob7 (c6_putUpM hw1 hj x hh hroom) rfl rfl (by decide) (Nat.le_of_ble_eq_true rfl) ?_
  refine ac_iload_n 100 dX7_hangs_99 rfl rfl ?_
  refine ac_if_eq 107 103 dX7_hangs_100 (by decide) rfl (fun c_100 => absurd c_100 (by decide)) (fun _ => ?_)
  refine ac_iconst 104 1 dX7_hangs_103 rfl (by decide) ?_
  refine ac_goto 108 dX7_hangs_104 (by decide) ?_
  refine ac_iret dX7_hangs_108 ⟨_, rfl, rfl⟩ ?_
  exact ⟨rfl, rfl, hp1.same (fun i h0 _ => by rw [am_up_ne (by omega), am_up_ne (by omega), am_up_ne (by omega), am_up_ne (by omega)]), (hw1.setAt x hj).addH hroom _ _, hk1.q (fun i hi => by rw [am_up_ne (by omega), am_up_ne (by omega), am_up_ne (by omega), am_up_ne (by omega)])⟩
set_option maxRecDepth 20000 in
theorem q7_filF {M : am_I} {V : am_J} {f : Nat → Option Nat} {w : rN} {np nd nh : Nat} (hw : CW M 7 w np nd nh) {p : Int32} (hp : ¬ vI p nh) : CT m7_fills 5 [Value.ref 0, Value.int p] M V f (RV (-1) M V f) := by
  refine CT.of m7_fills_V.1 _ (en_ai_2 0 p) ?_
  refine ac_aload_n 1 dX7_fills_0 rfl rfl ?_
  refine ac_getO 4 7 dX7_fills_1 rfl fl7_27 ob0 rfl ?_
  refine ac_iload_n 5 dX7_fills_4 rfl rfl ?_
  refine ac_callV (μ' := m6_hasHole) 8 dX7_fills_5 rfl lk7_109 m6_hasHole_V ob7 (c6_hasHoleF hw hp) rfl rfl (by decide) (Nat.le_of_ble_eq_true rfl) ?_
  refine ac_if_ne 13 11 dX7_fills_8 (by decide) rfl (fun c_8 => absurd (by decide) c_8) (fun _ => ?_)
  refine ac_iconst 12 (-1) dX7_fills_11 rfl (by decide) ?_
  refine ac_iret dX7_fills_12 ⟨_, rfl, rfl⟩ ?_
  exact rv_mk rfl
set_option maxRecDepth 20000 in
theorem q7_filU {M : am_I} {V : am_J} {f : Nat → Option Nat} {w : rN} {np nd nh j : Nat} (hw : CW M 7 w np nd nh) (hj : j < nh) (ha : dlst (onN w j) np np ≠ -9) : CT m7_fills 5 [Value.ref 0, Value.int (nI j)] M V f (RV (-2) M V f) := by
  refine CT.of m7_fills_V.1 _ (en_ai_2 0 (nI j)) ?_
  refine ac_aload_n 1 dX7_fills_0 rfl rfl ?_
  refine ac_getO 4 7 dX7_fills_1 rfl fl7_27 ob0 rfl ?_
  refine ac_iload_n 5 dX7_fills_4 rfl rfl ?_
  refine ac_callV (μ' := m6_hasHole) 8 dX7_fills_5 rfl lk7_109 m6_hasHole_V ob7 (c6_hasHoleT hw hj) rfl rfl (by decide) (Nat.le_of_ble_eq_true rfl) ?_
  refine ac_if_ne 13 11 dX7_fills_8 (by decide) rfl (fun _ => ?_) (fun c_8 => absurd c_8 (by decide))
  refine ac_aload_n 14 dX7_fills_13 rfl rfl ?_
  refine ac_getO 17 7 dX7_fills_14 rfl fl7_27 ob0 rfl ?_
  refine ac_iload_n 18 dX7_fills_17 rfl rfl ?_
  refine ac_callV (μ' := m6_findPictureOn) 21 dX7_fills_18 rfl lk7_112 m6_findPictureOn_V ob7 (c6_on hw hj) rfl rfl (by decide) (Nat.le_of_ble_eq_true rfl) ?_
  refine ac_bipush 23 (-9) dX7_fills_21 rfl (by decide) ?_
  refine ac_icmp_eq 29 26 dX7_fills_23 (by decide) rfl (fun c_23 => absurd c_23 ha) (fun _ => ?_)
  refine ac_bipush 28 (-2) dX7_fills_26 rfl (by decide) ?_
  refine ac_iret dX7_fills_28 ⟨_, rfl, rfl⟩ ?_
  exact rv_mk rfl
set_option maxRecDepth 20000 in
theorem q7_fil {M : am_I} {V : am_J} {f : Nat → Option Nat} {w : rN} {np nd nh j : Nat} (hw : CW M 7 w np nd nh) (hj : j < nh) (ha : dlst (onN w j) np np = -9) {u : Nat} {pw : Nat → rN} (hp : PI M f u pw) : CT m7_fills 5 [Value.ref 0, Value.int (nI j)] M V f (fun v M' V' f' => v = some (.int (nI (nh - 1))) ∧ V' = V ∧ PI M' f' (kpn u) (kpw pw w u) ∧ CW M' 7 (filN w nh j) np nd (nh - 1) ∧ KQ M M') := by
  have h5 := hw.n5
  have h3 := hw.n3
  have h16 := hw.n16
  refine CT.of m7_fills_V.1 _ (en_ai_2 0 (nI j)) ?_
  refine ac_aload_n 1 dX7_fills_0 rfl rfl ?_
  refine ac_getO 4 7 dX7_fills_1 rfl fl7_27 ob0 rfl ?_
  refine ac_iload_n 5 dX7_fills_4 rfl rfl ?_
  refine ac_callV (μ' := m6_hasHole) 8 dX7_fills_5 rfl lk7_109 m6_hasHole_V ob7 (c6_hasHoleT hw hj) rfl rfl (by decide) (Nat.le_of_ble_eq_true rfl) ?_
  refine ac_if_ne 13 11 dX7_fills_8 (by decide) rfl (fun _ => ?_) (fun c_8 => absurd c_8 (by decide))
  refine ac_aload_n 14 dX7_fills_13 rfl rfl ?_
  refine ac_getO 17 7 dX7_fills_14 rfl fl7_27 ob0 rfl ?_
  refine ac_iload_n 18 dX7_fills_17 rfl rfl ?_
  refine ac_callV (μ' := m6_findPictureOn) 21 dX7_fills_18 rfl lk7_112 m6_findPictureOn_V ob7 (c6_on hw hj) rfl rfl (by decide) (Nat.le_of_ble_eq_true rfl) ?_
  refine ac_bipush 23 (-9) dX7_fills_21 rfl (by decide) ?_
  refine ac_icmp_eq 29 26 dX7_fills_23 (by decide) rfl (fun _ => ?_) (fun c_23 => absurd ha c_23)
  refine ac_aload_n 30 dX7_fills_29 rfl rfl ?_
  refine ac_callVg (μ' := m7_remember) 33 dX7_fills_30 rfl lk7_78 m7_remember_V ob0 (c7_rem hp hw) rfl rfl (by decide) (Nat.le_of_ble_eq_true rfl) (fun v1 M1 V1 f1 hq => ?_)
  obtain ⟨rfl, rfl, hp1, hk1⟩ := hq
  have hw1 : CW M1 7 w np nd nh := hw.same (fun i hi => hk1.2.2.1 _ (by omega) (by omega))
  refine ac_aload_n 34 dX7_fills_33 rfl rfl ?_
  refine ac_getO 37 7 dX7_fills_34 rfl fl7_27 ob0 rfl ?_
  refine ac_iload_n 38 dX7_fills_37 rfl rfl ?_
  refine ac_callVm (μ' := m6_removeHole) 41 dX7_fills_38 rfl lk7_116 m6_removeHole_V ob7 (c6_removeHole hw1 hj) rfl rfl (by decide) (Nat.le_of_ble_eq_true rfl) ?_
  refine ac_aload_n 42 dX7_fills_41 rfl rfl ?_
  refine ac_getO 45 7 dX7_fills_42 rfl fl7_27 ob0 rfl ?_
  refine ac_getI 48 dX7_fills_45 rfl fl7_99 ob7 ?_
  rw [show ((am_up (am_row (am_row M1 15 (va_cpy (M1 15) (M1 15) (j + 1) j (nh - 1 - j))) 16 (va_cpy (M1 16) (M1 16) (j + 1) j (nh - 1 - j))) 7 5 (nI (nh - 1))) 7 5) = (nI (nh - 1)) from rfl]
  refine ac_iret dX7_fills_48 ⟨_, rfl, rfl⟩ ?_
  exact ⟨rfl, rfl, hp1.same (fun i h0 _ => by rw [am_up_ne (by omega)]; simp only [am_row, if_neg (show ¬ i = 16 by omega), if_neg (show ¬ i = 15 by omega)]), hw1.fil hj, hk1.q (fun i hi => by rw [am_up_ne (by omega)]; simp only [am_row, if_neg (show ¬ i = 16 by omega), if_neg (show ¬ i = 15 by omega)])⟩
set_option maxRecDepth 20000 in
theorem q7_linF {M : am_I} {V : am_J} {f : Nat → Option Nat} {l : Int32} (hl : ¬ (5 ≤ l ∧ l ≤ 20)) : CT m7_lines 5 [Value.ref 0, Value.int l] M V f (RV (-1) M V f) := by
  refine CT.of m7_lines_V.1 _ (en_ai_3 0 l) ?_
  refine ac_iload_n 1 dX7_lines_0 rfl rfl ?_
  refine ac_iconst 2 5 dX7_lines_1 rfl (by decide) ?_
  refine ac_icmp_lt 11 5 dX7_lines_2 (by decide) rfl (fun c_2 => ?_) (fun c_2 => ?_)
  · refine ac_iconst 12 (-1) dX7_lines_11 rfl (by decide) ?_
    refine ac_iret dX7_lines_12 ⟨_, rfl, rfl⟩ ?_
    exact rv_mk rfl
  · refine ac_iload_n 6 dX7_lines_5 rfl rfl ?_
    refine ac_bipush 8 20 dX7_lines_6 rfl (by decide) ?_
    refine ac_icmp_le 13 11 dX7_lines_8 (by decide) rfl (fun c_8 => ?_) (fun c_8 => ?_)
    · exact absurd ⟨Int32.not_lt.mp c_2, c_8⟩ hl
    · refine ac_iconst 12 (-1) dX7_lines_11 rfl (by decide) ?_
      refine ac_iret dX7_lines_12 ⟨_, rfl, rfl⟩ ?_
      exact rv_mk rfl
set_option maxRecDepth 20000 in
theorem q7_linS {M : am_I} {V : am_J} {f : Nat → Option Nat} {w : rN} {np nd nh : Nat} (hw : CW M 7 w np nd nh) {l : Int32} (hl : 5 ≤ l ∧ l ≤ 20) (he : w 1 = l) : CT m7_lines 5 [Value.ref 0, Value.int l] M V f (RV (-2) M V f) := by
  refine CT.of m7_lines_V.1 _ (en_ai_3 0 l) ?_
  refine ac_iload_n 1 dX7_lines_0 rfl rfl ?_
  refine ac_iconst 2 5 dX7_lines_1 rfl (by decide) ?_
  refine ac_icmp_lt 11 5 dX7_lines_2 (by decide) rfl (fun c_2 => absurd c_2 (Int32.not_lt.mpr hl.1)) (fun _ => ?_)
  refine ac_iload_n 6 dX7_lines_5 rfl rfl ?_
  refine ac_bipush 8 20 dX7_lines_6 rfl (by decide) ?_
  refine ac_icmp_le 13 11 dX7_lines_8 (by decide) rfl (fun _ => ?_) (fun c_8 => absurd hl.2 c_8)
  refine ac_iload_n 14 dX7_lines_13 rfl rfl ?_
  refine ac_aload_n 15 dX7_lines_14 rfl rfl ?_
  refine ac_getO 18 7 dX7_lines_15 rfl fl7_27 ob0 rfl ?_
  refine ac_getI 21 dX7_lines_18 rfl fl7_120 ob7 ?_
  rw [show (M 7 1) = (w 1) from hw.s1]
  refine ac_icmp_ne 27 24 dX7_lines_21 (by decide) rfl (fun c_21 => absurd he.symm c_21) (fun _ => ?_)
  refine ac_bipush 26 (-2) dX7_lines_24 rfl (by decide) ?_
  refine ac_iret dX7_lines_26 ⟨_, rfl, rfl⟩ ?_
  exact rv_mk rfl
set_option maxRecDepth 20000 in
theorem q7_lin {M : am_I} {V : am_J} {f : Nat → Option Nat} {w : rN} {np nd nh : Nat} (hw : CW M 7 w np nd nh) {l : Int32} (hl : 5 ≤ l ∧ l ≤ 20) (he : w 1 ≠ l) {u : Nat} {pw : Nat → rN} (hp : PI M f u pw) : CT m7_lines 5 [Value.ref 0, Value.int l] M V f (fun v M' V' f' => v = some (.int (w 1)) ∧ V' = V ∧ PI M' f' (kpn u) (kpw pw w u) ∧ CW M' 7 (linN w l) np nd nh ∧ KQ M M') := by
  have h5 := hw.n5
  have h3 := hw.n3
  have h16 := hw.n16
  refine CT.of m7_lines_V.1 _ (en_ai_3 0 l) ?_
  refine ac_iload_n 1 dX7_lines_0 rfl rfl ?_
  refine ac_iconst 2 5 dX7_lines_1 rfl (by decide) ?_
  refine ac_icmp_lt 11 5 dX7_lines_2 (by decide) rfl (fun c_2 => absurd c_2 (Int32.not_lt.mpr hl.1)) (fun _ => ?_)
  refine ac_iload_n 6 dX7_lines_5 rfl rfl ?_
  refine ac_bipush 8 20 dX7_lines_6 rfl (by decide) ?_
  refine ac_icmp_le 13 11 dX7_lines_8 (by decide) rfl (fun _ => ?_) (fun c_8 => absurd hl.2 c_8)
  refine ac_iload_n 14 dX7_lines_13 rfl rfl ?_
  refine ac_aload_n 15 dX7_lines_14 rfl rfl ?_
  refine ac_getO 18 7 dX7_lines_15 rfl fl7_27 ob0 rfl ?_
  refine ac_getI 21 dX7_lines_18 rfl fl7_120 ob7 ?_
  rw [show (M 7 1) = (w 1) from hw.s1]
  refine ac_icmp_ne 27 24 dX7_lines_21 (by decide) rfl (fun _ => ?_) (fun c_21 => absurd c_21 (fun e => he e.symm))
  refine ac_aload_n 28 dX7_lines_27 rfl rfl ?_
  refine ac_callVg (μ' := m7_remember) 31 dX7_lines_28 rfl lk7_78 m7_remember_V ob0 (c7_rem hp hw) rfl rfl (by decide) (Nat.le_of_ble_eq_true rfl) (fun v1 M1 V1 f1 hq => ?_)
  obtain ⟨rfl, rfl, hp1, hk1⟩ := hq
  have hw1 : CW M1 7 w np nd nh := hw.same (fun i hi => hk1.2.2.1 _ (by omega) (by omega))
  refine ac_aload_n 32 dX7_lines_31 rfl rfl ?_
  refine ac_getO 35 7 dX7_lines_32 rfl fl7_27 ob0 rfl ?_
  refine ac_getI 38 dX7_lines_35 rfl fl7_120 ob7 ?_
  rw [show (M1 7 1) = (w 1) from hw1.s1]
  refine ac_istore_n 39 [some (Value.ref 0), some (Value.int l), some (Value.int (w 1))] dX7_lines_38 rfl rfl (Nat.le_of_ble_eq_true rfl) (by decide) rfl ?_
  refine ac_aload_n 40 dX7_lines_39 rfl rfl ?_
  refine ac_getO 43 7 dX7_lines_40 rfl fl7_27 ob0 rfl ?_
  refine ac_iload_n 44 dX7_lines_43 rfl rfl ?_
  refine ac_putI 47 dX7_lines_44 rfl fl7_120 rfl rfl ob7 ?_
  refine ac_aload_n 48 dX7_lines_47 rfl rfl ?_
  refine ac_getO 51 7 dX7_lines_48 rfl fl7_27 ob0 rfl ?_
  refine ac_callVm (μ' := m6_takeAllDown) 54 dX7_lines_51 rfl lk7_123 m6_takeAllDown_V ob7 (c6_down (M := (am_up M1 7 1 l)) (np := np) hw1.s3 hw1.n5) rfl rfl (by decide) (Nat.le_of_ble_eq_true rfl) ?_
  refine ac_iload_n 55 dX7_lines_54 rfl rfl ?_
  refine ac_iret dX7_lines_55 ⟨_, rfl, rfl⟩ ?_
  exact ⟨rfl, rfl, hp1.same (fun i h0 _ => by simp only [am_row, if_neg (show ¬ i = 12 by omega)]; exact am_up_ne (by omega)), hw1.lin l, hk1.q (fun i hi => by simp only [am_row, if_neg (show ¬ i = 12 by omega)]; exact am_up_ne (by omega))⟩
