/-! The class: what is done. -/
def setN (w : rN) (k : Nat) (v : Int32) : rN := fun i => if i = k then v else w i
theorem setN_eq {w : rN} {k : Nat} {v : Int32} : setN w k v k = v := if_pos rfl
theorem setN_ne {w : rN} {k i : Nat} {v : Int32} (h : i ≠ k) : setN w k v i = w i := if_neg h
/-- the past walls: how many are known, in which order they lie, what they tell -/
def PI (M : am_I) (f : Nat → Option Nat) (u : Nat) (pw : Nat → rN) : Prop := M 27 1 = nI u ∧ u ≤ 6 ∧ (∀ j, j < 6 → ∃ b, f j = some b ∧ PB b) ∧ (∀ i j, i < 6 → j < 6 → f i = f j → i = j) ∧ ∀ j, j < u → ∃ b np nd nh, f j = some b ∧ CW M b (pw j) np nd nh
def kpw (pw : Nat → rN) (w : rN) (u : Nat) : Nat → rN := if u = 6 then (fun j => if j < 5 then pw (j + 1) else w) else (fun j => if j = u then w else pw j)
/-- behind remember(): which cells are as they were -/
def KR (M M' : am_I) : Prop := M' 0 7 = 0 ∧ (∀ k, k ≠ 7 → M' 0 k = M 0 k) ∧ (∀ i, 0 < i → i < 27 → M' i = M i) ∧ ∀ i, 89 ≤ i → M' i = M i
theorem PB.rng {b : Nat} (h : PB b) : 29 ≤ b ∧ b ≤ 79 := by unfold PB at h; simp at h; omega
theorem PB.far {b c : Nat} (h : PB b) (h2 : PB c) (hn : b ≠ c) : b + 10 ≤ c ∨ c + 10 ≤ b := by unfold PB at h h2; simp at h h2; omega
theorem c7_rem {M : am_I} {V : am_J} {f : Nat → Option Nat} {u : Nat} {pw : Nat → rN} {w : rN} {np nd nh : Nat} (hp : PI M f u pw) (hw : CW M 7 w np nd nh) : CT m7_remember 4 [.ref 0] M V f (fun v M' V' f' => v = none ∧ V' = V ∧ PI M' f' (kpn u) (kpw pw w u) ∧ KR M M') := by
  obtain ⟨h1, h2, h3, h4, h5⟩ := hp
  by_cases hu : u = 6
  · subst hu
    obtain ⟨b0, f0, p0⟩ := h3 0 (by decide)
    obtain ⟨b1, f1, p1⟩ := h3 1 (by decide)
    obtain ⟨b2, f2, p2⟩ := h3 2 (by decide)
    obtain ⟨b3, f3, p3⟩ := h3 3 (by decide)
    obtain ⟨b4, f4, p4⟩ := h3 4 (by decide)
    obtain ⟨b5, f5, p5⟩ := h3 5 (by decide)
    have r0 := p0.rng
    refine (c7_remember6 h1 f0 p0 f1 p1 f2 p2 f3 p3 f4 p4 f5 p5).weaken ?_
    rintro v M' V' f' ⟨rfl, rfl, rfl, rfl⟩
    have hr : ∀ j, j < 5 → (va_up (va_up (va_up (va_up (va_up (va_up f 0 (some b1)) 1 (some b2)) 2 (some b3)) 3 (some b4)) 4 (some b5)) 5 (some b0)) j = f (j + 1) := by
      intro j hj
      rcases (show j = 0 ∨ j = 1 ∨ j = 2 ∨ j = 3 ∨ j = 4 by omega) with rfl | rfl | rfl | rfl | rfl
      · exact f1.symm
      · exact f2.symm
      · exact f3.symm
      · exact f4.symm
      · exact f5.symm
    generalize hg : (va_up (va_up (va_up (va_up (va_up (va_up f 0 (some b1)) 1 (some b2)) 2 (some b3)) 3 (some b4)) 4 (some b5)) 5 (some b0)) = g at hr ⊢
    have hr5 : g 5 = f 0 := by rw [← hg, f0]; rfl
    have hidx : ∀ j, j < 6 → g j = f (if j < 5 then j + 1 else 0) := by
      intro j hj
      by_cases hj5 : j < 5
      · rw [if_pos hj5]; exact hr j hj5
      · rw [if_neg hj5, show j = 5 by omega]; exact hr5
    have hsame : ∀ i, i ≠ 0 → (i < b0 ∨ b0 + 9 < i) → i ≠ 27 → am_up (am_up (cpW (am_up M 27 1 5) b0 7) 27 1 6) 0 7 0 i = M i := by
      intro i hi0 hib hi27
      rw [am_up_ne hi0, am_up_ne hi27, cpW_o hib, am_up_ne hi27]
    refine ⟨rfl, rfl, ⟨rfl, by decide, fun j hj => ?_, fun i j hi hj e => ?_, fun j hj => ?_⟩, rfl, fun k hk => ?_, fun i hi0 hi => ?_, fun i hi => ?_⟩
    · rw [hidx j hj]
      exact h3 _ (by split <;> omega)
    · rw [hidx i hi, hidx j hj] at e
      have := h4 _ _ (by split <;> omega) (by split <;> omega) e
      split at this <;> split at this <;> omega
    · have hj6 : j < 6 := hj
      show ∃ b np nd nh, g j = some b ∧ CW _ b (if j < 5 then pw (j + 1) else w) np nd nh
      by_cases hj5 : j < 5
      · obtain ⟨b, a1, a2, a3, hb, hc⟩ := h5 (j + 1) (by omega)
        obtain ⟨b', hb', pb'⟩ := h3 (j + 1) (by omega)
        rw [hb] at hb'
        cases hb'
        have hne : b ≠ b0 := fun e => by
          have := h4 (j + 1) 0 (by omega) (by decide) (by rw [hb, f0, e])
          omega
        have hf := pb'.far p0 hne
        have hr9 := pb'.rng
        refine ⟨b, a1, a2, a3, (hr j hj5).trans hb, ?_⟩
        rw [if_pos hj5]
        exact hc.same (fun i hi => hsame _ (by omega) (by omega) (by omega))
      · refine ⟨b0, np, nd, nh, by rw [show j = 5 by omega, hr5, f0], ?_⟩
        rw [if_neg hj5]
        refine (CW.copy (b := b0) (hw.same (M' := am_up M 27 1 5) (fun i hi => am_up_ne (by omega)))).same (fun i hi => ?_)
        rw [am_up_ne (by omega), am_up_ne (by omega)]
    · rw [up_ne hk, am_up_ne (by decide), cpW_o (by omega), am_up_ne (by decide)]
    · exact hsame i (by omega) (by omega) (by omega)
    · exact hsame i (by omega) (by omega) (by omega)
  · obtain ⟨b, hb, pb⟩ := h3 u (by omega)
    have r0 := pb.rng
    refine (c7_remember h1 (by omega) hb pb).weaken ?_
    rintro v M' V' f' ⟨rfl, rfl, rfl, rfl⟩
    have hsame : ∀ i, i ≠ 0 → (i < b ∨ b + 9 < i) → i ≠ 27 → am_up (am_up (cpW M b 7) 27 1 (nI (u + 1))) 0 7 0 i = M i := by
      intro i hi0 hib hi27
      rw [am_up_ne hi0, am_up_ne hi27, cpW_o hib]
    have e9 : kpn u = u + 1 := if_neg hu
    rw [e9]
    refine ⟨rfl, rfl, ⟨rfl, by omega, h3, h4, fun j hj => ?_⟩, rfl, fun k hk => ?_, fun i hi0 hi => ?_, fun i hi => ?_⟩
    · have e8 : kpw pw w u j = if j = u then w else pw j := by unfold kpw; rw [if_neg hu]
      rw [e8]
      by_cases hju : j = u
      · subst hju
        refine ⟨b, np, nd, nh, hb, ?_⟩
        rw [if_pos rfl]
        refine (CW.copy (b := b) hw).same (fun i hi => ?_)
        rw [am_up_ne (by omega), am_up_ne (by omega)]
      · obtain ⟨b', a1, a2, a3, hb', hc⟩ := h5 j (by omega)
        obtain ⟨b2, hb2, pb2⟩ := h3 j (by omega)
        rw [hb'] at hb2
        cases hb2
        have hne : b' ≠ b := fun e => hju (h4 j u (by omega) (by omega) (by rw [hb', hb, e]))
        have hf := pb2.far pb hne
        have hr9 := pb2.rng
        refine ⟨b', a1, a2, a3, hb', ?_⟩
        rw [if_neg hju]
        exact hc.same (fun i hi => hsame _ (by omega) (by omega) (by omega))
    · rw [up_ne hk, am_up_ne (by decide), cpW_o (by omega)]
    · exact hsame i (by omega) (by omega) (by omega)
    · exact hsame i (by omega) (by omega) (by omega)
theorem CW.setAt {M : am_I} {b : Nat} {w : rN} {np nd nh j : Nat} (h : CW M b w np nd nh) (x : Int32) (hj : j < np) : CW (am_up M (b + 5) j x) b (setN w (64 + j) x) np nd nh := by
  have h5 := h.n5
  have h3 := h.n3
  have h16 := h.n16
  have hc := h.1
  have e : ∀ i, i ≠ 64 + j → setN w (64 + j) x i = w i := fun i hi => setN_ne hi
  refine ⟨?_, ?_, fun i hi => ?_, fun k hk => ?_, fun k hk => ?_⟩
  · unfold NC at hc ⊢
    rw [e 3 (by omega), e 24 (by omega), e 31 (by omega)]
    exact hc
  · rw [am_up_ne (by omega), e 0 (by omega), e 1 (by omega), e 2 (by omega), e 3 (by omega), e 24 (by omega), e 31 (by omega)]
    exact h.2.1
  · rw [am_up_ne (by omega), am_up_ne (by omega), am_up_ne (by omega), am_up_ne (by omega), e _ (by omega), e _ (by omega), e _ (by omega), e _ (by omega)]
    refine ⟨h.p0 hi, h.p1 hi, h.p2 hi, h.p3 hi, ?_⟩
    by_cases hij : i = j
    · subst hij
      rw [up_eq, setN_eq]
    · rw [up_ne hij, e _ (by omega)]
      exact h.p4 hi
  · rw [am_up_ne (by omega), am_up_ne (by omega), e _ (by omega), e _ (by omega)]
    exact h.2.2.2.1 k hk
  · rw [am_up_ne (by omega), am_up_ne (by omega), e _ (by omega), e _ (by omega)]
    exact h.2.2.2.2 k hk
theorem hkX_set {w : rN} {j k : Nat} {x v : Int32} (h : k ≠ 4 + 4 * j) : hkX (setN w k v) j x = hkX w j x := by unfold hkX; rw [setN_ne (Ne.symm h)]
theorem hkY_set {w : rN} {j k : Nat} {v : Int32} (h0 : k ≠ 1) (h1 : k ≠ 4 + 4 * j + 1) (h2 : k ≠ 4 + 4 * j + 2) : hkY (setN w k v) j = hkY w j := by unfold hkY; rw [setN_ne (Ne.symm h0), setN_ne (Ne.symm h1), setN_ne (Ne.symm h2)]
theorem hoN_set {w : rN} {nh k : Nat} {v X Y : Int32} (h : k < 32 ∨ 32 + 2 * nh ≤ k) : hoN (setN w k v) nh X Y ↔ hoN w nh X Y := by
  unfold hoN
  constructor
  · rintro ⟨i, hi, h1, h2⟩
    exact ⟨i, hi, by rw [setN_ne (by omega)] at h1; exact h1, by rw [setN_ne (by omega)] at h2; exact h2⟩
  · rintro ⟨i, hi, h1, h2⟩
    exact ⟨i, hi, by rw [setN_ne (by omega)]; exact h1, by rw [setN_ne (by omega)]; exact h2⟩
set_option maxRecDepth 20000 in
theorem c6_addHole {M : am_I} {V : am_J} {f : Nat → Option Nat} {nh : Nat} (hn : M 7 5 = nI nh) (h9 : nh < 16) (X Y : Int32) : CT m6_addHole 1 [Value.ref 7, Value.int X, Value.int Y] M V f (RM none (am_up (am_up (am_up M 15 nh X) 16 nh Y) 7 5 (nI (nh + 1))) V f) := by
  refine CT.of m6_addHole_V.1 _ (en_aii_3 7 X Y) ?_
  refine ac_aload_n 1 dX6_addHole_0 rfl rfl ?_
  refine ac_getI 4 dX6_addHole_1 rfl fl6_58 ob7 ?_
  rw [show (M 7 5) = (nI nh) from hn]
  refine ac_bipush 6 16 dX6_addHole_4 rfl (by decide) ?_
  refine ac_icmp_ge 39 9 dX6_addHole_6 (by decide) rfl (fun c_6 => absurd c_6 (nI_ge (b := 16) h9 (by decide))) (fun _ => ?_)
  refine ac_aload_n 10 dX6_addHole_9 rfl rfl ?_
  refine ac_getO 13 15 dX6_addHole_10 rfl fl6_33 ob7 rfl ?_
  refine ac_aload_n 14 dX6_addHole_13 rfl rfl ?_
  refine ac_getI 17 dX6_addHole_14 rfl fl6_58 ob7 ?_
  rw [show (M 7 5) = (nI nh) from hn]
  refine ac_iload_n 18 dX6_addHole_17 rfl rfl ?_
  refine ac_iast 19 dX6_addHole_18 rfl ar15 (ix_nI (by omega) (by decide)) ?_
  refine ac_aload_n 20 dX6_addHole_19 rfl rfl ?_
  refine ac_getO 23 16 dX6_addHole_20 rfl fl6_36 ob7 rfl ?_
  refine ac_aload_n 24 dX6_addHole_23 rfl rfl ?_
  refine ac_getI 27 dX6_addHole_24 rfl fl6_58 ob7 ?_
  rw [show ((am_up M 15 nh X) 7 5) = (M 7 5) from rfl]
  rw [show (M 7 5) = (nI nh) from hn]
  refine ac_iload_n 28 dX6_addHole_27 rfl rfl ?_
  refine ac_iast 29 dX6_addHole_28 rfl ar16 (ix_nI (by omega) (by decide)) ?_
  refine ac_aload_n 30 dX6_addHole_29 rfl rfl ?_
  refine ac_dup 31 dX6_addHole_30 rfl rfl ?_
  refine ac_getI 34 dX6_addHole_31 rfl fl6_58 ob7 ?_
  rw [show ((am_up (am_up M 15 nh X) 16 nh Y) 7 5) = (M 7 5) from rfl]
  rw [show (M 7 5) = (nI nh) from hn]
  refine ac_iconst 35 1 dX6_addHole_34 rfl (by decide) ?_
  refine ac_iadd 36 dX6_addHole_35 rfl ?_
  rw [show ((nI nh) + 1) = (nI (nh + 1)) from (nI_1 nh)]
  refine ac_putI 39 dX6_addHole_36 rfl fl6_58 rfl rfl ob7 ?_
  refine ac_vret dX6_addHole_39 rfl ?_
  exact rm_mk rfl
set_option maxRecDepth 20000 in
theorem c6_addHole17 {M : am_I} {V : am_J} {f : Nat → Option Nat} {nh : Nat} (hn : M 17 5 = nI nh) (h9 : nh < 16) (X Y : Int32) : CT m6_addHole 1 [Value.ref 17, Value.int X, Value.int Y] M V f (RM none (am_up (am_up (am_up M 25 nh X) 26 nh Y) 17 5 (nI (nh + 1))) V f) := by
  refine CT.of m6_addHole_V.1 _ (en_aii_3 17 X Y) ?_
  refine ac_aload_n 1 dX6_addHole_0 rfl rfl ?_
  refine ac_getI 4 dX6_addHole_1 rfl fl6_58 ob17 ?_
  rw [show (M 17 5) = (nI nh) from hn]
  refine ac_bipush 6 16 dX6_addHole_4 rfl (by decide) ?_
  refine ac_icmp_ge 39 9 dX6_addHole_6 (by decide) rfl (fun c_6 => absurd c_6 (nI_ge (b := 16) h9 (by decide))) (fun _ => ?_)
  refine ac_aload_n 10 dX6_addHole_9 rfl rfl ?_
  refine ac_getO 13 25 dX6_addHole_10 rfl fl6_33 ob17 rfl ?_
  refine ac_aload_n 14 dX6_addHole_13 rfl rfl ?_
  refine ac_getI 17 dX6_addHole_14 rfl fl6_58 ob17 ?_
  rw [show (M 17 5) = (nI nh) from hn]
  refine ac_iload_n 18 dX6_addHole_17 rfl rfl ?_
  refine ac_iast 19 dX6_addHole_18 rfl ar25 (ix_nI (by omega) (by decide)) ?_
  refine ac_aload_n 20 dX6_addHole_19 rfl rfl ?_
  refine ac_getO 23 26 dX6_addHole_20 rfl fl6_36 ob17 rfl ?_
  refine ac_aload_n 24 dX6_addHole_23 rfl rfl ?_
  refine ac_getI 27 dX6_addHole_24 rfl fl6_58 ob17 ?_
  rw [show ((am_up M 25 nh X) 17 5) = (M 17 5) from rfl]
  rw [show (M 17 5) = (nI nh) from hn]
  refine ac_iload_n 28 dX6_addHole_27 rfl rfl ?_
  refine ac_iast 29 dX6_addHole_28 rfl ar26 (ix_nI (by omega) (by decide)) ?_
  refine ac_aload_n 30 dX6_addHole_29 rfl rfl ?_
  refine ac_dup 31 dX6_addHole_30 rfl rfl ?_
  refine ac_getI 34 dX6_addHole_31 rfl fl6_58 ob17 ?_
  rw [show ((am_up (am_up M 25 nh X) 26 nh Y) 17 5) = (M 17 5) from rfl]
  rw [show (M 17 5) = (nI nh) from hn]
  refine ac_iconst 35 1 dX6_addHole_34 rfl (by decide) ?_
  refine ac_iadd 36 dX6_addHole_35 rfl ?_
  rw [show ((nI nh) + 1) = (nI (nh + 1)) from (nI_1 nh)]
  refine ac_putI 39 dX6_addHole_36 rfl fl6_58 rfl rfl ob17 ?_
  refine ac_vret dX6_addHole_39 rfl ?_
  exact rm_mk rfl
set_option maxRecDepth 20000 in
theorem c6_putUpO {M : am_I} {V : am_J} {f : Nat → Option Nat} {w : rN} {np nd nh j : Nat} (hw : CW M 7 w np nd nh) (hj : j < np) (x : Int32) (hh : hoN w nh (hkX w j x) (hkY w j)) : CT m6_putUp 4 [Value.ref 7, Value.int (nI j), Value.int x] M V f (RM none (am_up M 12 j x) V f) := by
  have h5 := hw.n5
  have h3 := hw.n3
  have h16 := hw.n16
  have hw2 := hw.setAt x hj
  refine CT.of m6_putUp_V.1 _ (en_aii_3 7 (nI j) x) ?_
  refine ac_aload_n 1 dX6_putUp_0 rfl rfl ?_
  refine ac_iload_n 2 dX6_putUp_1 rfl rfl ?_
  refine ac_callV (μ' := m6_hasPicture) 5 dX6_putUp_2 rfl lk6_71 m6_hasPicture_V ob7 (c6_hasPictureT hw hj) rfl rfl (by decide) (Nat.le_of_ble_eq_true rfl) ?_
  refine ac_if_eq 39 8 dX6_putUp_5 (by decide) rfl (fun c_5 => absurd c_5 (by decide)) (fun _ => ?_)
  refine ac_aload_n 9 dX6_putUp_8 rfl rfl ?_
  refine ac_getO 12 12 dX6_putUp_9 rfl fl6_24 ob7 rfl ?_
  refine ac_iload_n 13 dX6_putUp_12 rfl rfl ?_
  refine ac_iload_n 14 dX6_putUp_13 rfl rfl ?_
  refine ac_iast 15 dX6_putUp_14 rfl ar12 (ix_nI (by omega) (by decide)) ?_
  refine ac_aload_n 16 dX6_putUp_15 rfl rfl ?_
  refine ac_iload_n 17 dX6_putUp_16 rfl rfl ?_
  refine ac_iload_n 18 dX6_putUp_17 rfl rfl ?_
  refine ac_callV (μ' := m6_hasHoleFor) 21 dX6_putUp_18 rfl lk6_92 m6_hasHoleFor_V ob7 (c6_hasHoleFor hw2 hj _) rfl rfl (by decide) (Nat.le_of_ble_eq_true rfl) ?_
  rw [show (bi (hoN (setN w (64 + j) x) nh (hkX (setN w (64 + j) x) j x) (hkY (setN w (64 + j) x) j))) = (bi (hoN w nh (hkX w j x) (hkY w j))) from (bi_congr (by rw [hkX_set (by omega), hkY_set (by omega) (by omega) (by omega)]; exact hoN_set (Or.inr (by omega))))]
  refine ac_if_ne 39 24 dX6_putUp_21 (by decide) rfl (fun _ => ?_) (fun c_21 => absurd c_21 (by rw [bi_eq0]; exact fun h => h hh))
  refine ac_vret dX6_putUp_39 rfl ?_
  exact rm_mk rfl
set_option maxRecDepth 20000 in
theorem c6_putUpM {M : am_I} {V : am_J} {f : Nat → Option Nat} {w : rN} {np nd nh j : Nat} (hw : CW M 7 w np nd nh) (hj : j < np) (x : Int32) (hh : ¬ hoN w nh (hkX w j x) (hkY w j)) (h9 : nh < 16) : CT m6_putUp 4 [Value.ref 7, Value.int (nI j), Value.int x] M V f (RM none (am_up (am_up (am_up (am_up M 12 j x) 15 nh (hkX w j x)) 16 nh (hkY w j)) 7 5 (nI (nh + 1))) V f) := by
  have h5 := hw.n5
  have h3 := hw.n3
  have h16 := hw.n16
  have hw2 := hw.setAt x hj
  refine CT.of m6_putUp_V.1 _ (en_aii_3 7 (nI j) x) ?_
  refine ac_aload_n 1 dX6_putUp_0 rfl rfl ?_
  refine ac_iload_n 2 dX6_putUp_1 rfl rfl ?_
  refine ac_callV (μ' := m6_hasPicture) 5 dX6_putUp_2 rfl lk6_71 m6_hasPicture_V ob7 (c6_hasPictureT hw hj) rfl rfl (by decide) (Nat.le_of_ble_eq_true rfl) ?_
  refine ac_if_eq 39 8 dX6_putUp_5 (by decide) rfl (fun c_5 => absurd c_5 (by decide)) (fun _ => ?_)
  refine ac_aload_n 9 dX6_putUp_8 rfl rfl ?_
  refine ac_getO 12 12 dX6_putUp_9 rfl fl6_24 ob7 rfl ?_
  refine ac_iload_n 13 dX6_putUp_12 rfl rfl ?_
  refine ac_iload_n 14 dX6_putUp_13 rfl rfl ?_
  refine ac_iast 15 dX6_putUp_14 rfl ar12 (ix_nI (by omega) (by decide)) ?_
  refine ac_aload_n 16 dX6_putUp_15 rfl rfl ?_
  refine ac_iload_n 17 dX6_putUp_16 rfl rfl ?_
  refine ac_iload_n 18 dX6_putUp_17 rfl rfl ?_
  refine ac_callV (μ' := m6_hasHoleFor) 21 dX6_putUp_18 rfl lk6_92 m6_hasHoleFor_V ob7 (c6_hasHoleFor hw2 hj _) rfl rfl (by decide) (Nat.le_of_ble_eq_true rfl) ?_
  rw [show (bi (hoN (setN w (64 + j) x) nh (hkX (setN w (64 + j) x) j x) (hkY (setN w (64 + j) x) j))) = (bi (hoN w nh (hkX w j x) (hkY w j))) from (bi_congr (by rw [hkX_set (by omega), hkY_set (by omega) (by omega) (by omega)]; exact hoN_set (Or.inr (by omega))))]
  refine ac_if_ne 39 24 dX6_putUp_21 (by decide) rfl (fun c_21 => absurd (bi_f hh) c_21) (fun _ => ?_)
  refine ac_aload_n 25 dX6_putUp_24 rfl rfl ?_
  refine ac_aload_n 26 dX6_putUp_25 rfl rfl ?_
  refine ac_iload_n 27 dX6_putUp_26 rfl rfl ?_
  refine ac_iload_n 28 dX6_putUp_27 rfl rfl ?_
  refine ac_callV (μ' := m6_hookX) 31 dX6_putUp_28 rfl lk6_74 m6_hookX_V ob7 (c6_hookX hw2 hj _) rfl rfl (by decide) (Nat.le_of_ble_eq_true rfl) ?_
  rw [show (hkX (setN w (64 + j) x) j x) = (hkX w j x) from (hkX_set (by omega))]
  refine ac_aload_n 32 dX6_putUp_31 rfl rfl ?_
  refine ac_iload_n 33 dX6_putUp_32 rfl rfl ?_
  refine ac_callV (μ' := m6_hookY) 36 dX6_putUp_33 rfl lk6_78 m6_hookY_V ob7 (c6_hookY hw2 hj) rfl rfl (by decide) (Nat.le_of_ble_eq_true rfl) ?_
  rw [show (hkY (setN w (64 + j) x) j) = (hkY w j) from (hkY_set (by omega) (by omega) (by omega))]
  refine ac_callVm (μ' := m6_addHole) 39 dX6_putUp_36 rfl lk6_95 m6_addHole_V ob7 (c6_addHole (nh := nh) hw2.s5 h9 _ _) rfl rfl (by decide) (Nat.le_of_ble_eq_true rfl) ?_
  refine ac_vret dX6_putUp_39 rfl ?_
  exact rm_mk rfl
set_option maxRecDepth 20000 in
theorem c6_removeHole {M : am_I} {V : am_J} {f : Nat → Option Nat} {w : rN} {np nd nh j : Nat} (hw : CW M 7 w np nd nh) (hj : j < nh) : CT m6_removeHole 2 [Value.ref 7, Value.int (nI j)] M V f (RM none (am_up (am_row (am_row M 15 (va_cpy (M 15) (M 15) (j + 1) j (nh - 1 - j))) 16 (va_cpy (M 16) (M 16) (j + 1) j (nh - 1 - j))) 7 5 (nI (nh - 1))) V f) := by
  have h5 := hw.n5
  have h3 := hw.n3
  have h16 := hw.n16
  refine CT.of m6_removeHole_V.1 _ (en_ai_3 7 (nI j)) ?_
  refine ac_aload_n 1 dX6_removeHole_0 rfl rfl ?_
  refine ac_iload_n 2 dX6_removeHole_1 rfl rfl ?_
  refine ac_callV (μ' := m6_hasHole) 5 dX6_removeHole_2 rfl lk6_67 m6_hasHole_V ob7 (c6_hasHoleT hw hj) rfl rfl (by decide) (Nat.le_of_ble_eq_true rfl) ?_
  refine ac_if_eq 64 8 dX6_removeHole_5 (by decide) rfl (fun c_5 => absurd c_5 (by decide)) (fun _ => ?_)
  have hL : A0 m6_removeHole 2 12 [some (Value.ref 7), some (Value.int (nI j)), some (Value.int (nI (j + 1 + 0)))] [] (am_row (am_row M 15 (va_cpy (M 15) (M 15) (j + 1) j 0)) 16 (va_cpy (M 16) (M 16) (j + 1) j 0)) V f (RM none (am_up (am_row (am_row M 15 (va_cpy (M 15) (M 15) (j + 1) j (nh - 1 - j))) 16 (va_cpy (M 16) (M 16) (j + 1) j (nh - 1 - j))) 7 5 (nI (nh - 1))) V f) := by
    refine ac_down (n := (nh - 1 - j)) (P := fun k => A0 m6_removeHole 2 12 [some (Value.ref 7), some (Value.int (nI j)), some (Value.int (nI (j + 1 + k)))] [] (am_row (am_row M 15 (va_cpy (M 15) (M 15) (j + 1) j k)) 16 (va_cpy (M 16) (M 16) (j + 1) j k)) V f (RM none (am_up (am_row (am_row M 15 (va_cpy (M 15) (M 15) (j + 1) j (nh - 1 - j))) 16 (va_cpy (M 16) (M 16) (j + 1) j (nh - 1 - j))) 7 5 (nI (nh - 1))) V f)) ?_ ?_ 0 (Nat.zero_le _) 
    · refine ac_iload_n 13 dX6_removeHole_12 rfl rfl ?_
      refine ac_aload_n 14 dX6_removeHole_13 rfl rfl ?_
      refine ac_getI 17 dX6_removeHole_14 rfl fl6_58 ob7 ?_
      rw [show ((am_row (am_row M 15 (va_cpy (M 15) (M 15) (j + 1) j (nh - 1 - j))) 16 (va_cpy (M 16) (M 16) (j + 1) j (nh - 1 - j))) 7 5) = (M 7 5) from rfl]
      rw [show (M 7 5) = (nI nh) from hw.s5]
      refine ac_icmp_ge 54 20 dX6_removeHole_17 (by decide) rfl (fun _ => ?_) (fun c_17 => absurd (nI_le (by omega) (by omega)) c_17)
      refine ac_aload_n 55 dX6_removeHole_54 rfl rfl ?_
      refine ac_dup 56 dX6_removeHole_55 rfl rfl ?_
      refine ac_getI 59 dX6_removeHole_56 rfl fl6_58 ob7 ?_
      rw [show ((am_row (am_row M 15 (va_cpy (M 15) (M 15) (j + 1) j (nh - 1 - j))) 16 (va_cpy (M 16) (M 16) (j + 1) j (nh - 1 - j))) 7 5) = (M 7 5) from rfl]
      rw [show (M 7 5) = (nI nh) from hw.s5]
      refine ac_iconst 60 1 dX6_removeHole_59 rfl (by decide) ?_
      refine ac_isub 61 dX6_removeHole_60 rfl ?_
      rw [show ((nI nh) - 1) = (nI (nh - 1)) from (nI_sub1 (by omega))]
      refine ac_putI 64 dX6_removeHole_61 rfl fl6_58 rfl rfl ob7 ?_
      refine ac_vret dX6_removeHole_64 rfl ?_
      exact rm_mk rfl
    · intro k hk ih
      refine ac_iload_n 13 dX6_removeHole_12 rfl rfl ?_
      refine ac_aload_n 14 dX6_removeHole_13 rfl rfl ?_
      refine ac_getI 17 dX6_removeHole_14 rfl fl6_58 ob7 ?_
      rw [show ((am_row (am_row M 15 (va_cpy (M 15) (M 15) (j + 1) j k)) 16 (va_cpy (M 16) (M 16) (j + 1) j k)) 7 5) = (M 7 5) from rfl]
      rw [show (M 7 5) = (nI nh) from hw.s5]
      refine ac_icmp_ge 54 20 dX6_removeHole_17 (by decide) rfl (fun c_17 => absurd c_17 (nI_ge (by omega) (by omega))) (fun _ => ?_)
      refine ac_aload_n 21 dX6_removeHole_20 rfl rfl ?_
      refine ac_getO 24 15 dX6_removeHole_21 rfl fl6_33 ob7 rfl ?_
      refine ac_iload_n 25 dX6_removeHole_24 rfl rfl ?_
      refine ac_iconst 26 1 dX6_removeHole_25 rfl (by decide) ?_
      refine ac_isub 27 dX6_removeHole_26 rfl ?_
      rw [show ((nI (j + 1 + k)) - 1) = (nI (j + k)) from (by rw [nI_sub1 (by omega), show j + 1 + k - 1 = j + k by omega])]
      refine ac_aload_n 28 dX6_removeHole_27 rfl rfl ?_
      refine ac_getO 31 15 dX6_removeHole_28 rfl fl6_33 ob7 rfl ?_
      refine ac_iload_n 32 dX6_removeHole_31 rfl rfl ?_
      refine ac_iald 33 dX6_removeHole_32 rfl ar15 (ix_nI (by omega) (by decide)) ?_
      rw [show ((am_row (am_row M 15 (va_cpy (M 15) (M 15) (j + 1) j k)) 16 (va_cpy (M 16) (M 16) (j + 1) j k)) 15 (j + 1 + k)) = ((am_row M 15 (va_cpy (M 15) (M 15) (j + 1) j k)) 15 (j + 1 + k)) from rfl]
      rw [show ((am_row M 15 (va_cpy (M 15) (M 15) (j + 1) j k)) 15 (j + 1 + k)) = (M 15 (j + 1 + k)) from (by show (am_row M 15 (va_cpy (M 15) (M 15) (j + 1) j k)) 15 (j + 1 + k) = _; rw [row_at, cp_out (Or.inr (by omega))])]
      refine ac_iast 34 dX6_removeHole_33 rfl ar15 (ix_nI (by omega) (by decide)) ?_
      refine ac_aload_n 35 dX6_removeHole_34 rfl rfl ?_
      refine ac_getO 38 16 dX6_removeHole_35 rfl fl6_36 ob7 rfl ?_
      refine ac_iload_n 39 dX6_removeHole_38 rfl rfl ?_
      refine ac_iconst 40 1 dX6_removeHole_39 rfl (by decide) ?_
      refine ac_isub 41 dX6_removeHole_40 rfl ?_
      rw [show ((nI (j + 1 + k)) - 1) = (nI (j + k)) from (by rw [nI_sub1 (by omega), show j + 1 + k - 1 = j + k by omega])]
      refine ac_aload_n 42 dX6_removeHole_41 rfl rfl ?_
      refine ac_getO 45 16 dX6_removeHole_42 rfl fl6_36 ob7 rfl ?_
      refine ac_iload_n 46 dX6_removeHole_45 rfl rfl ?_
      refine ac_iald 47 dX6_removeHole_46 rfl ar16 (ix_nI (by omega) (by decide)) ?_
      rw [show ((am_up (am_row (am_row M 15 (va_cpy (M 15) (M 15) (j + 1) j k)) 16 (va_cpy (M 16) (M 16) (j + 1) j k)) 15 (j + k) (M 15 (j + 1 + k))) 16 (j + 1 + k)) = ((am_row (am_row M 15 (va_cpy (M 15) (M 15) (j + 1) j k)) 16 (va_cpy (M 16) (M 16) (j + 1) j k)) 16 (j + 1 + k)) from rfl]
      rw [show ((am_row (am_row M 15 (va_cpy (M 15) (M 15) (j + 1) j k)) 16 (va_cpy (M 16) (M 16) (j + 1) j k)) 16 (j + 1 + k)) = (M 16 (j + 1 + k)) from (by rw [row_at, cp_out (Or.inr (by omega))])]
      refine ac_iast 48 dX6_removeHole_47 rfl ar16 (ix_nI (by omega) (by decide)) ?_
      refine ac_iinc 51 (nI (j + 1 + k + 1)) [some (Value.ref 7), some (Value.int (nI j)), some (Value.int (nI (j + 1 + k + 1)))] dX6_removeHole_48 rfl rfl (nI_1 _) rfl (by decide) rfl ?_
      refine ac_goto 12 dX6_removeHole_51 (by decide) ?_
      rw [← row_sw (by decide), cp_step rfl rfl, cp_step rfl rfl]
      exact A0.lse rfl ih
  refine ac_iload_n 9 dX6_removeHole_8 rfl rfl ?_
  refine ac_iconst 10 1 dX6_removeHole_9 rfl (by decide) ?_
  refine ac_iadd 11 dX6_removeHole_10 rfl ?_
  rw [show ((nI j) + 1) = (nI (j + 1)) from (nI_1 j)]
  refine ac_istore_n 12 [some (Value.ref 7), some (Value.int (nI j)), some (Value.int (nI (j + 1)))] dX6_removeHole_11 rfl rfl (Nat.le_of_ble_eq_true rfl) (by decide) rfl ?_
  rw [cp_row0, cp_row0] at hL
  exact hL
set_option maxRecDepth 20000 in
theorem c6_down {M : am_I} {V : am_J} {f : Nat → Option Nat} {np : Nat} (hn : M 7 3 = nI np) (h5 : np ≤ 5) : CT m6_takeAllDown 1 [Value.ref 7] M V f (RM none (am_row M 12 (va_cpy (fun _ => -9) (M 12) 0 0 np)) V f) := by
  refine CT.of m6_takeAllDown_V.1 _ (en_a_2 7) ?_
  have hL : A0 m6_takeAllDown 1 2 [some (Value.ref 7), some (Value.int (nI 0))] [] (am_row M 12 (va_cpy (fun _ => -9) (M 12) 0 0 0)) V f (RM none (am_row M 12 (va_cpy (fun _ => -9) (M 12) 0 0 np)) V f) := by
    refine ac_down (n := np) (P := fun k => A0 m6_takeAllDown 1 2 [some (Value.ref 7), some (Value.int (nI k))] [] (am_row M 12 (va_cpy (fun _ => -9) (M 12) 0 0 k)) V f (RM none (am_row M 12 (va_cpy (fun _ => -9) (M 12) 0 0 np)) V f)) ?_ ?_ 0 (Nat.zero_le _) 
    · refine ac_iload_n 3 dX6_takeAllDown_2 rfl rfl ?_
      refine ac_aload_n 4 dX6_takeAllDown_3 rfl rfl ?_
      refine ac_getI 7 dX6_takeAllDown_4 rfl fl6_52 ob7 ?_
      rw [show ((am_row M 12 (va_cpy (fun _ => -9) (M 12) 0 0 np)) 7 3) = (M 7 3) from rfl]
      rw [show (M 7 3) = (nI np) from hn]
      refine ac_icmp_ge 24 10 dX6_takeAllDown_7 (by decide) rfl (fun _ => ?_) (fun c_7 => absurd (Int32.le_refl _) c_7)
      refine ac_vret dX6_takeAllDown_24 rfl ?_
      exact rm_mk rfl
    · intro k hk ih
      refine ac_iload_n 3 dX6_takeAllDown_2 rfl rfl ?_
      refine ac_aload_n 4 dX6_takeAllDown_3 rfl rfl ?_
      refine ac_getI 7 dX6_takeAllDown_4 rfl fl6_52 ob7 ?_
      rw [show ((am_row M 12 (va_cpy (fun _ => -9) (M 12) 0 0 k)) 7 3) = (M 7 3) from rfl]
      rw [show (M 7 3) = (nI np) from hn]
      refine ac_icmp_ge 24 10 dX6_takeAllDown_7 (by decide) rfl (fun c_7 => absurd c_7 (nI_ge hk (by omega))) (fun _ => ?_)
      refine ac_aload_n 11 dX6_takeAllDown_10 rfl rfl ?_
      refine ac_getO 14 12 dX6_takeAllDown_11 rfl fl6_24 ob7 rfl ?_
      refine ac_iload_n 15 dX6_takeAllDown_14 rfl rfl ?_
      refine ac_bipush 17 (-9) dX6_takeAllDown_15 rfl (by decide) ?_
      refine ac_iast 18 dX6_takeAllDown_17 rfl ar12 (ix_nI (by omega) (by decide)) ?_
      refine ac_iinc 21 (nI (k + 1)) [some (Value.ref 7), some (Value.int (nI (k + 1)))] dX6_takeAllDown_18 rfl rfl (nI_1 _) rfl (by decide) rfl ?_
      refine ac_goto 2 dX6_takeAllDown_21 (by decide) ?_
      rw [cp_step (by omega) rfl]
      exact ih
  refine ac_iconst 1 0 dX6_takeAllDown_0 rfl (by decide) ?_
  refine ac_istore_n 2 [some (Value.ref 7), some (Value.int 0)] dX6_takeAllDown_1 rfl rfl (Nat.le_of_ble_eq_true rfl) (by decide) rfl ?_
  rw [cp_row0] at hL
  exact hL
