/-! Items read by the class into the draft (cell 17). -/
theorem CW.keepR {M M' : am_I} {b : Nat} {w : rN} {np nd nh : Nat} (h : CW M b w np nd nh) (e : ∀ i, b ≤ i → i ≤ b + 9 → M' i = M i) : CW M' b w np nd nh := by
  obtain ⟨h0, h1, h2, h3, h4⟩ := h
  refine ⟨h0, by rw [e b (by omega) (by omega)]; exact h1, fun j hj => ?_, fun k hk => ?_, fun k hk => ?_⟩
  · rw [e (b + 1) (by omega) (by omega), e (b + 2) (by omega) (by omega), e (b + 3) (by omega) (by omega), e (b + 4) (by omega) (by omega), e (b + 5) (by omega) (by omega)]; exact h2 j hj
  · rw [e (b + 6) (by omega) (by omega), e (b + 7) (by omega) (by omega)]; exact h3 k hk
  · rw [e (b + 8) (by omega) (by omega), e (b + 9) (by omega) (by omega)]; exact h4 k hk
theorem CW.wall {M M' : am_I} {w : rN} {np nd nh : Nat} {v1 v2 v3 : Int32} (h : CW M 17 w np nd nh) (e : ∀ i, 18 ≤ i → i ≤ 26 → M' i = M i) (e0 : M' 17 0 = v1) (e1 : M' 17 1 = v2) (e2 : M' 17 2 = v3) (e3 : M' 17 3 = M 17 3) (e4 : M' 17 4 = M 17 4) (e5 : M' 17 5 = M 17 5) : CW M' 17 (setw (setw (setw w 0 v1) 1 v2) 2 v3) np nd nh := by
  have sw : ∀ j, 3 ≤ j → setw (setw (setw w 0 v1) 1 v2) 2 v3 j = w j := fun j hj => by rw [setw_ne (by omega), setw_ne (by omega), setw_ne (by omega)]
  obtain ⟨⟨n1, n2, n3, n4, n5, n6⟩, ⟨s0, s1, s2, s3, s4, s5⟩, h2, h3, h4⟩ := h
  refine ⟨⟨by rw [sw 3 (by decide)]; exact n1, n2, by rw [sw 24 (by decide)]; exact n3, n4, by rw [sw 31 (by decide)]; exact n5, n6⟩, ⟨e0, e1, e2, by rw [sw 3 (by decide), e3]; exact s3, by rw [sw 24 (by decide), e4]; exact s4, by rw [sw 31 (by decide), e5]; exact s5⟩, fun j hj => ?_, fun k hk => ?_, fun k hk => ?_⟩
  · rw [e (17 + 1) (by decide) (by decide), e (17 + 2) (by decide) (by decide), e (17 + 3) (by decide) (by decide), e (17 + 4) (by decide) (by decide), e (17 + 5) (by decide) (by decide), sw _ (by omega), sw _ (by omega), sw _ (by omega), sw _ (by omega), sw _ (by omega)]; exact h2 j hj
  · rw [e (17 + 6) (by decide) (by decide), e (17 + 7) (by decide) (by decide), sw _ (by omega), sw _ (by omega)]; exact h3 k hk
  · rw [e (17 + 8) (by decide) (by decide), e (17 + 9) (by decide) (by decide), sw _ (by omega), sw _ (by omega)]; exact h4 k hk
theorem CW.pic {M : am_I} {w : rN} {m nd nh : Nat} {a b c d : Int32} (h : CW M 17 w m nd nh) (hm : m < 5) (h9 : w (64 + m) = -9) : CW (am_up (am_up (am_up (am_up (am_up (am_up M 18 m a) 19 m b) 20 m c) 21 m d) 22 m (-9)) 17 3 (nI (m + 1))) 17 (setw (setw (setw (setw (setw w (4 + 4 * m) a) (4 + 4 * m + 1) b) (4 + 4 * m + 2) c) (4 + 4 * m + 3) d) 3 (nI (m + 1))) (m + 1) nd nh := by
  obtain ⟨⟨n1, n2, n3, n4, n5, n6⟩, ⟨s0, s1, s2, s3, s4, s5⟩, h2, h3, h4⟩ := h
  have sw : ∀ j, j ≠ 3 → (j < 4 + 4 * m ∨ 4 + 4 * m + 3 < j) → (setw (setw (setw (setw (setw w (4 + 4 * m) a) (4 + 4 * m + 1) b) (4 + 4 * m + 2) c) (4 + 4 * m + 3) d) 3 (nI (m + 1))) j = w j := fun j h1 h2 => by rw [setw_ne h1, setw_ne (by omega), setw_ne (by omega), setw_ne (by omega), setw_ne (by omega)]
  have u17 : ∀ k, k ≠ 3 → (am_up (am_up (am_up (am_up (am_up (am_up M 18 m a) 19 m b) 20 m c) 21 m d) 22 m (-9)) 17 3 (nI (m + 1))) 17 k = M 17 k := fun k hk => by rw [up_ne hk, am_up_ne (by decide), am_up_ne (by decide), am_up_ne (by decide), am_up_ne (by decide), am_up_ne (by decide)]
  refine ⟨⟨setw_eq, by omega, by rw [sw 24 (by decide) (by omega)]; exact n3, n4, by rw [sw 31 (by decide) (by omega)]; exact n5, n6⟩, ⟨by rw [u17 0 (by decide), sw 0 (by decide) (by omega)]; exact s0, by rw [u17 1 (by decide), sw 1 (by decide) (by omega)]; exact s1, by rw [u17 2 (by decide), sw 2 (by decide) (by omega)]; exact s2, by rw [up_eq, setw_eq], by rw [u17 4 (by decide), sw 24 (by decide) (by omega)]; exact s4, by rw [u17 5 (by decide), sw 31 (by decide) (by omega)]; exact s5⟩, fun j hj => ?_, fun k hk => ?_, fun k hk => ?_⟩
  · by_cases hjm : j = m
    · subst hjm
      refine ⟨?_, ?_, ?_, ?_, ?_⟩
      · rw [am_up_ne (by decide), am_up_ne (by decide), am_up_ne (by decide), am_up_ne (by decide), am_up_ne (by decide), up_eq, setw_ne (by omega), setw_ne (by omega), setw_ne (by omega), setw_ne (by omega), setw_eq]
      · rw [am_up_ne (by decide), am_up_ne (by decide), am_up_ne (by decide), am_up_ne (by decide), up_eq, setw_ne (by omega), setw_ne (by omega), setw_ne (by omega), setw_eq]
      · rw [am_up_ne (by decide), am_up_ne (by decide), am_up_ne (by decide), up_eq, setw_ne (by omega), setw_ne (by omega), setw_eq]
      · rw [am_up_ne (by decide), am_up_ne (by decide), up_eq, setw_ne (by omega), setw_eq]
      · rw [am_up_ne (by decide), up_eq, sw _ (by omega) (by omega), h9]
    · obtain ⟨g1, g2, g3, g4, g5⟩ := h2 j (by omega)
      refine ⟨?_, ?_, ?_, ?_, ?_⟩
      · rw [am_up_ne (by decide), am_up_ne (by decide), am_up_ne (by decide), am_up_ne (by decide), am_up_ne (by decide), up_ne hjm, sw _ (by omega) (by omega)]; exact g1
      · rw [am_up_ne (by decide), am_up_ne (by decide), am_up_ne (by decide), am_up_ne (by decide), up_ne hjm, am_up_ne (by decide), sw _ (by omega) (by omega)]; exact g2
      · rw [am_up_ne (by decide), am_up_ne (by decide), am_up_ne (by decide), up_ne hjm, am_up_ne (by decide), am_up_ne (by decide), sw _ (by omega) (by omega)]; exact g3
      · rw [am_up_ne (by decide), am_up_ne (by decide), up_ne hjm, am_up_ne (by decide), am_up_ne (by decide), am_up_ne (by decide), sw _ (by omega) (by omega)]; exact g4
      · rw [am_up_ne (by decide), up_ne hjm, am_up_ne (by decide), am_up_ne (by decide), am_up_ne (by decide), am_up_ne (by decide), sw _ (by omega) (by omega)]; exact g5
  · have u : ∀ i, 23 ≤ i → (am_up (am_up (am_up (am_up (am_up (am_up M 18 m a) 19 m b) 20 m c) 21 m d) 22 m (-9)) 17 3 (nI (m + 1))) i = M i := fun i hi => by rw [am_up_ne (by omega), am_up_ne (by omega), am_up_ne (by omega), am_up_ne (by omega), am_up_ne (by omega), am_up_ne (by omega)]
    rw [u (17 + 6) (by decide), u (17 + 7) (by decide), sw _ (by omega) (by omega), sw _ (by omega) (by omega)]; exact h3 k hk
  · have u : ∀ i, 23 ≤ i → (am_up (am_up (am_up (am_up (am_up (am_up M 18 m a) 19 m b) 20 m c) 21 m d) 22 m (-9)) 17 3 (nI (m + 1))) i = M i := fun i hi => by rw [am_up_ne (by omega), am_up_ne (by omega), am_up_ne (by omega), am_up_ne (by omega), am_up_ne (by omega), am_up_ne (by omega)]
    rw [u (17 + 8) (by decide), u (17 + 9) (by decide), sw _ (by omega) (by omega), sw _ (by omega) (by omega)]; exact h4 k hk
theorem CW.door {M : am_I} {w : rN} {np nh m : Nat} {a b : Int32} (h : CW M 17 w np m nh) (hm : m < 3) : CW (am_up (am_up (am_up M 23 m a) 24 m b) 17 4 (nI (m + 1))) 17 (setw (setw (setw w (25 + 2 * m) a) (25 + 2 * m + 1) b) 24 (nI (m + 1))) np (m + 1) nh := by
  obtain ⟨⟨n1, n2, n3, n4, n5, n6⟩, ⟨s0, s1, s2, s3, s4, s5⟩, h2, h3, h4⟩ := h
  have sw : ∀ j, j ≠ 24 → (j < 25 + 2 * m ∨ 25 + 2 * m + 1 < j) → (setw (setw (setw w (25 + 2 * m) a) (25 + 2 * m + 1) b) 24 (nI (m + 1))) j = w j := fun j h1 h2 => by rw [setw_ne h1, setw_ne (by omega), setw_ne (by omega)]
  have u17 : ∀ k, k ≠ 4 → (am_up (am_up (am_up M 23 m a) 24 m b) 17 4 (nI (m + 1))) 17 k = M 17 k := fun k hk => by rw [up_ne hk, am_up_ne (by decide), am_up_ne (by decide)]
  have u : ∀ i, 17 < i → (i < 23 ∨ 24 < i) → (am_up (am_up (am_up M 23 m a) 24 m b) 17 4 (nI (m + 1))) i = M i := fun i h1 hi => by rw [am_up_ne (by omega), am_up_ne (by omega), am_up_ne (by omega)]
  refine ⟨⟨by rw [sw 3 (by decide) (by omega)]; exact n1, n2, setw_eq, by omega, by rw [sw 31 (by decide) (by omega)]; exact n5, n6⟩, ⟨by rw [u17 0 (by decide), sw 0 (by decide) (by omega)]; exact s0, by rw [u17 1 (by decide), sw 1 (by decide) (by omega)]; exact s1, by rw [u17 2 (by decide), sw 2 (by decide) (by omega)]; exact s2, by rw [u17 3 (by decide), sw 3 (by decide) (by omega)]; exact s3, by rw [up_eq, setw_eq], by rw [u17 5 (by decide), sw 31 (by decide) (by omega)]; exact s5⟩, fun j hj => ?_, fun k hk => ?_, fun k hk => ?_⟩
  · rw [u (17 + 1) (by decide) (by decide), u (17 + 2) (by decide) (by decide), u (17 + 3) (by decide) (by decide), u (17 + 4) (by decide) (by decide), u (17 + 5) (by decide) (by decide), sw _ (by omega) (by omega), sw _ (by omega) (by omega), sw _ (by omega) (by omega), sw _ (by omega) (by omega), sw _ (by omega) (by omega)]; exact h2 j hj
  · by_cases hjm : k = m
    · subst hjm
      refine ⟨?_, ?_⟩
      · rw [am_up_ne (by decide), am_up_ne (by decide), up_eq, setw_ne (by omega), setw_ne (by omega), setw_eq]
      · rw [am_up_ne (by decide), up_eq, setw_ne (by omega), setw_eq]
    · obtain ⟨g1, g2⟩ := h3 k (by omega)
      refine ⟨?_, ?_⟩
      · rw [am_up_ne (by decide), am_up_ne (by decide), up_ne hjm, sw _ (by omega) (by omega)]; exact g1
      · rw [am_up_ne (by decide), up_ne hjm, am_up_ne (by decide), sw _ (by omega) (by omega)]; exact g2
  · rw [u (17 + 8) (by decide) (by decide), u (17 + 9) (by decide) (by decide), sw _ (by omega) (by omega), sw _ (by omega) (by omega)]; exact h4 k hk
theorem CW.hole {M : am_I} {w : rN} {np nd m : Nat} {a b : Int32} (h : CW M 17 w np nd m) (hm : m < 16) : CW (am_up (am_up (am_up M 25 m a) 26 m b) 17 5 (nI (m + 1))) 17 (setw (setw (setw w (32 + 2 * m) a) (32 + 2 * m + 1) b) 31 (nI (m + 1))) np nd (m + 1) := by
  obtain ⟨⟨n1, n2, n3, n4, n5, n6⟩, ⟨s0, s1, s2, s3, s4, s5⟩, h2, h3, h4⟩ := h
  have sw : ∀ j, j ≠ 31 → (j < 32 + 2 * m ∨ 32 + 2 * m + 1 < j) → (setw (setw (setw w (32 + 2 * m) a) (32 + 2 * m + 1) b) 31 (nI (m + 1))) j = w j := fun j h1 h2 => by rw [setw_ne h1, setw_ne (by omega), setw_ne (by omega)]
  have u17 : ∀ k, k ≠ 5 → (am_up (am_up (am_up M 25 m a) 26 m b) 17 5 (nI (m + 1))) 17 k = M 17 k := fun k hk => by rw [up_ne hk, am_up_ne (by decide), am_up_ne (by decide)]
  have u : ∀ i, 17 < i → (i < 25 ∨ 26 < i) → (am_up (am_up (am_up M 25 m a) 26 m b) 17 5 (nI (m + 1))) i = M i := fun i h1 hi => by rw [am_up_ne (by omega), am_up_ne (by omega), am_up_ne (by omega)]
  refine ⟨⟨by rw [sw 3 (by decide) (by omega)]; exact n1, n2, by rw [sw 24 (by decide) (by omega)]; exact n3, n4, setw_eq, by omega⟩, ⟨by rw [u17 0 (by decide), sw 0 (by decide) (by omega)]; exact s0, by rw [u17 1 (by decide), sw 1 (by decide) (by omega)]; exact s1, by rw [u17 2 (by decide), sw 2 (by decide) (by omega)]; exact s2, by rw [u17 3 (by decide), sw 3 (by decide) (by omega)]; exact s3, by rw [u17 4 (by decide), sw 24 (by decide) (by omega)]; exact s4, by rw [up_eq, setw_eq]⟩, fun j hj => ?_, fun k hk => ?_, fun k hk => ?_⟩
  · rw [u (17 + 1) (by decide) (by decide), u (17 + 2) (by decide) (by decide), u (17 + 3) (by decide) (by decide), u (17 + 4) (by decide) (by decide), u (17 + 5) (by decide) (by decide), sw _ (by omega) (by omega), sw _ (by omega) (by omega), sw _ (by omega) (by omega), sw _ (by omega) (by omega), sw _ (by omega) (by omega)]; exact h2 j hj
  · rw [u (17 + 6) (by decide) (by decide), u (17 + 7) (by decide) (by decide), sw _ (by omega) (by omega), sw _ (by omega) (by omega)]; exact h3 k hk
  · by_cases hjm : k = m
    · subst hjm
      refine ⟨?_, ?_⟩
      · rw [am_up_ne (by decide), am_up_ne (by decide), up_eq, setw_ne (by omega), setw_ne (by omega), setw_eq]
      · rw [am_up_ne (by decide), up_eq, setw_ne (by omega), setw_eq]
    · obtain ⟨g1, g2⟩ := h4 k (by omega)
      refine ⟨?_, ?_⟩
      · rw [am_up_ne (by decide), am_up_ne (by decide), up_ne hjm, sw _ (by omega) (by omega)]; exact g1
      · rw [am_up_ne (by decide), up_ne hjm, am_up_ne (by decide), sw _ (by omega) (by omega)]; exact g2
set_option maxRecDepth 20000 in
theorem c6_addPicture17 {M : am_I} {V : am_J} {f : Nat → Option Nat} {m : Nat} (hn : M 17 3 = nI m) (h9 : m < 5) (a b c d : Int32) : CT m6_addPicture 1 [Value.ref 17, Value.int a, Value.int b, Value.int c, Value.int d] M V f (RM none (am_up (am_up (am_up (am_up (am_up (am_up M 18 m a) 19 m b) 20 m c) 21 m d) 22 m (-9)) 17 3 (nI (m + 1))) V f) := by
  refine CT.of m6_addPicture_V.1 _ (en_aiiii_5 17 a b c d) ?_
  refine ac_aload_n 1 dX6_addPicture_0 rfl rfl ?_
  refine ac_getI 4 dX6_addPicture_1 rfl fl6_52 ob17 ?_
  rw [show (M 17 3) = (nI m) from hn]
  refine ac_iconst 5 5 dX6_addPicture_4 rfl (by decide) ?_
  refine ac_icmp_ge 70 8 dX6_addPicture_5 (by decide) rfl (fun c_5 => absurd c_5 (nI_ge (b := 5) h9 (by decide))) (fun _ => ?_)
  refine ac_aload_n 9 dX6_addPicture_8 rfl rfl ?_
  refine ac_getO 12 18 dX6_addPicture_9 rfl fl6_9 ob17 rfl ?_
  refine ac_aload_n 13 dX6_addPicture_12 rfl rfl ?_
  refine ac_getI 16 dX6_addPicture_13 rfl fl6_52 ob17 ?_
  rw [show (M 17 3) = (nI m) from hn]
  refine ac_iload_n 17 dX6_addPicture_16 rfl rfl ?_
  refine ac_iast 18 dX6_addPicture_17 rfl ar18 (ix_nI (by omega) (by decide)) ?_
  refine ac_aload_n 19 dX6_addPicture_18 rfl rfl ?_
  refine ac_getO 22 19 dX6_addPicture_19 rfl fl6_15 ob17 rfl ?_
  refine ac_aload_n 23 dX6_addPicture_22 rfl rfl ?_
  refine ac_getI 26 dX6_addPicture_23 rfl fl6_52 ob17 ?_
  rw [show ((am_up M 18 m a) 17 3) = (M 17 3) from rfl]
  rw [show (M 17 3) = (nI m) from hn]
  refine ac_iload_n 27 dX6_addPicture_26 rfl rfl ?_
  refine ac_iast 28 dX6_addPicture_27 rfl ar19 (ix_nI (by omega) (by decide)) ?_
  refine ac_aload_n 29 dX6_addPicture_28 rfl rfl ?_
  refine ac_getO 32 20 dX6_addPicture_29 rfl fl6_18 ob17 rfl ?_
  refine ac_aload_n 33 dX6_addPicture_32 rfl rfl ?_
  refine ac_getI 36 dX6_addPicture_33 rfl fl6_52 ob17 ?_
  rw [show ((am_up (am_up M 18 m a) 19 m b) 17 3) = (M 17 3) from rfl]
  rw [show (M 17 3) = (nI m) from hn]
  refine ac_iload_n 37 dX6_addPicture_36 rfl rfl ?_
  refine ac_iast 38 dX6_addPicture_37 rfl ar20 (ix_nI (by omega) (by decide)) ?_
  refine ac_aload_n 39 dX6_addPicture_38 rfl rfl ?_
  refine ac_getO 42 21 dX6_addPicture_39 rfl fl6_21 ob17 rfl ?_
  refine ac_aload_n 43 dX6_addPicture_42 rfl rfl ?_
  refine ac_getI 46 dX6_addPicture_43 rfl fl6_52 ob17 ?_
  rw [show ((am_up (am_up (am_up M 18 m a) 19 m b) 20 m c) 17 3) = (M 17 3) from rfl]
  rw [show (M 17 3) = (nI m) from hn]
  refine ac_iload 48 dX6_addPicture_46 rfl rfl ?_
  refine ac_iast 49 dX6_addPicture_48 rfl ar21 (ix_nI (by omega) (by decide)) ?_
  refine ac_aload_n 50 dX6_addPicture_49 rfl rfl ?_
  refine ac_getO 53 22 dX6_addPicture_50 rfl fl6_24 ob17 rfl ?_
  refine ac_aload_n 54 dX6_addPicture_53 rfl rfl ?_
  refine ac_getI 57 dX6_addPicture_54 rfl fl6_52 ob17 ?_
  rw [show ((am_up (am_up (am_up (am_up M 18 m a) 19 m b) 20 m c) 21 m d) 17 3) = (M 17 3) from rfl]
  rw [show (M 17 3) = (nI m) from hn]
  refine ac_bipush 59 (-9) dX6_addPicture_57 rfl (by decide) ?_
  refine ac_iast 60 dX6_addPicture_59 rfl ar22 (ix_nI (by omega) (by decide)) ?_
  refine ac_aload_n 61 dX6_addPicture_60 rfl rfl ?_
  refine ac_dup 62 dX6_addPicture_61 rfl rfl ?_
  refine ac_getI 65 dX6_addPicture_62 rfl fl6_52 ob17 ?_
  rw [show ((am_up (am_up (am_up (am_up (am_up M 18 m a) 19 m b) 20 m c) 21 m d) 22 m (-9)) 17 3) = (M 17 3) from rfl]
  rw [show (M 17 3) = (nI m) from hn]
  refine ac_iconst 66 1 dX6_addPicture_65 rfl (by decide) ?_
  refine ac_iadd 67 dX6_addPicture_66 rfl ?_
  rw [show ((nI m) + 1) = (nI (m + 1)) from (nI_1 m)]
  refine ac_putI 70 dX6_addPicture_67 rfl fl6_52 rfl rfl ob17 ?_
  refine ac_vret dX6_addPicture_70 rfl ?_
  exact rm_mk rfl
set_option maxRecDepth 20000 in
theorem c6_addDoor17 {M : am_I} {V : am_J} {f : Nat → Option Nat} {m : Nat} (hn : M 17 4 = nI m) (h9 : m < 3) (a b : Int32) : CT m6_addDoor 1 [Value.ref 17, Value.int a, Value.int b] M V f (RM none (am_up (am_up (am_up M 23 m a) 24 m b) 17 4 (nI (m + 1))) V f) := by
  refine CT.of m6_addDoor_V.1 _ (en_aii_3 17 a b) ?_
  refine ac_aload_n 1 dX6_addDoor_0 rfl rfl ?_
  refine ac_getI 4 dX6_addDoor_1 rfl fl6_55 ob17 ?_
  rw [show (M 17 4) = (nI m) from hn]
  refine ac_iconst 5 3 dX6_addDoor_4 rfl (by decide) ?_
  refine ac_icmp_ge 38 8 dX6_addDoor_5 (by decide) rfl (fun c_5 => absurd c_5 (nI_ge (b := 3) h9 (by decide))) (fun _ => ?_)
  refine ac_aload_n 9 dX6_addDoor_8 rfl rfl ?_
  refine ac_getO 12 23 dX6_addDoor_9 rfl fl6_27 ob17 rfl ?_
  refine ac_aload_n 13 dX6_addDoor_12 rfl rfl ?_
  refine ac_getI 16 dX6_addDoor_13 rfl fl6_55 ob17 ?_
  rw [show (M 17 4) = (nI m) from hn]
  refine ac_iload_n 17 dX6_addDoor_16 rfl rfl ?_
  refine ac_iast 18 dX6_addDoor_17 rfl ar23 (ix_nI (by omega) (by decide)) ?_
  refine ac_aload_n 19 dX6_addDoor_18 rfl rfl ?_
  refine ac_getO 22 24 dX6_addDoor_19 rfl fl6_30 ob17 rfl ?_
  refine ac_aload_n 23 dX6_addDoor_22 rfl rfl ?_
  refine ac_getI 26 dX6_addDoor_23 rfl fl6_55 ob17 ?_
  rw [show ((am_up M 23 m a) 17 4) = (M 17 4) from rfl]
  rw [show (M 17 4) = (nI m) from hn]
  refine ac_iload_n 27 dX6_addDoor_26 rfl rfl ?_
  refine ac_iast 28 dX6_addDoor_27 rfl ar24 (ix_nI (by omega) (by decide)) ?_
  refine ac_aload_n 29 dX6_addDoor_28 rfl rfl ?_
  refine ac_dup 30 dX6_addDoor_29 rfl rfl ?_
  refine ac_getI 33 dX6_addDoor_30 rfl fl6_55 ob17 ?_
  rw [show ((am_up (am_up M 23 m a) 24 m b) 17 4) = (M 17 4) from rfl]
  rw [show (M 17 4) = (nI m) from hn]
  refine ac_iconst 34 1 dX6_addDoor_33 rfl (by decide) ?_
  refine ac_iadd 35 dX6_addDoor_34 rfl ?_
  rw [show ((nI m) + 1) = (nI (m + 1)) from (nI_1 m)]
  refine ac_putI 38 dX6_addDoor_35 rfl fl6_55 rfl rfl ob17 ?_
  refine ac_vret dX6_addDoor_38 rfl ?_
  exact rm_mk rfl
theorem andP_r {s : pS} {k : pS → Sum Nat pS} : andP (.inr s) k = k s := rfl
theorem andP_l {p : Nat} {k : pS → Sum Nat pS} : andP (.inl p) k = .inl p := rfl
def KRd (M M' : am_I) : Prop := ∀ i, i ≠ 2 → ¬ (17 ≤ i ∧ i ≤ 26) → M' i = M i
def IQ (tx : Nat → Nat) (n m np nd nh : Nat) (v : Option Value) (M' : am_I) : Sum Nat pS → Prop
  | .inl p => v = some (.int 0) ∧ M' 2 3 = nI p ∧ p ≤ n
  | .inr s => v = some (.int 1) ∧ RD M' tx n m (skP tx n s.1) ∧ s.1 ≤ n ∧ CW M' 17 s.2 np nd nh ∧ ∀ i, i < 5 → s.2 (64 + i) = -9
theorem IQ.l {tx : Nat → Nat} {n m np nd nh p : Nat} {v : Option Value} {M' : am_I} {r : Sum Nat pS} (e : r = .inl p) (h : v = some (.int 0)) (h2 : M' 2 3 = nI p) (h3 : p ≤ n) : IQ tx n m np nd nh v M' r := by
  subst e
  exact ⟨h, h2, h3⟩
theorem IQ.r {tx : Nat → Nat} {n m np nd nh : Nat} {v : Option Value} {M' : am_I} {r : Sum Nat pS} {s : pS} (e : r = .inr s) (h : v = some (.int 1)) (h2 : RD M' tx n m (skP tx n s.1)) (h3 : s.1 ≤ n) (h4 : CW M' 17 s.2 np nd nh) (h5 : ∀ i, i < 5 → s.2 (64 + i) = -9) : IQ tx n m np nd nh v M' r := by
  subst e
  exact ⟨h, h2, h3, h4, h5⟩
set_option maxRecDepth 20000 in
theorem c2_rWall {M : am_I} {V : am_J} {f : Nat → Option Nat} {tx : Nat → Nat} {n m a np nd nh : Nat} {w : rN} (ha : a ≤ n) (hR : RD M tx n m (skP tx n a)) (hw : CW M 17 w np nd nh) (h9 : ∀ i, i < 5 → w (64 + i) = -9) : CT m2_readWall 3 [Value.ref 2, Value.ref 17] M V f (fun v M' V' f' => V' = V ∧ f' = f ∧ M' 2 5 = 1 ∧ KRd M M' ∧ IQ tx n m np nd nh v M' (pWall tx n (a, w))) := by
  refine CT.of m2_readWall_V.1 _ (en_aa_2 2 17) ?_
  refine ac_aload_n 1 dX2_readWall_0 rfl rfl ?_
  refine ac_iconst 2 1 dX2_readWall_1 rfl (by decide) ?_
  refine ac_putI 5 dX2_readWall_2 rfl fl2_26 rfl rfl ob2 ?_
  refine ac_aload_n 6 dX2_readWall_5 rfl rfl ?_
  refine ac_bipush 8 10 dX2_readWall_6 rfl (by decide) ?_
  refine ac_bipush 10 40 dX2_readWall_8 rfl (by decide) ?_
  refine ac_callVg (μ' := m2_readNumber) 13 dX2_readWall_10 rfl lk2_89 m2_readNumber_V ob2 (c2_num (M := (am_up M 2 5 1)) (a := a) ha (by obtain ⟨r1, r2⟩ := hR; exact ⟨r1.keep rfl rfl rfl rfl, r2⟩) 10 40) rfl rfl (by decide) (Nat.le_of_ble_eq_true rfl) (fun v0 Ma V0 f0 h90 => ?_)
  obtain ⟨a1, a2, a3, a4, a5, a6, a7⟩ := h90
  subst a1
  obtain rfl := a2.symm
  obtain rfl := a3.symm
  refine ac_if_ne 18 16 dX2_readWall_13 (by decide) rfl (fun c_13 => ?_) (fun c_13 => ?_)
  · have y0 : nmO tx n a 10 40 := bi_ne0.mp c_13
    obtain ⟨a8, a9⟩ := a7 y0
    refine ac_aload_n 19 dX2_readWall_18 rfl rfl ?_
    refine ac_aload_n 20 dX2_readWall_19 rfl rfl ?_
    refine ac_getI 23 dX2_readWall_20 rfl fl2_65 ob2 ?_
    rw [show (Ma 2 4) = (nI (nmV tx n a)) from a8]
    refine ac_putI 26 dX2_readWall_23 rfl fl2_93 rfl rfl ob17 ?_
    refine ac_aload_n 27 dX2_readWall_26 rfl rfl ?_
    refine ac_iconst 28 5 dX2_readWall_27 rfl (by decide) ?_
    refine ac_bipush 30 20 dX2_readWall_28 rfl (by decide) ?_
    refine ac_callVg (μ' := m2_readNumber) 33 dX2_readWall_30 rfl lk2_89 m2_readNumber_V ob2 (c2_num (M := (am_up Ma 17 0 (nI (nmV tx n a)))) (a := (nmE tx n a)) (nmE_le ha) (RD.keep a9 (fun i hi => am_up_ne (by omega))) 5 20) rfl rfl (by decide) (Nat.le_of_ble_eq_true rfl) (fun v1 Mb V1 f1 h91 => ?_)
    obtain ⟨b1, b2, b3, b4, b5, b6, b7⟩ := h91
    subst b1
    obtain rfl := b2.symm
    obtain rfl := b3.symm
    refine ac_if_ne 38 36 dX2_readWall_33 (by decide) rfl (fun c_33 => ?_) (fun c_33 => ?_)
    · have y1 : nmO tx n (nmE tx n a) 5 20 := bi_ne0.mp c_33
      obtain ⟨b8, b9⟩ := b7 y1
      refine ac_aload_n 39 dX2_readWall_38 rfl rfl ?_
      refine ac_aload_n 40 dX2_readWall_39 rfl rfl ?_
      refine ac_getI 43 dX2_readWall_40 rfl fl2_65 ob2 ?_
      rw [show (Mb 2 4) = (nI (nmV tx n (nmE tx n a))) from b8]
      refine ac_putI 46 dX2_readWall_43 rfl fl2_96 rfl rfl ob17 ?_
      refine ac_aload_n 47 dX2_readWall_46 rfl rfl ?_
      refine ac_iconst 48 0 dX2_readWall_47 rfl (by decide) ?_
      refine ac_bipush 50 9 dX2_readWall_48 rfl (by decide) ?_
      refine ac_callVg (μ' := m2_readNumber) 53 dX2_readWall_50 rfl lk2_89 m2_readNumber_V ob2 (c2_num (M := (am_up Mb 17 1 (nI (nmV tx n (nmE tx n a))))) (a := (nmE tx n (nmE tx n a))) (nmE_le (nmE_le ha)) (RD.keep b9 (fun i hi => am_up_ne (by omega))) 0 9) rfl rfl (by decide) (Nat.le_of_ble_eq_true rfl) (fun v2 Mc V2 f2 h92 => ?_)
      obtain ⟨c1, c2, c3, c4, c5, c6, c7⟩ := h92
      subst c1
      obtain rfl := c2.symm
      obtain rfl := c3.symm
      refine ac_if_ne 58 56 dX2_readWall_53 (by decide) rfl (fun c_53 => ?_) (fun c_53 => ?_)
      · have y2 : nmO tx n (nmE tx n (nmE tx n a)) 0 9 := bi_ne0.mp c_53
        obtain ⟨c8, c9⟩ := c7 y2
        refine ac_aload_n 59 dX2_readWall_58 rfl rfl ?_
        refine ac_aload_n 60 dX2_readWall_59 rfl rfl ?_
        refine ac_getI 63 dX2_readWall_60 rfl fl2_65 ob2 ?_
        rw [show (Mc 2 4) = (nI (nmV tx n (nmE tx n (nmE tx n a)))) from c8]
        refine ac_putI 66 dX2_readWall_63 rfl fl2_99 rfl rfl ob17 ?_
        refine ac_iconst 67 1 dX2_readWall_66 rfl (by decide) ?_
        refine ac_iret dX2_readWall_67 ⟨_, rfl, rfl⟩ ?_
        have K9 : ∀ k, k ≠ 2 → (am_up Mc 17 2 (nI (nmV tx n (nmE tx n (nmE tx n a))))) 17 k = am_up Mb 17 1 (nI (nmV tx n (nmE tx n a))) 17 k := fun k hk => by rw [up_ne hk, c4 17 (by decide)]
        have K8 : ∀ k, k ≠ 1 → am_up Mb 17 1 (nI (nmV tx n (nmE tx n a))) 17 k = am_up Ma 17 0 (nI (nmV tx n a)) 17 k := fun k hk => by rw [up_ne hk, b4 17 (by decide)]
        have K7 : ∀ k, k ≠ 0 → am_up Ma 17 0 (nI (nmV tx n a)) 17 k = M 17 k := fun k hk => by rw [up_ne hk, a4 17 (by decide), am_up_ne (by decide)]
        have KE : ∀ i, 18 ≤ i → i ≤ 26 → (am_up Mc 17 2 (nI (nmV tx n (nmE tx n (nmE tx n a))))) i = M i := fun i z1 z2 => by rw [am_up_ne (by omega), c4 i (by omega), am_up_ne (by omega), b4 i (by omega), am_up_ne (by omega), a4 i (by omega), am_up_ne (by omega)]
        have KA : ∀ k, 3 ≤ k → (am_up Mc 17 2 (nI (nmV tx n (nmE tx n (nmE tx n a))))) 17 k = M 17 k := fun k hk => (K9 k (by omega)).trans ((K8 k (by omega)).trans (K7 k (by omega)))
        exact ⟨rfl, rfl, c5.trans (b5.trans a5), fun i h2 h17 => (am_up_ne (fun q => h17 (by omega))).trans ((c4 i h2).trans ((am_up_ne (fun q => h17 (by omega))).trans ((b4 i h2).trans ((am_up_ne (fun q => h17 (by omega))).trans ((a4 i h2).trans (am_up_ne h2)))))), IQ.r (s := ((nmE tx n (nmE tx n (nmE tx n a))), (setw (setw (setw w 0 (nI (nmV tx n a))) 1 (nI (nmV tx n (nmE tx n a)))) 2 (nI (nmV tx n (nmE tx n (nmE tx n a))))))) (by unfold pWall; rw [pnm_t (s := (a, w)) y0, andP_r]; dsimp only; rw [pnm_t (s := ((nmE tx n a), (setw w 0 (nI (nmV tx n a))))) y1, andP_r]; dsimp only; rw [pnm_t (s := ((nmE tx n (nmE tx n a)), (setw (setw w 0 (nI (nmV tx n a))) 1 (nI (nmV tx n (nmE tx n a)))))) y2]) rfl (RD.keep c9 (fun i hi => am_up_ne (by omega))) (nmE_le (nmE_le (nmE_le ha))) (hw.wall KE ((K9 0 (by decide)).trans ((K8 0 (by decide)).trans up_eq)) ((K9 1 (by decide)).trans up_eq) up_eq (KA 3 (by decide)) (KA 4 (by decide)) (KA 5 (by decide))) (fun i hi => by dsimp only; rw [setw_ne (by omega), setw_ne (by omega), setw_ne (by omega)]; exact h9 i hi)⟩
      · have z2 : ¬ nmO tx n (nmE tx n (nmE tx n a)) 0 9 := bi_eq0.mp c_53
        refine ac_iconst 57 0 dX2_readWall_56 rfl (by decide) ?_
        refine ac_iret dX2_readWall_57 ⟨_, rfl, rfl⟩ ?_
        exact ⟨rfl, rfl, c5.trans (b5.trans a5), fun i h2 h17 => (c4 i h2).trans ((am_up_ne (fun q => h17 (by omega))).trans ((b4 i h2).trans ((am_up_ne (fun q => h17 (by omega))).trans ((a4 i h2).trans (am_up_ne h2))))), IQ.l (p := skP tx n (nmE tx n (nmE tx n a))) (by unfold pWall; rw [pnm_t (s := (a, w)) y0, andP_r]; dsimp only; rw [pnm_t (s := ((nmE tx n a), (setw w 0 (nI (nmV tx n a))))) y1, andP_r]; dsimp only; rw [pnm_f (s := ((nmE tx n (nmE tx n a)), (setw (setw w 0 (nI (nmV tx n a))) 1 (nI (nmV tx n (nmE tx n a)))))) z2]) rfl c6 (skP_le (nmE_le (nmE_le ha))).2⟩
    · have z1 : ¬ nmO tx n (nmE tx n a) 5 20 := bi_eq0.mp c_33
      refine ac_iconst 37 0 dX2_readWall_36 rfl (by decide) ?_
      refine ac_iret dX2_readWall_37 ⟨_, rfl, rfl⟩ ?_
      exact ⟨rfl, rfl, b5.trans a5, fun i h2 h17 => (b4 i h2).trans ((am_up_ne (fun q => h17 (by omega))).trans ((a4 i h2).trans (am_up_ne h2))), IQ.l (p := skP tx n (nmE tx n a)) (by unfold pWall; rw [pnm_t (s := (a, w)) y0, andP_r]; dsimp only; rw [pnm_f (s := ((nmE tx n a), (setw w 0 (nI (nmV tx n a))))) z1]; rfl) rfl b6 (skP_le (nmE_le ha)).2⟩
  · have z0 : ¬ nmO tx n a 10 40 := bi_eq0.mp c_13
    refine ac_iconst 17 0 dX2_readWall_16 rfl (by decide) ?_
    refine ac_iret dX2_readWall_17 ⟨_, rfl, rfl⟩ ?_
    exact ⟨rfl, rfl, a5, fun i h2 h17 => (a4 i h2).trans (am_up_ne h2), IQ.l (p := skP tx n a) (by unfold pWall;  rw [pnm_f (s := (a, w)) z0]; rfl) rfl a6 (skP_le ha).2⟩
set_option maxRecDepth 20000 in
theorem c2_rPic {M : am_I} {V : am_J} {f : Nat → Option Nat} {tx : Nat → Nat} {n m a np nd nh : Nat} {w : rN} (ha : a ≤ n) (hR : RD M tx n m (skP tx n a)) (hw : CW M 17 w np nd nh) (h9 : ∀ i, i < 5 → w (64 + i) = -9) (hm5 : np < 5) : CT m2_readPicture 3 [Value.ref 2, Value.ref 17] M V f (fun v M' V' f' => V' = V ∧ f' = f ∧ M' 2 5 = M 2 5 ∧ KRd M M' ∧ IQ tx n m (np + 1) nd nh v M' (pPic tx n np (a, w))) := by
  refine CT.of m2_readPicture_V.1 _ (en_aa_5 2 17) ?_
  refine ac_aload_n 1 dX2_readPicture_0 rfl rfl ?_
  refine ac_iconst 2 1 dX2_readPicture_1 rfl (by decide) ?_
  refine ac_bipush 4 9 dX2_readPicture_2 rfl (by decide) ?_
  refine ac_callVg (μ' := m2_readNumber) 7 dX2_readPicture_4 rfl lk2_89 m2_readNumber_V ob2 (c2_num (M := M) (a := a) ha hR 1 9) rfl rfl (by decide) (Nat.le_of_ble_eq_true rfl) (fun v0 Ma V0 f0 h90 => ?_)
  obtain ⟨a1, a2, a3, a4, a5, a6, a7⟩ := h90
  subst a1
  obtain rfl := a2.symm
  obtain rfl := a3.symm
  refine ac_if_ne 12 10 dX2_readPicture_7 (by decide) rfl (fun c_7 => ?_) (fun c_7 => ?_)
  · have y0 : nmO tx n a 1 9 := bi_ne0.mp c_7
    obtain ⟨a8, a9⟩ := a7 y0
    refine ac_aload_n 13 dX2_readPicture_12 rfl rfl ?_
    refine ac_getI 16 dX2_readPicture_13 rfl fl2_65 ob2 ?_
    rw [show (Ma 2 4) = (nI (nmV tx n a)) from a8]
    refine ac_istore_n 17 [some (Value.ref 2), some (Value.ref 17), some (Value.int (nI (nmV tx n a))), none, none] dX2_readPicture_16 rfl rfl (Nat.le_of_ble_eq_true rfl) (by decide) rfl ?_
    refine ac_aload_n 18 dX2_readPicture_17 rfl rfl ?_
    refine ac_iconst 19 1 dX2_readPicture_18 rfl (by decide) ?_
    refine ac_bipush 21 9 dX2_readPicture_19 rfl (by decide) ?_
    refine ac_callVg (μ' := m2_readNumber) 24 dX2_readPicture_21 rfl lk2_89 m2_readNumber_V ob2 (c2_num (M := Ma) (a := (nmE tx n a)) (nmE_le ha) a9 1 9) rfl rfl (by decide) (Nat.le_of_ble_eq_true rfl) (fun v1 Mb V1 f1 h91 => ?_)
    obtain ⟨b1, b2, b3, b4, b5, b6, b7⟩ := h91
    subst b1
    obtain rfl := b2.symm
    obtain rfl := b3.symm
    refine ac_if_ne 29 27 dX2_readPicture_24 (by decide) rfl (fun c_24 => ?_) (fun c_24 => ?_)
    · have y1 : nmO tx n (nmE tx n a) 1 9 := bi_ne0.mp c_24
      obtain ⟨b8, b9⟩ := b7 y1
      refine ac_aload_n 30 dX2_readPicture_29 rfl rfl ?_
      refine ac_getI 33 dX2_readPicture_30 rfl fl2_65 ob2 ?_
      rw [show (Mb 2 4) = (nI (nmV tx n (nmE tx n a))) from b8]
      refine ac_istore_n 34 [some (Value.ref 2), some (Value.ref 17), some (Value.int (nI (nmV tx n a))), some (Value.int (nI (nmV tx n (nmE tx n a)))), none] dX2_readPicture_33 rfl rfl (Nat.le_of_ble_eq_true rfl) (by decide) rfl ?_
      refine ac_aload_n 35 dX2_readPicture_34 rfl rfl ?_
      refine ac_iconst 36 0 dX2_readPicture_35 rfl (by decide) ?_
      refine ac_iload_n 37 dX2_readPicture_36 rfl rfl ?_
      refine ac_callVg (μ' := m2_readNumber) 40 dX2_readPicture_37 rfl lk2_89 m2_readNumber_V ob2 (c2_num (M := Mb) (a := (nmE tx n (nmE tx n a))) (nmE_le (nmE_le ha)) b9 0 (nI (nmV tx n (nmE tx n a)))) rfl rfl (by decide) (Nat.le_of_ble_eq_true rfl) (fun v2 Mc V2 f2 h92 => ?_)
      obtain ⟨c1, c2, c3, c4, c5, c6, c7⟩ := h92
      subst c1
      obtain rfl := c2.symm
      obtain rfl := c3.symm
      refine ac_if_ne 45 43 dX2_readPicture_40 (by decide) rfl (fun c_40 => ?_) (fun c_40 => ?_)
      · have y2 : nmO tx n (nmE tx n (nmE tx n a)) 0 (nI (nmV tx n (nmE tx n a))) := bi_ne0.mp c_40
        obtain ⟨c8, c9⟩ := c7 y2
        refine ac_aload_n 46 dX2_readPicture_45 rfl rfl ?_
        refine ac_getI 49 dX2_readPicture_46 rfl fl2_65 ob2 ?_
        rw [show (Mc 2 4) = (nI (nmV tx n (nmE tx n (nmE tx n a)))) from c8]
        refine ac_istore 51 [some (Value.ref 2), some (Value.ref 17), some (Value.int (nI (nmV tx n a))), some (Value.int (nI (nmV tx n (nmE tx n a)))), some (Value.int (nI (nmV tx n (nmE tx n (nmE tx n a)))))] dX2_readPicture_49 rfl rfl (Nat.le_of_ble_eq_true rfl) (by decide) rfl ?_
        refine ac_aload_n 52 dX2_readPicture_51 rfl rfl ?_
        refine ac_iconst 53 1 dX2_readPicture_52 rfl (by decide) ?_
        refine ac_bipush 55 9 dX2_readPicture_53 rfl (by decide) ?_
        refine ac_callVg (μ' := m2_readNumber) 58 dX2_readPicture_55 rfl lk2_89 m2_readNumber_V ob2 (c2_num (M := Mc) (a := (nmE tx n (nmE tx n (nmE tx n a)))) (nmE_le (nmE_le (nmE_le ha))) c9 1 9) rfl rfl (by decide) (Nat.le_of_ble_eq_true rfl) (fun v3 Md V3 f3 h93 => ?_)
        obtain ⟨d1, d2, d3, d4, d5, d6, d7⟩ := h93
        subst d1
        obtain rfl := d2.symm
        obtain rfl := d3.symm
        refine ac_if_ne 63 61 dX2_readPicture_58 (by decide) rfl (fun c_58 => ?_) (fun c_58 => ?_)
        · have y3 : nmO tx n (nmE tx n (nmE tx n (nmE tx n a))) 1 9 := bi_ne0.mp c_58
          obtain ⟨d8, d9⟩ := d7 y3
          refine ac_aload_n 64 dX2_readPicture_63 rfl rfl ?_
          refine ac_iload_n 65 dX2_readPicture_64 rfl rfl ?_
          refine ac_iload_n 66 dX2_readPicture_65 rfl rfl ?_
          refine ac_iload 68 dX2_readPicture_66 rfl rfl ?_
          refine ac_aload_n 69 dX2_readPicture_68 rfl rfl ?_
          refine ac_getI 72 dX2_readPicture_69 rfl fl2_65 ob2 ?_
          rw [show (Md 2 4) = (nI (nmV tx n (nmE tx n (nmE tx n (nmE tx n a))))) from d8]
          refine ac_callVm (μ' := m6_addPicture) 75 dX2_readPicture_72 rfl lk2_102 m6_addPicture_V ob17 (c6_addPicture17 (M := Md) (m := np) (by rw [d4 17 (by decide), c4 17 (by decide), b4 17 (by decide), a4 17 (by decide)]; exact hw.s3) hm5 _ _ _ _) rfl rfl (by decide) (Nat.le_of_ble_eq_true rfl) ?_
          refine ac_iconst 76 1 dX2_readPicture_75 rfl (by decide) ?_
          refine ac_iret dX2_readPicture_76 ⟨_, rfl, rfl⟩ ?_
          have K3 : ∀ i, i ≠ 2 → Md i = M i := fun i h2 => (d4 i h2).trans ((c4 i h2).trans ((b4 i h2).trans (a4 i h2)))
          exact ⟨rfl, rfl, d5.trans (c5.trans (b5.trans a5)), fun i h2 h17 => (by rw [am_up_ne (fun q => h17 (by omega)), am_up_ne (fun q => h17 (by omega)), am_up_ne (fun q => h17 (by omega)), am_up_ne (fun q => h17 (by omega)), am_up_ne (fun q => h17 (by omega)), am_up_ne (fun q => h17 (by omega))]; exact K3 i h2), IQ.r (s := ((nmE tx n (nmE tx n (nmE tx n (nmE tx n a)))), setw (setw (setw (setw (setw w (4 + 4 * np) (nI (nmV tx n a))) (4 + 4 * np + 1) (nI (nmV tx n (nmE tx n a)))) (4 + 4 * np + 2) (nI (nmV tx n (nmE tx n (nmE tx n a))))) (4 + 4 * np + 3) (nI (nmV tx n (nmE tx n (nmE tx n (nmE tx n a)))))) 3 (nI (np + 1)))) (by unfold pPic; rw [pnm_t (s := (a, w)) y0, andP_r]; dsimp only; rw [pnm_t (s := ((nmE tx n a), (setw w (4 + 4 * np) (nI (nmV tx n a))))) y1, andP_r]; dsimp only; rw [pnm_t (s := ((nmE tx n (nmE tx n a)), (setw (setw w (4 + 4 * np) (nI (nmV tx n a))) (4 + 4 * np + 1) (nI (nmV tx n (nmE tx n a)))))) y2, andP_r]; dsimp only; rw [pnm_t (s := ((nmE tx n (nmE tx n (nmE tx n a))), (setw (setw (setw w (4 + 4 * np) (nI (nmV tx n a))) (4 + 4 * np + 1) (nI (nmV tx n (nmE tx n a)))) (4 + 4 * np + 2) (nI (nmV tx n (nmE tx n (nmE tx n a))))))) y3, andP_r]) rfl (RD.keep d9 (fun i hi => by rw [am_up_ne (by omega), am_up_ne (by omega), am_up_ne (by omega), am_up_ne (by omega), am_up_ne (by omega), am_up_ne (by omega)])) (nmE_le (nmE_le (nmE_le (nmE_le ha)))) (CW.pic (hw.keepR (fun i z1 z2 => K3 i (by omega))) hm5 (h9 np hm5)) (fun i hi => by
            dsimp only
            rw [setw_ne (by omega), setw_ne (by omega), setw_ne (by omega), setw_ne (by omega), setw_ne (by omega)]; exact h9 i hi)⟩
        · have z3 : ¬ nmO tx n (nmE tx n (nmE tx n (nmE tx n a))) 1 9 := bi_eq0.mp c_58
          refine ac_iconst 62 0 dX2_readPicture_61 rfl (by decide) ?_
          refine ac_iret dX2_readPicture_62 ⟨_, rfl, rfl⟩ ?_
          exact ⟨rfl, rfl, d5.trans (c5.trans (b5.trans a5)), fun i h2 h17 => (d4 i h2).trans ((c4 i h2).trans ((b4 i h2).trans (a4 i h2))), IQ.l (p := skP tx n (nmE tx n (nmE tx n (nmE tx n a)))) (by unfold pPic; rw [pnm_t (s := (a, w)) y0, andP_r]; dsimp only; rw [pnm_t (s := ((nmE tx n a), (setw w (4 + 4 * np) (nI (nmV tx n a))))) y1, andP_r]; dsimp only; rw [pnm_t (s := ((nmE tx n (nmE tx n a)), (setw (setw w (4 + 4 * np) (nI (nmV tx n a))) (4 + 4 * np + 1) (nI (nmV tx n (nmE tx n a)))))) y2, andP_r]; dsimp only; rw [pnm_f (s := ((nmE tx n (nmE tx n (nmE tx n a))), (setw (setw (setw w (4 + 4 * np) (nI (nmV tx n a))) (4 + 4 * np + 1) (nI (nmV tx n (nmE tx n a)))) (4 + 4 * np + 2) (nI (nmV tx n (nmE tx n (nmE tx n a))))))) z3]; rfl) rfl d6 (skP_le (nmE_le (nmE_le (nmE_le ha)))).2⟩
      · have z2 : ¬ nmO tx n (nmE tx n (nmE tx n a)) 0 (nI (nmV tx n (nmE tx n a))) := bi_eq0.mp c_40
        refine ac_iconst 44 0 dX2_readPicture_43 rfl (by decide) ?_
        refine ac_iret dX2_readPicture_44 ⟨_, rfl, rfl⟩ ?_
        exact ⟨rfl, rfl, c5.trans (b5.trans a5), fun i h2 h17 => (c4 i h2).trans ((b4 i h2).trans (a4 i h2)), IQ.l (p := skP tx n (nmE tx n (nmE tx n a))) (by unfold pPic; rw [pnm_t (s := (a, w)) y0, andP_r]; dsimp only; rw [pnm_t (s := ((nmE tx n a), (setw w (4 + 4 * np) (nI (nmV tx n a))))) y1, andP_r]; dsimp only; rw [pnm_f (s := ((nmE tx n (nmE tx n a)), (setw (setw w (4 + 4 * np) (nI (nmV tx n a))) (4 + 4 * np + 1) (nI (nmV tx n (nmE tx n a)))))) z2]; rfl) rfl c6 (skP_le (nmE_le (nmE_le ha))).2⟩
    · have z1 : ¬ nmO tx n (nmE tx n a) 1 9 := bi_eq0.mp c_24
      refine ac_iconst 28 0 dX2_readPicture_27 rfl (by decide) ?_
      refine ac_iret dX2_readPicture_28 ⟨_, rfl, rfl⟩ ?_
      exact ⟨rfl, rfl, b5.trans a5, fun i h2 h17 => (b4 i h2).trans (a4 i h2), IQ.l (p := skP tx n (nmE tx n a)) (by unfold pPic; rw [pnm_t (s := (a, w)) y0, andP_r]; dsimp only; rw [pnm_f (s := ((nmE tx n a), (setw w (4 + 4 * np) (nI (nmV tx n a))))) z1]; rfl) rfl b6 (skP_le (nmE_le ha)).2⟩
  · have z0 : ¬ nmO tx n a 1 9 := bi_eq0.mp c_7
    refine ac_iconst 11 0 dX2_readPicture_10 rfl (by decide) ?_
    refine ac_iret dX2_readPicture_11 ⟨_, rfl, rfl⟩ ?_
    exact ⟨rfl, rfl, a5, fun i h2 h17 => a4 i h2, IQ.l (p := skP tx n a) (by unfold pPic;  rw [pnm_f (s := (a, w)) z0]; rfl) rfl a6 (skP_le ha).2⟩
set_option maxRecDepth 20000 in
theorem c2_rDoor {M : am_I} {V : am_J} {f : Nat → Option Nat} {tx : Nat → Nat} {n m a np nd nh : Nat} {w : rN} (ha : a ≤ n) (hR : RD M tx n m (skP tx n a)) (hw : CW M 17 w np nd nh) (h9 : ∀ i, i < 5 → w (64 + i) = -9) (hm5 : nd < 3) : CT m2_readDoor 3 [Value.ref 2, Value.ref 17] M V f (fun v M' V' f' => V' = V ∧ f' = f ∧ M' 2 5 = M 2 5 ∧ KRd M M' ∧ IQ tx n m np (nd + 1) nh v M' (pDoor tx n nd (a, w))) := by
  refine CT.of m2_readDoor_V.1 _ (en_aa_3 2 17) ?_
  refine ac_aload_n 1 dX2_readDoor_0 rfl rfl ?_
  refine ac_iconst 2 0 dX2_readDoor_1 rfl (by decide) ?_
  refine ac_bipush 4 39 dX2_readDoor_2 rfl (by decide) ?_
  refine ac_callVg (μ' := m2_readNumber) 7 dX2_readDoor_4 rfl lk2_89 m2_readNumber_V ob2 (c2_num (M := M) (a := a) ha hR 0 39) rfl rfl (by decide) (Nat.le_of_ble_eq_true rfl) (fun v0 Ma V0 f0 h90 => ?_)
  obtain ⟨a1, a2, a3, a4, a5, a6, a7⟩ := h90
  subst a1
  obtain rfl := a2.symm
  obtain rfl := a3.symm
  refine ac_if_ne 12 10 dX2_readDoor_7 (by decide) rfl (fun c_7 => ?_) (fun c_7 => ?_)
  · have y0 : nmO tx n a 0 39 := bi_ne0.mp c_7
    obtain ⟨a8, a9⟩ := a7 y0
    refine ac_aload_n 13 dX2_readDoor_12 rfl rfl ?_
    refine ac_getI 16 dX2_readDoor_13 rfl fl2_65 ob2 ?_
    rw [show (Ma 2 4) = (nI (nmV tx n a)) from a8]
    refine ac_istore_n 17 [some (Value.ref 2), some (Value.ref 17), some (Value.int (nI (nmV tx n a)))] dX2_readDoor_16 rfl rfl (Nat.le_of_ble_eq_true rfl) (by decide) rfl ?_
    refine ac_aload_n 18 dX2_readDoor_17 rfl rfl ?_
    refine ac_iload_n 19 dX2_readDoor_18 rfl rfl ?_
    refine ac_iconst 20 1 dX2_readDoor_19 rfl (by decide) ?_
    refine ac_iadd 21 dX2_readDoor_20 rfl ?_
    rw [show ((nI (nmV tx n a)) + 1) = (nI (nmV tx n a + 1)) from (nI_1 _)]
    refine ac_bipush 23 40 dX2_readDoor_21 rfl (by decide) ?_
    refine ac_callVg (μ' := m2_readNumber) 26 dX2_readDoor_23 rfl lk2_89 m2_readNumber_V ob2 (c2_num (M := Ma) (a := (nmE tx n a)) (nmE_le ha) a9 (nI (nmV tx n a + 1)) 40) rfl rfl (by decide) (Nat.le_of_ble_eq_true rfl) (fun v1 Mb V1 f1 h91 => ?_)
    obtain ⟨b1, b2, b3, b4, b5, b6, b7⟩ := h91
    subst b1
    obtain rfl := b2.symm
    obtain rfl := b3.symm
    refine ac_if_ne 31 29 dX2_readDoor_26 (by decide) rfl (fun c_26 => ?_) (fun c_26 => ?_)
    · have y1 : nmO tx n (nmE tx n a) (nI (nmV tx n a + 1)) 40 := bi_ne0.mp c_26
      obtain ⟨b8, b9⟩ := b7 y1
      refine ac_aload_n 32 dX2_readDoor_31 rfl rfl ?_
      refine ac_iload_n 33 dX2_readDoor_32 rfl rfl ?_
      refine ac_aload_n 34 dX2_readDoor_33 rfl rfl ?_
      refine ac_getI 37 dX2_readDoor_34 rfl fl2_65 ob2 ?_
      rw [show (Mb 2 4) = (nI (nmV tx n (nmE tx n a))) from b8]
      refine ac_callVm (μ' := m6_addDoor) 40 dX2_readDoor_37 rfl lk2_106 m6_addDoor_V ob17 (c6_addDoor17 (M := Mb) (m := nd) (by rw [b4 17 (by decide), a4 17 (by decide)]; exact hw.s4) hm5 _ _) rfl rfl (by decide) (Nat.le_of_ble_eq_true rfl) ?_
      refine ac_iconst 41 1 dX2_readDoor_40 rfl (by decide) ?_
      refine ac_iret dX2_readDoor_41 ⟨_, rfl, rfl⟩ ?_
      have K3 : ∀ i, i ≠ 2 → Mb i = M i := fun i h2 => (b4 i h2).trans (a4 i h2)
      exact ⟨rfl, rfl, b5.trans a5, fun i h2 h17 => (by rw [am_up_ne (fun q => h17 (by omega)), am_up_ne (fun q => h17 (by omega)), am_up_ne (fun q => h17 (by omega))]; exact K3 i h2), IQ.r (s := ((nmE tx n (nmE tx n a)), setw (setw (setw w (25 + 2 * nd) (nI (nmV tx n a))) (25 + 2 * nd + 1) (nI (nmV tx n (nmE tx n a)))) 24 (nI (nd + 1)))) (by unfold pDoor; rw [pnm_t (s := (a, w)) y0, andP_r]; dsimp only; rw [pnm_t (s := ((nmE tx n a), (setw w (25 + 2 * nd) (nI (nmV tx n a))))) y1, andP_r]) rfl (RD.keep b9 (fun i hi => by rw [am_up_ne (by omega), am_up_ne (by omega), am_up_ne (by omega)])) (nmE_le (nmE_le ha)) (CW.door (hw.keepR (fun i z1 z2 => K3 i (by omega))) hm5) (fun i hi => by
        dsimp only
        rw [setw_ne (by omega), setw_ne (by omega), setw_ne (by omega)]; exact h9 i hi)⟩
    · have z1 : ¬ nmO tx n (nmE tx n a) (nI (nmV tx n a + 1)) 40 := bi_eq0.mp c_26
      refine ac_iconst 30 0 dX2_readDoor_29 rfl (by decide) ?_
      refine ac_iret dX2_readDoor_30 ⟨_, rfl, rfl⟩ ?_
      exact ⟨rfl, rfl, b5.trans a5, fun i h2 h17 => (b4 i h2).trans (a4 i h2), IQ.l (p := skP tx n (nmE tx n a)) (by unfold pDoor; rw [pnm_t (s := (a, w)) y0, andP_r]; dsimp only; rw [pnm_f (s := ((nmE tx n a), (setw w (25 + 2 * nd) (nI (nmV tx n a))))) z1]; rfl) rfl b6 (skP_le (nmE_le ha)).2⟩
  · have z0 : ¬ nmO tx n a 0 39 := bi_eq0.mp c_7
    refine ac_iconst 11 0 dX2_readDoor_10 rfl (by decide) ?_
    refine ac_iret dX2_readDoor_11 ⟨_, rfl, rfl⟩ ?_
    exact ⟨rfl, rfl, a5, fun i h2 h17 => a4 i h2, IQ.l (p := skP tx n a) (by unfold pDoor;  rw [pnm_f (s := (a, w)) z0]; rfl) rfl a6 (skP_le ha).2⟩
set_option maxRecDepth 20000 in
theorem c2_rHole {M : am_I} {V : am_J} {f : Nat → Option Nat} {tx : Nat → Nat} {n m a np nd nh : Nat} {w : rN} (ha : a ≤ n) (hR : RD M tx n m (skP tx n a)) (hw : CW M 17 w np nd nh) (h9 : ∀ i, i < 5 → w (64 + i) = -9) (hm5 : nh < 16) : CT m2_readHole 3 [Value.ref 2, Value.ref 17] M V f (fun v M' V' f' => V' = V ∧ f' = f ∧ M' 2 5 = M 2 5 ∧ KRd M M' ∧ IQ tx n m np nd (nh + 1) v M' (pHole tx n nh (a, w))) := by
  refine CT.of m2_readHole_V.1 _ (en_aa_3 2 17) ?_
  refine ac_aload_n 1 dX2_readHole_0 rfl rfl ?_
  refine ac_iconst 2 0 dX2_readHole_1 rfl (by decide) ?_
  refine ac_bipush 4 80 dX2_readHole_2 rfl (by decide) ?_
  refine ac_callVg (μ' := m2_readNumber) 7 dX2_readHole_4 rfl lk2_89 m2_readNumber_V ob2 (c2_num (M := M) (a := a) ha hR 0 80) rfl rfl (by decide) (Nat.le_of_ble_eq_true rfl) (fun v0 Ma V0 f0 h90 => ?_)
  obtain ⟨a1, a2, a3, a4, a5, a6, a7⟩ := h90
  subst a1
  obtain rfl := a2.symm
  obtain rfl := a3.symm
  refine ac_if_ne 12 10 dX2_readHole_7 (by decide) rfl (fun c_7 => ?_) (fun c_7 => ?_)
  · have y0 : nmO tx n a 0 80 := bi_ne0.mp c_7
    obtain ⟨a8, a9⟩ := a7 y0
    refine ac_aload_n 13 dX2_readHole_12 rfl rfl ?_
    refine ac_getI 16 dX2_readHole_13 rfl fl2_65 ob2 ?_
    rw [show (Ma 2 4) = (nI (nmV tx n a)) from a8]
    refine ac_istore_n 17 [some (Value.ref 2), some (Value.ref 17), some (Value.int (nI (nmV tx n a)))] dX2_readHole_16 rfl rfl (Nat.le_of_ble_eq_true rfl) (by decide) rfl ?_
    refine ac_aload_n 18 dX2_readHole_17 rfl rfl ?_
    refine ac_iconst 19 0 dX2_readHole_18 rfl (by decide) ?_
    refine ac_bipush 21 60 dX2_readHole_19 rfl (by decide) ?_
    refine ac_callVg (μ' := m2_readNumber) 24 dX2_readHole_21 rfl lk2_89 m2_readNumber_V ob2 (c2_num (M := Ma) (a := (nmE tx n a)) (nmE_le ha) a9 0 60) rfl rfl (by decide) (Nat.le_of_ble_eq_true rfl) (fun v1 Mb V1 f1 h91 => ?_)
    obtain ⟨b1, b2, b3, b4, b5, b6, b7⟩ := h91
    subst b1
    obtain rfl := b2.symm
    obtain rfl := b3.symm
    refine ac_if_eq 39 27 dX2_readHole_24 (by decide) rfl (fun c_24 => ?_) (fun c_24 => ?_)
    · have z1 : ¬ nmO tx n (nmE tx n a) 0 60 := bi_eq0.mp c_24
      refine ac_iconst 40 0 dX2_readHole_39 rfl (by decide) ?_
      refine ac_iret dX2_readHole_40 ⟨_, rfl, rfl⟩ ?_
      exact ⟨rfl, rfl, b5.trans a5, fun i h2 h17 => (b4 i h2).trans (a4 i h2), IQ.l (p := skP tx n (nmE tx n a)) (by unfold pHole; rw [pnm_t (s := (a, w)) y0, andP_r]; dsimp only; rw [pnm_f (s := ((nmE tx n a), (setw w (32 + 2 * nh) (nI (nmV tx n a))))) z1]; rfl) rfl b6 (skP_le (nmE_le ha)).2⟩
    · have y1 : nmO tx n (nmE tx n a) 0 60 := bi_ne0.mp c_24
      obtain ⟨b8, b9⟩ := b7 y1
      refine ac_aload_n 28 dX2_readHole_27 rfl rfl ?_
      refine ac_iload_n 29 dX2_readHole_28 rfl rfl ?_
      refine ac_aload_n 30 dX2_readHole_29 rfl rfl ?_
      refine ac_getI 33 dX2_readHole_30 rfl fl2_65 ob2 ?_
      rw [show (Mb 2 4) = (nI (nmV tx n (nmE tx n a))) from b8]
      refine ac_callV (μ' := m6_findHole) 36 dX2_readHole_33 rfl lk2_110 m6_findHole_V ob17 (c6_findHole17 (M := Mb) (hw.keepR (fun i z1 z2 => by rw [b4 i (by omega), a4 i (by omega)])) _ _) rfl rfl (by decide) (Nat.le_of_ble_eq_true rfl) ?_
      refine ac_if_lt 41 39 dX2_readHole_36 (by decide) rfl (fun c_36 => ?_) (fun c_36 => ?_)
      · have ho : ¬ hoN w nh (nI (nmV tx n a)) (nI (nmV tx n (nmE tx n a))) := (dl_neg (by omega)).mp c_36
        refine ac_aload_n 42 dX2_readHole_41 rfl rfl ?_
        refine ac_iload_n 43 dX2_readHole_42 rfl rfl ?_
        refine ac_aload_n 44 dX2_readHole_43 rfl rfl ?_
        refine ac_getI 47 dX2_readHole_44 rfl fl2_65 ob2 ?_
        rw [show (Mb 2 4) = (nI (nmV tx n (nmE tx n a))) from b8]
        refine ac_callVm (μ' := m6_addHole) 50 dX2_readHole_47 rfl lk2_114 m6_addHole_V ob17 (c6_addHole17 (M := Mb) (nh := nh) (by rw [b4 17 (by decide), a4 17 (by decide)]; exact hw.s5) hm5 _ _) rfl rfl (by decide) (Nat.le_of_ble_eq_true rfl) ?_
        refine ac_iconst 51 1 dX2_readHole_50 rfl (by decide) ?_
        refine ac_iret dX2_readHole_51 ⟨_, rfl, rfl⟩ ?_
        have K3 : ∀ i, i ≠ 2 → Mb i = M i := fun i h2 => (b4 i h2).trans (a4 i h2)
        exact ⟨rfl, rfl, b5.trans a5, fun i h2 h17 => (by rw [am_up_ne (fun q => h17 (by omega)), am_up_ne (fun q => h17 (by omega)), am_up_ne (fun q => h17 (by omega))]; exact K3 i h2), IQ.r (s := ((nmE tx n (nmE tx n a)), setw (setw (setw w (32 + 2 * nh) (nI (nmV tx n a))) (32 + 2 * nh + 1) (nI (nmV tx n (nmE tx n a)))) 31 (nI (nh + 1)))) (by unfold pHole; rw [pnm_t (s := (a, w)) y0, andP_r]; dsimp only; rw [pnm_t (s := ((nmE tx n a), (setw w (32 + 2 * nh) (nI (nmV tx n a))))) y1, andP_r]; dsimp only; rw [cif_f ho]) rfl (RD.keep b9 (fun i hi => by rw [am_up_ne (by omega), am_up_ne (by omega), am_up_ne (by omega)])) (nmE_le (nmE_le ha)) (CW.hole (hw.keepR (fun i z1 z2 => K3 i (by omega))) hm5) (fun i hi => by
          dsimp only
          rw [setw_ne (by omega), setw_ne (by omega), setw_ne (by omega)]; exact h9 i hi)⟩
      · have ho : hoN w nh (nI (nmV tx n a)) (nI (nmV tx n (nmE tx n a))) := Classical.byContradiction (fun q => c_36 ((dl_neg (by omega)).mpr q))
        refine ac_iconst 40 0 dX2_readHole_39 rfl (by decide) ?_
        refine ac_iret dX2_readHole_40 ⟨_, rfl, rfl⟩ ?_
        exact ⟨rfl, rfl, b5.trans a5, fun i h2 h17 => (b4 i h2).trans (a4 i h2), IQ.l (p := skP tx n (nmE tx n a)) (by unfold pHole; rw [pnm_t (s := (a, w)) y0, andP_r]; dsimp only; rw [pnm_t (s := ((nmE tx n a), (setw w (32 + 2 * nh) (nI (nmV tx n a))))) y1, andP_r]; dsimp only; rw [cif_t ho]) rfl b6 (skP_le (nmE_le ha)).2⟩
  · have z0 : ¬ nmO tx n a 0 80 := bi_eq0.mp c_7
    refine ac_iconst 11 0 dX2_readHole_10 rfl (by decide) ?_
    refine ac_iret dX2_readHole_11 ⟨_, rfl, rfl⟩ ?_
    exact ⟨rfl, rfl, a5, fun i h2 h17 => a4 i h2, IQ.l (p := skP tx n a) (by unfold pHole;  rw [pnm_f (s := (a, w)) z0]; rfl) rfl a6 (skP_le ha).2⟩
