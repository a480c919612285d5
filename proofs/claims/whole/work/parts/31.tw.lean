/-! Telling: the words. The text is tx, of n letters. -/
/-- the end of the run from a on -/
noncomputable def rnE (Q : Nat → Prop) (n a : Nat) : Nat := fsF (fun y => ¬ (y < n ∧ Q y)) (n - a) a
theorem rnE_spec (Q : Nat → Prop) (n a : Nat) (h : a ≤ n) : a ≤ rnE Q n a ∧ rnE Q n a ≤ n ∧ (∀ y, a ≤ y → y < rnE Q n a → Q y) ∧ (rnE Q n a < n → ¬ Q (rnE Q n a)) := by
  unfold rnE
  obtain ⟨h1, h2, h3, h4⟩ := fsF_spec (fun y => ¬ (y < n ∧ Q y)) (n - a) a
  refine ⟨h1, by omega, fun y a1 a2 => ?_, fun q hq => ?_⟩
  · exact (Classical.not_not.mp (h3 y a1 a2)).2
  · exact h4 (by omega) ⟨q, hq⟩
theorem rnE_un {Q : Nat → Prop} {n a e : Nat} (h : a ≤ n) (h1 : a ≤ e) (h2 : e ≤ n) (h3 : ∀ y, a ≤ y → y < e → Q y) (h4 : e < n → ¬ Q e) : rnE Q n a = e := by
  obtain ⟨q1, q2, q3, q4⟩ := rnE_spec Q n a h
  rcases Nat.lt_trichotomy (rnE Q n a) e with h | h | h
  · exact absurd (h3 _ q1 h) (q4 (by omega))
  · exact h
  · exact absurd (q3 e h1 h) (h4 (by omega))
def isW (tx : Nat → Nat) (y : Nat) : Prop := 97 ≤ tx y ∧ tx y ≤ 122
def isF (tx : Nat → Nat) (y : Nat) : Prop := 48 ≤ tx y ∧ tx y ≤ 57
noncomputable def skP (tx : Nat → Nat) (n a : Nat) : Nat := rnE (fun y => tx y = 32) n a
noncomputable def wlP (tx : Nat → Nat) (n a : Nat) : Nat := rnE (isW tx) n a
noncomputable def fgP (tx : Nat → Nat) (n a : Nat) : Nat := rnE (isF tx) n a
/-- the number that the first k figures from s on make, 100 when it is more -/
def vlP (tx : Nat → Nat) (s : Nat) : Nat → Nat
  | 0 => 0
  | k + 1 => if 99 < 10 * vlP tx s k + (tx (s + k) - 48) then 100 else 10 * vlP tx s k + (tx (s + k) - 48)
theorem vlP_le (tx : Nat → Nat) (s : Nat) : ∀ k, vlP tx s k ≤ 100
  | 0 => Nat.zero_le _
  | k + 1 => by unfold vlP; split <;> omega
/-- a number from a on -/
def nmP (tx : Nat → Nat) (n a : Nat) (lo hi : Int32) (v e : Nat) : Prop := e = fgP tx n (skP tx n a) ∧ v = vlP tx (skP tx n a) (e - skP tx n a) ∧ skP tx n a < e ∧ v ≤ 99 ∧ (e = skP tx n a + 1 ∨ tx (skP tx n a) ≠ 48) ∧ lo ≤ nI v ∧ nI v ≤ hi
/-- the reference reads: n letters, at a -/
def RP (M : am_I) (tx : Nat → Nat) (n a : Nat) : Prop := M 121 10 = nI n ∧ n ≤ 120 ∧ M 121 11 = nI a ∧ a ≤ n ∧ ∀ y, y < n → M 129 y = nI (tx y) ∧ tx y ≤ 255
/-- what reading leaves alone -/
def KP (M M' : am_I) : Prop := (∀ i, i ≠ 121 → i ≠ 123 → M' i = M i) ∧ ∀ k, k ≠ 11 → k ≠ 12 → k ≠ 13 → M' 121 k = M 121 k
theorem KP.refl (M : am_I) : KP M M := ⟨fun _ _ _ => rfl, fun _ _ _ _ => rfl⟩
theorem KP.trans {M M1 M2 : am_I} (h : KP M M1) (h2 : KP M1 M2) : KP M M2 := ⟨fun i a b => (h2.1 i a b).trans (h.1 i a b), fun k a b c => (h2.2 k a b c).trans (h.2 k a b c)⟩
theorem RP.next {M M' : am_I} {tx : Nat → Nat} {n a e : Nat} (h : RP M tx n a) (hk : KP M M') (h1 : M' 121 11 = nI e) (h2 : e ≤ n) : RP M' tx n e := by
  refine ⟨(hk.2 10 (by decide) (by decide) (by decide)).trans h.1, h.2.1, h1, h2, fun y hy => ?_⟩
  rw [hk.1 129 (by decide) (by decide)]
  exact h.2.2.2.2 y hy
set_option maxRecDepth 20000 in
theorem c8_isAt {M : am_I} {V : am_J} {f : Nat → Option Nat} {tx : Nat → Nat} {n a : Nat} (hP : RP M tx n a) (lo hi : Int32) : CT m8_isAt 2 [Value.ref 121, Value.int lo, Value.int hi] M V f (RV (bi (a < n ∧ lo ≤ nI (tx a) ∧ nI (tx a) ≤ hi)) M V f) := by
  obtain ⟨h10, hn, h11, ha, hT⟩ := id hP
  refine CT.of m8_isAt_V.1 _ (en_aii_3 121 lo hi) ?_
  refine ac_aload_n 1 dX8_isAt_0 rfl rfl ?_
  refine ac_getI 4 dX8_isAt_1 rfl fl8_57 ob121 ?_
  rw [show (M 121 11) = (nI a) from h11]
  refine ac_aload_n 5 dX8_isAt_4 rfl rfl ?_
  refine ac_getI 8 dX8_isAt_5 rfl fl8_61 ob121 ?_
  rw [show (M 121 10) = (nI n) from h10]
  refine ac_icmp_ge 32 11 dX8_isAt_8 (by decide) rfl (fun c_8 => ?_) (fun c_8 => ?_)
  · have h9 : ¬ a < n := fun q => absurd ((nI_leI (by omega) (by omega)).mp c_8) (by omega)
    refine ac_iconst 33 0 dX8_isAt_32 rfl (by decide) ?_
    refine ac_iret dX8_isAt_33 ⟨_, rfl, rfl⟩ ?_
    exact rv_mk (bi_f (by first | exact fun q => h9 q.1 | exact fun q => bi_eq0.mp c_25 q.2 | exact ⟨h9, bi_ne0.mp c_25⟩)).symm
  · have h9 : a < n := Nat.lt_of_not_le (fun q => c_8 (nI_le q (by omega)))
    refine ac_aload_n 12 dX8_isAt_11 rfl rfl ?_
    refine ac_getO 15 129 dX8_isAt_12 rfl fl8_32 ob121 rfl ?_
    refine ac_aload_n 16 dX8_isAt_15 rfl rfl ?_
    refine ac_getI 19 dX8_isAt_16 rfl fl8_57 ob121 ?_
    rw [show (M 121 11) = (nI a) from h11]
    refine ac_iald 20 dX8_isAt_19 rfl ar129 (ix_nI (by omega) (by decide)) ?_
    rw [show (M 129 a) = (nI (tx a)) from (hT a h9).1]
    refine ac_iload_n 21 dX8_isAt_20 rfl rfl ?_
    refine ac_iload_n 22 dX8_isAt_21 rfl rfl ?_
    refine ac_callS (μ' := m8_within) 25 dX8_isAt_22 rfl lk8_67 m8_within_S (c8_within _ _ _) rfl rfl (by decide) (Nat.le_of_ble_eq_true rfl) ?_
    refine ac_if_eq 32 28 dX8_isAt_25 (by decide) rfl (fun c_25 => ?_) (fun c_25 => ?_)
    · refine ac_iconst 33 0 dX8_isAt_32 rfl (by decide) ?_
      refine ac_iret dX8_isAt_33 ⟨_, rfl, rfl⟩ ?_
      exact rv_mk (bi_f (by first | exact fun q => h9 q.1 | exact fun q => bi_eq0.mp c_25 q.2 | exact ⟨h9, bi_ne0.mp c_25⟩)).symm
    · refine ac_iconst 29 1 dX8_isAt_28 rfl (by decide) ?_
      refine ac_goto 33 dX8_isAt_29 (by decide) ?_
      refine ac_iret dX8_isAt_33 ⟨_, rfl, rfl⟩ ?_
      exact rv_mk (bi_t (by first | exact fun q => h9 q.1 | exact fun q => bi_eq0.mp c_25 q.2 | exact ⟨h9, bi_ne0.mp c_25⟩)).symm
set_option maxRecDepth 20000 in
theorem c8_skips {M : am_I} {V : am_J} {f : Nat → Option Nat} {tx : Nat → Nat} {n a : Nat} (hP : RP M tx n a) : CT m8_skips 1 [Value.ref 121] M V f (fun v M' V' f' => v = none ∧ V' = V ∧ f' = f ∧ KP M M' ∧ M' 123 = M 123 ∧ M' 121 13 = M 121 13 ∧ M' 121 11 = nI (skP tx n a) ∧ M' 121 12 = nI (skP tx n a)) := by
  obtain ⟨h10, hn, h11, ha, hT⟩ := id hP
  obtain ⟨s1, s2, s3, s4⟩ := rnE_spec (fun y => tx y = 32) n a ha
  refine CT.of m8_skips_V.1 _ (en_a_1 121) ?_
  refine ac_down (n := (skP tx n a)) (P := fun k => ∀ (M1 : am_I), ((∀ i, i ≠ 121 → M1 i = M i) ∧ (∀ j, j ≠ 11 → M1 121 j = M 121 j) ∧ M1 121 11 = nI k ∧ a ≤ k) → A0 m8_skips 1 0 [some (Value.ref 121)] [] M1 V f (fun v M' V' f' => v = none ∧ V' = V ∧ f' = f ∧ KP M M' ∧ M' 123 = M 123 ∧ M' 121 13 = M 121 13 ∧ M' 121 11 = nI (skP tx n a) ∧ M' 121 12 = nI (skP tx n a))) ?_ ?_ a s1 M ⟨fun _ _ => rfl, fun _ _ => rfl, h11, Nat.le_refl _⟩
  · intro M1 hpr
    obtain ⟨k1, k2, k3, k4⟩ := hpr
    have k10 : M1 121 10 = nI n := (k2 10 (by decide)).trans h10
    have s2b : skP tx n a ≤ n := s2
    refine ac_aload_n 1 dX8_skips_0 rfl rfl ?_
    refine ac_getI 4 dX8_skips_1 rfl fl8_57 ob121 ?_
    rw [show (M1 121 11) = (nI (skP tx n a)) from k3]
    refine ac_aload_n 5 dX8_skips_4 rfl rfl ?_
    refine ac_getI 8 dX8_skips_5 rfl fl8_61 ob121 ?_
    rw [show (M1 121 10) = (nI n) from k10]
    refine ac_icmp_ge 38 11 dX8_skips_8 (by decide) rfl (fun c_8 => ?_) (fun c_8 => ?_)
    · refine ac_aload_n 39 dX8_skips_38 rfl rfl ?_
      refine ac_aload_n 40 dX8_skips_39 rfl rfl ?_
      refine ac_getI 43 dX8_skips_40 rfl fl8_57 ob121 ?_
      rw [show (M1 121 11) = (nI (skP tx n a)) from k3]
      refine ac_putI 46 dX8_skips_43 rfl fl8_64 rfl rfl ob121 ?_
      refine ac_vret dX8_skips_46 rfl ?_
      exact ⟨rfl, rfl, rfl, ⟨fun i a1 a2 => (am_up_ne a1).trans (k1 i a1), fun k a1 a2 a3 => (up_ne a2).trans (k2 k a1)⟩, k1 123 (by decide), k2 13 (by decide), k3, rfl⟩
    · have h9 : skP tx n a < n := Nat.lt_of_not_le (fun q => c_8 (nI_le q (by omega)))
      have hne : ¬ tx (skP tx n a) = 32 := s4 h9
      have hTk := hT (skP tx n a) h9
      refine ac_aload_n 12 dX8_skips_11 rfl rfl ?_
      refine ac_getO 15 129 dX8_skips_12 rfl fl8_32 ob121 rfl ?_
      refine ac_aload_n 16 dX8_skips_15 rfl rfl ?_
      refine ac_getI 19 dX8_skips_16 rfl fl8_57 ob121 ?_
      rw [show (M1 121 11) = (nI (skP tx n a)) from k3]
      refine ac_iald 20 dX8_skips_19 rfl ar129 (ix_nI (by omega) (by decide)) ?_
      rw [show (M1 129 (skP tx n a)) = (nI (tx (skP tx n a))) from (by rw [k1 129 (by decide)]; exact hTk.1)]
      refine ac_bipush 22 32 dX8_skips_20 rfl (by decide) ?_
      refine ac_icmp_ne 38 25 dX8_skips_22 (by decide) rfl (fun _ => ?_) (fun c_22 => absurd c_22 (fun q => hne ((nI_eq (b := 32) (by omega) (by decide)).mp q)))
      refine ac_aload_n 39 dX8_skips_38 rfl rfl ?_
      refine ac_aload_n 40 dX8_skips_39 rfl rfl ?_
      refine ac_getI 43 dX8_skips_40 rfl fl8_57 ob121 ?_
      rw [show (M1 121 11) = (nI (skP tx n a)) from k3]
      refine ac_putI 46 dX8_skips_43 rfl fl8_64 rfl rfl ob121 ?_
      refine ac_vret dX8_skips_46 rfl ?_
      exact ⟨rfl, rfl, rfl, ⟨fun i a1 a2 => (am_up_ne a1).trans (k1 i a1), fun k a1 a2 a3 => (up_ne a2).trans (k2 k a1)⟩, k1 123 (by decide), k2 13 (by decide), k3, rfl⟩
  · intro k hk ih M1 hpr
    obtain ⟨k1, k2, k3, k4⟩ := hpr
    have k10 : M1 121 10 = nI n := (k2 10 (by decide)).trans h10
    have s2b : skP tx n a ≤ n := s2
    have hk32 : tx k = 32 := s3 k k4 hk
    refine ac_aload_n 1 dX8_skips_0 rfl rfl ?_
    refine ac_getI 4 dX8_skips_1 rfl fl8_57 ob121 ?_
    rw [show (M1 121 11) = (nI k) from k3]
    refine ac_aload_n 5 dX8_skips_4 rfl rfl ?_
    refine ac_getI 8 dX8_skips_5 rfl fl8_61 ob121 ?_
    rw [show (M1 121 10) = (nI n) from k10]
    refine ac_icmp_ge 38 11 dX8_skips_8 (by decide) rfl (fun c_8 => absurd c_8 (nI_ge (by omega) (by omega))) (fun _ => ?_)
    refine ac_aload_n 12 dX8_skips_11 rfl rfl ?_
    refine ac_getO 15 129 dX8_skips_12 rfl fl8_32 ob121 rfl ?_
    refine ac_aload_n 16 dX8_skips_15 rfl rfl ?_
    refine ac_getI 19 dX8_skips_16 rfl fl8_57 ob121 ?_
    rw [show (M1 121 11) = (nI k) from k3]
    refine ac_iald 20 dX8_skips_19 rfl ar129 (ix_nI (by omega) (by decide)) ?_
    rw [show (M1 129 k) = (nI (tx k)) from (by rw [k1 129 (by decide)]; exact (hT k (by omega)).1)]
    refine ac_bipush 22 32 dX8_skips_20 rfl (by decide) ?_
    refine ac_icmp_ne 38 25 dX8_skips_22 (by decide) rfl (fun c_22 => absurd (by rw [hk32]; rfl) c_22) (fun _ => ?_)
    refine ac_aload_n 26 dX8_skips_25 rfl rfl ?_
    refine ac_dup 27 dX8_skips_26 rfl rfl ?_
    refine ac_getI 30 dX8_skips_27 rfl fl8_57 ob121 ?_
    rw [show (M1 121 11) = (nI k) from k3]
    refine ac_iconst 31 1 dX8_skips_30 rfl (by decide) ?_
    refine ac_iadd 32 dX8_skips_31 rfl ?_
    rw [show ((nI k) + 1) = (nI (k + 1)) from (nI_1 _)]
    refine ac_putI 35 dX8_skips_32 rfl fl8_57 rfl rfl ob121 ?_
    refine ac_goto 0 dX8_skips_35 (by decide) ?_
    exact ih _ ⟨fun i hi => (am_up_ne hi).trans (k1 i hi), fun j hj => (up_ne hj).trans (k2 j hj), rfl, by omega⟩
