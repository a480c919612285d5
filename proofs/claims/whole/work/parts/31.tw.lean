/-! Telling: the words. The text is tx, of n letters. -/
/-- the end of the run from a on -/
noncomputable def rnE (Q : Nat → Prop) (n a : Nat) : Nat := fsF (fun y => ¬ (y < n ∧ Q y)) (n - a) a
theorem rnE_spec (Q : Nat → Prop) (n a : Nat) (h : a ≤ n) : a ≤ rnE Q n a ∧ rnE Q n a ≤ n ∧ (∀ y, a ≤ y → y < rnE Q n a → Q y) ∧ (rnE Q n a < n → ¬ Q (rnE Q n a)) := by
  unfold rnE
  obtain ⟨h1, h2, h3, h4⟩ := fsF_spec (fun y => ¬ (y < n ∧ Q y)) (n - a) a
  refine ⟨h1, by omega, fun y a1 a2 => ?_, fun q hq => ?_⟩
  · exact (Classical.not_not.mp (h3 y a1 a2)).2
  · exact h4 (by omega) ⟨q, hq⟩
theorem rnE_un {Q : Nat → Prop} {n a e : Nat} (h : a ≤ n) (h1 : a ≤ e) (h2 : e ≤ n) (h3 : ∀ y, a ≤ y → y < e → Q y) (h4 : e < n → ¬ Q e) : rnE Q n a = e := by
  obtain ⟨q1, q2, q3, q4⟩ := rnE_spec Q n a h
  rcases Nat.lt_trichotomy (rnE Q n a) e with h | h | h
  · exact absurd (h3 _ q1 h) (q4 (by omega))
  · exact h
  · exact absurd (q3 e h1 h) (h4 (by omega))
def isW (tx : Nat → Nat) (y : Nat) : Prop := 97 ≤ tx y ∧ tx y ≤ 122
def isF (tx : Nat → Nat) (y : Nat) : Prop := 48 ≤ tx y ∧ tx y ≤ 57
noncomputable def skP (tx : Nat → Nat) (n a : Nat) : Nat := rnE (fun y => tx y = 32) n a
noncomputable def wlP (tx : Nat → Nat) (n a : Nat) : Nat := rnE (isW tx) n a
noncomputable def fgP (tx : Nat → Nat) (n a : Nat) : Nat := rnE (isF tx) n a
/-- the number that the first k figures from s on make, 100 when it is more -/
def vlP (tx : Nat → Nat) (s : Nat) : Nat → Nat
  | 0 => 0
  | k + 1 => if 99 < 10 * vlP tx s k + (tx (s + k) - 48) then 100 else 10 * vlP tx s k + (tx (s + k) - 48)
theorem vlP_le (tx : Nat → Nat) (s : Nat) : ∀ k, vlP tx s k ≤ 100
  | 0 => Nat.zero_le _
  | k + 1 => by unfold vlP; split <;> omega
/-- a number from a on -/
def nmP (tx : Nat → Nat) (n a : Nat) (lo hi : Int32) (v e : Nat) : Prop := e = fgP tx n (skP tx n a) ∧ v = vlP tx (skP tx n a) (e - skP tx n a) ∧ skP tx n a < e ∧ v ≤ 99 ∧ (e = skP tx n a + 1 ∨ tx (skP tx n a) ≠ 48) ∧ lo ≤ nI v ∧ nI v ≤ hi
/-- the reference reads: n letters, at a -/
def RP (M : am_I) (tx : Nat → Nat) (n a : Nat) : Prop := M 121 10 = nI n ∧ n ≤ 120 ∧ M 121 11 = nI a ∧ a ≤ n ∧ ∀ y, y < n → M 129 y = nI (tx y) ∧ tx y ≤ 255
/-- what reading leaves alone -/
def KP (M M' : am_I) : Prop := (∀ i, i ≠ 121 → i ≠ 123 → M' i = M i) ∧ ∀ k, k ≠ 11 → k ≠ 12 → k ≠ 13 → M' 121 k = M 121 k
theorem KP.refl (M : am_I) : KP M M := ⟨fun _ _ _ => rfl, fun _ _ _ _ => rfl⟩
theorem KP.trans {M M1 M2 : am_I} (h : KP M M1) (h2 : KP M1 M2) : KP M M2 := ⟨fun i a b => (h2.1 i a b).trans (h.1 i a b), fun k a b c => (h2.2 k a b c).trans (h.2 k a b c)⟩
theorem RP.next {M M' : am_I} {tx : Nat → Nat} {n a e : Nat} (h : RP M tx n a) (hk : KP M M') (h1 : M' 121 11 = nI e) (h2 : e ≤ n) : RP M' tx n e := by
  refine ⟨(hk.2 10 (by decide) (by decide) (by decide)).trans h.1, h.2.1, h1, h2, fun y hy => ?_⟩
  rw [hk.1 129 (by decide) (by decide)]
  exact h.2.2.2.2 y hy
set_option maxRecDepth 20000 in
theorem c8_isAt {M : am_I} {V : am_J} {f : Nat → Option Nat} {tx : Nat → Nat} {n a : Nat} (hP : RP M tx n a) (lo hi : Int32) : CT m8_isAt 2 [Value.ref 121, Value.int lo, Value.int hi] M V f (RV (bi (a < n ∧ lo ≤ nI (tx a) ∧ nI (tx a) ≤ hi)) M V f) := by
  obtain ⟨h10, hn, h11, ha, hT⟩ := id hP
  refine CT.of m8_isAt_V.1 _ (en_aii_3 121 lo hi) ?_
  refine ac_aload_n 1 dX8_isAt_0 rfl rfl ?_
  refine ac_getI 4 dX8_isAt_1 rfl fl8_57 ob121 ?_
  rw [show (M 121 11) = (nI a) from h11]
  refine ac_aload_n 5 dX8_isAt_4 rfl rfl ?_
  refine ac_getI 8 dX8_isAt_5 rfl fl8_61 ob121 ?_
  rw [show (M 121 10) = (nI n) from h10]
  refine ac_icmp_ge 32 11 dX8_isAt_8 (by decide) rfl (fun c_8 => ?_) (fun c_8 => ?_)
  · have h9 : ¬ a < n := fun q => absurd ((nI_leI (by omega) (by omega)).mp c_8) (by omega)
    refine ac_iconst 33 0 dX8_isAt_32 rfl (by decide) ?_
    refine ac_iret dX8_isAt_33 ⟨_, rfl, rfl⟩ ?_
    exact rv_mk (bi_f (by first | exact fun q => h9 q.1 | exact fun q => bi_eq0.mp c_25 q.2 | exact ⟨h9, bi_ne0.mp c_25⟩)).symm
  · have h9 : a < n := Nat.lt_of_not_le (fun q => c_8 (nI_le q (by omega)))
    refine ac_aload_n 12 dX8_isAt_11 rfl rfl ?_
    refine ac_getO 15 129 dX8_isAt_12 rfl fl8_32 ob121 rfl ?_
    refine ac_aload_n 16 dX8_isAt_15 rfl rfl ?_
    refine ac_getI 19 dX8_isAt_16 rfl fl8_57 ob121 ?_
    rw [show (M 121 11) = (nI a) from h11]
    refine ac_iald 20 dX8_isAt_19 rfl ar129 (ix_nI (by omega) (by decide)) ?_
    rw [show (M 129 a) = (nI (tx a)) from (hT a h9).1]
    refine ac_iload_n 21 dX8_isAt_20 rfl rfl ?_
    refine ac_iload_n 22 dX8_isAt_21 rfl rfl ?_
    refine ac_callS (μ' := m8_within) 25 dX8_isAt_22 rfl lk8_67 m8_within_S (c8_within _ _ _) rfl rfl (by decide) (Nat.le_of_ble_eq_true rfl) ?_
    refine ac_if_eq 32 28 dX8_isAt_25 (by decide) rfl (fun c_25 => ?_) (fun c_25 => ?_)
    · refine ac_iconst 33 0 dX8_isAt_32 rfl (by decide) ?_
      refine ac_iret dX8_isAt_33 ⟨_, rfl, rfl⟩ ?_
      exact rv_mk (bi_f (by first | exact fun q => h9 q.1 | exact fun q => bi_eq0.mp c_25 q.2 | exact ⟨h9, bi_ne0.mp c_25⟩)).symm
    · refine ac_iconst 29 1 dX8_isAt_28 rfl (by decide) ?_
      refine ac_goto 33 dX8_isAt_29 (by decide) ?_
      refine ac_iret dX8_isAt_33 ⟨_, rfl, rfl⟩ ?_
      exact rv_mk (bi_t (by first | exact fun q => h9 q.1 | exact fun q => bi_eq0.mp c_25 q.2 | exact ⟨h9, bi_ne0.mp c_25⟩)).symm
set_option maxRecDepth 20000 in
theorem c8_skips {M : am_I} {V : am_J} {f : Nat → Option Nat} {tx : Nat → Nat} {n a : Nat} (hP : RP M tx n a) : CT m8_skips 1 [Value.ref 121] M V f (fun v M' V' f' => v = none ∧ V' = V ∧ f' = f ∧ KP M M' ∧ M' 123 = M 123 ∧ M' 121 13 = M 121 13 ∧ M' 121 11 = nI (skP tx n a) ∧ M' 121 12 = nI (skP tx n a)) := by
  obtain ⟨h10, hn, h11, ha, hT⟩ := id hP
  obtain ⟨s1, s2, s3, s4⟩ := rnE_spec (fun y => tx y = 32) n a ha
  refine CT.of m8_skips_V.1 _ (en_a_1 121) ?_
  refine ac_down (n := (skP tx n a)) (P := fun k => ∀ (M1 : am_I), ((∀ i, i ≠ 121 → M1 i = M i) ∧ (∀ j, j ≠ 11 → M1 121 j = M 121 j) ∧ M1 121 11 = nI k ∧ a ≤ k) → A0 m8_skips 1 0 [some (Value.ref 121)] [] M1 V f (fun v M' V' f' => v = none ∧ V' = V ∧ f' = f ∧ KP M M' ∧ M' 123 = M 123 ∧ M' 121 13 = M 121 13 ∧ M' 121 11 = nI (skP tx n a) ∧ M' 121 12 = nI (skP tx n a))) ?_ ?_ a s1 M ⟨fun _ _ => rfl, fun _ _ => rfl, h11, Nat.le_refl _⟩
  · intro M1 hpr
    obtain ⟨k1, k2, k3, k4⟩ := hpr
    have k10 : M1 121 10 = nI n := (k2 10 (by decide)).trans h10
    have s2b : skP tx n a ≤ n := s2
    refine ac_aload_n 1 dX8_skips_0 rfl rfl ?_
    refine ac_getI 4 dX8_skips_1 rfl fl8_57 ob121 ?_
    rw [show (M1 121 11) = (nI (skP tx n a)) from k3]
    refine ac_aload_n 5 dX8_skips_4 rfl rfl ?_
    refine ac_getI 8 dX8_skips_5 rfl fl8_61 ob121 ?_
    rw [show (M1 121 10) = (nI n) from k10]
    refine ac_icmp_ge 38 11 dX8_skips_8 (by decide) rfl (fun c_8 => ?_) (fun c_8 => ?_)
    · refine ac_aload_n 39 dX8_skips_38 rfl rfl ?_
      refine ac_aload_n 40 dX8_skips_39 rfl rfl ?_
      refine ac_getI 43 dX8_skips_40 rfl fl8_57 ob121 ?_
      rw [show (M1 121 11) = (nI (skP tx n a)) from k3]
      refine ac_putI 46 dX8_skips_43 rfl fl8_64 rfl rfl ob121 ?_
      refine ac_vret dX8_skips_46 rfl ?_
      exact ⟨rfl, rfl, rfl, ⟨fun i a1 a2 => (am_up_ne a1).trans (k1 i a1), fun k a1 a2 a3 => (up_ne a2).trans (k2 k a1)⟩, k1 123 (by decide), k2 13 (by decide), k3, rfl⟩
    · have h9 : skP tx n a < n := Nat.lt_of_not_le (fun q => c_8 (nI_le q (by omega)))
      have hne : ¬ tx (skP tx n a) = 32 := s4 h9
      have hTk := hT (skP tx n a) h9
      refine ac_aload_n 12 dX8_skips_11 rfl rfl ?_
      refine ac_getO 15 129 dX8_skips_12 rfl fl8_32 ob121 rfl ?_
      refine ac_aload_n 16 dX8_skips_15 rfl rfl ?_
      refine ac_getI 19 dX8_skips_16 rfl fl8_57 ob121 ?_
      rw [show (M1 121 11) = (nI (skP tx n a)) from k3]
      refine ac_iald 20 dX8_skips_19 rfl ar129 (ix_nI (by omega) (by decide)) ?_
      rw [show (M1 129 (skP tx n a)) = (nI (tx (skP tx n a))) from (by rw [k1 129 (by decide)]; exact hTk.1)]
      refine ac_bipush 22 32 dX8_skips_20 rfl (by decide) ?_
      refine ac_icmp_ne 38 25 dX8_skips_22 (by decide) rfl (fun _ => ?_) (fun c_22 => absurd c_22 (fun q => hne ((nI_eq (b := 32) (by omega) (by decide)).mp q)))
      refine ac_aload_n 39 dX8_skips_38 rfl rfl ?_
      refine ac_aload_n 40 dX8_skips_39 rfl rfl ?_
      refine ac_getI 43 dX8_skips_40 rfl fl8_57 ob121 ?_
      rw [show (M1 121 11) = (nI (skP tx n a)) from k3]
      refine ac_putI 46 dX8_skips_43 rfl fl8_64 rfl rfl ob121 ?_
      refine ac_vret dX8_skips_46 rfl ?_
      exact ⟨rfl, rfl, rfl, ⟨fun i a1 a2 => (am_up_ne a1).trans (k1 i a1), fun k a1 a2 a3 => (up_ne a2).trans (k2 k a1)⟩, k1 123 (by decide), k2 13 (by decide), k3, rfl⟩
  · intro k hk ih M1 hpr
    obtain ⟨k1, k2, k3, k4⟩ := hpr
    have k10 : M1 121 10 = nI n := (k2 10 (by decide)).trans h10
    have s2b : skP tx n a ≤ n := s2
    have hk32 : tx k = 32 := s3 k k4 hk
    refine ac_aload_n 1 dX8_skips_0 rfl rfl ?_
    refine ac_getI 4 dX8_skips_1 rfl fl8_57 ob121 ?_
    rw [show (M1 121 11) = (nI k) from k3]
    refine ac_aload_n 5 dX8_skips_4 rfl rfl ?_
    refine ac_getI 8 dX8_skips_5 rfl fl8_61 ob121 ?_
    rw [show (M1 121 10) = (nI n) from k10]
    refine ac_icmp_ge 38 11 dX8_skips_8 (by decide) rfl (fun c_8 => absurd c_8 (nI_ge (by omega) (by omega))) (fun _ => ?_)
    refine ac_aload_n 12 dX8_skips_11 rfl rfl ?_
    refine ac_getO 15 129 dX8_skips_12 rfl fl8_32 ob121 rfl ?_
    refine ac_aload_n 16 dX8_skips_15 rfl rfl ?_
    refine ac_getI 19 dX8_skips_16 rfl fl8_57 ob121 ?_
    rw [show (M1 121 11) = (nI k) from k3]
    refine ac_iald 20 dX8_skips_19 rfl ar129 (ix_nI (by omega) (by decide)) ?_
    rw [show (M1 129 k) = (nI (tx k)) from (by rw [k1 129 (by decide)]; exact (hT k (by omega)).1)]
    refine ac_bipush 22 32 dX8_skips_20 rfl (by decide) ?_
    refine ac_icmp_ne 38 25 dX8_skips_22 (by decide) rfl (fun c_22 => absurd (by rw [hk32]; rfl) c_22) (fun _ => ?_)
    refine ac_aload_n 26 dX8_skips_25 rfl rfl ?_
    refine ac_dup 27 dX8_skips_26 rfl rfl ?_
    refine ac_getI 30 dX8_skips_27 rfl fl8_57 ob121 ?_
    rw [show (M1 121 11) = (nI k) from k3]
    refine ac_iconst 31 1 dX8_skips_30 rfl (by decide) ?_
    refine ac_iadd 32 dX8_skips_31 rfl ?_
    rw [show ((nI k) + 1) = (nI (k + 1)) from (nI_1 _)]
    refine ac_putI 35 dX8_skips_32 rfl fl8_57 rfl rfl ob121 ?_
    refine ac_goto 0 dX8_skips_35 (by decide) ?_
    exact ih _ ⟨fun i hi => (am_up_ne hi).trans (k1 i hi), fun j hj => (up_ne hj).trans (k2 j hj), rfl, by omega⟩
theorem c8_isAt2 {M : am_I} {V : am_J} {f : Nat → Option Nat} {tx : Nat → Nat} {n a : Nat} (hP : RP M tx n a) (lo hi : Nat) (h1 : lo ≤ 255) (h2 : hi ≤ 255) : CT m8_isAt 2 [.ref 121, .int (nI lo), .int (nI hi)] M V f (RV (bi (a < n ∧ lo ≤ tx a ∧ tx a ≤ hi)) M V f) := by
  have h := c8_isAt (V := V) (f := f) hP (nI lo) (nI hi)
  rw [bi_congr (show (a < n ∧ nI lo ≤ nI (tx a) ∧ nI (tx a) ≤ nI hi) ↔ (a < n ∧ lo ≤ tx a ∧ tx a ≤ hi) from and_congr_right (fun q => by
    have h9 := (hP.2.2.2.2 a q).2
    rw [nI_leI (by omega) (by omega), nI_leI (by omega) (by omega)]))] at h
  exact h
theorem nrw_bi {p : Prop} : narrow FieldType.boolean (Value.int (bi p)) = Value.int (bi p) := by
  rcases bi_cases p with ⟨_, e⟩ | ⟨_, e⟩ <;> rw [e] <;> rfl
theorem nI_subN {a b : Nat} (h : b ≤ a) : nI a - nI b = nI (a - b) := by
  rw [show a = (a - b) + b by omega, ← nI_add, show a - b + b - b = a - b by omega]
  exact Int32.add_sub_cancel _ _
theorem skP_le {tx : Nat → Nat} {n a : Nat} (h : a ≤ n) : a ≤ skP tx n a ∧ skP tx n a ≤ n := ⟨(rnE_spec _ n a h).1, (rnE_spec _ n a h).2.1⟩
/-- a number at the next place: its value, its end, whether it is one of these bounds -/
noncomputable def nmE (tx : Nat → Nat) (n a : Nat) : Nat := fgP tx n (skP tx n a)
noncomputable def nmV (tx : Nat → Nat) (n a : Nat) : Nat := vlP tx (skP tx n a) (nmE tx n a - skP tx n a)
def nmO (tx : Nat → Nat) (n a : Nat) (lo hi : Int32) : Prop := skP tx n a < nmE tx n a ∧ nmV tx n a ≤ 99 ∧ (nmE tx n a = skP tx n a + 1 ∨ tx (skP tx n a) ≠ 48) ∧ lo ≤ nI (nmV tx n a) ∧ nI (nmV tx n a) ≤ hi
/-- the number as the reference counts it -/
def vrP (tx : Nat → Nat) (s : Nat) : Nat → Nat
  | 0 => 0
  | k + 1 => if 99 < vrP tx s k then 100 else 10 * vrP tx s k + (tx (s + k) - 48)
theorem vr_vl {tx : Nat → Nat} {s : Nat} : ∀ k, (∀ j, j < k → isF tx (s + j)) → (vrP tx s k ≤ 99 ∧ vrP tx s k = vlP tx s k) ∨ (99 < vrP tx s k ∧ vrP tx s k ≤ 999 ∧ vlP tx s k = 100)
  | 0, _ => Or.inl ⟨Nat.zero_le _, rfl⟩
  | k + 1, h => by
    have h1 := vr_vl k (fun j hj => h j (by omega))
    have h2 := h k (by omega)
    unfold isF at h2
    have e1 : vrP tx s (k + 1) = if 99 < vrP tx s k then 100 else 10 * vrP tx s k + (tx (s + k) - 48) := rfl
    have e2 : vlP tx s (k + 1) = if 99 < 10 * vlP tx s k + (tx (s + k) - 48) then 100 else 10 * vlP tx s k + (tx (s + k) - 48) := rfl
    rw [e1, e2]
    rcases h1 with ⟨q1, q2⟩ | ⟨q1, q2, q3⟩
    · rw [if_neg (by omega), q2]
      rw [q2] at q1
      by_cases hc : 99 < 10 * vlP tx s k + (tx (s + k) - 48)
      · rw [if_pos hc]; right; exact ⟨hc, by omega, rfl⟩
      · rw [if_neg hc]; left; exact ⟨by omega, rfl⟩
    · rw [if_pos q1, q3, if_pos (by omega)]
      right; exact ⟨by decide, by decide, rfl⟩
set_option maxRecDepth 20000 in
theorem c8_passesEnd {M : am_I} {V : am_J} {f : Nat → Option Nat} {tx : Nat → Nat} {n a : Nat} (hP : RP M tx n a) : CT m8_passesEnd 3 [Value.ref 121] M V f (fun v M' V' f' => v = some (.int (bi ((skP tx n a) < n ∧ tx (skP tx n a) = 59))) ∧ V' = V ∧ f' = f ∧ KP M M' ∧ M' 123 = M 123 ∧ M' 121 13 = M 121 13 ∧ M' 121 12 = nI (skP tx n a) ∧ (((skP tx n a) < n ∧ tx (skP tx n a) = 59) → M' 121 11 = nI ((skP tx n a) + 1))) := by
  obtain ⟨h10, hn, h11, ha, hT⟩ := id hP
  refine CT.of m8_passesEnd_V.1 _ (en_a_2 121) ?_
  refine ac_aload_n 1 dX8_passesEnd_0 rfl rfl ?_
  refine ac_callVg (μ' := m8_skips) 4 dX8_passesEnd_1 rfl lk8_71 m8_skips_V ob121 (c8_skips hP) rfl rfl (by decide) (Nat.le_of_ble_eq_true rfl) (fun v0 Ma V0 f0 h9 => ?_)
  obtain ⟨a1, a2, a3, a4, a5, a6, a7, a8⟩ := h9
  subst a1
  obtain rfl := a2.symm
  obtain rfl := a3.symm
  have hPa : RP Ma tx n (skP tx n a) := hP.next a4 a7 (skP_le ha).2
  refine ac_aload_n 5 dX8_passesEnd_4 rfl rfl ?_
  refine ac_bipush 7 59 dX8_passesEnd_5 rfl (by decide) ?_
  refine ac_bipush 9 59 dX8_passesEnd_7 rfl (by decide) ?_
  refine ac_callV (μ' := m8_isAt) 12 dX8_passesEnd_9 rfl lk8_74 m8_isAt_V ob121 (c8_isAt2 hPa 59 59 (by decide) (by decide)) rfl rfl (by decide) (Nat.le_of_ble_eq_true rfl) ?_
  rw [show (bi ((skP tx n a) < n ∧ 59 ≤ tx (skP tx n a) ∧ tx (skP tx n a) ≤ 59)) = (bi ((skP tx n a) < n ∧ tx (skP tx n a) = 59)) from (bi_congr (and_congr_right (fun _ => ⟨fun q => Nat.le_antisymm q.2 q.1, fun q => ⟨Nat.le_of_eq q.symm, Nat.le_of_eq q⟩⟩)))]
  refine ac_istore_n 13 [some (Value.ref 121), some (Value.int (bi ((skP tx n a) < n ∧ tx (skP tx n a) = 59)))] dX8_passesEnd_12 rfl rfl (Nat.le_of_ble_eq_true rfl) (by decide) rfl ?_
  refine ac_aload_n 14 dX8_passesEnd_13 rfl rfl ?_
  refine ac_dup 15 dX8_passesEnd_14 rfl rfl ?_
  refine ac_getI 18 dX8_passesEnd_15 rfl fl8_57 ob121 ?_
  rw [show (Ma 121 11) = (nI (skP tx n a)) from a7]
  refine ac_iload_n 19 dX8_passesEnd_18 rfl rfl ?_
  refine ac_if_eq 26 22 dX8_passesEnd_19 (by decide) rfl (fun c_19 => ?_) (fun c_19 => ?_)
  · refine ac_iconst 27 0 dX8_passesEnd_26 rfl (by decide) ?_
    refine ac_iadd 28 dX8_passesEnd_27 rfl ?_
    refine ac_putI 31 dX8_passesEnd_28 rfl fl8_57 rfl rfl ob121 ?_
    refine ac_iload_n 32 dX8_passesEnd_31 rfl rfl ?_
    refine ac_iret dX8_passesEnd_32 ⟨_, rfl, nrw_bi⟩ ?_
    refine ⟨rfl, rfl, rfl, ⟨fun i z1 z2 => (am_up_ne z1).trans (a4.1 i z1 z2), fun k z1 z2 z3 => (up_ne z1).trans (a4.2 k z1 z2 z3)⟩, a5, a6, a8, fun h => ?_⟩
    exact absurd h (bi_eq0.mp c_19)
  · refine ac_iconst 23 1 dX8_passesEnd_22 rfl (by decide) ?_
    refine ac_goto 27 dX8_passesEnd_23 (by decide) ?_
    refine ac_iadd 28 dX8_passesEnd_27 rfl ?_
    rw [show ((nI (skP tx n a)) + 1) = (nI ((skP tx n a) + 1)) from (nI_1 _)]
    refine ac_putI 31 dX8_passesEnd_28 rfl fl8_57 rfl rfl ob121 ?_
    refine ac_iload_n 32 dX8_passesEnd_31 rfl rfl ?_
    refine ac_iret dX8_passesEnd_32 ⟨_, rfl, nrw_bi⟩ ?_
    refine ⟨rfl, rfl, rfl, ⟨fun i z1 z2 => (am_up_ne z1).trans (a4.1 i z1 z2), fun k z1 z2 z3 => (up_ne z1).trans (a4.2 k z1 z2 z3)⟩, a5, a6, a8, fun h => ?_⟩
    rfl
set_option maxRecDepth 20000 in
theorem c8_puts {M : am_I} {V : am_J} {f : Nat → Option Nat} {tx : Nat → Nat} {n a : Nat} (hP : RP M tx n a) {q : Nat} (hq : q < 69) (lo hi : Int32) : CT m8_puts 3 [Value.ref 121, Value.int (nI q), Value.int lo, Value.int hi] M V f (fun v M' V' f' => v = some (.int (bi (nmO tx n a lo hi))) ∧ V' = V ∧ f' = f ∧ KP M M' ∧ M' 121 13 = M 121 13 ∧ M' 121 12 = nI (skP tx n a) ∧ (nmO tx n a lo hi → M' 121 11 = nI (nmE tx n a) ∧ M' 123 = fun j => if j = q then nI (nmV tx n a) else M 123 j)) := by
  obtain ⟨h10, hn, h11, ha, hT⟩ := id hP
  have hs9 := skP_le (tx := tx) ha
  obtain ⟨f1, f2, f3, f4⟩ := rnE_spec (isF tx) n (skP tx n a) hs9.2
  have f1 : skP tx n a ≤ nmE tx n a := f1
  have f2 : nmE tx n a ≤ n := f2
  have f3 : ∀ y, skP tx n a ≤ y → y < nmE tx n a → isF tx y := f3
  have f4 : nmE tx n a < n → ¬ isF tx (nmE tx n a) := f4
  refine CT.of m8_puts_V.1 _ (en_aiii_6 121 (nI q) lo hi) ?_
  refine ac_aload_n 1 dX8_puts_0 rfl rfl ?_
  refine ac_callVg (μ' := m8_skips) 4 dX8_puts_1 rfl lk8_71 m8_skips_V ob121 (c8_skips hP) rfl rfl (by decide) (Nat.le_of_ble_eq_true rfl) (fun v0 Ma V0 f0 h9 => ?_)
  obtain ⟨a1, a2, a3, a4, a5, a6, a7, a8⟩ := h9
  subst a1
  obtain rfl := a2.symm
  obtain rfl := a3.symm
  have hPa : RP Ma tx n (skP tx n a) := hP.next a4 a7 (skP_le ha).2
  refine ac_iconst 5 0 dX8_puts_4 rfl (by decide) ?_
  refine ac_istore 7 [some (Value.ref 121), some (Value.int (nI q)), some (Value.int lo), some (Value.int hi), some (Value.int 0), none] dX8_puts_5 rfl rfl (Nat.le_of_ble_eq_true rfl) (by decide) rfl ?_
  refine ac_iconst 8 0 dX8_puts_7 rfl (by decide) ?_
  refine ac_istore 10 [some (Value.ref 121), some (Value.int (nI q)), some (Value.int lo), some (Value.int hi), some (Value.int 0), some (Value.int 0)] dX8_puts_8 rfl rfl (Nat.le_of_ble_eq_true rfl) (by decide) rfl ?_
  refine ac_down (n := ((nmE tx n a) - (skP tx n a))) (P := fun k => ∀ (M1 : am_I), ((∀ i, i ≠ 121 → M1 i = Ma i) ∧ (∀ j, j ≠ 11 → M1 121 j = Ma 121 j) ∧ M1 121 11 = nI ((skP tx n a) + k) ∧ (skP tx n a) + k ≤ n) → A0 m8_puts 3 10 [some (Value.ref 121), some (Value.int (nI q)), some (Value.int lo), some (Value.int hi), some (Value.int (nI (vrP tx (skP tx n a) k))), some (Value.int (nI k))] [] M1 V f (fun v M' V' f' => v = some (.int (bi (nmO tx n a lo hi))) ∧ V' = V ∧ f' = f ∧ KP M M' ∧ M' 121 13 = M 121 13 ∧ M' 121 12 = nI (skP tx n a) ∧ (nmO tx n a lo hi → M' 121 11 = nI (nmE tx n a) ∧ M' 123 = fun j => if j = q then nI (nmV tx n a) else M 123 j))) ?_ ?_ 0 (Nat.zero_le _) Ma ⟨fun _ _ => rfl, fun _ _ => rfl, a7, (skP_le ha).2⟩
  · intro M1 hpr
    obtain ⟨k1, k2, k3, k4⟩ := hpr
    have hP1 : RP M1 tx n ((skP tx n a) + ((nmE tx n a) - (skP tx n a))) := hPa.next ⟨fun i z1 _ => k1 i z1, fun j z1 _ _ => k2 j z1⟩ k3 k4
    have hvv := vr_vl (tx := tx) (s := (skP tx n a)) ((nmE tx n a) - (skP tx n a)) (fun j hj => f3 _ (by omega) (by omega))
    have hmk : M1 121 12 = nI (skP tx n a) := (k2 12 (by decide)).trans a8
    refine ac_aload_n 11 dX8_puts_10 rfl rfl ?_
    refine ac_bipush 13 48 dX8_puts_11 rfl (by decide) ?_
    refine ac_bipush 15 57 dX8_puts_13 rfl (by decide) ?_
    refine ac_callV (μ' := m8_isAt) 18 dX8_puts_15 rfl lk8_74 m8_isAt_V ob121 (c8_isAt2 hP1 48 57 (by decide) (by decide)) rfl rfl (by decide) (Nat.le_of_ble_eq_true rfl) ?_
    refine ac_if_eq 69 21 dX8_puts_18 (by decide) rfl (fun _ => ?_) (fun c_18 => absurd (bi_f (fun q => by
      have e9 : (skP tx n a) + ((nmE tx n a) - (skP tx n a)) = (nmE tx n a) := by omega
      rw [e9] at q
      exact f4 q.1 q.2)) c_18)
    refine ac_aload_n 70 dX8_puts_69 rfl rfl ?_
    refine ac_getO 73 123 dX8_puts_70 rfl fl8_13 ob121 rfl ?_
    refine ac_iload_n 74 dX8_puts_73 rfl rfl ?_
    refine ac_iload 76 dX8_puts_74 rfl rfl ?_
    refine ac_iast 77 dX8_puts_76 rfl ar123 (ix_nI (by omega) (by decide)) ?_
    refine ac_iload 79 dX8_puts_77 rfl rfl ?_
    refine ac_if_le 123 82 dX8_puts_79 (by decide) rfl (fun c_79 => ?_) (fun c_79 => ?_)
    · have hno : ¬ nmO tx n a lo hi := fun q => by
        have := (nI_leI (b := 0) (by omega) (by decide)).mp c_79
        have := q.1
        omega
      refine ac_iconst 124 0 dX8_puts_123 rfl (by decide) ?_
      refine ac_iret dX8_puts_124 ⟨_, rfl, rfl⟩ ?_
      refine ⟨?_, rfl, rfl, ⟨fun i z1 z2 => (am_up_ne z2).trans ((k1 i z1).trans (a4.1 i z1 z2)), fun k z1 z2 z3 => (k2 k z1).trans (a4.2 k z1 z2 z3)⟩, (k2 13 (by decide)).trans a6, (k2 12 (by decide)).trans a8, fun h => ⟨?_, ?_⟩⟩
      · rw [bi_f (p := nmO tx n a lo hi) hno]
      · have e9 : (skP tx n a) + ((nmE tx n a) - (skP tx n a)) = (nmE tx n a) := by omega
        exact k3.trans (by rw [e9])
      · have e9 : (vrP tx (skP tx n a) ((nmE tx n a) - (skP tx n a))) = nmV tx n a := by
          have h2 : nmV tx n a ≤ 99 := h.2.1
          have h3 : vlP tx (skP tx n a) ((nmE tx n a) - (skP tx n a)) = nmV tx n a := rfl
          omega
        rw [show (am_up M1 123 q (nI (vrP tx (skP tx n a) ((nmE tx n a) - (skP tx n a))))) 123 = (fun j => if j = q then nI (vrP tx (skP tx n a) ((nmE tx n a) - (skP tx n a))) else M1 123 j) from am_up_self, k1 123 (by decide), a5, e9]
    · have hse : (skP tx n a) < (nmE tx n a) := by
        have : ¬ ((nmE tx n a) - (skP tx n a)) ≤ 0 := fun q => c_79 (nI_le (b := 0) q (by decide))
        omega
      refine ac_iload 84 dX8_puts_82 rfl rfl ?_
      refine ac_bipush 86 99 dX8_puts_84 rfl (by decide) ?_
      refine ac_icmp_gt 123 89 dX8_puts_86 (by decide) rfl (fun c_86 => ?_) (fun c_86 => ?_)
      · have hno : ¬ nmO tx n a lo hi := fun q => by
          have h1 := (nI_ltI (a := 99) (by decide) (by omega)).mp c_86
          have h2 : vlP tx (skP tx n a) ((nmE tx n a) - (skP tx n a)) ≤ 99 := q.2.1
          omega
        refine ac_iconst 124 0 dX8_puts_123 rfl (by decide) ?_
        refine ac_iret dX8_puts_124 ⟨_, rfl, rfl⟩ ?_
        refine ⟨?_, rfl, rfl, ⟨fun i z1 z2 => (am_up_ne z2).trans ((k1 i z1).trans (a4.1 i z1 z2)), fun k z1 z2 z3 => (k2 k z1).trans (a4.2 k z1 z2 z3)⟩, (k2 13 (by decide)).trans a6, (k2 12 (by decide)).trans a8, fun h => ⟨?_, ?_⟩⟩
        · rw [bi_f (p := nmO tx n a lo hi) hno]
        · have e9 : (skP tx n a) + ((nmE tx n a) - (skP tx n a)) = (nmE tx n a) := by omega
          exact k3.trans (by rw [e9])
        · have e9 : (vrP tx (skP tx n a) ((nmE tx n a) - (skP tx n a))) = nmV tx n a := by
            have h2 : nmV tx n a ≤ 99 := h.2.1
            have h3 : vlP tx (skP tx n a) ((nmE tx n a) - (skP tx n a)) = nmV tx n a := rfl
            omega
          rw [show (am_up M1 123 q (nI (vrP tx (skP tx n a) ((nmE tx n a) - (skP tx n a))))) 123 = (fun j => if j = q then nI (vrP tx (skP tx n a) ((nmE tx n a) - (skP tx n a))) else M1 123 j) from am_up_self, k1 123 (by decide), a5, e9]
      · have h99 : (vrP tx (skP tx n a) ((nmE tx n a) - (skP tx n a))) ≤ 99 := Nat.le_of_not_lt (fun q => c_86 (nI_lt (a := 99) q (by omega)))
        have hvv : nmV tx n a = (vrP tx (skP tx n a) ((nmE tx n a) - (skP tx n a))) := by
          show vlP tx (skP tx n a) ((nmE tx n a) - (skP tx n a)) = _
          omega
        refine ac_iload 91 dX8_puts_89 rfl rfl ?_
        refine ac_iconst 92 1 dX8_puts_91 rfl (by decide) ?_
        refine ac_icmp_eq 109 95 dX8_puts_92 (by decide) rfl (fun c_92 => ?_) (fun c_92 => ?_)
        · have hz : (nmE tx n a) = (skP tx n a) + 1 ∨ tx (skP tx n a) ≠ 48 := Or.inl (by
            have := (nI_eq (b := 1) (by omega) (by decide)).mp c_92
            omega)
          refine ac_iload 111 dX8_puts_109 rfl rfl ?_
          refine ac_iload_n 112 dX8_puts_111 rfl rfl ?_
          refine ac_iload_n 113 dX8_puts_112 rfl rfl ?_
          refine ac_callS (μ' := m8_within) 116 dX8_puts_113 rfl lk8_67 m8_within_S (c8_within _ _ _) rfl rfl (by decide) (Nat.le_of_ble_eq_true rfl) ?_
          refine ac_if_eq 123 119 dX8_puts_116 (by decide) rfl (fun c_116 => ?_) (fun c_116 => ?_)
          · have hno : ¬ nmO tx n a lo hi := fun q => bi_eq0.mp c_116 (by rw [← hvv]; exact q.2.2.2)
            refine ac_iconst 124 0 dX8_puts_123 rfl (by decide) ?_
            refine ac_iret dX8_puts_124 ⟨_, rfl, rfl⟩ ?_
            refine ⟨?_, rfl, rfl, ⟨fun i z1 z2 => (am_up_ne z2).trans ((k1 i z1).trans (a4.1 i z1 z2)), fun k z1 z2 z3 => (k2 k z1).trans (a4.2 k z1 z2 z3)⟩, (k2 13 (by decide)).trans a6, (k2 12 (by decide)).trans a8, fun h => ⟨?_, ?_⟩⟩
            · rw [bi_f (p := nmO tx n a lo hi) hno]
            · have e9 : (skP tx n a) + ((nmE tx n a) - (skP tx n a)) = (nmE tx n a) := by omega
              exact k3.trans (by rw [e9])
            · have e9 : (vrP tx (skP tx n a) ((nmE tx n a) - (skP tx n a))) = nmV tx n a := by
                have h2 : nmV tx n a ≤ 99 := h.2.1
                have h3 : vlP tx (skP tx n a) ((nmE tx n a) - (skP tx n a)) = nmV tx n a := rfl
                omega
              rw [show (am_up M1 123 q (nI (vrP tx (skP tx n a) ((nmE tx n a) - (skP tx n a))))) 123 = (fun j => if j = q then nI (vrP tx (skP tx n a) ((nmE tx n a) - (skP tx n a))) else M1 123 j) from am_up_self, k1 123 (by decide), a5, e9]
          · refine ac_iconst 120 1 dX8_puts_119 rfl (by decide) ?_
            refine ac_goto 124 dX8_puts_120 (by decide) ?_
            refine ac_iret dX8_puts_124 ⟨_, rfl, rfl⟩ ?_
            refine ⟨?_, rfl, rfl, ⟨fun i z1 z2 => (am_up_ne z2).trans ((k1 i z1).trans (a4.1 i z1 z2)), fun k z1 z2 z3 => (k2 k z1).trans (a4.2 k z1 z2 z3)⟩, (k2 13 (by decide)).trans a6, (k2 12 (by decide)).trans a8, fun h => ⟨?_, ?_⟩⟩
            · rw [bi_t (p := nmO tx n a lo hi) ⟨hse, by rw [hvv]; omega, hz, by rw [hvv]; exact bi_ne0.mp c_116⟩]
            · have e9 : (skP tx n a) + ((nmE tx n a) - (skP tx n a)) = (nmE tx n a) := by omega
              exact k3.trans (by rw [e9])
            · have e9 : (vrP tx (skP tx n a) ((nmE tx n a) - (skP tx n a))) = nmV tx n a := by
                have h2 : nmV tx n a ≤ 99 := h.2.1
                have h3 : vlP tx (skP tx n a) ((nmE tx n a) - (skP tx n a)) = nmV tx n a := rfl
                omega
              rw [show (am_up M1 123 q (nI (vrP tx (skP tx n a) ((nmE tx n a) - (skP tx n a))))) 123 = (fun j => if j = q then nI (vrP tx (skP tx n a) ((nmE tx n a) - (skP tx n a))) else M1 123 j) from am_up_self, k1 123 (by decide), a5, e9]
        · have h1z : ¬ (nmE tx n a) = (skP tx n a) + 1 := fun q => c_92 (by rw [show ((nmE tx n a) - (skP tx n a)) = 1 by omega]; rfl)
          have htl := (hP1.2.2.2.2 (skP tx n a) (by omega)).2
          refine ac_aload_n 96 dX8_puts_95 rfl rfl ?_
          refine ac_getO 99 129 dX8_puts_96 rfl fl8_32 ob121 rfl ?_
          refine ac_aload_n 100 dX8_puts_99 rfl rfl ?_
          refine ac_getI 103 dX8_puts_100 rfl fl8_64 ob121 ?_
          rw [show ((am_up M1 123 q (nI (vrP tx (skP tx n a) ((nmE tx n a) - (skP tx n a))))) 121 12) = (M1 121 12) from rfl]
          rw [show (M1 121 12) = (nI (skP tx n a)) from hmk]
          refine ac_iald 104 dX8_puts_103 rfl ar129 (ix_nI (by omega) (by decide)) ?_
          rw [show ((am_up M1 123 q (nI (vrP tx (skP tx n a) ((nmE tx n a) - (skP tx n a))))) 129 (skP tx n a)) = (M1 129 (skP tx n a)) from rfl]
          rw [show (M1 129 (skP tx n a)) = (nI (tx (skP tx n a))) from (hP1.2.2.2.2 _ (by omega)).1]
          refine ac_bipush 106 48 dX8_puts_104 rfl (by decide) ?_
          refine ac_icmp_eq 123 109 dX8_puts_106 (by decide) rfl (fun c_106 => ?_) (fun c_106 => ?_)
          · have hno : ¬ nmO tx n a lo hi := fun q => by
              have h1 := (nI_eq (b := 48) (by omega) (by decide)).mp c_106
              rcases q.2.2.1 with q1 | q1
              · exact h1z q1
              · exact q1 h1
            refine ac_iconst 124 0 dX8_puts_123 rfl (by decide) ?_
            refine ac_iret dX8_puts_124 ⟨_, rfl, rfl⟩ ?_
            refine ⟨?_, rfl, rfl, ⟨fun i z1 z2 => (am_up_ne z2).trans ((k1 i z1).trans (a4.1 i z1 z2)), fun k z1 z2 z3 => (k2 k z1).trans (a4.2 k z1 z2 z3)⟩, (k2 13 (by decide)).trans a6, (k2 12 (by decide)).trans a8, fun h => ⟨?_, ?_⟩⟩
            · rw [bi_f (p := nmO tx n a lo hi) hno]
            · have e9 : (skP tx n a) + ((nmE tx n a) - (skP tx n a)) = (nmE tx n a) := by omega
              exact k3.trans (by rw [e9])
            · have e9 : (vrP tx (skP tx n a) ((nmE tx n a) - (skP tx n a))) = nmV tx n a := by
                have h2 : nmV tx n a ≤ 99 := h.2.1
                have h3 : vlP tx (skP tx n a) ((nmE tx n a) - (skP tx n a)) = nmV tx n a := rfl
                omega
              rw [show (am_up M1 123 q (nI (vrP tx (skP tx n a) ((nmE tx n a) - (skP tx n a))))) 123 = (fun j => if j = q then nI (vrP tx (skP tx n a) ((nmE tx n a) - (skP tx n a))) else M1 123 j) from am_up_self, k1 123 (by decide), a5, e9]
          · have hz : (nmE tx n a) = (skP tx n a) + 1 ∨ tx (skP tx n a) ≠ 48 := Or.inr (fun q => c_106 (by rw [q]; rfl))
            refine ac_iload 111 dX8_puts_109 rfl rfl ?_
            refine ac_iload_n 112 dX8_puts_111 rfl rfl ?_
            refine ac_iload_n 113 dX8_puts_112 rfl rfl ?_
            refine ac_callS (μ' := m8_within) 116 dX8_puts_113 rfl lk8_67 m8_within_S (c8_within _ _ _) rfl rfl (by decide) (Nat.le_of_ble_eq_true rfl) ?_
            refine ac_if_eq 123 119 dX8_puts_116 (by decide) rfl (fun c_116 => ?_) (fun c_116 => ?_)
            · have hno : ¬ nmO tx n a lo hi := fun q => bi_eq0.mp c_116 (by rw [← hvv]; exact q.2.2.2)
              refine ac_iconst 124 0 dX8_puts_123 rfl (by decide) ?_
              refine ac_iret dX8_puts_124 ⟨_, rfl, rfl⟩ ?_
              refine ⟨?_, rfl, rfl, ⟨fun i z1 z2 => (am_up_ne z2).trans ((k1 i z1).trans (a4.1 i z1 z2)), fun k z1 z2 z3 => (k2 k z1).trans (a4.2 k z1 z2 z3)⟩, (k2 13 (by decide)).trans a6, (k2 12 (by decide)).trans a8, fun h => ⟨?_, ?_⟩⟩
              · rw [bi_f (p := nmO tx n a lo hi) hno]
              · have e9 : (skP tx n a) + ((nmE tx n a) - (skP tx n a)) = (nmE tx n a) := by omega
                exact k3.trans (by rw [e9])
              · have e9 : (vrP tx (skP tx n a) ((nmE tx n a) - (skP tx n a))) = nmV tx n a := by
                  have h2 : nmV tx n a ≤ 99 := h.2.1
                  have h3 : vlP tx (skP tx n a) ((nmE tx n a) - (skP tx n a)) = nmV tx n a := rfl
                  omega
                rw [show (am_up M1 123 q (nI (vrP tx (skP tx n a) ((nmE tx n a) - (skP tx n a))))) 123 = (fun j => if j = q then nI (vrP tx (skP tx n a) ((nmE tx n a) - (skP tx n a))) else M1 123 j) from am_up_self, k1 123 (by decide), a5, e9]
            · refine ac_iconst 120 1 dX8_puts_119 rfl (by decide) ?_
              refine ac_goto 124 dX8_puts_120 (by decide) ?_
              refine ac_iret dX8_puts_124 ⟨_, rfl, rfl⟩ ?_
              refine ⟨?_, rfl, rfl, ⟨fun i z1 z2 => (am_up_ne z2).trans ((k1 i z1).trans (a4.1 i z1 z2)), fun k z1 z2 z3 => (k2 k z1).trans (a4.2 k z1 z2 z3)⟩, (k2 13 (by decide)).trans a6, (k2 12 (by decide)).trans a8, fun h => ⟨?_, ?_⟩⟩
              · rw [bi_t (p := nmO tx n a lo hi) ⟨hse, by rw [hvv]; omega, hz, by rw [hvv]; exact bi_ne0.mp c_116⟩]
              · have e9 : (skP tx n a) + ((nmE tx n a) - (skP tx n a)) = (nmE tx n a) := by omega
                exact k3.trans (by rw [e9])
              · have e9 : (vrP tx (skP tx n a) ((nmE tx n a) - (skP tx n a))) = nmV tx n a := by
                  have h2 : nmV tx n a ≤ 99 := h.2.1
                  have h3 : vlP tx (skP tx n a) ((nmE tx n a) - (skP tx n a)) = nmV tx n a := rfl
                  omega
                rw [show (am_up M1 123 q (nI (vrP tx (skP tx n a) ((nmE tx n a) - (skP tx n a))))) 123 = (fun j => if j = q then nI (vrP tx (skP tx n a) ((nmE tx n a) - (skP tx n a))) else M1 123 j) from am_up_self, k1 123 (by decide), a5, e9]
  · intro k hk ih M1 hpr
    obtain ⟨k1, k2, k3, k4⟩ := hpr
    have hP1 : RP M1 tx n ((skP tx n a) + k) := hPa.next ⟨fun i z1 _ => k1 i z1, fun j z1 _ _ => k2 j z1⟩ k3 k4
    have hfk : isF tx ((skP tx n a) + k) := f3 _ (by omega) (by omega)
    have hT1 := hP1.2.2.2.2 ((skP tx n a) + k) (by omega)
    have hvr := vr_vl (tx := tx) (s := (skP tx n a)) k (fun j hj => f3 _ (by omega) (by omega))
    have hvr9 : (vrP tx (skP tx n a) k) ≤ 999 := by omega
    have hf1 := hfk.1
    have hf2 := hfk.2
    refine ac_aload_n 11 dX8_puts_10 rfl rfl ?_
    refine ac_bipush 13 48 dX8_puts_11 rfl (by decide) ?_
    refine ac_bipush 15 57 dX8_puts_13 rfl (by decide) ?_
    refine ac_callV (μ' := m8_isAt) 18 dX8_puts_15 rfl lk8_74 m8_isAt_V ob121 (c8_isAt2 hP1 48 57 (by decide) (by decide)) rfl rfl (by decide) (Nat.le_of_ble_eq_true rfl) ?_
    refine ac_if_eq 69 21 dX8_puts_18 (by decide) rfl (fun c_18 => absurd c_18 (by rw [bi_t (show _ ∧ _ ∧ _ from ⟨by omega, hf1, hf2⟩)]; decide)) (fun _ => ?_)
    refine ac_iload 23 dX8_puts_21 rfl rfl ?_
    refine ac_bipush 25 99 dX8_puts_23 rfl (by decide) ?_
    refine ac_icmp_le 33 28 dX8_puts_25 (by decide) rfl (fun c_25 => ?_) (fun c_25 => ?_)
    · have h99 : ¬ 99 < (vrP tx (skP tx n a) k) := fun q => absurd ((nI_leI (b := 99) (by omega) (by decide)).mp c_25) (by omega)
      refine ac_bipush 35 10 dX8_puts_33 rfl (by decide) ?_
      refine ac_iload 37 dX8_puts_35 rfl rfl ?_
      refine ac_imul 38 dX8_puts_37 rfl ?_
      refine ac_aload_n 39 dX8_puts_38 rfl rfl ?_
      refine ac_getO 42 129 dX8_puts_39 rfl fl8_32 ob121 rfl ?_
      refine ac_aload_n 43 dX8_puts_42 rfl rfl ?_
      refine ac_getI 46 dX8_puts_43 rfl fl8_57 ob121 ?_
      rw [show (M1 121 11) = (nI ((skP tx n a) + k)) from k3]
      refine ac_iald 47 dX8_puts_46 rfl ar129 (ix_nI (by omega) (by decide)) ?_
      rw [show (M1 129 ((skP tx n a) + k)) = (nI (tx ((skP tx n a) + k))) from hT1.1]
      refine ac_iadd 48 dX8_puts_47 rfl ?_
      refine ac_bipush 50 48 dX8_puts_48 rfl (by decide) ?_
      refine ac_isub 51 dX8_puts_50 rfl ?_
      rw [show (((10 * (nI (vrP tx (skP tx n a) k))) + (nI (tx ((skP tx n a) + k)))) - 48) = (nI (vrP tx (skP tx n a) (k + 1))) from (by
        have e9 : (vrP tx (skP tx n a) (k + 1)) = 10 * (vrP tx (skP tx n a) k) + tx ((skP tx n a) + k) - 48 := (if_neg h99).trans (by omega)
        rw [e9, ← nI_subN (by omega), ← nI_add, ← pk_mul]
        rfl)]
      refine ac_istore 53 [some (Value.ref 121), some (Value.int (nI q)), some (Value.int lo), some (Value.int hi), some (Value.int (nI (vrP tx (skP tx n a) (k + 1)))), some (Value.int (nI k))] dX8_puts_51 rfl rfl (Nat.le_of_ble_eq_true rfl) (by decide) rfl ?_
      refine ac_aload_n 54 dX8_puts_53 rfl rfl ?_
      refine ac_dup 55 dX8_puts_54 rfl rfl ?_
      refine ac_getI 58 dX8_puts_55 rfl fl8_57 ob121 ?_
      rw [show (M1 121 11) = (nI ((skP tx n a) + k)) from k3]
      refine ac_iconst 59 1 dX8_puts_58 rfl (by decide) ?_
      refine ac_iadd 60 dX8_puts_59 rfl ?_
      rw [show ((nI ((skP tx n a) + k)) + 1) = (nI ((skP tx n a) + (k + 1))) from (nI_1 _)]
      refine ac_putI 63 dX8_puts_60 rfl fl8_57 rfl rfl ob121 ?_
      refine ac_iinc 66 (nI (k + 1)) [some (Value.ref 121), some (Value.int (nI q)), some (Value.int lo), some (Value.int hi), some (Value.int (nI (vrP tx (skP tx n a) (k + 1)))), some (Value.int (nI (k + 1)))] dX8_puts_63 rfl rfl (nI_1 _) rfl (by decide) rfl ?_
      refine ac_goto 10 dX8_puts_66 (by decide) ?_
      exact ih _ ⟨fun i hi => (am_up_ne hi).trans (k1 i hi), fun j hj => (up_ne hj).trans (k2 j hj), rfl, by omega⟩
    · have h99 : 99 < (vrP tx (skP tx n a) k) := Nat.lt_of_not_le (fun q => c_25 (nI_le (b := 99) q (by decide)))
      refine ac_bipush 30 100 dX8_puts_28 rfl (by decide) ?_
      refine ac_goto 51 dX8_puts_30 (by decide) ?_
      refine ac_istore 53 [some (Value.ref 121), some (Value.int (nI q)), some (Value.int lo), some (Value.int hi), some (Value.int 100), some (Value.int (nI k))] dX8_puts_51 rfl rfl (Nat.le_of_ble_eq_true rfl) (by decide) rfl ?_
      refine ac_aload_n 54 dX8_puts_53 rfl rfl ?_
      refine ac_dup 55 dX8_puts_54 rfl rfl ?_
      refine ac_getI 58 dX8_puts_55 rfl fl8_57 ob121 ?_
      rw [show (M1 121 11) = (nI ((skP tx n a) + k)) from k3]
      refine ac_iconst 59 1 dX8_puts_58 rfl (by decide) ?_
      refine ac_iadd 60 dX8_puts_59 rfl ?_
      rw [show ((nI ((skP tx n a) + k)) + 1) = (nI ((skP tx n a) + (k + 1))) from (nI_1 _)]
      refine ac_putI 63 dX8_puts_60 rfl fl8_57 rfl rfl ob121 ?_
      refine ac_iinc 66 (nI (k + 1)) [some (Value.ref 121), some (Value.int (nI q)), some (Value.int lo), some (Value.int hi), some (Value.int 100), some (Value.int (nI (k + 1)))] dX8_puts_63 rfl rfl (nI_1 _) rfl (by decide) rfl ?_
      refine ac_goto 10 dX8_puts_66 (by decide) ?_
      have e9 : (vrP tx (skP tx n a) (k + 1)) = 100 := if_pos h99
      rw [e9] at ih
      exact ih _ ⟨fun i hi => (am_up_ne hi).trans (k1 i hi), fun j hj => (up_ne hj).trans (k2 j hj), rfl, by omega⟩
