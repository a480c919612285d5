/-! The reader: RD: the next token is at p. -/
def RD (M : am_I) (tx : Nat → Nat) (n m p : Nat) : Prop := TK M tx n m ∧ ∃ j, M 2 1 = nI j ∧ ((j ≤ m ∧ tsP tx n j = p) ∨ (j = m + 1 ∧ p = n ∧ M 2 2 = 0 ∧ M 2 3 = nI n))
theorem TK.keep {M M' : am_I} {tx : Nat → Nat} {n m : Nat} (h : TK M tx n m) (e3 : M' 3 = M 3) (e4 : M' 4 = M 4) (e5 : M' 5 = M 5) (e6 : M' 6 = M 6) : TK M' tx n m := by
  obtain ⟨h1, h2, h3, h4, h5, h6⟩ := h
  exact ⟨by rw [e3]; exact h1, h2, h3, fun i hi => by
    obtain ⟨q1, q2, q3, q4⟩ := h4 i hi
    exact ⟨q1, by rw [e4]; exact q2, by rw [e5]; exact q3, by rw [e6]; exact q4⟩, by rw [e4]; exact h5, by rw [e5]; exact h6⟩
theorem RD.keep {M M' : am_I} {tx : Nat → Nat} {n m p : Nat} (h : RD M tx n m p) (e : ∀ i, i ≤ 6 → M' i = M i) : RD M' tx n m p := by
  obtain ⟨h1, j, h2, h3⟩ := h
  refine ⟨h1.keep (e 3 (by decide)) (e 4 (by decide)) (e 5 (by decide)) (e 6 (by decide)), j, by rw [e 2 (by decide)]; exact h2, ?_⟩
  rw [e 2 (by decide)]
  exact h3
theorem RD.le {M : am_I} {tx : Nat → Nat} {n m p : Nat} (h : RD M tx n m p) : p ≤ n := by
  obtain ⟨h1, j, h2, ⟨h3, h4⟩ | ⟨-, h4, -⟩⟩ := h
  · by_cases hj : j < m
    · have := (h1.2.2.2.1 j hj).1; omega
    · have : j = m := by omega
      subst this
      have := h1.2.2.1; omega
  · omega
/-- one token read -/
def TQ (M : am_I) (tx : Nat → Nat) (n m p : Nat) (M' : am_I) : Prop := (∀ i, i ≠ 2 → M' i = M i) ∧ M' 2 5 = M 2 5 ∧ M' 2 3 = nI p ∧ (p < n → M' 2 2 = nI (kdP tx n p) ∧ M' 2 4 = nI (vtP tx n p) ∧ RD M' tx n m (skP tx n (teP tx n p))) ∧ (¬ p < n → M' 2 2 = 0 ∧ RD M' tx n m n)
set_option maxRecDepth 20000 in
theorem c2_tok1 {M : am_I} {V : am_J} {f : Nat → Option Nat} {j m : Nat} (hj : M 2 1 = nI j) (hs : M 3 3 = nI (m + 1)) (h : j ≤ m) (hm : m ≤ 120) : CT m2_readToken 1 [Value.ref 2] M V f (RM none (am_up (am_up (am_up (am_up M 2 2 (M 4 j)) 2 3 (M 5 j)) 2 4 (M 6 j)) 2 1 (nI (j + 1))) V f) := by
  refine CT.of m2_readToken_V.1 _ (en_a_1 2) ?_
  refine ac_aload_n 1 dX2_readToken_0 rfl rfl ?_
  refine ac_getI 4 dX2_readToken_1 rfl fl2_22 ob2 ?_
  rw [show (M 2 1) = (nI j) from hj]
  refine ac_if_lt 79 7 dX2_readToken_4 (by decide) rfl (fun c_4 => absurd c_4 (nI_pos (by omega))) (fun _ => ?_)
  refine ac_aload_n 8 dX2_readToken_7 rfl rfl ?_
  refine ac_getI 11 dX2_readToken_8 rfl fl2_22 ob2 ?_
  rw [show (M 2 1) = (nI j) from hj]
  refine ac_aload_n 12 dX2_readToken_11 rfl rfl ?_
  refine ac_getO 15 3 dX2_readToken_12 rfl fl2_12 ob2 rfl ?_
  refine ac_getI 18 dX2_readToken_15 rfl fl2_52 ob3 ?_
  rw [show (M 3 3) = (nI (m + 1)) from hs]
  refine ac_icmp_ge 79 21 dX2_readToken_18 (by decide) rfl (fun c_18 => absurd c_18 (nI_ge (by omega) (by omega))) (fun _ => ?_)
  refine ac_aload_n 22 dX2_readToken_21 rfl rfl ?_
  refine ac_aload_n 23 dX2_readToken_22 rfl rfl ?_
  refine ac_getO 26 3 dX2_readToken_23 rfl fl2_12 ob2 rfl ?_
  refine ac_getO 29 4 dX2_readToken_26 rfl fl2_55 ob3 rfl ?_
  refine ac_aload_n 30 dX2_readToken_29 rfl rfl ?_
  refine ac_getI 33 dX2_readToken_30 rfl fl2_22 ob2 ?_
  rw [show (M 2 1) = (nI j) from hj]
  refine ac_iald 34 dX2_readToken_33 rfl ar4 (ix_nI (by omega) (by decide)) ?_
  refine ac_putI 37 dX2_readToken_34 rfl fl2_38 rfl rfl ob2 ?_
  refine ac_aload_n 38 dX2_readToken_37 rfl rfl ?_
  refine ac_aload_n 39 dX2_readToken_38 rfl rfl ?_
  refine ac_getO 42 3 dX2_readToken_39 rfl fl2_12 ob2 rfl ?_
  refine ac_getO 45 5 dX2_readToken_42 rfl fl2_59 ob3 rfl ?_
  refine ac_aload_n 46 dX2_readToken_45 rfl rfl ?_
  refine ac_getI 49 dX2_readToken_46 rfl fl2_22 ob2 ?_
  rw [show ((am_up M 2 2 (M 4 j)) 2 1) = (M 2 1) from rfl]
  rw [show (M 2 1) = (nI j) from hj]
  refine ac_iald 50 dX2_readToken_49 rfl ar5 (ix_nI (by omega) (by decide)) ?_
  rw [show ((am_up M 2 2 (M 4 j)) 5 j) = (M 5 j) from rfl]
  refine ac_putI 53 dX2_readToken_50 rfl fl2_49 rfl rfl ob2 ?_
  refine ac_aload_n 54 dX2_readToken_53 rfl rfl ?_
  refine ac_aload_n 55 dX2_readToken_54 rfl rfl ?_
  refine ac_getO 58 3 dX2_readToken_55 rfl fl2_12 ob2 rfl ?_
  refine ac_getO 61 6 dX2_readToken_58 rfl fl2_62 ob3 rfl ?_
  refine ac_aload_n 62 dX2_readToken_61 rfl rfl ?_
  refine ac_getI 65 dX2_readToken_62 rfl fl2_22 ob2 ?_
  rw [show ((am_up (am_up M 2 2 (M 4 j)) 2 3 (M 5 j)) 2 1) = (M 2 1) from rfl]
  rw [show (M 2 1) = (nI j) from hj]
  refine ac_iald 66 dX2_readToken_65 rfl ar6 (ix_nI (by omega) (by decide)) ?_
  rw [show ((am_up (am_up M 2 2 (M 4 j)) 2 3 (M 5 j)) 6 j) = (M 6 j) from rfl]
  refine ac_putI 69 dX2_readToken_66 rfl fl2_65 rfl rfl ob2 ?_
  refine ac_aload_n 70 dX2_readToken_69 rfl rfl ?_
  refine ac_dup 71 dX2_readToken_70 rfl rfl ?_
  refine ac_getI 74 dX2_readToken_71 rfl fl2_22 ob2 ?_
  rw [show ((am_up (am_up (am_up M 2 2 (M 4 j)) 2 3 (M 5 j)) 2 4 (M 6 j)) 2 1) = (M 2 1) from rfl]
  rw [show (M 2 1) = (nI j) from hj]
  refine ac_iconst 75 1 dX2_readToken_74 rfl (by decide) ?_
  refine ac_iadd 76 dX2_readToken_75 rfl ?_
  rw [show ((nI j) + 1) = (nI (j + 1)) from (nI_1 j)]
  refine ac_putI 79 dX2_readToken_76 rfl fl2_22 rfl rfl ob2 ?_
  refine ac_vret dX2_readToken_79 rfl ?_
  exact rm_mk rfl
set_option maxRecDepth 20000 in
theorem c2_tok2 {M : am_I} {V : am_J} {f : Nat → Option Nat} {m : Nat} (hj : M 2 1 = nI (m + 1)) (hs : M 3 3 = nI (m + 1)) (hm : m ≤ 120) : CT m2_readToken 1 [Value.ref 2] M V f (RM none M V f) := by
  refine CT.of m2_readToken_V.1 _ (en_a_1 2) ?_
  refine ac_aload_n 1 dX2_readToken_0 rfl rfl ?_
  refine ac_getI 4 dX2_readToken_1 rfl fl2_22 ob2 ?_
  rw [show (M 2 1) = (nI (m + 1)) from hj]
  refine ac_if_lt 79 7 dX2_readToken_4 (by decide) rfl (fun c_4 => absurd c_4 (nI_pos (by omega))) (fun _ => ?_)
  refine ac_aload_n 8 dX2_readToken_7 rfl rfl ?_
  refine ac_getI 11 dX2_readToken_8 rfl fl2_22 ob2 ?_
  rw [show (M 2 1) = (nI (m + 1)) from hj]
  refine ac_aload_n 12 dX2_readToken_11 rfl rfl ?_
  refine ac_getO 15 3 dX2_readToken_12 rfl fl2_12 ob2 rfl ?_
  refine ac_getI 18 dX2_readToken_15 rfl fl2_52 ob3 ?_
  rw [show (M 3 3) = (nI (m + 1)) from hs]
  refine ac_icmp_ge 79 21 dX2_readToken_18 (by decide) rfl (fun _ => ?_) (fun c_18 => absurd (nI_le (Nat.le_refl _) (by omega)) c_18)
  refine ac_vret dX2_readToken_79 rfl ?_
  exact rm_mk rfl
theorem c2_tok {M : am_I} {V : am_J} {f : Nat → Option Nat} {tx : Nat → Nat} {n m p : Nat} (h : RD M tx n m p) : CT m2_readToken 1 [.ref 2] M V f (fun v M' V' f' => v = none ∧ V' = V ∧ f' = f ∧ TQ M tx n m p M') := by
  obtain ⟨h1, j, h2, h3⟩ := h
  have e : TK M tx n m := h1
  obtain ⟨t1, t2, t3, t4, t5, t6⟩ := h1
  rcases h3 with ⟨h3, h4⟩ | ⟨h3, h4, h5, h6⟩
  · refine (c2_tok1 h2 t1 h3 t2).weaken (fun v M' V' f' hh => ?_)
    obtain ⟨q1, q2, q3, q4⟩ := hh
    subst q2
    have ef : ∀ i, i ≠ 2 → (am_up (am_up (am_up (am_up M 2 2 (M 4 j)) 2 3 (M 5 j)) 2 4 (M 6 j)) 2 1 (nI (j + 1))) i = M i := fun i hi => by rw [am_up_ne hi, am_up_ne hi, am_up_ne hi, am_up_ne hi]
    have eT : TK (am_up (am_up (am_up (am_up M 2 2 (M 4 j)) 2 3 (M 5 j)) 2 4 (M 6 j)) 2 1 (nI (j + 1))) tx n m := e.keep (ef 3 (by decide)) (ef 4 (by decide)) (ef 5 (by decide)) (ef 6 (by decide))
    refine ⟨q1, q3, q4, ef, rfl, ?_, fun hp => ?_, fun hp => ?_⟩
    · show M 5 j = nI p
      by_cases hj : j < m
      · rw [(t4 j hj).2.2.1, h4]
      · have : j = m := by omega
        subst this
        rw [t6, ← h4, t3]
    · have hj : j < m := Nat.lt_of_not_le (fun q => by
        have : j = m := by omega
        subst this
        omega)
      obtain ⟨g1, g2, g3, g4⟩ := t4 j hj
      rw [h4] at g2 g4
      refine ⟨g2, g4, eT, j + 1, rfl, Or.inl ⟨hj, ?_⟩⟩
      show skP tx n (teP tx n (tsP tx n j)) = _
      rw [h4]
    · have hj : j = m := by
        by_cases hj : j < m
        · have := (t4 j hj).1; omega
        · omega
      subst hj
      refine ⟨t5, eT, j + 1, rfl, Or.inr ⟨rfl, rfl, t5, t6⟩⟩
  · subst h3
    subst h4
    refine (c2_tok2 h2 t1 t2).weaken (fun v M' V' f' hh => ?_)
    obtain ⟨q1, q2, q3, q4⟩ := hh
    subst q2
    exact ⟨q1, q3, q4, fun _ _ => rfl, rfl, h6, fun hp => absurd hp (by omega), fun _ => ⟨h5, e, m + 1, h2, Or.inr ⟨rfl, rfl, h5, h6⟩⟩⟩
theorem kd_ne2 {tx : Nat → Nat} {n p : Nat} (h : ¬ isF tx p) : kdP tx n p ≠ 2 := by
  unfold kdP
  rw [cif_f h]
  unfold kdW
  by_cases a0 : isW tx p
  · rw [cif_t a0]
    by_cases a1 : wW tx p (wlP tx n p)
    · rw [cif_t a1]; decide
    · rw [cif_f a1]
      by_cases a2 : wP tx p (wlP tx n p)
      · rw [cif_t a2]; decide
      · rw [cif_f a2]
        by_cases a3 : wD tx p (wlP tx n p)
        · rw [cif_t a3]; decide
        · rw [cif_f a3]
          by_cases a4 : wH tx p (wlP tx n p)
          · rw [cif_t a4]; decide
          · rw [cif_f a4]; decide
  · rw [cif_f a0]
    by_cases a1 : tx p = 59
    · rw [cif_t a1]; decide
    · rw [cif_f a1]; decide
theorem kd_8 {tx : Nat → Nat} {n p : Nat} : kdP tx n p < 8 := by
  unfold kdP kdW kdF
  by_cases h : isF tx p
  · rw [cif_t h]
    by_cases a1 : fgP tx n p ≠ p + 1 ∧ tx p = 48 ∨ 99 < vlP tx p (fgP tx n p - p)
    · rw [cif_t a1]; decide
    · rw [cif_f a1]; decide
  rw [cif_f h]
  by_cases a0 : isW tx p
  · rw [cif_t a0]
    by_cases a1 : wW tx p (wlP tx n p)
    · rw [cif_t a1]; decide
    · rw [cif_f a1]
      by_cases a2 : wP tx p (wlP tx n p)
      · rw [cif_t a2]; decide
      · rw [cif_f a2]
        by_cases a3 : wD tx p (wlP tx n p)
        · rw [cif_t a3]; decide
        · rw [cif_f a3]
          by_cases a4 : wH tx p (wlP tx n p)
          · rw [cif_t a4]; decide
          · rw [cif_f a4]; decide
  · rw [cif_f a0]
    by_cases a1 : tx p = 59
    · rw [cif_t a1]; decide
    · rw [cif_f a1]; decide
theorem num_ok2 {tx : Nat → Nat} {n a : Nat} {lo hi : Int32} (hp : skP tx n a < n) : (nmO tx n a lo hi ↔ kdP tx n (skP tx n a) = 2 ∧ lo ≤ nI (vtP tx n (skP tx n a)) ∧ nI (vtP tx n (skP tx n a)) ≤ hi) ∧ (nmO tx n a lo hi → nmE tx n a = teP tx n (skP tx n a) ∧ nmV tx n a = vtP tx n (skP tx n a)) := by
  by_cases h : isF tx (skP tx n a)
  · have e1 : teP tx n (skP tx n a) = nmE tx n a := cif_t h
    have e2 : vtP tx n (skP tx n a) = nmV tx n a := cif_t h
    have e3 : kdP tx n (skP tx n a) = kdF tx n (skP tx n a) := cif_t h
    have ht := teP_le (tx := tx) hp
    rw [e1] at ht
    refine ⟨?_, fun _ => ⟨e1.symm, e2.symm⟩⟩
    rw [e2, e3]
    unfold nmO kdF
    by_cases a1 : fgP tx n (skP tx n a) ≠ skP tx n a + 1 ∧ tx (skP tx n a) = 48 ∨ 99 < vlP tx (skP tx n a) (fgP tx n (skP tx n a) - skP tx n a)
    · rw [cif_t a1]
      refine ⟨fun q => ?_, fun q => absurd q.1 (by decide)⟩
      obtain ⟨q1, q2, q3, q4, q5⟩ := q
      have q2 : vlP tx (skP tx n a) (fgP tx n (skP tx n a) - skP tx n a) ≤ 99 := q2
      have q3 : fgP tx n (skP tx n a) = skP tx n a + 1 ∨ tx (skP tx n a) ≠ 48 := q3
      omega
    · rw [cif_f a1]
      refine ⟨fun q => ⟨rfl, q.2.2.2⟩, fun q => ⟨ht.1, ?_, ?_, q.2⟩⟩
      · show vlP tx (skP tx n a) (fgP tx n (skP tx n a) - skP tx n a) ≤ 99
        omega
      · show fgP tx n (skP tx n a) = skP tx n a + 1 ∨ tx (skP tx n a) ≠ 48
        omega
  · have e : nmE tx n a = skP tx n a := rnE_un (by omega) (Nat.le_refl _) (by omega) (fun y h1 h2 => absurd h2 (by omega)) (fun _ => h)
    have hno : ¬ nmO tx n a lo hi := fun q => by
      have := q.1
      omega
    exact ⟨⟨fun q => absurd q hno, fun q => absurd q.1 (kd_ne2 h)⟩, fun q => absurd q hno⟩
theorem num_end {tx : Nat → Nat} {n a : Nat} {lo hi : Int32} (ha : a ≤ n) (hp : ¬ skP tx n a < n) : ¬ nmO tx n a lo hi := fun q => by
  have h1 := q.1
  have h2 := nmE_le (tx := tx) ha
  have h3 := (skP_le (tx := tx) ha).2
  omega
/-- a number read by the class -/
def NQ (M : am_I) (tx : Nat → Nat) (n m a : Nat) (lo hi : Int32) (M' : am_I) : Prop := (∀ i, i ≠ 2 → M' i = M i) ∧ M' 2 5 = M 2 5 ∧ M' 2 3 = nI (skP tx n a) ∧ (nmO tx n a lo hi → M' 2 4 = nI (nmV tx n a) ∧ RD M' tx n m (skP tx n (nmE tx n a)))
set_option maxRecDepth 20000 in
theorem c2_numL {M : am_I} {V : am_J} {f : Nat → Option Nat} {tx : Nat → Nat} {n m a : Nat} (ha : a ≤ n) (hR : RD M tx n m (skP tx n a)) (hp : skP tx n a < n) (lo hi : Int32) : CT m2_readNumber 2 [Value.ref 2, Value.int lo, Value.int hi] M V f (fun v M' V' f' => v = some (.int (bi (nmO tx n a lo hi))) ∧ V' = V ∧ f' = f ∧ NQ M tx n m a lo hi M') := by
  have nk := num_ok2 (tx := tx) (n := n) (a := a) (lo := lo) (hi := hi) hp
  refine CT.of m2_readNumber_V.1 _ (en_aii_3 2 lo hi) ?_
  refine ac_aload_n 1 dX2_readNumber_0 rfl rfl ?_
  refine ac_callVg (μ' := m2_readToken) 4 dX2_readNumber_1 rfl lk2_35 m2_readToken_V ob2 (c2_tok hR) rfl rfl (by decide) (Nat.le_of_ble_eq_true rfl) (fun v1 Ma V1 f1 h9 => ?_)
  obtain ⟨d1, d2, d3, d4, d5, d6, d7, d8⟩ := h9
  subst d1
  obtain rfl := d2.symm
  obtain rfl := d3.symm
  obtain ⟨e2, e4, eR⟩ := d7 hp
  refine ac_aload_n 5 dX2_readNumber_4 rfl rfl ?_
  refine ac_getI 8 dX2_readNumber_5 rfl fl2_38 ob2 ?_
  rw [show (Ma 2 2) = (nI (kdP tx n (skP tx n a))) from e2]
  refine ac_iconst 9 2 dX2_readNumber_8 rfl (by decide) ?_
  refine ac_icmp_ne 32 12 dX2_readNumber_9 (by decide) rfl (fun c_9 => ?_) (fun c_9 => ?_)
  · have hno : ¬ nmO tx n a lo hi := fun q => c_9 (by rw [(nk.1.mp q).1]; rfl)
    refine ac_iconst 33 0 dX2_readNumber_32 rfl (by decide) ?_
    refine ac_iret dX2_readNumber_33 ⟨_, rfl, rfl⟩ ?_
    exact ⟨by rw [bi_f hno], rfl, rfl, d4, d5, d6, fun q => absurd q hno⟩
  · have k2 : kdP tx n (skP tx n a) = 2 := (nI_eq (b := 2) (by have := kd_8 (tx := tx) (n := n) (p := skP tx n a); omega) (by decide)).mp c_9
    refine ac_aload_n 13 dX2_readNumber_12 rfl rfl ?_
    refine ac_getI 16 dX2_readNumber_13 rfl fl2_65 ob2 ?_
    rw [show (Ma 2 4) = (nI (vtP tx n (skP tx n a))) from e4]
    refine ac_iload_n 17 dX2_readNumber_16 rfl rfl ?_
    refine ac_icmp_lt 32 20 dX2_readNumber_17 (by decide) rfl (fun c_17 => ?_) (fun c_17 => ?_)
    · have hno : ¬ nmO tx n a lo hi := fun q => absurd (Int32.lt_of_lt_of_le c_17 (nk.1.mp q).2.1) (Int32.lt_irrefl)
      refine ac_iconst 33 0 dX2_readNumber_32 rfl (by decide) ?_
      refine ac_iret dX2_readNumber_33 ⟨_, rfl, rfl⟩ ?_
      exact ⟨by rw [bi_f hno], rfl, rfl, d4, d5, d6, fun q => absurd q hno⟩
    · refine ac_aload_n 21 dX2_readNumber_20 rfl rfl ?_
      refine ac_getI 24 dX2_readNumber_21 rfl fl2_65 ob2 ?_
      rw [show (Ma 2 4) = (nI (vtP tx n (skP tx n a))) from e4]
      refine ac_iload_n 25 dX2_readNumber_24 rfl rfl ?_
      refine ac_icmp_gt 32 28 dX2_readNumber_25 (by decide) rfl (fun c_25 => ?_) (fun c_25 => ?_)
      · have hno : ¬ nmO tx n a lo hi := fun q => absurd (Int32.lt_of_lt_of_le c_25 (nk.1.mp q).2.2) (Int32.lt_irrefl)
        refine ac_iconst 33 0 dX2_readNumber_32 rfl (by decide) ?_
        refine ac_iret dX2_readNumber_33 ⟨_, rfl, rfl⟩ ?_
        exact ⟨by rw [bi_f hno], rfl, rfl, d4, d5, d6, fun q => absurd q hno⟩
      · have hyes : nmO tx n a lo hi := nk.1.mpr ⟨k2, Int32.not_lt.mp c_17, Int32.not_lt.mp c_25⟩
        refine ac_iconst 29 1 dX2_readNumber_28 rfl (by decide) ?_
        refine ac_goto 33 dX2_readNumber_29 (by decide) ?_
        refine ac_iret dX2_readNumber_33 ⟨_, rfl, rfl⟩ ?_
        exact ⟨by rw [bi_t hyes], rfl, rfl, d4, d5, d6, fun q => ⟨e4.trans (by rw [(nk.2 hyes).2]), by rw [(nk.2 hyes).1]; exact eR⟩⟩
set_option maxRecDepth 20000 in
theorem c2_numE {M : am_I} {V : am_J} {f : Nat → Option Nat} {tx : Nat → Nat} {n m a : Nat} (ha : a ≤ n) (hR : RD M tx n m (skP tx n a)) (hp : ¬ skP tx n a < n) (lo hi : Int32) : CT m2_readNumber 2 [Value.ref 2, Value.int lo, Value.int hi] M V f (fun v M' V' f' => v = some (.int (bi (nmO tx n a lo hi))) ∧ V' = V ∧ f' = f ∧ NQ M tx n m a lo hi M') := by
  have hno : ¬ nmO tx n a lo hi := num_end ha hp
  refine CT.of m2_readNumber_V.1 _ (en_aii_3 2 lo hi) ?_
  refine ac_aload_n 1 dX2_readNumber_0 rfl rfl ?_
  refine ac_callVg (μ' := m2_readToken) 4 dX2_readNumber_1 rfl lk2_35 m2_readToken_V ob2 (c2_tok hR) rfl rfl (by decide) (Nat.le_of_ble_eq_true rfl) (fun v1 Ma V1 f1 h9 => ?_)
  obtain ⟨d1, d2, d3, d4, d5, d6, d7, d8⟩ := h9
  subst d1
  obtain rfl := d2.symm
  obtain rfl := d3.symm
  obtain ⟨e2, eR⟩ := d8 hp
  refine ac_aload_n 5 dX2_readNumber_4 rfl rfl ?_
  refine ac_getI 8 dX2_readNumber_5 rfl fl2_38 ob2 ?_
  rw [show (Ma 2 2) = 0 from e2]
  refine ac_iconst 9 2 dX2_readNumber_8 rfl (by decide) ?_
  refine ac_icmp_ne 32 12 dX2_readNumber_9 (by decide) rfl (fun _ => ?_) (fun c_9 => absurd c_9 (by decide))
  refine ac_iconst 33 0 dX2_readNumber_32 rfl (by decide) ?_
  refine ac_iret dX2_readNumber_33 ⟨_, rfl, rfl⟩ ?_
  exact ⟨by rw [bi_f hno], rfl, rfl, d4, d5, d6, fun q => absurd q hno⟩
theorem c2_num {M : am_I} {V : am_J} {f : Nat → Option Nat} {tx : Nat → Nat} {n m a : Nat} (ha : a ≤ n) (hR : RD M tx n m (skP tx n a)) (lo hi : Int32) : CT m2_readNumber 2 [.ref 2, .int lo, .int hi] M V f (fun v M' V' f' => v = some (.int (bi (nmO tx n a lo hi))) ∧ V' = V ∧ f' = f ∧ NQ M tx n m a lo hi M') := by
  by_cases hp : skP tx n a < n
  · exact c2_numL ha hR hp lo hi
  · exact c2_numE ha hR hp lo hi
theorem kd_3 {tx : Nat → Nat} {n p : Nat} : kdP tx n p = 3 ↔ tx p = 59 := by
  constructor
  · intro h
    unfold kdP kdW kdF at h
    by_cases hF : isF tx p
    · rw [cif_t hF] at h
      by_cases a1 : fgP tx n p ≠ p + 1 ∧ tx p = 48 ∨ 99 < vlP tx p (fgP tx n p - p)
      · rw [cif_t a1] at h; exact absurd h (by decide)
      · rw [cif_f a1] at h; exact absurd h (by decide)
    rw [cif_f hF] at h
    by_cases a0 : isW tx p
    · rw [cif_t a0] at h
      by_cases a1 : wW tx p (wlP tx n p)
      · rw [cif_t a1] at h; exact absurd h (by decide)
      · rw [cif_f a1] at h
        by_cases a2 : wP tx p (wlP tx n p)
        · rw [cif_t a2] at h; exact absurd h (by decide)
        · rw [cif_f a2] at h
          by_cases a3 : wD tx p (wlP tx n p)
          · rw [cif_t a3] at h; exact absurd h (by decide)
          · rw [cif_f a3] at h
            by_cases a4 : wH tx p (wlP tx n p)
            · rw [cif_t a4] at h; exact absurd h (by decide)
            · rw [cif_f a4] at h; exact absurd h (by decide)
    · rw [cif_f a0] at h
      by_cases a1 : tx p = 59
      · exact a1
      · rw [cif_f a1] at h; exact absurd h (by decide)
  · intro h
    exact (cif_f (by unfold isF; omega)).trans ((cif_f (by unfold isW; omega)).trans (cif_t h))
theorem te_59 {tx : Nat → Nat} {n p : Nat} (hb : tx p = 59) : teP tx n p = p + 1 := (cif_f (by unfold isF; omega)).trans (cif_f (by unfold isW; omega))
set_option maxRecDepth 20000 in
theorem c2_semL {M : am_I} {V : am_J} {f : Nat → Option Nat} {tx : Nat → Nat} {n m p : Nat} (hR : RD M tx n m p) (hp : p < n) : CT m2_readSemicolon 2 [Value.ref 2] M V f (fun v M' V' f' => v = some (.int (bi (p < n ∧ tx p = 59))) ∧ V' = V ∧ f' = f ∧ (∀ i, i ≠ 2 → M' i = M i) ∧ M' 2 5 = M 2 5 ∧ M' 2 3 = nI p ∧ (p < n ∧ tx p = 59 → RD M' tx n m (skP tx n (p + 1)))) := by
  refine CT.of m2_readSemicolon_V.1 _ (en_a_1 2) ?_
  refine ac_aload_n 1 dX2_readSemicolon_0 rfl rfl ?_
  refine ac_callVg (μ' := m2_readToken) 4 dX2_readSemicolon_1 rfl lk2_35 m2_readToken_V ob2 (c2_tok hR) rfl rfl (by decide) (Nat.le_of_ble_eq_true rfl) (fun v1 Ma V1 f1 h9 => ?_)
  obtain ⟨d1, d2, d3, d4, d5, d6, d7, d8⟩ := h9
  subst d1
  obtain rfl := d2.symm
  obtain rfl := d3.symm
  obtain ⟨e2, e4, eR⟩ := d7 hp
  refine ac_aload_n 5 dX2_readSemicolon_4 rfl rfl ?_
  refine ac_getI 8 dX2_readSemicolon_5 rfl fl2_38 ob2 ?_
  rw [show (Ma 2 2) = (nI (kdP tx n p)) from e2]
  refine ac_iconst 9 3 dX2_readSemicolon_8 rfl (by decide) ?_
  refine ac_icmp_ne 16 12 dX2_readSemicolon_9 (by decide) rfl (fun c_9 => ?_) (fun c_9 => ?_)
  · have hno : ¬ (p < n ∧ tx p = 59) := fun q => c_9 (by rw [kd_3.mpr q.2]; rfl)
    refine ac_iconst 17 0 dX2_readSemicolon_16 rfl (by decide) ?_
    refine ac_iret dX2_readSemicolon_17 ⟨_, rfl, rfl⟩ ?_
    exact ⟨by rw [bi_f hno], rfl, rfl, d4, d5, d6, fun q => absurd q hno⟩
  · have hyes : p < n ∧ tx p = 59 := ⟨hp, kd_3.mp ((nI_eq (b := 3) (by have := kd_8 (tx := tx) (n := n) (p := p); omega) (by decide)).mp c_9)⟩
    refine ac_iconst 13 1 dX2_readSemicolon_12 rfl (by decide) ?_
    refine ac_goto 17 dX2_readSemicolon_13 (by decide) ?_
    refine ac_iret dX2_readSemicolon_17 ⟨_, rfl, rfl⟩ ?_
    exact ⟨by rw [bi_t hyes], rfl, rfl, d4, d5, d6, fun q => by rw [← te_59 (n := n) q.2]; exact eR⟩
set_option maxRecDepth 20000 in
theorem c2_semE {M : am_I} {V : am_J} {f : Nat → Option Nat} {tx : Nat → Nat} {n m p : Nat} (hR : RD M tx n m p) (hp : ¬ p < n) : CT m2_readSemicolon 2 [Value.ref 2] M V f (fun v M' V' f' => v = some (.int (bi (p < n ∧ tx p = 59))) ∧ V' = V ∧ f' = f ∧ (∀ i, i ≠ 2 → M' i = M i) ∧ M' 2 5 = M 2 5 ∧ M' 2 3 = nI p ∧ (p < n ∧ tx p = 59 → RD M' tx n m (skP tx n (p + 1)))) := by
  have hno : ¬ (p < n ∧ tx p = 59) := fun q => hp q.1
  refine CT.of m2_readSemicolon_V.1 _ (en_a_1 2) ?_
  refine ac_aload_n 1 dX2_readSemicolon_0 rfl rfl ?_
  refine ac_callVg (μ' := m2_readToken) 4 dX2_readSemicolon_1 rfl lk2_35 m2_readToken_V ob2 (c2_tok hR) rfl rfl (by decide) (Nat.le_of_ble_eq_true rfl) (fun v1 Ma V1 f1 h9 => ?_)
  obtain ⟨d1, d2, d3, d4, d5, d6, d7, d8⟩ := h9
  subst d1
  obtain rfl := d2.symm
  obtain rfl := d3.symm
  obtain ⟨e2, eR⟩ := d8 hp
  refine ac_aload_n 5 dX2_readSemicolon_4 rfl rfl ?_
  refine ac_getI 8 dX2_readSemicolon_5 rfl fl2_38 ob2 ?_
  rw [show (Ma 2 2) = 0 from e2]
  refine ac_iconst 9 3 dX2_readSemicolon_8 rfl (by decide) ?_
  refine ac_icmp_ne 16 12 dX2_readSemicolon_9 (by decide) rfl (fun _ => ?_) (fun c_9 => absurd c_9 (by decide))
  refine ac_iconst 17 0 dX2_readSemicolon_16 rfl (by decide) ?_
  refine ac_iret dX2_readSemicolon_17 ⟨_, rfl, rfl⟩ ?_
  exact ⟨by rw [bi_f hno], rfl, rfl, d4, d5, d6, fun q => absurd q hno⟩
theorem c2_sem {M : am_I} {V : am_J} {f : Nat → Option Nat} {tx : Nat → Nat} {n m p : Nat} (hR : RD M tx n m p) : CT m2_readSemicolon 2 [.ref 2] M V f (fun v M' V' f' => v = some (.int (bi (p < n ∧ tx p = 59))) ∧ V' = V ∧ f' = f ∧ (∀ i, i ≠ 2 → M' i = M i) ∧ M' 2 5 = M 2 5 ∧ M' 2 3 = nI p ∧ (p < n ∧ tx p = 59 → RD M' tx n m (skP tx n (p + 1)))) := by
  by_cases hp : p < n
  · exact c2_semL hR hp
  · exact c2_semE hR hp
