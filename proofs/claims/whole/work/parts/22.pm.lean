/-! Most at once: the words of it, and both sides. -/
/-- the first x from a on, below 40, with P; else what lies behind -/
noncomputable def fsF (P : Nat → Prop) : Nat → Nat → Nat
  | 0, a => a
  | n + 1, a => cif (P a) a (fsF P n (a + 1))
noncomputable def fsN (P : Nat → Prop) (a : Nat) : Nat := fsF P (40 - a) a
theorem fsF_spec (P : Nat → Prop) : ∀ (n a : Nat), a ≤ fsF P n a ∧ fsF P n a ≤ a + n ∧ (∀ y, a ≤ y → y < fsF P n a → ¬ P y) ∧ (fsF P n a < a + n → P (fsF P n a))
  | 0, a => ⟨Nat.le_refl _, Nat.le_refl _, fun y h1 h2 => absurd h2 (Nat.not_lt.mpr h1), fun h => absurd h (Nat.lt_irrefl a)⟩
  | n + 1, a => by
    by_cases h : P a
    · have e : fsF P (n + 1) a = a := cif_t h
      rw [e]
      exact ⟨Nat.le_refl _, by omega, fun y h1 h2 => by omega, fun _ => h⟩
    · have e : fsF P (n + 1) a = fsF P n (a + 1) := cif_f h
      obtain ⟨h1, h2, h3, h4⟩ := fsF_spec P n (a + 1)
      rw [e]
      refine ⟨by omega, by omega, fun y q1 q2 => ?_, fun q => h4 (by omega)⟩
      by_cases hy : y = a
      · subst hy; exact h
      · exact h3 y (by omega) q2
theorem fsN_spec (P : Nat → Prop) (a : Nat) : a ≤ fsN P a ∧ (fsN P a ≤ a ∨ fsN P a ≤ 40) ∧ (∀ y, a ≤ y → y < fsN P a → ¬ P y ∧ y < 40) ∧ (fsN P a < 40 → P (fsN P a)) := by
  unfold fsN
  obtain ⟨h1, h2, h3, h4⟩ := fsF_spec P (40 - a) a
  exact ⟨h1, by omega, fun y q1 q2 => ⟨h3 y q1 q2, by omega⟩, fun q => h4 (by omega)⟩
theorem fsN_eq {P : Nat → Prop} {a x : Nat} (h0 : a ≤ x) (h1 : ∀ y, a ≤ y → y < x → ¬ P y) (h2 : P x) (hx : x < 40) : fsN P a = x := by
  obtain ⟨q1, q2, q3, q4⟩ := fsN_spec P a
  rcases Nat.lt_trichotomy (fsN P a) x with h | h | h
  · exact absurd (q4 (by omega)) (h1 _ q1 h)
  · exact h
  · exact absurd h2 (q3 x h0 h).1
theorem fsN_ge {P : Nat → Prop} {a : Nat} (h1 : ∀ y, a ≤ y → y < 40 → ¬ P y) : 40 ≤ fsN P a := by
  obtain ⟨q1, q2, q3, q4⟩ := fsN_spec P a
  rcases Nat.lt_or_ge (fsN P a) 40 with h | h
  · exact absurd (q4 h) (h1 _ q1 h)
  · exact h
/-- a set without p -/
def rmS (s p : Nat) : Nat := if s.testBit p then s - 2 ^ p else s
def btS (s p : Nat) : Nat := if s.testBit p then 1 else 0
theorem rm_ok : ∀ s, s < 32 → ∀ p, p < 5 → (nI s &&& (((1 : Int32) <<< (nI p &&& 31)) ^^^ (-1))) = nI (rmS s p) ∧ rmS s p ≤ s ∧ (rmS s p < s ↔ s.testBit p = true) := by decide +kernel
theorem has_ok : ∀ s, s < 32 → ∀ p, p < 5 → ((nI s >>> (nI p &&& 31)) &&& 1) = nI (btS s p) := by decide +kernel
theorem bit_ok : ∀ s, s < 32 → ∀ p, p < 5 → ((nI s &&& ((1 : Int32) <<< (nI p &&& 31))) = 0 ↔ s.testBit p = false) := by decide +kernel
theorem shl_ok : ∀ n, n ≤ 5 → ((1 : Int32) <<< (nI n &&& 31)) = nI (2 ^ n) := by
  intro n hn
  exact (by decide +kernel : ∀ n, n < 6 → ((1 : Int32) <<< (nI n &&& 31)) = nI (2 ^ n)) n (by omega)
theorem pow_le : ∀ n, n ≤ 5 → 2 ^ n ≤ 32 := by
  intro n hn
  exact (by decide +kernel : ∀ n, n < 6 → 2 ^ n ≤ 32) n (by omega)
/-- how many of the first k are in s; how heavy they are -/
def pcS (s : Nat) : Nat → Nat
  | 0 => 0
  | k + 1 => pcS s k + btS s k
def wtS (w : rN) (s : Nat) : Nat → Int32
  | 0 => 0
  | k + 1 => wtS w s k + (if s.testBit k then w (4 + 4 * k + 3) else 0)
/-- widths, gap as naturals -/
def WD (w : rN) (np : Nat) (wd : Nat → Nat) (gp : Nat) : Prop := (∀ p, p < np → w (4 + 4 * p) = nI (wd p) ∧ 1 ≤ wd p ∧ wd p ≤ 9) ∧ w 2 = nI gp ∧ gp ≤ 9
/-- from where p is looked for when the others of s end as T says -/
def stS (T : Nat → Nat) (gp s p : Nat) : Nat := if rmS s p = 0 then 0 else T (rmS s p) + gp
noncomputable def xS (F : Nat → Nat → Prop) (T : Nat → Nat) (gp s p : Nat) : Nat := fsN (F p) (stS T gp s p)
/-- the least end of s by one of its first k as the last -/
noncomputable def leS (F : Nat → Nat → Prop) (wd : Nat → Nat) (gp : Nat) (T : Nat → Nat) (s : Nat) : Nat → Nat
  | 0 => 1000
  | k + 1 => if s.testBit k = true ∧ T (rmS s k) < 1000 ∧ xS F T gp s k < 40 ∧ xS F T gp s k + wd k < leS F wd gp T s k then xS F T gp s k + wd k else leS F wd gp T s k
noncomputable def tbS (F : Nat → Nat → Prop) (wd : Nat → Nat) (gp np : Nat) : Nat → Nat → Nat
  | 0 => fun _ => 0
  | k + 1 => fun i => if i = k + 1 then leS F wd gp (tbS F wd gp np k) (k + 1) np else tbS F wd gp np k i
/-- the best set among the first k -/
noncomputable def bmS (F : Nat → Nat → Prop) (wd : Nat → Nat) (gp np : Nat) (w : rN) : Nat → Nat
  | 0 => 0
  | k + 1 => cif (tbS F wd gp np (k + 1) (k + 1) < 1000 ∧ (pcS (bmS F wd gp np w k) np < pcS (k + 1) np ∨ pcS (k + 1) np = pcS (bmS F wd gp np w k) np ∧ wtS w (bmS F wd gp np w k) np < wtS w (k + 1) np)) (k + 1) (bmS F wd gp np w k)
theorem leS_le (F : Nat → Nat → Prop) (wd : Nat → Nat) (gp : Nat) (T : Nat → Nat) (s : Nat) : ∀ k, (∀ p, p < k → wd p ≤ 9) → leS F wd gp T s k = 1000 ∨ leS F wd gp T s k ≤ 48
  | 0, _ => Or.inl rfl
  | k + 1, h => by
    have ih := leS_le F wd gp T s k (fun p hp => h p (by omega))
    have h9 := h k (by omega)
    unfold leS
    split
    next hc => right; omega
    next => exact ih
theorem tbS_le (F : Nat → Nat → Prop) (wd : Nat → Nat) (gp np : Nat) (h : ∀ p, p < np → wd p ≤ 9) : ∀ k i, tbS F wd gp np k i = 1000 ∨ tbS F wd gp np k i ≤ 48
  | 0, i => Or.inr (Nat.zero_le _)
  | k + 1, i => by
    show (if i = k + 1 then _ else _) = 1000 ∨ (if i = k + 1 then _ else _) ≤ 48
    split
    · exact leS_le F wd gp _ _ np h
    · exact tbS_le F wd gp np h k i
theorem tbS_st (F : Nat → Nat → Prop) (wd : Nat → Nat) (gp np k i : Nat) (hi : i ≤ k) : tbS F wd gp np (k + 1) i = tbS F wd gp np k i := by
  show (if i = k + 1 then _ else _) = _
  rw [if_neg (by omega)]
theorem pcS_le (s : Nat) : ∀ k, pcS s k ≤ k
  | 0 => Nat.le_refl 0
  | k + 1 => by
    have := pcS_le s k
    show pcS s k + btS s k ≤ k + 1
    unfold btS
    split <;> omega
set_option maxRecDepth 20000 in
theorem c8_has {M : am_I} {V : am_J} {f : Nat → Option Nat} {s k : Nat} (hs : s < 32) (hk : k < 5) : CT m8_has 1 [Value.int (nI s), Value.int (nI k)] M V f (RV (nI (btS s k)) M V f) := by
  refine CT.of m8_has_S.1 _ (en_ii_2 (nI s) (nI k)) ?_
  refine ac_iload_n 1 dX8_has_0 rfl rfl ?_
  refine ac_iload_n 2 dX8_has_1 rfl rfl ?_
  refine ac_ishr 3 dX8_has_2 rfl ?_
  refine ac_iconst 4 1 dX8_has_3 rfl (by decide) ?_
  refine ac_iand 5 dX8_has_4 rfl ?_
  rw [show (((nI s) >>> ((nI k) &&& 31)) &&& 1) = (nI (btS s k)) from (has_ok s hs k hk)]
  refine ac_iconst 6 1 dX8_has_5 rfl (by decide) ?_
  refine ac_icmp_ne 13 9 dX8_has_6 (by decide) rfl (fun c_6 => ?_) (fun c_6 => ?_)
  · refine ac_iconst 14 0 dX8_has_13 rfl (by decide) ?_
    refine ac_iret dX8_has_14 ⟨_, rfl, rfl⟩ ?_
    exact rv_mk (by
      by_cases h : s.testBit k = true
      · exact absurd (by unfold btS; rw [if_pos h]; rfl) c_6
      · unfold btS; rw [if_neg h]; rfl)
  · refine ac_iconst 10 1 dX8_has_9 rfl (by decide) ?_
    refine ac_goto 14 dX8_has_10 (by decide) ?_
    refine ac_iret dX8_has_14 ⟨_, rfl, rfl⟩ ?_
    exact rv_mk c_6.symm
theorem c8_ofP0 {M : am_I} {V : am_J} {f : Nat → Option Nat} {j : Nat} (hj : j < 5) : CT m8_ofPicture 1 [.ref 121, .int (nI j), .int 0] M V f (RV (M 122 (4 + 4 * j)) M V f) := c8_ofPicture (w := 0) hj (by decide)
theorem h39b {x : Nat} (h : x < 40) : ¬ (39 : Int32) < nI x := fun q => absurd ((nI_ltI (a := 39) (by decide) (by omega)).mp q) (by omega)
set_option maxRecDepth 20000 in
theorem c8_reachOf {M : am_I} {V : am_J} {f : Nat → Option Nat} {np nd nh s gp : Nat} {wd T : Nat → Nat} (hn : NC (M 122) np nd nh) (hwd : WD (M 122) np wd gp) (hs : s < 32) (hT : ∀ i, T i = 1000 ∨ T i ≤ 48) (hM : ∀ i, i < s → M 135 i = nI (T i)) : CT m8_reachOf 3 [Value.ref 121, Value.int (nI s)] M V f (RV (nI (leS (fun p x => fitN (M 122) nd p (nI x)) wd gp T s np)) M V f) := by
  have hnp := hn.2.1
  have hg := hwd.2.2
  refine CT.of m8_reachOf_V.1 _ (en_ai_7 121 (nI s)) ?_
  refine ac_sipush 3 1000 dX8_reachOf_0 rfl (by decide) ?_
  refine ac_istore_n 4 [some (Value.ref 121), some (Value.int (nI s)), some (Value.int 1000), none, none, none, none] dX8_reachOf_3 rfl rfl (Nat.le_of_ble_eq_true rfl) (by decide) rfl ?_
  have hL : A0 m8_reachOf 3 6 [some (Value.ref 121), some (Value.int (nI s)), some (Value.int (nI (leS (fun p x => fitN (M 122) nd p (nI x)) wd gp T s 0))), some (Value.int (nI 0)), none, none, none] [] M V f (RV (nI (leS (fun p x => fitN (M 122) nd p (nI x)) wd gp T s np)) M V f) := by
    refine ac_down (n := np) (P := fun k => A0 m8_reachOf 3 6 [some (Value.ref 121), some (Value.int (nI s)), some (Value.int (nI (leS (fun p x => fitN (M 122) nd p (nI x)) wd gp T s k))), some (Value.int (nI k)), none, none, none] [] M V f (RV (nI (leS (fun p x => fitN (M 122) nd p (nI x)) wd gp T s np)) M V f)) ?_ ?_ 0 (Nat.zero_le _) 
    · refine ac_iload_n 7 dX8_reachOf_6 rfl rfl ?_
      refine ac_aload_n 8 dX8_reachOf_7 rfl rfl ?_
      refine ac_getO 11 122 dX8_reachOf_8 rfl fl8_7 ob121 rfl ?_
      refine ac_iconst 12 3 dX8_reachOf_11 rfl (by decide) ?_
      refine ac_iald 13 dX8_reachOf_12 rfl ar122 (ix_nI (k := 3) (by decide) (by decide)) ?_
      refine ac_icmp_ge 131 16 dX8_reachOf_13 (by decide) rfl (fun _ => ?_) (fun c_13 => absurd (by rw [hn.1]; exact Int32.le_refl _) c_13)
      refine ac_iload_n 132 dX8_reachOf_131 rfl rfl ?_
      refine ac_iret dX8_reachOf_132 ⟨_, rfl, rfl⟩ ?_
      exact rv_mk rfl
    · intro k hk ih
      have hr := rm_ok s hs k (by omega)
      have hwk := hwd.1 k hk
      have hX : stS T gp s k ≤ (xS (fun p x => fitN (M 122) nd p (nI x)) T gp s k) ∧ ((xS (fun p x => fitN (M 122) nd p (nI x)) T gp s k) ≤ stS T gp s k ∨ (xS (fun p x => fitN (M 122) nd p (nI x)) T gp s k) ≤ 40) ∧ (∀ y, stS T gp s k ≤ y → y < (xS (fun p x => fitN (M 122) nd p (nI x)) T gp s k) → ¬ fitN (M 122) nd k (nI y) ∧ y < 40) ∧ ((xS (fun p x => fitN (M 122) nd p (nI x)) T gp s k) < 40 → fitN (M 122) nd k (nI (xS (fun p x => fitN (M 122) nd p (nI x)) T gp s k))) := fsN_spec ((fun p x => fitN (M 122) nd p (nI x)) k) (stS T gp s k)
      have hTb : T (rmS s k) = 1000 ∨ T (rmS s k) ≤ 48 := hT (rmS s k)
      have hst9 : stS T gp s k ≤ 1009 := by unfold stS; split <;> omega
      have hlb := leS_le (fun p x => fitN (M 122) nd p (nI x)) wd gp T s k (fun p hp => (hwd.1 p (by omega)).2.2)
      have h39 : ¬ (39 : Int32) < nI (xS (fun p x => fitN (M 122) nd p (nI x)) T gp s k) → (xS (fun p x => fitN (M 122) nd p (nI x)) T gp s k) < 40 := fun h => Nat.lt_of_not_le (fun q => h (nI_lt (a := 39) (by omega) (by omega)))
      have h40 : (39 : Int32) < nI (xS (fun p x => fitN (M 122) nd p (nI x)) T gp s k) → ¬ (xS (fun p x => fitN (M 122) nd p (nI x)) T gp s k) < 40 := fun h q => absurd ((nI_ltI (a := 39) (by decide) (by omega)).mp h) (by omega)
      have hno : nI (leS (fun p x => fitN (M 122) nd p (nI x)) wd gp T s k) ≤ nI ((xS (fun p x => fitN (M 122) nd p (nI x)) T gp s k) + wd k) → ¬ (xS (fun p x => fitN (M 122) nd p (nI x)) T gp s k) + wd k < (leS (fun p x => fitN (M 122) nd p (nI x)) wd gp T s k) := fun h q => absurd ((nI_leI (by omega) (by omega)).mp h) (by omega)
      have hyes : ¬ nI (leS (fun p x => fitN (M 122) nd p (nI x)) wd gp T s k) ≤ nI ((xS (fun p x => fitN (M 122) nd p (nI x)) T gp s k) + wd k) → (xS (fun p x => fitN (M 122) nd p (nI x)) T gp s k) + wd k < (leS (fun p x => fitN (M 122) nd p (nI x)) wd gp T s k) := fun h => Nat.lt_of_not_le (fun q => h (nI_le q (by omega)))
      refine ac_iload_n 7 dX8_reachOf_6 rfl rfl ?_
      refine ac_aload_n 8 dX8_reachOf_7 rfl rfl ?_
      refine ac_getO 11 122 dX8_reachOf_8 rfl fl8_7 ob121 rfl ?_
      refine ac_iconst 12 3 dX8_reachOf_11 rfl (by decide) ?_
      refine ac_iald 13 dX8_reachOf_12 rfl ar122 (ix_nI (k := 3) (by decide) (by decide)) ?_
      refine ac_icmp_ge 131 16 dX8_reachOf_13 (by decide) rfl (fun c_13 => absurd c_13 (by rw [hn.1]; exact nI_ge hk (by omega))) (fun _ => ?_)
      refine ac_iload_n 17 dX8_reachOf_16 rfl rfl ?_
      refine ac_iconst 18 1 dX8_reachOf_17 rfl (by decide) ?_
      refine ac_iload_n 19 dX8_reachOf_18 rfl rfl ?_
      refine ac_ishl 20 dX8_reachOf_19 rfl ?_
      refine ac_iconst 21 (-1) dX8_reachOf_20 rfl (by decide) ?_
      refine ac_ixor 22 dX8_reachOf_21 rfl ?_
      refine ac_iand 23 dX8_reachOf_22 rfl ?_
      rw [show ((nI s) &&& ((1 <<< ((nI k) &&& 31)) ^^^ (-1))) = (nI (rmS s k)) from hr.1]
      refine ac_istore 25 [some (Value.ref 121), some (Value.int (nI s)), some (Value.int (nI (leS (fun p x => fitN (M 122) nd p (nI x)) wd gp T s k))), some (Value.int (nI k)), some (Value.int (nI (rmS s k))), none, none] dX8_reachOf_23 rfl rfl (Nat.le_of_ble_eq_true rfl) (by decide) rfl ?_
      refine ac_iload_n 26 dX8_reachOf_25 rfl rfl ?_
      refine ac_iload_n 27 dX8_reachOf_26 rfl rfl ?_
      refine ac_callS (μ' := m8_has) 30 dX8_reachOf_27 rfl lk8_183 m8_has_S (c8_has hs (by omega)) rfl rfl (by decide) (Nat.le_of_ble_eq_true rfl) ?_
      refine ac_if_eq 125 33 dX8_reachOf_30 (by decide) rfl (fun c_30 => ?_) (fun c_30 => ?_)
      · have hbt : s.testBit k = false := by unfold btS at c_30; split at c_30 <;> first | (exact absurd c_30 (by decide)) | simp_all
        refine ac_iinc 128 (nI (k + 1)) [some (Value.ref 121), some (Value.int (nI s)), some (Value.int (nI (leS (fun p x => fitN (M 122) nd p (nI x)) wd gp T s k))), some (Value.int (nI (k + 1))), some (Value.int (nI (rmS s k))), none, none] dX8_reachOf_125 rfl rfl (nI_1 _) rfl (by decide) rfl ?_
        refine ac_goto 6 dX8_reachOf_128 (by decide) ?_
        refine ac_kill 4 [some (Value.ref 121), some (Value.int (nI s)), some (Value.int (nI (leS (fun p x => fitN (M 122) nd p (nI x)) wd gp T s k))), some (Value.int (nI (k + 1))), none, none, none] rfl ?_
        have e9 : leS (fun p x => fitN (M 122) nd p (nI x)) wd gp T s (k + 1) = leS (fun p x => fitN (M 122) nd p (nI x)) wd gp T s k := by show (if _ then _ else _) = _; first | rw [if_neg (fun q => absurd q.1 (by rw [hbt]; decide))] | rw [if_neg (fun q => hT9 q.2.1)] | rw [if_neg (fun q => h40 c_75 q.2.2.1)] | rw [if_neg (fun q => hno c_115 q.2.2.2)]
        rw [e9] at ih
        exact ih
      · have hbt : s.testBit k = true := by unfold btS at c_30; split at c_30 <;> first | assumption | (exact absurd rfl c_30)
        have hrs : rmS s k < s := hr.2.2.mpr hbt
        refine ac_aload_n 34 dX8_reachOf_33 rfl rfl ?_
        refine ac_getO 37 135 dX8_reachOf_34 rfl fl8_50 ob121 rfl ?_
        refine ac_iload 39 dX8_reachOf_37 rfl rfl ?_
        refine ac_iald 40 dX8_reachOf_39 rfl ar135 (ix_nI (by omega) (by decide)) ?_
        rw [show (M 135 (rmS s k)) = (nI (T (rmS s k))) from (hM _ (by omega))]
        refine ac_sipush 43 1000 dX8_reachOf_40 rfl (by decide) ?_
        refine ac_icmp_ge 125 46 dX8_reachOf_43 (by decide) rfl (fun c_43 => ?_) (fun c_43 => ?_)
        · have hT9 : ¬ T (rmS s k) < 1000 := fun q => absurd ((nI_leI (a := 1000) (by decide) (by omega)).mp c_43) (by omega)
          refine ac_iinc 128 (nI (k + 1)) [some (Value.ref 121), some (Value.int (nI s)), some (Value.int (nI (leS (fun p x => fitN (M 122) nd p (nI x)) wd gp T s k))), some (Value.int (nI (k + 1))), some (Value.int (nI (rmS s k))), none, none] dX8_reachOf_125 rfl rfl (nI_1 _) rfl (by decide) rfl ?_
          refine ac_goto 6 dX8_reachOf_128 (by decide) ?_
          refine ac_kill 4 [some (Value.ref 121), some (Value.int (nI s)), some (Value.int (nI (leS (fun p x => fitN (M 122) nd p (nI x)) wd gp T s k))), some (Value.int (nI (k + 1))), none, none, none] rfl ?_
          have e9 : leS (fun p x => fitN (M 122) nd p (nI x)) wd gp T s (k + 1) = leS (fun p x => fitN (M 122) nd p (nI x)) wd gp T s k := by show (if _ then _ else _) = _; first | rw [if_neg (fun q => absurd q.1 (by rw [hbt]; decide))] | rw [if_neg (fun q => hT9 q.2.1)] | rw [if_neg (fun q => h40 c_75 q.2.2.1)] | rw [if_neg (fun q => hno c_115 q.2.2.2)]
          rw [e9] at ih
          exact ih
        · have hT9 : T (rmS s k) < 1000 := Nat.lt_of_not_le (fun q => c_43 (nI_le (a := 1000) q (by omega)))
          refine ac_iload 48 dX8_reachOf_46 rfl rfl ?_
          refine ac_if_ne 55 51 dX8_reachOf_48 (by decide) rfl (fun c_48 => ?_) (fun c_48 => ?_)
          · have hA : stS T gp s k = T (rmS s k) + gp := if_neg (fun e => c_48 (by rw [e]; rfl))
            refine ac_aload_n 56 dX8_reachOf_55 rfl rfl ?_
            refine ac_getO 59 135 dX8_reachOf_56 rfl fl8_50 ob121 rfl ?_
            refine ac_iload 61 dX8_reachOf_59 rfl rfl ?_
            refine ac_iald 62 dX8_reachOf_61 rfl ar135 (ix_nI (by omega) (by decide)) ?_
            rw [show (M 135 (rmS s k)) = (nI (T (rmS s k))) from (hM _ (by omega))]
            refine ac_aload_n 63 dX8_reachOf_62 rfl rfl ?_
            refine ac_getO 66 122 dX8_reachOf_63 rfl fl8_7 ob121 rfl ?_
            refine ac_iconst 67 2 dX8_reachOf_66 rfl (by decide) ?_
            refine ac_iald 68 dX8_reachOf_67 rfl ar122 (ix_nI (k := 2) (by decide) (by decide)) ?_
            rw [show (M 122 2) = (nI gp) from hwd.2.1]
            refine ac_iadd 69 dX8_reachOf_68 rfl ?_
            rw [show ((nI (T (rmS s k))) + (nI gp)) = (nI (T (rmS s k) + gp)) from (nI_add _ _)]
            refine ac_istore 71 [some (Value.ref 121), some (Value.int (nI s)), some (Value.int (nI (leS (fun p x => fitN (M 122) nd p (nI x)) wd gp T s k))), some (Value.int (nI k)), some (Value.int (nI (rmS s k))), some (Value.int (nI (T (rmS s k) + gp))), none] dX8_reachOf_69 rfl rfl (Nat.le_of_ble_eq_true rfl) (by decide) rfl ?_
            refine ac_down (n := (xS (fun p x => fitN (M 122) nd p (nI x)) T gp s k)) (P := fun x => ((T (rmS s k) + gp) ≤ x) → A0 m8_reachOf 3 71 [some (Value.ref 121), some (Value.int (nI s)), some (Value.int (nI (leS (fun p x => fitN (M 122) nd p (nI x)) wd gp T s k))), some (Value.int (nI k)), some (Value.int (nI (rmS s k))), some (Value.int (nI x)), none] [] M V f (RV (nI (leS (fun p x => fitN (M 122) nd p (nI x)) wd gp T s np)) M V f)) ?_ ?_ (T (rmS s k) + gp) (by rw [← hA]; exact hX.1) (Nat.le_refl _)
            · intro hpr
              refine ac_iload 73 dX8_reachOf_71 rfl rfl ?_
              refine ac_bipush 75 39 dX8_reachOf_73 rfl (by decide) ?_
              refine ac_icmp_gt 94 78 dX8_reachOf_75 (by decide) rfl (fun c_75 => ?_) (fun c_75 => ?_)
              · refine ac_iload 96 dX8_reachOf_94 rfl rfl ?_
                refine ac_aload_n 97 dX8_reachOf_96 rfl rfl ?_
                refine ac_iload_n 98 dX8_reachOf_97 rfl rfl ?_
                refine ac_iconst 99 0 dX8_reachOf_98 rfl (by decide) ?_
                refine ac_callV (μ' := m8_ofPicture) 102 dX8_reachOf_99 rfl lk8_118 m8_ofPicture_V ob121 (c8_ofP0 (by omega)) rfl rfl (by decide) (Nat.le_of_ble_eq_true rfl) ?_
                refine ac_iadd 103 dX8_reachOf_102 rfl ?_
                rw [show ((nI (xS (fun p x => fitN (M 122) nd p (nI x)) T gp s k)) + (M 122 (4 + 4 * k))) = (nI ((xS (fun p x => fitN (M 122) nd p (nI x)) T gp s k) + wd k)) from (by rw [hwk.1, nI_add])]
                refine ac_istore 105 [some (Value.ref 121), some (Value.int (nI s)), some (Value.int (nI (leS (fun p x => fitN (M 122) nd p (nI x)) wd gp T s k))), some (Value.int (nI k)), some (Value.int (nI (rmS s k))), some (Value.int (nI (xS (fun p x => fitN (M 122) nd p (nI x)) T gp s k))), some (Value.int (nI ((xS (fun p x => fitN (M 122) nd p (nI x)) T gp s k) + wd k)))] dX8_reachOf_103 rfl rfl (Nat.le_of_ble_eq_true rfl) (by decide) rfl ?_
                refine ac_iload 107 dX8_reachOf_105 rfl rfl ?_
                refine ac_bipush 109 39 dX8_reachOf_107 rfl (by decide) ?_
                refine ac_icmp_gt 123 112 dX8_reachOf_109 (by decide) rfl (fun _ => ?_) (fun c_109 => absurd c_75 c_109)
                refine ac_iload_n 124 dX8_reachOf_123 rfl rfl ?_
                refine ac_istore_n 125 [some (Value.ref 121), some (Value.int (nI s)), some (Value.int (nI (leS (fun p x => fitN (M 122) nd p (nI x)) wd gp T s k))), some (Value.int (nI k)), some (Value.int (nI (rmS s k))), some (Value.int (nI (xS (fun p x => fitN (M 122) nd p (nI x)) T gp s k))), some (Value.int (nI ((xS (fun p x => fitN (M 122) nd p (nI x)) T gp s k) + wd k)))] dX8_reachOf_124 rfl rfl (Nat.le_of_ble_eq_true rfl) (by decide) rfl ?_
                refine ac_iinc 128 (nI (k + 1)) [some (Value.ref 121), some (Value.int (nI s)), some (Value.int (nI (leS (fun p x => fitN (M 122) nd p (nI x)) wd gp T s k))), some (Value.int (nI (k + 1))), some (Value.int (nI (rmS s k))), some (Value.int (nI (xS (fun p x => fitN (M 122) nd p (nI x)) T gp s k))), some (Value.int (nI ((xS (fun p x => fitN (M 122) nd p (nI x)) T gp s k) + wd k)))] dX8_reachOf_125 rfl rfl (nI_1 _) rfl (by decide) rfl ?_
                refine ac_goto 6 dX8_reachOf_128 (by decide) ?_
                refine ac_kill 4 [some (Value.ref 121), some (Value.int (nI s)), some (Value.int (nI (leS (fun p x => fitN (M 122) nd p (nI x)) wd gp T s k))), some (Value.int (nI (k + 1))), none, some (Value.int (nI (xS (fun p x => fitN (M 122) nd p (nI x)) T gp s k))), some (Value.int (nI ((xS (fun p x => fitN (M 122) nd p (nI x)) T gp s k) + wd k)))] rfl ?_
                refine ac_kill 5 [some (Value.ref 121), some (Value.int (nI s)), some (Value.int (nI (leS (fun p x => fitN (M 122) nd p (nI x)) wd gp T s k))), some (Value.int (nI (k + 1))), none, none, some (Value.int (nI ((xS (fun p x => fitN (M 122) nd p (nI x)) T gp s k) + wd k)))] rfl ?_
                refine ac_kill 6 [some (Value.ref 121), some (Value.int (nI s)), some (Value.int (nI (leS (fun p x => fitN (M 122) nd p (nI x)) wd gp T s k))), some (Value.int (nI (k + 1))), none, none, none] rfl ?_
                have e9 : leS (fun p x => fitN (M 122) nd p (nI x)) wd gp T s (k + 1) = leS (fun p x => fitN (M 122) nd p (nI x)) wd gp T s k := by show (if _ then _ else _) = _; first | rw [if_neg (fun q => absurd q.1 (by rw [hbt]; decide))] | rw [if_neg (fun q => hT9 q.2.1)] | rw [if_neg (fun q => h40 c_75 q.2.2.1)] | rw [if_neg (fun q => hno c_115 q.2.2.2)]
                rw [e9] at ih
                exact ih
              · refine ac_aload_n 79 dX8_reachOf_78 rfl rfl ?_
                refine ac_iload_n 80 dX8_reachOf_79 rfl rfl ?_
                refine ac_iload 82 dX8_reachOf_80 rfl rfl ?_
                refine ac_callV (μ' := m8_doesFit) 85 dX8_reachOf_82 rfl lk8_139 m8_doesFit_V ob121 (c8_doesFit hn (by omega) _) rfl rfl (by decide) (Nat.le_of_ble_eq_true rfl) ?_
                refine ac_if_ne 94 88 dX8_reachOf_85 (by decide) rfl (fun _ => ?_) (fun c_85 => absurd c_85 (by rw [bi_eq0]; exact fun h => h (hX.2.2.2 (h39 c_75))))
                refine ac_iload 96 dX8_reachOf_94 rfl rfl ?_
                refine ac_aload_n 97 dX8_reachOf_96 rfl rfl ?_
                refine ac_iload_n 98 dX8_reachOf_97 rfl rfl ?_
                refine ac_iconst 99 0 dX8_reachOf_98 rfl (by decide) ?_
                refine ac_callV (μ' := m8_ofPicture) 102 dX8_reachOf_99 rfl lk8_118 m8_ofPicture_V ob121 (c8_ofP0 (by omega)) rfl rfl (by decide) (Nat.le_of_ble_eq_true rfl) ?_
                refine ac_iadd 103 dX8_reachOf_102 rfl ?_
                rw [show ((nI (xS (fun p x => fitN (M 122) nd p (nI x)) T gp s k)) + (M 122 (4 + 4 * k))) = (nI ((xS (fun p x => fitN (M 122) nd p (nI x)) T gp s k) + wd k)) from (by rw [hwk.1, nI_add])]
                refine ac_istore 105 [some (Value.ref 121), some (Value.int (nI s)), some (Value.int (nI (leS (fun p x => fitN (M 122) nd p (nI x)) wd gp T s k))), some (Value.int (nI k)), some (Value.int (nI (rmS s k))), some (Value.int (nI (xS (fun p x => fitN (M 122) nd p (nI x)) T gp s k))), some (Value.int (nI ((xS (fun p x => fitN (M 122) nd p (nI x)) T gp s k) + wd k)))] dX8_reachOf_103 rfl rfl (Nat.le_of_ble_eq_true rfl) (by decide) rfl ?_
                refine ac_iload 107 dX8_reachOf_105 rfl rfl ?_
                refine ac_bipush 109 39 dX8_reachOf_107 rfl (by decide) ?_
                refine ac_icmp_gt 123 112 dX8_reachOf_109 (by decide) rfl (fun c_109 => absurd c_109 c_75) (fun _ => ?_)
                refine ac_iload 114 dX8_reachOf_112 rfl rfl ?_
                refine ac_iload_n 115 dX8_reachOf_114 rfl rfl ?_
                refine ac_icmp_ge 123 118 dX8_reachOf_115 (by decide) rfl (fun c_115 => ?_) (fun c_115 => ?_)
                · refine ac_iload_n 124 dX8_reachOf_123 rfl rfl ?_
                  refine ac_istore_n 125 [some (Value.ref 121), some (Value.int (nI s)), some (Value.int (nI (leS (fun p x => fitN (M 122) nd p (nI x)) wd gp T s k))), some (Value.int (nI k)), some (Value.int (nI (rmS s k))), some (Value.int (nI (xS (fun p x => fitN (M 122) nd p (nI x)) T gp s k))), some (Value.int (nI ((xS (fun p x => fitN (M 122) nd p (nI x)) T gp s k) + wd k)))] dX8_reachOf_124 rfl rfl (Nat.le_of_ble_eq_true rfl) (by decide) rfl ?_
                  refine ac_iinc 128 (nI (k + 1)) [some (Value.ref 121), some (Value.int (nI s)), some (Value.int (nI (leS (fun p x => fitN (M 122) nd p (nI x)) wd gp T s k))), some (Value.int (nI (k + 1))), some (Value.int (nI (rmS s k))), some (Value.int (nI (xS (fun p x => fitN (M 122) nd p (nI x)) T gp s k))), some (Value.int (nI ((xS (fun p x => fitN (M 122) nd p (nI x)) T gp s k) + wd k)))] dX8_reachOf_125 rfl rfl (nI_1 _) rfl (by decide) rfl ?_
                  refine ac_goto 6 dX8_reachOf_128 (by decide) ?_
                  refine ac_kill 4 [some (Value.ref 121), some (Value.int (nI s)), some (Value.int (nI (leS (fun p x => fitN (M 122) nd p (nI x)) wd gp T s k))), some (Value.int (nI (k + 1))), none, some (Value.int (nI (xS (fun p x => fitN (M 122) nd p (nI x)) T gp s k))), some (Value.int (nI ((xS (fun p x => fitN (M 122) nd p (nI x)) T gp s k) + wd k)))] rfl ?_
                  refine ac_kill 5 [some (Value.ref 121), some (Value.int (nI s)), some (Value.int (nI (leS (fun p x => fitN (M 122) nd p (nI x)) wd gp T s k))), some (Value.int (nI (k + 1))), none, none, some (Value.int (nI ((xS (fun p x => fitN (M 122) nd p (nI x)) T gp s k) + wd k)))] rfl ?_
                  refine ac_kill 6 [some (Value.ref 121), some (Value.int (nI s)), some (Value.int (nI (leS (fun p x => fitN (M 122) nd p (nI x)) wd gp T s k))), some (Value.int (nI (k + 1))), none, none, none] rfl ?_
                  have e9 : leS (fun p x => fitN (M 122) nd p (nI x)) wd gp T s (k + 1) = leS (fun p x => fitN (M 122) nd p (nI x)) wd gp T s k := by show (if _ then _ else _) = _; first | rw [if_neg (fun q => absurd q.1 (by rw [hbt]; decide))] | rw [if_neg (fun q => hT9 q.2.1)] | rw [if_neg (fun q => h40 c_75 q.2.2.1)] | rw [if_neg (fun q => hno c_115 q.2.2.2)]
                  rw [e9] at ih
                  exact ih
                · refine ac_iload 120 dX8_reachOf_118 rfl rfl ?_
                  refine ac_goto 124 dX8_reachOf_120 (by decide) ?_
                  refine ac_istore_n 125 [some (Value.ref 121), some (Value.int (nI s)), some (Value.int (nI ((xS (fun p x => fitN (M 122) nd p (nI x)) T gp s k) + wd k))), some (Value.int (nI k)), some (Value.int (nI (rmS s k))), some (Value.int (nI (xS (fun p x => fitN (M 122) nd p (nI x)) T gp s k))), some (Value.int (nI ((xS (fun p x => fitN (M 122) nd p (nI x)) T gp s k) + wd k)))] dX8_reachOf_124 rfl rfl (Nat.le_of_ble_eq_true rfl) (by decide) rfl ?_
                  refine ac_iinc 128 (nI (k + 1)) [some (Value.ref 121), some (Value.int (nI s)), some (Value.int (nI ((xS (fun p x => fitN (M 122) nd p (nI x)) T gp s k) + wd k))), some (Value.int (nI (k + 1))), some (Value.int (nI (rmS s k))), some (Value.int (nI (xS (fun p x => fitN (M 122) nd p (nI x)) T gp s k))), some (Value.int (nI ((xS (fun p x => fitN (M 122) nd p (nI x)) T gp s k) + wd k)))] dX8_reachOf_125 rfl rfl (nI_1 _) rfl (by decide) rfl ?_
                  refine ac_goto 6 dX8_reachOf_128 (by decide) ?_
                  refine ac_kill 4 [some (Value.ref 121), some (Value.int (nI s)), some (Value.int (nI ((xS (fun p x => fitN (M 122) nd p (nI x)) T gp s k) + wd k))), some (Value.int (nI (k + 1))), none, some (Value.int (nI (xS (fun p x => fitN (M 122) nd p (nI x)) T gp s k))), some (Value.int (nI ((xS (fun p x => fitN (M 122) nd p (nI x)) T gp s k) + wd k)))] rfl ?_
                  refine ac_kill 5 [some (Value.ref 121), some (Value.int (nI s)), some (Value.int (nI ((xS (fun p x => fitN (M 122) nd p (nI x)) T gp s k) + wd k))), some (Value.int (nI (k + 1))), none, none, some (Value.int (nI ((xS (fun p x => fitN (M 122) nd p (nI x)) T gp s k) + wd k)))] rfl ?_
                  refine ac_kill 6 [some (Value.ref 121), some (Value.int (nI s)), some (Value.int (nI ((xS (fun p x => fitN (M 122) nd p (nI x)) T gp s k) + wd k))), some (Value.int (nI (k + 1))), none, none, none] rfl ?_
                  have e9 : leS (fun p x => fitN (M 122) nd p (nI x)) wd gp T s (k + 1) = (xS (fun p x => fitN (M 122) nd p (nI x)) T gp s k) + wd k := by show (if _ then _ else _) = _; rw [if_pos ⟨hbt, hT9, h39 c_75, hyes c_115⟩]
                  rw [e9] at ih
                  exact ih
            · intro x hx ih hpr
              refine ac_iload 73 dX8_reachOf_71 rfl rfl ?_
              refine ac_bipush 75 39 dX8_reachOf_73 rfl (by decide) ?_
              refine ac_icmp_gt 94 78 dX8_reachOf_75 (by decide) rfl (fun c_75 => absurd c_75 (h39b (hX.2.2.1 x (by rw [hA]; exact hpr) hx).2)) (fun _ => ?_)
              refine ac_aload_n 79 dX8_reachOf_78 rfl rfl ?_
              refine ac_iload_n 80 dX8_reachOf_79 rfl rfl ?_
              refine ac_iload 82 dX8_reachOf_80 rfl rfl ?_
              refine ac_callV (μ' := m8_doesFit) 85 dX8_reachOf_82 rfl lk8_139 m8_doesFit_V ob121 (c8_doesFit hn (by omega) _) rfl rfl (by decide) (Nat.le_of_ble_eq_true rfl) ?_
              refine ac_if_ne 94 88 dX8_reachOf_85 (by decide) rfl (fun c_85 => absurd (bi_f (hX.2.2.1 x (by rw [hA]; exact hpr) hx).1) c_85) (fun _ => ?_)
              refine ac_iinc 91 (nI (x + 1)) [some (Value.ref 121), some (Value.int (nI s)), some (Value.int (nI (leS (fun p x => fitN (M 122) nd p (nI x)) wd gp T s k))), some (Value.int (nI k)), some (Value.int (nI (rmS s k))), some (Value.int (nI (x + 1))), none] dX8_reachOf_88 rfl rfl (nI_1 _) rfl (by decide) rfl ?_
              refine ac_goto 71 dX8_reachOf_91 (by decide) ?_
              exact ih (by omega)
          · have hA : stS T gp s k = 0 := if_pos ((nI_eq (b := 0) (by omega) (by decide)).mp c_48)
            refine ac_iconst 52 0 dX8_reachOf_51 rfl (by decide) ?_
            refine ac_goto 69 dX8_reachOf_52 (by decide) ?_
            refine ac_istore 71 [some (Value.ref 121), some (Value.int (nI s)), some (Value.int (nI (leS (fun p x => fitN (M 122) nd p (nI x)) wd gp T s k))), some (Value.int (nI k)), some (Value.int (nI (rmS s k))), some (Value.int 0), none] dX8_reachOf_69 rfl rfl (Nat.le_of_ble_eq_true rfl) (by decide) rfl ?_
            refine ac_down (n := (xS (fun p x => fitN (M 122) nd p (nI x)) T gp s k)) (P := fun x => (0 ≤ x) → A0 m8_reachOf 3 71 [some (Value.ref 121), some (Value.int (nI s)), some (Value.int (nI (leS (fun p x => fitN (M 122) nd p (nI x)) wd gp T s k))), some (Value.int (nI k)), some (Value.int (nI (rmS s k))), some (Value.int (nI x)), none] [] M V f (RV (nI (leS (fun p x => fitN (M 122) nd p (nI x)) wd gp T s np)) M V f)) ?_ ?_ 0 (by rw [← hA]; exact hX.1) (Nat.le_refl _)
            · intro hpr
              refine ac_iload 73 dX8_reachOf_71 rfl rfl ?_
              refine ac_bipush 75 39 dX8_reachOf_73 rfl (by decide) ?_
              refine ac_icmp_gt 94 78 dX8_reachOf_75 (by decide) rfl (fun c_75 => ?_) (fun c_75 => ?_)
              · refine ac_iload 96 dX8_reachOf_94 rfl rfl ?_
                refine ac_aload_n 97 dX8_reachOf_96 rfl rfl ?_
                refine ac_iload_n 98 dX8_reachOf_97 rfl rfl ?_
                refine ac_iconst 99 0 dX8_reachOf_98 rfl (by decide) ?_
                refine ac_callV (μ' := m8_ofPicture) 102 dX8_reachOf_99 rfl lk8_118 m8_ofPicture_V ob121 (c8_ofP0 (by omega)) rfl rfl (by decide) (Nat.le_of_ble_eq_true rfl) ?_
                refine ac_iadd 103 dX8_reachOf_102 rfl ?_
                rw [show ((nI (xS (fun p x => fitN (M 122) nd p (nI x)) T gp s k)) + (M 122 (4 + 4 * k))) = (nI ((xS (fun p x => fitN (M 122) nd p (nI x)) T gp s k) + wd k)) from (by rw [hwk.1, nI_add])]
                refine ac_istore 105 [some (Value.ref 121), some (Value.int (nI s)), some (Value.int (nI (leS (fun p x => fitN (M 122) nd p (nI x)) wd gp T s k))), some (Value.int (nI k)), some (Value.int (nI (rmS s k))), some (Value.int (nI (xS (fun p x => fitN (M 122) nd p (nI x)) T gp s k))), some (Value.int (nI ((xS (fun p x => fitN (M 122) nd p (nI x)) T gp s k) + wd k)))] dX8_reachOf_103 rfl rfl (Nat.le_of_ble_eq_true rfl) (by decide) rfl ?_
                refine ac_iload 107 dX8_reachOf_105 rfl rfl ?_
                refine ac_bipush 109 39 dX8_reachOf_107 rfl (by decide) ?_
                refine ac_icmp_gt 123 112 dX8_reachOf_109 (by decide) rfl (fun _ => ?_) (fun c_109 => absurd c_75 c_109)
                refine ac_iload_n 124 dX8_reachOf_123 rfl rfl ?_
                refine ac_istore_n 125 [some (Value.ref 121), some (Value.int (nI s)), some (Value.int (nI (leS (fun p x => fitN (M 122) nd p (nI x)) wd gp T s k))), some (Value.int (nI k)), some (Value.int (nI (rmS s k))), some (Value.int (nI (xS (fun p x => fitN (M 122) nd p (nI x)) T gp s k))), some (Value.int (nI ((xS (fun p x => fitN (M 122) nd p (nI x)) T gp s k) + wd k)))] dX8_reachOf_124 rfl rfl (Nat.le_of_ble_eq_true rfl) (by decide) rfl ?_
                refine ac_iinc 128 (nI (k + 1)) [some (Value.ref 121), some (Value.int (nI s)), some (Value.int (nI (leS (fun p x => fitN (M 122) nd p (nI x)) wd gp T s k))), some (Value.int (nI (k + 1))), some (Value.int (nI (rmS s k))), some (Value.int (nI (xS (fun p x => fitN (M 122) nd p (nI x)) T gp s k))), some (Value.int (nI ((xS (fun p x => fitN (M 122) nd p (nI x)) T gp s k) + wd k)))] dX8_reachOf_125 rfl rfl (nI_1 _) rfl (by decide) rfl ?_
                refine ac_goto 6 dX8_reachOf_128 (by decide) ?_
                refine ac_kill 4 [some (Value.ref 121), some (Value.int (nI s)), some (Value.int (nI (leS (fun p x => fitN (M 122) nd p (nI x)) wd gp T s k))), some (Value.int (nI (k + 1))), none, some (Value.int (nI (xS (fun p x => fitN (M 122) nd p (nI x)) T gp s k))), some (Value.int (nI ((xS (fun p x => fitN (M 122) nd p (nI x)) T gp s k) + wd k)))] rfl ?_
                refine ac_kill 5 [some (Value.ref 121), some (Value.int (nI s)), some (Value.int (nI (leS (fun p x => fitN (M 122) nd p (nI x)) wd gp T s k))), some (Value.int (nI (k + 1))), none, none, some (Value.int (nI ((xS (fun p x => fitN (M 122) nd p (nI x)) T gp s k) + wd k)))] rfl ?_
                refine ac_kill 6 [some (Value.ref 121), some (Value.int (nI s)), some (Value.int (nI (leS (fun p x => fitN (M 122) nd p (nI x)) wd gp T s k))), some (Value.int (nI (k + 1))), none, none, none] rfl ?_
                have e9 : leS (fun p x => fitN (M 122) nd p (nI x)) wd gp T s (k + 1) = leS (fun p x => fitN (M 122) nd p (nI x)) wd gp T s k := by show (if _ then _ else _) = _; first | rw [if_neg (fun q => absurd q.1 (by rw [hbt]; decide))] | rw [if_neg (fun q => hT9 q.2.1)] | rw [if_neg (fun q => h40 c_75 q.2.2.1)] | rw [if_neg (fun q => hno c_115 q.2.2.2)]
                rw [e9] at ih
                exact ih
              · refine ac_aload_n 79 dX8_reachOf_78 rfl rfl ?_
                refine ac_iload_n 80 dX8_reachOf_79 rfl rfl ?_
                refine ac_iload 82 dX8_reachOf_80 rfl rfl ?_
                refine ac_callV (μ' := m8_doesFit) 85 dX8_reachOf_82 rfl lk8_139 m8_doesFit_V ob121 (c8_doesFit hn (by omega) _) rfl rfl (by decide) (Nat.le_of_ble_eq_true rfl) ?_
                refine ac_if_ne 94 88 dX8_reachOf_85 (by decide) rfl (fun _ => ?_) (fun c_85 => absurd c_85 (by rw [bi_eq0]; exact fun h => h (hX.2.2.2 (h39 c_75))))
                refine ac_iload 96 dX8_reachOf_94 rfl rfl ?_
                refine ac_aload_n 97 dX8_reachOf_96 rfl rfl ?_
                refine ac_iload_n 98 dX8_reachOf_97 rfl rfl ?_
                refine ac_iconst 99 0 dX8_reachOf_98 rfl (by decide) ?_
                refine ac_callV (μ' := m8_ofPicture) 102 dX8_reachOf_99 rfl lk8_118 m8_ofPicture_V ob121 (c8_ofP0 (by omega)) rfl rfl (by decide) (Nat.le_of_ble_eq_true rfl) ?_
                refine ac_iadd 103 dX8_reachOf_102 rfl ?_
                rw [show ((nI (xS (fun p x => fitN (M 122) nd p (nI x)) T gp s k)) + (M 122 (4 + 4 * k))) = (nI ((xS (fun p x => fitN (M 122) nd p (nI x)) T gp s k) + wd k)) from (by rw [hwk.1, nI_add])]
                refine ac_istore 105 [some (Value.ref 121), some (Value.int (nI s)), some (Value.int (nI (leS (fun p x => fitN (M 122) nd p (nI x)) wd gp T s k))), some (Value.int (nI k)), some (Value.int (nI (rmS s k))), some (Value.int (nI (xS (fun p x => fitN (M 122) nd p (nI x)) T gp s k))), some (Value.int (nI ((xS (fun p x => fitN (M 122) nd p (nI x)) T gp s k) + wd k)))] dX8_reachOf_103 rfl rfl (Nat.le_of_ble_eq_true rfl) (by decide) rfl ?_
                refine ac_iload 107 dX8_reachOf_105 rfl rfl ?_
                refine ac_bipush 109 39 dX8_reachOf_107 rfl (by decide) ?_
                refine ac_icmp_gt 123 112 dX8_reachOf_109 (by decide) rfl (fun c_109 => absurd c_109 c_75) (fun _ => ?_)
                refine ac_iload 114 dX8_reachOf_112 rfl rfl ?_
                refine ac_iload_n 115 dX8_reachOf_114 rfl rfl ?_
                refine ac_icmp_ge 123 118 dX8_reachOf_115 (by decide) rfl (fun c_115 => ?_) (fun c_115 => ?_)
                · refine ac_iload_n 124 dX8_reachOf_123 rfl rfl ?_
                  refine ac_istore_n 125 [some (Value.ref 121), some (Value.int (nI s)), some (Value.int (nI (leS (fun p x => fitN (M 122) nd p (nI x)) wd gp T s k))), some (Value.int (nI k)), some (Value.int (nI (rmS s k))), some (Value.int (nI (xS (fun p x => fitN (M 122) nd p (nI x)) T gp s k))), some (Value.int (nI ((xS (fun p x => fitN (M 122) nd p (nI x)) T gp s k) + wd k)))] dX8_reachOf_124 rfl rfl (Nat.le_of_ble_eq_true rfl) (by decide) rfl ?_
                  refine ac_iinc 128 (nI (k + 1)) [some (Value.ref 121), some (Value.int (nI s)), some (Value.int (nI (leS (fun p x => fitN (M 122) nd p (nI x)) wd gp T s k))), some (Value.int (nI (k + 1))), some (Value.int (nI (rmS s k))), some (Value.int (nI (xS (fun p x => fitN (M 122) nd p (nI x)) T gp s k))), some (Value.int (nI ((xS (fun p x => fitN (M 122) nd p (nI x)) T gp s k) + wd k)))] dX8_reachOf_125 rfl rfl (nI_1 _) rfl (by decide) rfl ?_
                  refine ac_goto 6 dX8_reachOf_128 (by decide) ?_
                  refine ac_kill 4 [some (Value.ref 121), some (Value.int (nI s)), some (Value.int (nI (leS (fun p x => fitN (M 122) nd p (nI x)) wd gp T s k))), some (Value.int (nI (k + 1))), none, some (Value.int (nI (xS (fun p x => fitN (M 122) nd p (nI x)) T gp s k))), some (Value.int (nI ((xS (fun p x => fitN (M 122) nd p (nI x)) T gp s k) + wd k)))] rfl ?_
                  refine ac_kill 5 [some (Value.ref 121), some (Value.int (nI s)), some (Value.int (nI (leS (fun p x => fitN (M 122) nd p (nI x)) wd gp T s k))), some (Value.int (nI (k + 1))), none, none, some (Value.int (nI ((xS (fun p x => fitN (M 122) nd p (nI x)) T gp s k) + wd k)))] rfl ?_
                  refine ac_kill 6 [some (Value.ref 121), some (Value.int (nI s)), some (Value.int (nI (leS (fun p x => fitN (M 122) nd p (nI x)) wd gp T s k))), some (Value.int (nI (k + 1))), none, none, none] rfl ?_
                  have e9 : leS (fun p x => fitN (M 122) nd p (nI x)) wd gp T s (k + 1) = leS (fun p x => fitN (M 122) nd p (nI x)) wd gp T s k := by show (if _ then _ else _) = _; first | rw [if_neg (fun q => absurd q.1 (by rw [hbt]; decide))] | rw [if_neg (fun q => hT9 q.2.1)] | rw [if_neg (fun q => h40 c_75 q.2.2.1)] | rw [if_neg (fun q => hno c_115 q.2.2.2)]
                  rw [e9] at ih
                  exact ih
                · refine ac_iload 120 dX8_reachOf_118 rfl rfl ?_
                  refine ac_goto 124 dX8_reachOf_120 (by decide) ?_
                  refine ac_istore_n 125 [some (Value.ref 121), some (Value.int (nI s)), some (Value.int (nI ((xS (fun p x => fitN (M 122) nd p (nI x)) T gp s k) + wd k))), some (Value.int (nI k)), some (Value.int (nI (rmS s k))), some (Value.int (nI (xS (fun p x => fitN (M 122) nd p (nI x)) T gp s k))), some (Value.int (nI ((xS (fun p x => fitN (M 122) nd p (nI x)) T gp s k) + wd k)))] dX8_reachOf_124 rfl rfl (Nat.le_of_ble_eq_true rfl) (by decide) rfl ?_
                  refine ac_iinc 128 (nI (k + 1)) [some (Value.ref 121), some (Value.int (nI s)), some (Value.int (nI ((xS (fun p x => fitN (M 122) nd p (nI x)) T gp s k) + wd k))), some (Value.int (nI (k + 1))), some (Value.int (nI (rmS s k))), some (Value.int (nI (xS (fun p x => fitN (M 122) nd p (nI x)) T gp s k))), some (Value.int (nI ((xS (fun p x => fitN (M 122) nd p (nI x)) T gp s k) + wd k)))] dX8_reachOf_125 rfl rfl (nI_1 _) rfl (by decide) rfl ?_
                  refine ac_goto 6 dX8_reachOf_128 (by decide) ?_
                  refine ac_kill 4 [some (Value.ref 121), some (Value.int (nI s)), some (Value.int (nI ((xS (fun p x => fitN (M 122) nd p (nI x)) T gp s k) + wd k))), some (Value.int (nI (k + 1))), none, some (Value.int (nI (xS (fun p x => fitN (M 122) nd p (nI x)) T gp s k))), some (Value.int (nI ((xS (fun p x => fitN (M 122) nd p (nI x)) T gp s k) + wd k)))] rfl ?_
                  refine ac_kill 5 [some (Value.ref 121), some (Value.int (nI s)), some (Value.int (nI ((xS (fun p x => fitN (M 122) nd p (nI x)) T gp s k) + wd k))), some (Value.int (nI (k + 1))), none, none, some (Value.int (nI ((xS (fun p x => fitN (M 122) nd p (nI x)) T gp s k) + wd k)))] rfl ?_
                  refine ac_kill 6 [some (Value.ref 121), some (Value.int (nI s)), some (Value.int (nI ((xS (fun p x => fitN (M 122) nd p (nI x)) T gp s k) + wd k))), some (Value.int (nI (k + 1))), none, none, none] rfl ?_
                  have e9 : leS (fun p x => fitN (M 122) nd p (nI x)) wd gp T s (k + 1) = (xS (fun p x => fitN (M 122) nd p (nI x)) T gp s k) + wd k := by show (if _ then _ else _) = _; rw [if_pos ⟨hbt, hT9, h39 c_75, hyes c_115⟩]
                  rw [e9] at ih
                  exact ih
            · intro x hx ih hpr
              refine ac_iload 73 dX8_reachOf_71 rfl rfl ?_
              refine ac_bipush 75 39 dX8_reachOf_73 rfl (by decide) ?_
              refine ac_icmp_gt 94 78 dX8_reachOf_75 (by decide) rfl (fun c_75 => absurd c_75 (h39b (hX.2.2.1 x (by rw [hA]; exact hpr) hx).2)) (fun _ => ?_)
              refine ac_aload_n 79 dX8_reachOf_78 rfl rfl ?_
              refine ac_iload_n 80 dX8_reachOf_79 rfl rfl ?_
              refine ac_iload 82 dX8_reachOf_80 rfl rfl ?_
              refine ac_callV (μ' := m8_doesFit) 85 dX8_reachOf_82 rfl lk8_139 m8_doesFit_V ob121 (c8_doesFit hn (by omega) _) rfl rfl (by decide) (Nat.le_of_ble_eq_true rfl) ?_
              refine ac_if_ne 94 88 dX8_reachOf_85 (by decide) rfl (fun c_85 => absurd (bi_f (hX.2.2.1 x (by rw [hA]; exact hpr) hx).1) c_85) (fun _ => ?_)
              refine ac_iinc 91 (nI (x + 1)) [some (Value.ref 121), some (Value.int (nI s)), some (Value.int (nI (leS (fun p x => fitN (M 122) nd p (nI x)) wd gp T s k))), some (Value.int (nI k)), some (Value.int (nI (rmS s k))), some (Value.int (nI (x + 1))), none] dX8_reachOf_88 rfl rfl (nI_1 _) rfl (by decide) rfl ?_
              refine ac_goto 71 dX8_reachOf_91 (by decide) ?_
              exact ih (by omega)
  refine ac_iconst 5 0 dX8_reachOf_4 rfl (by decide) ?_
  refine ac_istore_n 6 [some (Value.ref 121), some (Value.int (nI s)), some (Value.int 1000), some (Value.int 0), none, none, none] dX8_reachOf_5 rfl rfl (Nat.le_of_ble_eq_true rfl) (by decide) rfl ?_
  exact hL
theorem tbS_0 (F : Nat → Nat → Prop) (wd : Nat → Nat) (gp np : Nat) : ∀ k, tbS F wd gp np k 0 = 0
  | 0 => rfl
  | k + 1 => by rw [tbS_st F wd gp np k 0 (by omega)]; exact tbS_0 F wd gp np k
theorem pcS_0 : ∀ k, pcS 0 k = 0
  | 0 => rfl
  | k + 1 => by show pcS 0 k + btS 0 k = 0; rw [pcS_0 k]; simp [btS]
theorem wtS_0 (w : rN) : ∀ k, wtS w 0 k = 0
  | 0 => rfl
  | k + 1 => by show wtS w 0 k + _ = 0; rw [wtS_0 w k]; simp
/-- the row of least ends when the first k sets are through -/
noncomputable def rwS (F : Nat → Nat → Prop) (wd : Nat → Nat) (gp np : Nat) (g : Nat → Int32) (k : Nat) : Nat → Int32 := fun i => if 1 ≤ i ∧ i ≤ k then nI (tbS F wd gp np k i) else g i
theorem rwS_st {F : Nat → Nat → Prop} {wd : Nat → Nat} {gp np : Nat} {g : Nat → Int32} {k : Nat} {M : am_I} {r : Nat} : am_up (am_row M r (rwS F wd gp np g k)) r (k + 1) (nI (leS F wd gp (tbS F wd gp np k) (k + 1) np)) = am_row M r (rwS F wd gp np g (k + 1)) := by
  rw [row_up]
  refine row_ext (fun i => ?_)
  unfold rwS
  by_cases hi : i = k + 1
  · subst hi
    rw [if_pos rfl, if_pos ⟨by omega, Nat.le_refl _⟩]
    show nI _ = nI (if k + 1 = k + 1 then _ else _)
    rw [if_pos rfl]
  · rw [if_neg hi]
    by_cases h1 : 1 ≤ i ∧ i ≤ k
    · rw [if_pos h1, if_pos ⟨h1.1, by omega⟩, tbS_st F wd gp np k i h1.2]
    · rw [if_neg h1, if_neg (fun q => h1 ⟨q.1, by omega⟩)]
theorem rwS_0 {F : Nat → Nat → Prop} {wd : Nat → Nat} {gp np : Nat} {g : Nat → Int32} : rwS F wd gp np g 0 = g := by
  funext i
  exact if_neg (fun q => by omega)
theorem rwS_in {F : Nat → Nat → Prop} {wd : Nat → Nat} {gp np : Nat} {g : Nat → Int32} {k i : Nat} (h1 : 1 ≤ i) (h2 : i ≤ k) : rwS F wd gp np g k i = nI (tbS F wd gp np k i) := if_pos ⟨h1, h2⟩
theorem bmS_t {F : Nat → Nat → Prop} {wd : Nat → Nat} {gp np : Nat} {w : rN} {k : Nat} (h : tbS F wd gp np (k + 1) (k + 1) < 1000 ∧ (pcS (bmS F wd gp np w k) np < pcS (k + 1) np ∨ pcS (k + 1) np = pcS (bmS F wd gp np w k) np ∧ wtS w (bmS F wd gp np w k) np < wtS w (k + 1) np)) : bmS F wd gp np w (k + 1) = k + 1 := cif_t h
theorem bmS_f {F : Nat → Nat → Prop} {wd : Nat → Nat} {gp np : Nat} {w : rN} {k : Nat} (h : ¬ (tbS F wd gp np (k + 1) (k + 1) < 1000 ∧ (pcS (bmS F wd gp np w k) np < pcS (k + 1) np ∨ pcS (k + 1) np = pcS (bmS F wd gp np w k) np ∧ wtS w (bmS F wd gp np w k) np < wtS w (k + 1) np))) : bmS F wd gp np w (k + 1) = bmS F wd gp np w k := cif_f h
theorem bmS_le {F : Nat → Nat → Prop} {wd : Nat → Nat} {gp np : Nat} {w : rN} : ∀ k, bmS F wd gp np w k ≤ k
  | 0 => Nat.le_refl 0
  | k + 1 => by
    have := bmS_le (F := F) (wd := wd) (gp := gp) (np := np) (w := w) k
    unfold bmS cif
    split <;> omega
theorem tbS_top {F : Nat → Nat → Prop} {wd : Nat → Nat} {gp np k : Nat} : tbS F wd gp np (k + 1) (k + 1) = leS F wd gp (tbS F wd gp np k) (k + 1) np := by
  show (if k + 1 = k + 1 then _ else _) = _
  rw [if_pos rfl]
set_option maxRecDepth 20000 in
theorem q8_most {M : am_I} {V : am_J} {f : Nat → Option Nat} {np nd nh gp : Nat} {wd : Nat → Nat} (hn : NC (M 122) np nd nh) (hwd : WD (M 122) np wd gp) (h135 : M 135 0 = 0) : CT m8_most 4 [Value.ref 121] M V f (RM (some (.int (nI (bmS (fun p x => fitN (M 122) nd p (nI x)) wd gp np (M 122) (2 ^ np - 1))))) (am_row M 135 (rwS (fun p x => fitN (M 122) nd p (nI x)) wd gp np (M 135) (2 ^ np - 1))) V f) := by
  have hnp := hn.2.1
  have h32 := pow_le np hnp
  have h2p : 0 < 2 ^ np := Nat.two_pow_pos np
  refine CT.of m8_most_V.1 _ (en_a_8 121) ?_
  refine ac_iconst 1 0 dX8_most_0 rfl (by decide) ?_
  refine ac_istore_n 2 [some (Value.ref 121), some (Value.int 0), none, none, none, none, none, none] dX8_most_1 rfl rfl (Nat.le_of_ble_eq_true rfl) (by decide) rfl ?_
  refine ac_iconst 3 0 dX8_most_2 rfl (by decide) ?_
  refine ac_istore_n 4 [some (Value.ref 121), some (Value.int 0), some (Value.int 0), none, none, none, none, none] dX8_most_3 rfl rfl (Nat.le_of_ble_eq_true rfl) (by decide) rfl ?_
  refine ac_iconst 5 0 dX8_most_4 rfl (by decide) ?_
  refine ac_istore_n 6 [some (Value.ref 121), some (Value.int 0), some (Value.int 0), some (Value.int 0), none, none, none, none] dX8_most_5 rfl rfl (Nat.le_of_ble_eq_true rfl) (by decide) rfl ?_
  have hL : A0 m8_most 4 9 [some (Value.ref 121), some (Value.int (nI (bmS (fun p x => fitN (M 122) nd p (nI x)) wd gp np (M 122) 0))), some (Value.int (nI (pcS (bmS (fun p x => fitN (M 122) nd p (nI x)) wd gp np (M 122) 0) np))), some (Value.int (wtS (M 122) (bmS (fun p x => fitN (M 122) nd p (nI x)) wd gp np (M 122) 0) np)), some (Value.int (nI (0 + 1))), none, none, none] [] (am_row M 135 (rwS (fun p x => fitN (M 122) nd p (nI x)) wd gp np (M 135) 0)) V f (RM (some (.int (nI (bmS (fun p x => fitN (M 122) nd p (nI x)) wd gp np (M 122) (2 ^ np - 1))))) (am_row M 135 (rwS (fun p x => fitN (M 122) nd p (nI x)) wd gp np (M 135) (2 ^ np - 1))) V f) := by
    refine ac_down (n := (2 ^ np - 1)) (P := fun k => A0 m8_most 4 9 [some (Value.ref 121), some (Value.int (nI (bmS (fun p x => fitN (M 122) nd p (nI x)) wd gp np (M 122) k))), some (Value.int (nI (pcS (bmS (fun p x => fitN (M 122) nd p (nI x)) wd gp np (M 122) k) np))), some (Value.int (wtS (M 122) (bmS (fun p x => fitN (M 122) nd p (nI x)) wd gp np (M 122) k) np)), some (Value.int (nI (k + 1))), none, none, none] [] (am_row M 135 (rwS (fun p x => fitN (M 122) nd p (nI x)) wd gp np (M 135) k)) V f (RM (some (.int (nI (bmS (fun p x => fitN (M 122) nd p (nI x)) wd gp np (M 122) (2 ^ np - 1))))) (am_row M 135 (rwS (fun p x => fitN (M 122) nd p (nI x)) wd gp np (M 135) (2 ^ np - 1))) V f)) ?_ ?_ 0 (Nat.zero_le _) 
    · refine ac_iload 11 dX8_most_9 rfl rfl ?_
      refine ac_iconst 12 1 dX8_most_11 rfl (by decide) ?_
      refine ac_aload_n 13 dX8_most_12 rfl rfl ?_
      refine ac_getO 16 122 dX8_most_13 rfl fl8_7 ob121 rfl ?_
      refine ac_iconst 17 3 dX8_most_16 rfl (by decide) ?_
      refine ac_iald 18 dX8_most_17 rfl ar122 (ix_nI (k := 3) (by decide) (by decide)) ?_
      rw [show ((am_row M 135 (rwS (fun p x => fitN (M 122) nd p (nI x)) wd gp np (M 135) (2 ^ np - 1))) 122 3) = (M 122 3) from rfl]
      rw [show (M 122 3) = (nI np) from hn.1]
      refine ac_ishl 19 dX8_most_18 rfl ?_
      rw [show (1 <<< ((nI np) &&& 31)) = (nI (2 ^ np)) from (shl_ok np hnp)]
      refine ac_icmp_ge 145 22 dX8_most_19 (by decide) rfl (fun _ => ?_) (fun c_19 => absurd (by rw [show 2 ^ np - 1 + 1 = 2 ^ np by omega]; exact Int32.le_refl _) c_19)
      refine ac_iload_n 146 dX8_most_145 rfl rfl ?_
      refine ac_iret dX8_most_146 ⟨_, rfl, rfl⟩ ?_
      exact rm_mk rfl
    · intro k hk ih
      have hlb := leS_le (fun p x => fitN (M 122) nd p (nI x)) wd gp (tbS (fun p x => fitN (M 122) nd p (nI x)) wd gp np k) (k + 1) np (fun p hp => (hwd.1 p hp).2.2)
      have hp1 := pcS_le (k + 1) np
      have hp2 := pcS_le (bmS (fun p x => fitN (M 122) nd p (nI x)) wd gp np (M 122) k) np
      have h1000 : (1000 : Int32) ≤ nI (leS (fun p x => fitN (M 122) nd p (nI x)) wd gp (tbS (fun p x => fitN (M 122) nd p (nI x)) wd gp np k) (k + 1) np) → ¬ (leS (fun p x => fitN (M 122) nd p (nI x)) wd gp (tbS (fun p x => fitN (M 122) nd p (nI x)) wd gp np k) (k + 1) np) < 1000 := fun h q => absurd ((nI_leI (a := 1000) (by decide) (by omega)).mp h) (by omega)
      have hlt : ¬ (1000 : Int32) ≤ nI (leS (fun p x => fitN (M 122) nd p (nI x)) wd gp (tbS (fun p x => fitN (M 122) nd p (nI x)) wd gp np k) (k + 1) np) → (leS (fun p x => fitN (M 122) nd p (nI x)) wd gp (tbS (fun p x => fitN (M 122) nd p (nI x)) wd gp np k) (k + 1) np) < 1000 := fun h => Nat.lt_of_not_le (fun q => h (nI_le (a := 1000) q (by omega)))
      have hgt : ¬ nI (pcS (bmS (fun p x => fitN (M 122) nd p (nI x)) wd gp np (M 122) k) np) < nI (pcS (k + 1) np) → ¬ pcS (bmS (fun p x => fitN (M 122) nd p (nI x)) wd gp np (M 122) k) np < pcS (k + 1) np := fun h q => h (nI_lt q (by omega))
      have hgt2 : nI (pcS (bmS (fun p x => fitN (M 122) nd p (nI x)) wd gp np (M 122) k) np) < nI (pcS (k + 1) np) → pcS (bmS (fun p x => fitN (M 122) nd p (nI x)) wd gp np (M 122) k) np < pcS (k + 1) np := fun h => (nI_ltI (by omega) (by omega)).mp h
      have hne : ¬ nI (pcS (k + 1) np) = nI (pcS (bmS (fun p x => fitN (M 122) nd p (nI x)) wd gp np (M 122) k) np) → ¬ pcS (k + 1) np = pcS (bmS (fun p x => fitN (M 122) nd p (nI x)) wd gp np (M 122) k) np := fun h q => h (by rw [q])
      have heq : nI (pcS (k + 1) np) = nI (pcS (bmS (fun p x => fitN (M 122) nd p (nI x)) wd gp np (M 122) k) np) → pcS (k + 1) np = pcS (bmS (fun p x => fitN (M 122) nd p (nI x)) wd gp np (M 122) k) np := fun h => (nI_eq (by omega) (by omega)).mp h
      refine ac_iload 11 dX8_most_9 rfl rfl ?_
      refine ac_iconst 12 1 dX8_most_11 rfl (by decide) ?_
      refine ac_aload_n 13 dX8_most_12 rfl rfl ?_
      refine ac_getO 16 122 dX8_most_13 rfl fl8_7 ob121 rfl ?_
      refine ac_iconst 17 3 dX8_most_16 rfl (by decide) ?_
      refine ac_iald 18 dX8_most_17 rfl ar122 (ix_nI (k := 3) (by decide) (by decide)) ?_
      rw [show ((am_row M 135 (rwS (fun p x => fitN (M 122) nd p (nI x)) wd gp np (M 135) k)) 122 3) = (M 122 3) from rfl]
      rw [show (M 122 3) = (nI np) from hn.1]
      refine ac_ishl 19 dX8_most_18 rfl ?_
      rw [show (1 <<< ((nI np) &&& 31)) = (nI (2 ^ np)) from (shl_ok np hnp)]
      refine ac_icmp_ge 145 22 dX8_most_19 (by decide) rfl (fun c_19 => absurd c_19 (nI_ge (by omega) (by omega))) (fun _ => ?_)
      refine ac_aload_n 23 dX8_most_22 rfl rfl ?_
      refine ac_getO 26 135 dX8_most_23 rfl fl8_50 ob121 rfl ?_
      refine ac_iload 28 dX8_most_26 rfl rfl ?_
      refine ac_aload_n 29 dX8_most_28 rfl rfl ?_
      refine ac_iload 31 dX8_most_29 rfl rfl ?_
      refine ac_callV (μ' := m8_reachOf) 34 dX8_most_31 rfl lk8_186 m8_reachOf_V ob121 (c8_reachOf (M := (am_row M 135 (rwS (fun p x => fitN (M 122) nd p (nI x)) wd gp np (M 135) k))) (s := k + 1) (T := (tbS (fun p x => fitN (M 122) nd p (nI x)) wd gp np k)) hn hwd (by omega) (tbS_le (fun p x => fitN (M 122) nd p (nI x)) wd gp np (fun p hp => (hwd.1 p hp).2.2) k) (fun i hi => by
        show rwS (fun p x => fitN (M 122) nd p (nI x)) wd gp np (M 135) k i = _
        by_cases h0 : i = 0
        · subst h0; rw [tbS_0]; exact (if_neg (fun q => by omega)).trans h135
        · exact rwS_in (by omega) (by omega))) rfl rfl (by decide) (Nat.le_of_ble_eq_true rfl) ?_
      refine ac_iast 35 dX8_most_34 rfl ar135 (ix_nI (by omega) (by decide)) ?_
      refine ac_iconst 36 0 dX8_most_35 rfl (by decide) ?_
      refine ac_istore 38 [some (Value.ref 121), some (Value.int (nI (bmS (fun p x => fitN (M 122) nd p (nI x)) wd gp np (M 122) k))), some (Value.int (nI (pcS (bmS (fun p x => fitN (M 122) nd p (nI x)) wd gp np (M 122) k) np))), some (Value.int (wtS (M 122) (bmS (fun p x => fitN (M 122) nd p (nI x)) wd gp np (M 122) k) np)), some (Value.int (nI (k + 1))), some (Value.int 0), none, none] dX8_most_36 rfl rfl (Nat.le_of_ble_eq_true rfl) (by decide) rfl ?_
      refine ac_iconst 39 0 dX8_most_38 rfl (by decide) ?_
      refine ac_istore 41 [some (Value.ref 121), some (Value.int (nI (bmS (fun p x => fitN (M 122) nd p (nI x)) wd gp np (M 122) k))), some (Value.int (nI (pcS (bmS (fun p x => fitN (M 122) nd p (nI x)) wd gp np (M 122) k) np))), some (Value.int (wtS (M 122) (bmS (fun p x => fitN (M 122) nd p (nI x)) wd gp np (M 122) k) np)), some (Value.int (nI (k + 1))), some (Value.int 0), some (Value.int 0), none] dX8_most_39 rfl rfl (Nat.le_of_ble_eq_true rfl) (by decide) rfl ?_
      have hL : A0 m8_most 4 44 [some (Value.ref 121), some (Value.int (nI (bmS (fun p x => fitN (M 122) nd p (nI x)) wd gp np (M 122) k))), some (Value.int (nI (pcS (bmS (fun p x => fitN (M 122) nd p (nI x)) wd gp np (M 122) k) np))), some (Value.int (wtS (M 122) (bmS (fun p x => fitN (M 122) nd p (nI x)) wd gp np (M 122) k) np)), some (Value.int (nI (k + 1))), some (Value.int (nI (pcS (k + 1) 0))), some (Value.int (wtS (M 122) (k + 1) 0)), some (Value.int (nI 0))] [] (am_up (am_row M 135 (rwS (fun p x => fitN (M 122) nd p (nI x)) wd gp np (M 135) k)) 135 (k + 1) (nI (leS (fun p x => fitN (M 122) nd p (nI x)) wd gp (tbS (fun p x => fitN (M 122) nd p (nI x)) wd gp np k) (k + 1) np))) V f (RM (some (.int (nI (bmS (fun p x => fitN (M 122) nd p (nI x)) wd gp np (M 122) (2 ^ np - 1))))) (am_row M 135 (rwS (fun p x => fitN (M 122) nd p (nI x)) wd gp np (M 135) (2 ^ np - 1))) V f) := by
        refine ac_down (n := np) (P := fun q => A0 m8_most 4 44 [some (Value.ref 121), some (Value.int (nI (bmS (fun p x => fitN (M 122) nd p (nI x)) wd gp np (M 122) k))), some (Value.int (nI (pcS (bmS (fun p x => fitN (M 122) nd p (nI x)) wd gp np (M 122) k) np))), some (Value.int (wtS (M 122) (bmS (fun p x => fitN (M 122) nd p (nI x)) wd gp np (M 122) k) np)), some (Value.int (nI (k + 1))), some (Value.int (nI (pcS (k + 1) q))), some (Value.int (wtS (M 122) (k + 1) q)), some (Value.int (nI q))] [] (am_up (am_row M 135 (rwS (fun p x => fitN (M 122) nd p (nI x)) wd gp np (M 135) k)) 135 (k + 1) (nI (leS (fun p x => fitN (M 122) nd p (nI x)) wd gp (tbS (fun p x => fitN (M 122) nd p (nI x)) wd gp np k) (k + 1) np))) V f (RM (some (.int (nI (bmS (fun p x => fitN (M 122) nd p (nI x)) wd gp np (M 122) (2 ^ np - 1))))) (am_row M 135 (rwS (fun p x => fitN (M 122) nd p (nI x)) wd gp np (M 135) (2 ^ np - 1))) V f)) ?_ ?_ 0 (Nat.zero_le _) 
        · refine ac_iload 46 dX8_most_44 rfl rfl ?_
          refine ac_aload_n 47 dX8_most_46 rfl rfl ?_
          refine ac_getO 50 122 dX8_most_47 rfl fl8_7 ob121 rfl ?_
          refine ac_iconst 51 3 dX8_most_50 rfl (by decide) ?_
          refine ac_iald 52 dX8_most_51 rfl ar122 (ix_nI (k := 3) (by decide) (by decide)) ?_
          rw [show ((am_up (am_row M 135 (rwS (fun p x => fitN (M 122) nd p (nI x)) wd gp np (M 135) k)) 135 (k + 1) (nI (leS (fun p x => fitN (M 122) nd p (nI x)) wd gp (tbS (fun p x => fitN (M 122) nd p (nI x)) wd gp np k) (k + 1) np))) 122 3) = (M 122 3) from rfl]
          refine ac_icmp_ge 99 55 dX8_most_52 (by decide) rfl (fun _ => ?_) (fun c_52 => absurd (by rw [hn.1]; exact Int32.le_refl _) c_52)
          refine ac_aload_n 100 dX8_most_99 rfl rfl ?_
          refine ac_getO 103 135 dX8_most_100 rfl fl8_50 ob121 rfl ?_
          refine ac_iload 105 dX8_most_103 rfl rfl ?_
          refine ac_iald 106 dX8_most_105 rfl ar135 (ix_nI (by omega) (by decide)) ?_
          rw [show ((am_up (am_row M 135 (rwS (fun p x => fitN (M 122) nd p (nI x)) wd gp np (M 135) k)) 135 (k + 1) (nI (leS (fun p x => fitN (M 122) nd p (nI x)) wd gp (tbS (fun p x => fitN (M 122) nd p (nI x)) wd gp np k) (k + 1) np))) 135 (k + 1)) = (nI (leS (fun p x => fitN (M 122) nd p (nI x)) wd gp (tbS (fun p x => fitN (M 122) nd p (nI x)) wd gp np k) (k + 1) np)) from up_eq]
          refine ac_sipush 109 1000 dX8_most_106 rfl (by decide) ?_
          refine ac_icmp_ge 139 112 dX8_most_109 (by decide) rfl (fun c_109 => ?_) (fun c_109 => ?_)
          · refine ac_iinc 142 (nI (k + 1 + 1)) [some (Value.ref 121), some (Value.int (nI (bmS (fun p x => fitN (M 122) nd p (nI x)) wd gp np (M 122) k))), some (Value.int (nI (pcS (bmS (fun p x => fitN (M 122) nd p (nI x)) wd gp np (M 122) k) np))), some (Value.int (wtS (M 122) (bmS (fun p x => fitN (M 122) nd p (nI x)) wd gp np (M 122) k) np)), some (Value.int (nI (k + 1 + 1))), some (Value.int (nI (pcS (k + 1) np))), some (Value.int (wtS (M 122) (k + 1) np)), some (Value.int (nI np))] dX8_most_139 rfl rfl (nI_1 _) rfl (by decide) rfl ?_
            refine ac_goto 9 dX8_most_142 (by decide) ?_
            refine ac_kill 5 [some (Value.ref 121), some (Value.int (nI (bmS (fun p x => fitN (M 122) nd p (nI x)) wd gp np (M 122) k))), some (Value.int (nI (pcS (bmS (fun p x => fitN (M 122) nd p (nI x)) wd gp np (M 122) k) np))), some (Value.int (wtS (M 122) (bmS (fun p x => fitN (M 122) nd p (nI x)) wd gp np (M 122) k) np)), some (Value.int (nI (k + 1 + 1))), none, some (Value.int (wtS (M 122) (k + 1) np)), some (Value.int (nI np))] rfl ?_
            refine ac_kill 6 [some (Value.ref 121), some (Value.int (nI (bmS (fun p x => fitN (M 122) nd p (nI x)) wd gp np (M 122) k))), some (Value.int (nI (pcS (bmS (fun p x => fitN (M 122) nd p (nI x)) wd gp np (M 122) k) np))), some (Value.int (wtS (M 122) (bmS (fun p x => fitN (M 122) nd p (nI x)) wd gp np (M 122) k) np)), some (Value.int (nI (k + 1 + 1))), none, none, some (Value.int (nI np))] rfl ?_
            refine ac_kill 7 [some (Value.ref 121), some (Value.int (nI (bmS (fun p x => fitN (M 122) nd p (nI x)) wd gp np (M 122) k))), some (Value.int (nI (pcS (bmS (fun p x => fitN (M 122) nd p (nI x)) wd gp np (M 122) k) np))), some (Value.int (wtS (M 122) (bmS (fun p x => fitN (M 122) nd p (nI x)) wd gp np (M 122) k) np)), some (Value.int (nI (k + 1 + 1))), none, none, none] rfl ?_
            rw [rwS_st]
            have e8 : (bmS (fun p x => fitN (M 122) nd p (nI x)) wd gp np (M 122) (k + 1)) = (bmS (fun p x => fitN (M 122) nd p (nI x)) wd gp np (M 122) k) := bmS_f (by rw [tbS_top]; first | exact fun q => absurd (nI_le (a := 1000) (Nat.not_lt.mp (fun z => h1000 c_109 z)) (by omega)) (fun _ => h1000 c_109 q.1) | exact fun q => q.2.elim (fun z => hgt c_115 z) (fun z => hne c_121 z.1) | exact fun q => q.2.elim (fun z => hgt c_115 z) (fun z => absurd z.2 (Int32.not_lt.mpr c_127)))
            rw [e8] at ih
            exact ih
          · refine ac_iload 114 dX8_most_112 rfl rfl ?_
            refine ac_iload_n 115 dX8_most_114 rfl rfl ?_
            refine ac_icmp_gt 130 118 dX8_most_115 (by decide) rfl (fun c_115 => ?_) (fun c_115 => ?_)
            · refine ac_iload 132 dX8_most_130 rfl rfl ?_
              refine ac_istore_n 133 [some (Value.ref 121), some (Value.int (nI (k + 1))), some (Value.int (nI (pcS (bmS (fun p x => fitN (M 122) nd p (nI x)) wd gp np (M 122) k) np))), some (Value.int (wtS (M 122) (bmS (fun p x => fitN (M 122) nd p (nI x)) wd gp np (M 122) k) np)), some (Value.int (nI (k + 1))), some (Value.int (nI (pcS (k + 1) np))), some (Value.int (wtS (M 122) (k + 1) np)), some (Value.int (nI np))] dX8_most_132 rfl rfl (Nat.le_of_ble_eq_true rfl) (by decide) rfl ?_
              refine ac_iload 135 dX8_most_133 rfl rfl ?_
              refine ac_istore_n 136 [some (Value.ref 121), some (Value.int (nI (k + 1))), some (Value.int (nI (pcS (k + 1) np))), some (Value.int (wtS (M 122) (bmS (fun p x => fitN (M 122) nd p (nI x)) wd gp np (M 122) k) np)), some (Value.int (nI (k + 1))), some (Value.int (nI (pcS (k + 1) np))), some (Value.int (wtS (M 122) (k + 1) np)), some (Value.int (nI np))] dX8_most_135 rfl rfl (Nat.le_of_ble_eq_true rfl) (by decide) rfl ?_
              refine ac_iload 138 dX8_most_136 rfl rfl ?_
              refine ac_istore_n 139 [some (Value.ref 121), some (Value.int (nI (k + 1))), some (Value.int (nI (pcS (k + 1) np))), some (Value.int (wtS (M 122) (k + 1) np)), some (Value.int (nI (k + 1))), some (Value.int (nI (pcS (k + 1) np))), some (Value.int (wtS (M 122) (k + 1) np)), some (Value.int (nI np))] dX8_most_138 rfl rfl (Nat.le_of_ble_eq_true rfl) (by decide) rfl ?_
              refine ac_iinc 142 (nI (k + 1 + 1)) [some (Value.ref 121), some (Value.int (nI (k + 1))), some (Value.int (nI (pcS (k + 1) np))), some (Value.int (wtS (M 122) (k + 1) np)), some (Value.int (nI (k + 1 + 1))), some (Value.int (nI (pcS (k + 1) np))), some (Value.int (wtS (M 122) (k + 1) np)), some (Value.int (nI np))] dX8_most_139 rfl rfl (nI_1 _) rfl (by decide) rfl ?_
              refine ac_goto 9 dX8_most_142 (by decide) ?_
              refine ac_kill 5 [some (Value.ref 121), some (Value.int (nI (k + 1))), some (Value.int (nI (pcS (k + 1) np))), some (Value.int (wtS (M 122) (k + 1) np)), some (Value.int (nI (k + 1 + 1))), none, some (Value.int (wtS (M 122) (k + 1) np)), some (Value.int (nI np))] rfl ?_
              refine ac_kill 6 [some (Value.ref 121), some (Value.int (nI (k + 1))), some (Value.int (nI (pcS (k + 1) np))), some (Value.int (wtS (M 122) (k + 1) np)), some (Value.int (nI (k + 1 + 1))), none, none, some (Value.int (nI np))] rfl ?_
              refine ac_kill 7 [some (Value.ref 121), some (Value.int (nI (k + 1))), some (Value.int (nI (pcS (k + 1) np))), some (Value.int (wtS (M 122) (k + 1) np)), some (Value.int (nI (k + 1 + 1))), none, none, none] rfl ?_
              rw [rwS_st]
              have e8 : (bmS (fun p x => fitN (M 122) nd p (nI x)) wd gp np (M 122) (k + 1)) = k + 1 := bmS_t (by rw [tbS_top]; first | exact ⟨hlt c_109, Or.inl (hgt2 c_115)⟩ | exact ⟨hlt c_109, Or.inr ⟨heq c_121, Int32.not_le.mp c_127⟩⟩)
              rw [e8] at ih
              exact ih
            · refine ac_iload 120 dX8_most_118 rfl rfl ?_
              refine ac_iload_n 121 dX8_most_120 rfl rfl ?_
              refine ac_icmp_ne 139 124 dX8_most_121 (by decide) rfl (fun c_121 => ?_) (fun c_121 => ?_)
              · refine ac_iinc 142 (nI (k + 1 + 1)) [some (Value.ref 121), some (Value.int (nI (bmS (fun p x => fitN (M 122) nd p (nI x)) wd gp np (M 122) k))), some (Value.int (nI (pcS (bmS (fun p x => fitN (M 122) nd p (nI x)) wd gp np (M 122) k) np))), some (Value.int (wtS (M 122) (bmS (fun p x => fitN (M 122) nd p (nI x)) wd gp np (M 122) k) np)), some (Value.int (nI (k + 1 + 1))), some (Value.int (nI (pcS (k + 1) np))), some (Value.int (wtS (M 122) (k + 1) np)), some (Value.int (nI np))] dX8_most_139 rfl rfl (nI_1 _) rfl (by decide) rfl ?_
                refine ac_goto 9 dX8_most_142 (by decide) ?_
                refine ac_kill 5 [some (Value.ref 121), some (Value.int (nI (bmS (fun p x => fitN (M 122) nd p (nI x)) wd gp np (M 122) k))), some (Value.int (nI (pcS (bmS (fun p x => fitN (M 122) nd p (nI x)) wd gp np (M 122) k) np))), some (Value.int (wtS (M 122) (bmS (fun p x => fitN (M 122) nd p (nI x)) wd gp np (M 122) k) np)), some (Value.int (nI (k + 1 + 1))), none, some (Value.int (wtS (M 122) (k + 1) np)), some (Value.int (nI np))] rfl ?_
                refine ac_kill 6 [some (Value.ref 121), some (Value.int (nI (bmS (fun p x => fitN (M 122) nd p (nI x)) wd gp np (M 122) k))), some (Value.int (nI (pcS (bmS (fun p x => fitN (M 122) nd p (nI x)) wd gp np (M 122) k) np))), some (Value.int (wtS (M 122) (bmS (fun p x => fitN (M 122) nd p (nI x)) wd gp np (M 122) k) np)), some (Value.int (nI (k + 1 + 1))), none, none, some (Value.int (nI np))] rfl ?_
                refine ac_kill 7 [some (Value.ref 121), some (Value.int (nI (bmS (fun p x => fitN (M 122) nd p (nI x)) wd gp np (M 122) k))), some (Value.int (nI (pcS (bmS (fun p x => fitN (M 122) nd p (nI x)) wd gp np (M 122) k) np))), some (Value.int (wtS (M 122) (bmS (fun p x => fitN (M 122) nd p (nI x)) wd gp np (M 122) k) np)), some (Value.int (nI (k + 1 + 1))), none, none, none] rfl ?_
                rw [rwS_st]
                have e8 : (bmS (fun p x => fitN (M 122) nd p (nI x)) wd gp np (M 122) (k + 1)) = (bmS (fun p x => fitN (M 122) nd p (nI x)) wd gp np (M 122) k) := bmS_f (by rw [tbS_top]; first | exact fun q => absurd (nI_le (a := 1000) (Nat.not_lt.mp (fun z => h1000 c_109 z)) (by omega)) (fun _ => h1000 c_109 q.1) | exact fun q => q.2.elim (fun z => hgt c_115 z) (fun z => hne c_121 z.1) | exact fun q => q.2.elim (fun z => hgt c_115 z) (fun z => absurd z.2 (Int32.not_lt.mpr c_127)))
                rw [e8] at ih
                exact ih
              · refine ac_iload 126 dX8_most_124 rfl rfl ?_
                refine ac_iload_n 127 dX8_most_126 rfl rfl ?_
                refine ac_icmp_le 139 130 dX8_most_127 (by decide) rfl (fun c_127 => ?_) (fun c_127 => ?_)
                · refine ac_iinc 142 (nI (k + 1 + 1)) [some (Value.ref 121), some (Value.int (nI (bmS (fun p x => fitN (M 122) nd p (nI x)) wd gp np (M 122) k))), some (Value.int (nI (pcS (bmS (fun p x => fitN (M 122) nd p (nI x)) wd gp np (M 122) k) np))), some (Value.int (wtS (M 122) (bmS (fun p x => fitN (M 122) nd p (nI x)) wd gp np (M 122) k) np)), some (Value.int (nI (k + 1 + 1))), some (Value.int (nI (pcS (k + 1) np))), some (Value.int (wtS (M 122) (k + 1) np)), some (Value.int (nI np))] dX8_most_139 rfl rfl (nI_1 _) rfl (by decide) rfl ?_
                  refine ac_goto 9 dX8_most_142 (by decide) ?_
                  refine ac_kill 5 [some (Value.ref 121), some (Value.int (nI (bmS (fun p x => fitN (M 122) nd p (nI x)) wd gp np (M 122) k))), some (Value.int (nI (pcS (bmS (fun p x => fitN (M 122) nd p (nI x)) wd gp np (M 122) k) np))), some (Value.int (wtS (M 122) (bmS (fun p x => fitN (M 122) nd p (nI x)) wd gp np (M 122) k) np)), some (Value.int (nI (k + 1 + 1))), none, some (Value.int (wtS (M 122) (k + 1) np)), some (Value.int (nI np))] rfl ?_
                  refine ac_kill 6 [some (Value.ref 121), some (Value.int (nI (bmS (fun p x => fitN (M 122) nd p (nI x)) wd gp np (M 122) k))), some (Value.int (nI (pcS (bmS (fun p x => fitN (M 122) nd p (nI x)) wd gp np (M 122) k) np))), some (Value.int (wtS (M 122) (bmS (fun p x => fitN (M 122) nd p (nI x)) wd gp np (M 122) k) np)), some (Value.int (nI (k + 1 + 1))), none, none, some (Value.int (nI np))] rfl ?_
                  refine ac_kill 7 [some (Value.ref 121), some (Value.int (nI (bmS (fun p x => fitN (M 122) nd p (nI x)) wd gp np (M 122) k))), some (Value.int (nI (pcS (bmS (fun p x => fitN (M 122) nd p (nI x)) wd gp np (M 122) k) np))), some (Value.int (wtS (M 122) (bmS (fun p x => fitN (M 122) nd p (nI x)) wd gp np (M 122) k) np)), some (Value.int (nI (k + 1 + 1))), none, none, none] rfl ?_
                  rw [rwS_st]
                  have e8 : (bmS (fun p x => fitN (M 122) nd p (nI x)) wd gp np (M 122) (k + 1)) = (bmS (fun p x => fitN (M 122) nd p (nI x)) wd gp np (M 122) k) := bmS_f (by rw [tbS_top]; first | exact fun q => absurd (nI_le (a := 1000) (Nat.not_lt.mp (fun z => h1000 c_109 z)) (by omega)) (fun _ => h1000 c_109 q.1) | exact fun q => q.2.elim (fun z => hgt c_115 z) (fun z => hne c_121 z.1) | exact fun q => q.2.elim (fun z => hgt c_115 z) (fun z => absurd z.2 (Int32.not_lt.mpr c_127)))
                  rw [e8] at ih
                  exact ih
                · refine ac_iload 132 dX8_most_130 rfl rfl ?_
                  refine ac_istore_n 133 [some (Value.ref 121), some (Value.int (nI (k + 1))), some (Value.int (nI (pcS (bmS (fun p x => fitN (M 122) nd p (nI x)) wd gp np (M 122) k) np))), some (Value.int (wtS (M 122) (bmS (fun p x => fitN (M 122) nd p (nI x)) wd gp np (M 122) k) np)), some (Value.int (nI (k + 1))), some (Value.int (nI (pcS (k + 1) np))), some (Value.int (wtS (M 122) (k + 1) np)), some (Value.int (nI np))] dX8_most_132 rfl rfl (Nat.le_of_ble_eq_true rfl) (by decide) rfl ?_
                  refine ac_iload 135 dX8_most_133 rfl rfl ?_
                  refine ac_istore_n 136 [some (Value.ref 121), some (Value.int (nI (k + 1))), some (Value.int (nI (pcS (k + 1) np))), some (Value.int (wtS (M 122) (bmS (fun p x => fitN (M 122) nd p (nI x)) wd gp np (M 122) k) np)), some (Value.int (nI (k + 1))), some (Value.int (nI (pcS (k + 1) np))), some (Value.int (wtS (M 122) (k + 1) np)), some (Value.int (nI np))] dX8_most_135 rfl rfl (Nat.le_of_ble_eq_true rfl) (by decide) rfl ?_
                  refine ac_iload 138 dX8_most_136 rfl rfl ?_
                  refine ac_istore_n 139 [some (Value.ref 121), some (Value.int (nI (k + 1))), some (Value.int (nI (pcS (k + 1) np))), some (Value.int (wtS (M 122) (k + 1) np)), some (Value.int (nI (k + 1))), some (Value.int (nI (pcS (k + 1) np))), some (Value.int (wtS (M 122) (k + 1) np)), some (Value.int (nI np))] dX8_most_138 rfl rfl (Nat.le_of_ble_eq_true rfl) (by decide) rfl ?_
                  refine ac_iinc 142 (nI (k + 1 + 1)) [some (Value.ref 121), some (Value.int (nI (k + 1))), some (Value.int (nI (pcS (k + 1) np))), some (Value.int (wtS (M 122) (k + 1) np)), some (Value.int (nI (k + 1 + 1))), some (Value.int (nI (pcS (k + 1) np))), some (Value.int (wtS (M 122) (k + 1) np)), some (Value.int (nI np))] dX8_most_139 rfl rfl (nI_1 _) rfl (by decide) rfl ?_
                  refine ac_goto 9 dX8_most_142 (by decide) ?_
                  refine ac_kill 5 [some (Value.ref 121), some (Value.int (nI (k + 1))), some (Value.int (nI (pcS (k + 1) np))), some (Value.int (wtS (M 122) (k + 1) np)), some (Value.int (nI (k + 1 + 1))), none, some (Value.int (wtS (M 122) (k + 1) np)), some (Value.int (nI np))] rfl ?_
                  refine ac_kill 6 [some (Value.ref 121), some (Value.int (nI (k + 1))), some (Value.int (nI (pcS (k + 1) np))), some (Value.int (wtS (M 122) (k + 1) np)), some (Value.int (nI (k + 1 + 1))), none, none, some (Value.int (nI np))] rfl ?_
                  refine ac_kill 7 [some (Value.ref 121), some (Value.int (nI (k + 1))), some (Value.int (nI (pcS (k + 1) np))), some (Value.int (wtS (M 122) (k + 1) np)), some (Value.int (nI (k + 1 + 1))), none, none, none] rfl ?_
                  rw [rwS_st]
                  have e8 : (bmS (fun p x => fitN (M 122) nd p (nI x)) wd gp np (M 122) (k + 1)) = k + 1 := bmS_t (by rw [tbS_top]; first | exact ⟨hlt c_109, Or.inl (hgt2 c_115)⟩ | exact ⟨hlt c_109, Or.inr ⟨heq c_121, Int32.not_le.mp c_127⟩⟩)
                  rw [e8] at ih
                  exact ih
        · intro q hq ih
          refine ac_iload 46 dX8_most_44 rfl rfl ?_
          refine ac_aload_n 47 dX8_most_46 rfl rfl ?_
          refine ac_getO 50 122 dX8_most_47 rfl fl8_7 ob121 rfl ?_
          refine ac_iconst 51 3 dX8_most_50 rfl (by decide) ?_
          refine ac_iald 52 dX8_most_51 rfl ar122 (ix_nI (k := 3) (by decide) (by decide)) ?_
          rw [show ((am_up (am_row M 135 (rwS (fun p x => fitN (M 122) nd p (nI x)) wd gp np (M 135) k)) 135 (k + 1) (nI (leS (fun p x => fitN (M 122) nd p (nI x)) wd gp (tbS (fun p x => fitN (M 122) nd p (nI x)) wd gp np k) (k + 1) np))) 122 3) = (M 122 3) from rfl]
          refine ac_icmp_ge 99 55 dX8_most_52 (by decide) rfl (fun c_52 => absurd c_52 (by rw [hn.1]; exact nI_ge hq (by omega))) (fun _ => ?_)
          refine ac_iload 57 dX8_most_55 rfl rfl ?_
          refine ac_iload 59 dX8_most_57 rfl rfl ?_
          refine ac_iload 61 dX8_most_59 rfl rfl ?_
          refine ac_ishr 62 dX8_most_61 rfl ?_
          refine ac_iconst 63 1 dX8_most_62 rfl (by decide) ?_
          refine ac_iand 64 dX8_most_63 rfl ?_
          rw [show (((nI (k + 1)) >>> ((nI q) &&& 31)) &&& 1) = (nI (btS (k + 1) q)) from (has_ok (k + 1) (by omega) q (by omega))]
          refine ac_iadd 65 dX8_most_64 rfl ?_
          rw [show ((nI (pcS (k + 1) q)) + (nI (btS (k + 1) q))) = (nI (pcS (k + 1) (q + 1))) from (nI_add _ _)]
          refine ac_istore 67 [some (Value.ref 121), some (Value.int (nI (bmS (fun p x => fitN (M 122) nd p (nI x)) wd gp np (M 122) k))), some (Value.int (nI (pcS (bmS (fun p x => fitN (M 122) nd p (nI x)) wd gp np (M 122) k) np))), some (Value.int (wtS (M 122) (bmS (fun p x => fitN (M 122) nd p (nI x)) wd gp np (M 122) k) np)), some (Value.int (nI (k + 1))), some (Value.int (nI (pcS (k + 1) (q + 1)))), some (Value.int (wtS (M 122) (k + 1) q)), some (Value.int (nI q))] dX8_most_65 rfl rfl (Nat.le_of_ble_eq_true rfl) (by decide) rfl ?_
          refine ac_iload 69 dX8_most_67 rfl rfl ?_
          refine ac_iload 71 dX8_most_69 rfl rfl ?_
          refine ac_iload 73 dX8_most_71 rfl rfl ?_
          refine ac_callS (μ' := m8_has) 76 dX8_most_73 rfl lk8_183 m8_has_S (c8_has (s := k + 1) (by omega) (by omega)) rfl rfl (by decide) (Nat.le_of_ble_eq_true rfl) ?_
          refine ac_if_eq 89 79 dX8_most_76 (by decide) rfl (fun c_76 => ?_) (fun c_76 => ?_)
          · have hbt : (k + 1).testBit q = false := by unfold btS at c_76; split at c_76 <;> first | (exact absurd c_76 (by decide)) | simp_all
            refine ac_iconst 90 0 dX8_most_89 rfl (by decide) ?_
            refine ac_iadd 91 dX8_most_90 rfl ?_
            refine ac_istore 93 [some (Value.ref 121), some (Value.int (nI (bmS (fun p x => fitN (M 122) nd p (nI x)) wd gp np (M 122) k))), some (Value.int (nI (pcS (bmS (fun p x => fitN (M 122) nd p (nI x)) wd gp np (M 122) k) np))), some (Value.int (wtS (M 122) (bmS (fun p x => fitN (M 122) nd p (nI x)) wd gp np (M 122) k) np)), some (Value.int (nI (k + 1))), some (Value.int (nI (pcS (k + 1) (q + 1)))), some (Value.int ((wtS (M 122) (k + 1) q) + 0)), some (Value.int (nI q))] dX8_most_91 rfl rfl (Nat.le_of_ble_eq_true rfl) (by decide) rfl ?_
            refine ac_iinc 96 (nI (q + 1)) [some (Value.ref 121), some (Value.int (nI (bmS (fun p x => fitN (M 122) nd p (nI x)) wd gp np (M 122) k))), some (Value.int (nI (pcS (bmS (fun p x => fitN (M 122) nd p (nI x)) wd gp np (M 122) k) np))), some (Value.int (wtS (M 122) (bmS (fun p x => fitN (M 122) nd p (nI x)) wd gp np (M 122) k) np)), some (Value.int (nI (k + 1))), some (Value.int (nI (pcS (k + 1) (q + 1)))), some (Value.int ((wtS (M 122) (k + 1) q) + 0)), some (Value.int (nI (q + 1)))] dX8_most_93 rfl rfl (nI_1 _) rfl (by decide) rfl ?_
            refine ac_goto 44 dX8_most_96 (by decide) ?_
            have e9 : wtS (M 122) (k + 1) (q + 1) = ((wtS (M 122) (k + 1) q) + 0) := by show _ + _ = _; rw [hbt]; rfl
            rw [e9] at ih
            exact ih
          · have hbt : (k + 1).testBit q = true := by unfold btS at c_76; split at c_76 <;> first | assumption | (exact absurd rfl c_76)
            refine ac_aload_n 80 dX8_most_79 rfl rfl ?_
            refine ac_iload 82 dX8_most_80 rfl rfl ?_
            refine ac_iconst 83 3 dX8_most_82 rfl (by decide) ?_
            refine ac_callV (μ' := m8_ofPicture) 86 dX8_most_83 rfl lk8_118 m8_ofPicture_V ob121 (c8_ofPicture (w := 3) (by omega) (by decide)) rfl rfl (by decide) (Nat.le_of_ble_eq_true rfl) ?_
            refine ac_goto 90 dX8_most_86 (by decide) ?_
            refine ac_iadd 91 dX8_most_90 rfl ?_
            refine ac_istore 93 [some (Value.ref 121), some (Value.int (nI (bmS (fun p x => fitN (M 122) nd p (nI x)) wd gp np (M 122) k))), some (Value.int (nI (pcS (bmS (fun p x => fitN (M 122) nd p (nI x)) wd gp np (M 122) k) np))), some (Value.int (wtS (M 122) (bmS (fun p x => fitN (M 122) nd p (nI x)) wd gp np (M 122) k) np)), some (Value.int (nI (k + 1))), some (Value.int (nI (pcS (k + 1) (q + 1)))), some (Value.int ((wtS (M 122) (k + 1) q) + (M 122 (4 + 4 * q + 3)))), some (Value.int (nI q))] dX8_most_91 rfl rfl (Nat.le_of_ble_eq_true rfl) (by decide) rfl ?_
            refine ac_iinc 96 (nI (q + 1)) [some (Value.ref 121), some (Value.int (nI (bmS (fun p x => fitN (M 122) nd p (nI x)) wd gp np (M 122) k))), some (Value.int (nI (pcS (bmS (fun p x => fitN (M 122) nd p (nI x)) wd gp np (M 122) k) np))), some (Value.int (wtS (M 122) (bmS (fun p x => fitN (M 122) nd p (nI x)) wd gp np (M 122) k) np)), some (Value.int (nI (k + 1))), some (Value.int (nI (pcS (k + 1) (q + 1)))), some (Value.int ((wtS (M 122) (k + 1) q) + (M 122 (4 + 4 * q + 3)))), some (Value.int (nI (q + 1)))] dX8_most_93 rfl rfl (nI_1 _) rfl (by decide) rfl ?_
            refine ac_goto 44 dX8_most_96 (by decide) ?_
            have e9 : wtS (M 122) (k + 1) (q + 1) = ((wtS (M 122) (k + 1) q) + (M 122 (4 + 4 * q + 3))) := by show _ + _ = _; rw [hbt]; rfl
            rw [e9] at ih
            exact ih
      refine ac_iconst 42 0 dX8_most_41 rfl (by decide) ?_
      refine ac_istore 44 [some (Value.ref 121), some (Value.int (nI (bmS (fun p x => fitN (M 122) nd p (nI x)) wd gp np (M 122) k))), some (Value.int (nI (pcS (bmS (fun p x => fitN (M 122) nd p (nI x)) wd gp np (M 122) k) np))), some (Value.int (wtS (M 122) (bmS (fun p x => fitN (M 122) nd p (nI x)) wd gp np (M 122) k) np)), some (Value.int (nI (k + 1))), some (Value.int 0), some (Value.int 0), some (Value.int 0)] dX8_most_42 rfl rfl (Nat.le_of_ble_eq_true rfl) (by decide) rfl ?_
      exact hL
  refine ac_iconst 7 1 dX8_most_6 rfl (by decide) ?_
  refine ac_istore 9 [some (Value.ref 121), some (Value.int 0), some (Value.int 0), some (Value.int 0), some (Value.int 1), none, none, none] dX8_most_7 rfl rfl (Nat.le_of_ble_eq_true rfl) (by decide) rfl ?_
  rw [rwS_0, row_id, show pcS (bmS (fun p x => fitN (M 122) nd p (nI x)) wd gp np (M 122) 0) np = 0 from pcS_0 np, show wtS (M 122) (bmS (fun p x => fitN (M 122) nd p (nI x)) wd gp np (M 122) 0) np = 0 from wtS_0 _ np] at hL
  exact hL
/-- bitCount, as its code counts -/
def bcA (x : Int32) : Int32 := x - ((x.toUInt32 >>> ((1 : Int32).toUInt32 &&& Int32.toUInt32 31)).toInt32 &&& 1431655765)
def bcB (x : Int32) : Int32 := (x &&& 858993459) + ((x.toUInt32 >>> ((2 : Int32).toUInt32 &&& Int32.toUInt32 31)).toInt32 &&& 858993459)
def bcC (x : Int32) : Int32 := (x + (x.toUInt32 >>> ((4 : Int32).toUInt32 &&& Int32.toUInt32 31)).toInt32) &&& 252645135
def bcD (x : Int32) : Int32 := x + (x.toUInt32 >>> ((8 : Int32).toUInt32 &&& Int32.toUInt32 31)).toInt32
def bcE (x : Int32) : Int32 := x + (x.toUInt32 >>> ((16 : Int32).toUInt32 &&& Int32.toUInt32 31)).toInt32
def bcF (x : Int32) : Int32 := bcE (bcD (bcC (bcB (bcA x)))) &&& 63
theorem bc_ok : ∀ s, s < 32 → bcF (nI s) = nI (pcS s 5) := by decide +kernel
theorem pc_ok : ∀ n, n ≤ 5 → ∀ s, s < 2 ^ n → pcS s 5 = pcS s n := by
  intro n hn
  exact (by decide +kernel : ∀ n, n < 6 → ∀ s, s < 2 ^ n → pcS s 5 = pcS s n) n (by omega)
set_option maxRecDepth 20000 in
theorem c9_bc {M : am_I} {V : am_J} {f : Nat → Option Nat} (x : Int32) : CT j6_bitCount_0f7a4 1 [Value.int x] M V f (RV (bcF x) M V f) := by
  refine CT.of j6_bitCount_0f7a4_S.1 _ (en_i_1 x) ?_
  refine ac_iload_n 1 dJ6_bitCount_0f7a4_0 rfl rfl ?_
  refine ac_iload_n 2 dJ6_bitCount_0f7a4_1 rfl rfl ?_
  refine ac_iconst 3 1 dJ6_bitCount_0f7a4_2 rfl (by decide) ?_
  refine ac_iushr 4 dJ6_bitCount_0f7a4_3 rfl ?_
  refine ac_ldcw 7 dJ6_bitCount_0f7a4_4 rfl kcJ6_265 ?_
  refine ac_iand 8 dJ6_bitCount_0f7a4_7 rfl ?_
  refine ac_isub 9 dJ6_bitCount_0f7a4_8 rfl ?_
  refine ac_istore_n 10 [some (Value.int (x - (((x).toUInt32 >>> ((1 : Int32).toUInt32 &&& Int32.toUInt32 31)).toInt32 &&& 1431655765)))] dJ6_bitCount_0f7a4_9 rfl rfl (Nat.le_of_ble_eq_true rfl) (by decide) rfl ?_
  refine ac_iload_n 11 dJ6_bitCount_0f7a4_10 rfl rfl ?_
  refine ac_ldcw 14 dJ6_bitCount_0f7a4_11 rfl kcJ6_266 ?_
  refine ac_iand 15 dJ6_bitCount_0f7a4_14 rfl ?_
  refine ac_iload_n 16 dJ6_bitCount_0f7a4_15 rfl rfl ?_
  refine ac_iconst 17 2 dJ6_bitCount_0f7a4_16 rfl (by decide) ?_
  refine ac_iushr 18 dJ6_bitCount_0f7a4_17 rfl ?_
  refine ac_ldcw 21 dJ6_bitCount_0f7a4_18 rfl kcJ6_266 ?_
  refine ac_iand 22 dJ6_bitCount_0f7a4_21 rfl ?_
  refine ac_iadd 23 dJ6_bitCount_0f7a4_22 rfl ?_
  refine ac_istore_n 24 [some (Value.int (((x - (((x).toUInt32 >>> ((1 : Int32).toUInt32 &&& Int32.toUInt32 31)).toInt32 &&& 1431655765)) &&& 858993459) + ((((x - (((x).toUInt32 >>> ((1 : Int32).toUInt32 &&& Int32.toUInt32 31)).toInt32 &&& 1431655765))).toUInt32 >>> ((2 : Int32).toUInt32 &&& Int32.toUInt32 31)).toInt32 &&& 858993459)))] dJ6_bitCount_0f7a4_23 rfl rfl (Nat.le_of_ble_eq_true rfl) (by decide) rfl ?_
  refine ac_iload_n 25 dJ6_bitCount_0f7a4_24 rfl rfl ?_
  refine ac_iload_n 26 dJ6_bitCount_0f7a4_25 rfl rfl ?_
  refine ac_iconst 27 4 dJ6_bitCount_0f7a4_26 rfl (by decide) ?_
  refine ac_iushr 28 dJ6_bitCount_0f7a4_27 rfl ?_
  refine ac_iadd 29 dJ6_bitCount_0f7a4_28 rfl ?_
  refine ac_ldcw 32 dJ6_bitCount_0f7a4_29 rfl kcJ6_267 ?_
  refine ac_iand 33 dJ6_bitCount_0f7a4_32 rfl ?_
  refine ac_istore_n 34 [some (Value.int (((((x - (((x).toUInt32 >>> ((1 : Int32).toUInt32 &&& Int32.toUInt32 31)).toInt32 &&& 1431655765)) &&& 858993459) + ((((x - (((x).toUInt32 >>> ((1 : Int32).toUInt32 &&& Int32.toUInt32 31)).toInt32 &&& 1431655765))).toUInt32 >>> ((2 : Int32).toUInt32 &&& Int32.toUInt32 31)).toInt32 &&& 858993459)) + (((((x - (((x).toUInt32 >>> ((1 : Int32).toUInt32 &&& Int32.toUInt32 31)).toInt32 &&& 1431655765)) &&& 858993459) + ((((x - (((x).toUInt32 >>> ((1 : Int32).toUInt32 &&& Int32.toUInt32 31)).toInt32 &&& 1431655765))).toUInt32 >>> ((2 : Int32).toUInt32 &&& Int32.toUInt32 31)).toInt32 &&& 858993459))).toUInt32 >>> ((4 : Int32).toUInt32 &&& Int32.toUInt32 31)).toInt32) &&& 252645135))] dJ6_bitCount_0f7a4_33 rfl rfl (Nat.le_of_ble_eq_true rfl) (by decide) rfl ?_
  refine ac_iload_n 35 dJ6_bitCount_0f7a4_34 rfl rfl ?_
  refine ac_iload_n 36 dJ6_bitCount_0f7a4_35 rfl rfl ?_
  refine ac_bipush 38 8 dJ6_bitCount_0f7a4_36 rfl (by decide) ?_
  refine ac_iushr 39 dJ6_bitCount_0f7a4_38 rfl ?_
  refine ac_iadd 40 dJ6_bitCount_0f7a4_39 rfl ?_
  refine ac_istore_n 41 [some (Value.int ((((((x - (((x).toUInt32 >>> ((1 : Int32).toUInt32 &&& Int32.toUInt32 31)).toInt32 &&& 1431655765)) &&& 858993459) + ((((x - (((x).toUInt32 >>> ((1 : Int32).toUInt32 &&& Int32.toUInt32 31)).toInt32 &&& 1431655765))).toUInt32 >>> ((2 : Int32).toUInt32 &&& Int32.toUInt32 31)).toInt32 &&& 858993459)) + (((((x - (((x).toUInt32 >>> ((1 : Int32).toUInt32 &&& Int32.toUInt32 31)).toInt32 &&& 1431655765)) &&& 858993459) + ((((x - (((x).toUInt32 >>> ((1 : Int32).toUInt32 &&& Int32.toUInt32 31)).toInt32 &&& 1431655765))).toUInt32 >>> ((2 : Int32).toUInt32 &&& Int32.toUInt32 31)).toInt32 &&& 858993459))).toUInt32 >>> ((4 : Int32).toUInt32 &&& Int32.toUInt32 31)).toInt32) &&& 252645135) + (((((((x - (((x).toUInt32 >>> ((1 : Int32).toUInt32 &&& Int32.toUInt32 31)).toInt32 &&& 1431655765)) &&& 858993459) + ((((x - (((x).toUInt32 >>> ((1 : Int32).toUInt32 &&& Int32.toUInt32 31)).toInt32 &&& 1431655765))).toUInt32 >>> ((2 : Int32).toUInt32 &&& Int32.toUInt32 31)).toInt32 &&& 858993459)) + (((((x - (((x).toUInt32 >>> ((1 : Int32).toUInt32 &&& Int32.toUInt32 31)).toInt32 &&& 1431655765)) &&& 858993459) + ((((x - (((x).toUInt32 >>> ((1 : Int32).toUInt32 &&& Int32.toUInt32 31)).toInt32 &&& 1431655765))).toUInt32 >>> ((2 : Int32).toUInt32 &&& Int32.toUInt32 31)).toInt32 &&& 858993459))).toUInt32 >>> ((4 : Int32).toUInt32 &&& Int32.toUInt32 31)).toInt32) &&& 252645135)).toUInt32 >>> ((8 : Int32).toUInt32 &&& Int32.toUInt32 31)).toInt32))] dJ6_bitCount_0f7a4_40 rfl rfl (Nat.le_of_ble_eq_true rfl) (by decide) rfl ?_
  refine ac_iload_n 42 dJ6_bitCount_0f7a4_41 rfl rfl ?_
  refine ac_iload_n 43 dJ6_bitCount_0f7a4_42 rfl rfl ?_
  refine ac_bipush 45 16 dJ6_bitCount_0f7a4_43 rfl (by decide) ?_
  refine ac_iushr 46 dJ6_bitCount_0f7a4_45 rfl ?_
  refine ac_iadd 47 dJ6_bitCount_0f7a4_46 rfl ?_
  refine ac_istore_n 48 [some (Value.int (((((((x - (((x).toUInt32 >>> ((1 : Int32).toUInt32 &&& Int32.toUInt32 31)).toInt32 &&& 1431655765)) &&& 858993459) + ((((x - (((x).toUInt32 >>> ((1 : Int32).toUInt32 &&& Int32.toUInt32 31)).toInt32 &&& 1431655765))).toUInt32 >>> ((2 : Int32).toUInt32 &&& Int32.toUInt32 31)).toInt32 &&& 858993459)) + (((((x - (((x).toUInt32 >>> ((1 : Int32).toUInt32 &&& Int32.toUInt32 31)).toInt32 &&& 1431655765)) &&& 858993459) + ((((x - (((x).toUInt32 >>> ((1 : Int32).toUInt32 &&& Int32.toUInt32 31)).toInt32 &&& 1431655765))).toUInt32 >>> ((2 : Int32).toUInt32 &&& Int32.toUInt32 31)).toInt32 &&& 858993459))).toUInt32 >>> ((4 : Int32).toUInt32 &&& Int32.toUInt32 31)).toInt32) &&& 252645135) + (((((((x - (((x).toUInt32 >>> ((1 : Int32).toUInt32 &&& Int32.toUInt32 31)).toInt32 &&& 1431655765)) &&& 858993459) + ((((x - (((x).toUInt32 >>> ((1 : Int32).toUInt32 &&& Int32.toUInt32 31)).toInt32 &&& 1431655765))).toUInt32 >>> ((2 : Int32).toUInt32 &&& Int32.toUInt32 31)).toInt32 &&& 858993459)) + (((((x - (((x).toUInt32 >>> ((1 : Int32).toUInt32 &&& Int32.toUInt32 31)).toInt32 &&& 1431655765)) &&& 858993459) + ((((x - (((x).toUInt32 >>> ((1 : Int32).toUInt32 &&& Int32.toUInt32 31)).toInt32 &&& 1431655765))).toUInt32 >>> ((2 : Int32).toUInt32 &&& Int32.toUInt32 31)).toInt32 &&& 858993459))).toUInt32 >>> ((4 : Int32).toUInt32 &&& Int32.toUInt32 31)).toInt32) &&& 252645135)).toUInt32 >>> ((8 : Int32).toUInt32 &&& Int32.toUInt32 31)).toInt32) + ((((((((x - (((x).toUInt32 >>> ((1 : Int32).toUInt32 &&& Int32.toUInt32 31)).toInt32 &&& 1431655765)) &&& 858993459) + ((((x - (((x).toUInt32 >>> ((1 : Int32).toUInt32 &&& Int32.toUInt32 31)).toInt32 &&& 1431655765))).toUInt32 >>> ((2 : Int32).toUInt32 &&& Int32.toUInt32 31)).toInt32 &&& 858993459)) + (((((x - (((x).toUInt32 >>> ((1 : Int32).toUInt32 &&& Int32.toUInt32 31)).toInt32 &&& 1431655765)) &&& 858993459) + ((((x - (((x).toUInt32 >>> ((1 : Int32).toUInt32 &&& Int32.toUInt32 31)).toInt32 &&& 1431655765))).toUInt32 >>> ((2 : Int32).toUInt32 &&& Int32.toUInt32 31)).toInt32 &&& 858993459))).toUInt32 >>> ((4 : Int32).toUInt32 &&& Int32.toUInt32 31)).toInt32) &&& 252645135) + (((((((x - (((x).toUInt32 >>> ((1 : Int32).toUInt32 &&& Int32.toUInt32 31)).toInt32 &&& 1431655765)) &&& 858993459) + ((((x - (((x).toUInt32 >>> ((1 : Int32).toUInt32 &&& Int32.toUInt32 31)).toInt32 &&& 1431655765))).toUInt32 >>> ((2 : Int32).toUInt32 &&& Int32.toUInt32 31)).toInt32 &&& 858993459)) + (((((x - (((x).toUInt32 >>> ((1 : Int32).toUInt32 &&& Int32.toUInt32 31)).toInt32 &&& 1431655765)) &&& 858993459) + ((((x - (((x).toUInt32 >>> ((1 : Int32).toUInt32 &&& Int32.toUInt32 31)).toInt32 &&& 1431655765))).toUInt32 >>> ((2 : Int32).toUInt32 &&& Int32.toUInt32 31)).toInt32 &&& 858993459))).toUInt32 >>> ((4 : Int32).toUInt32 &&& Int32.toUInt32 31)).toInt32) &&& 252645135)).toUInt32 >>> ((8 : Int32).toUInt32 &&& Int32.toUInt32 31)).toInt32)).toUInt32 >>> ((16 : Int32).toUInt32 &&& Int32.toUInt32 31)).toInt32))] dJ6_bitCount_0f7a4_47 rfl rfl (Nat.le_of_ble_eq_true rfl) (by decide) rfl ?_
  refine ac_iload_n 49 dJ6_bitCount_0f7a4_48 rfl rfl ?_
  refine ac_bipush 51 63 dJ6_bitCount_0f7a4_49 rfl (by decide) ?_
  refine ac_iand 52 dJ6_bitCount_0f7a4_51 rfl ?_
  refine ac_iret dJ6_bitCount_0f7a4_52 ⟨_, rfl, rfl⟩ ?_
  exact rv_mk rfl
set_option maxRecDepth 20000 in
theorem c0_weight {M : am_I} {V : am_J} {f : Nat → Option Nat} {w : rN} {np nd nh s : Nat} (hw : CW M 7 w np nd nh) (hs : s < 32) : CT m0_weightOf 1 [Value.ref 7, Value.int (nI s)] M V f (RV (wtS w s np) M V f) := by
  have h5 := hw.n5
  refine CT.of m0_weightOf_S.1 _ (en_ai_4 7 (nI s)) ?_
  refine ac_iconst 1 0 dX0_weightOf_0 rfl (by decide) ?_
  refine ac_istore_n 2 [some (Value.ref 7), some (Value.int (nI s)), some (Value.int 0), none] dX0_weightOf_1 rfl rfl (Nat.le_of_ble_eq_true rfl) (by decide) rfl ?_
  have hL : A0 m0_weightOf 1 4 [some (Value.ref 7), some (Value.int (nI s)), some (Value.int (wtS w s 0)), some (Value.int (nI 0))] [] M V f (RV (wtS w s np) M V f) := by
    refine ac_down (n := np) (P := fun k => A0 m0_weightOf 1 4 [some (Value.ref 7), some (Value.int (nI s)), some (Value.int (wtS w s k)), some (Value.int (nI k))] [] M V f (RV (wtS w s np) M V f)) ?_ ?_ 0 (Nat.zero_le _) 
    · refine ac_iload_n 5 dX0_weightOf_4 rfl rfl ?_
      refine ac_aload_n 6 dX0_weightOf_5 rfl rfl ?_
      refine ac_getI 9 dX0_weightOf_6 rfl fl0_21 ob7 ?_
      rw [show (M 7 3) = (nI np) from hw.s3]
      refine ac_icmp_ge 35 12 dX0_weightOf_9 (by decide) rfl (fun _ => ?_) (fun c_9 => absurd (Int32.le_refl _) c_9)
      refine ac_iload_n 36 dX0_weightOf_35 rfl rfl ?_
      refine ac_iret dX0_weightOf_36 ⟨_, rfl, rfl⟩ ?_
      exact rv_mk rfl
    · intro k hk ih
      refine ac_iload_n 5 dX0_weightOf_4 rfl rfl ?_
      refine ac_aload_n 6 dX0_weightOf_5 rfl rfl ?_
      refine ac_getI 9 dX0_weightOf_6 rfl fl0_21 ob7 ?_
      rw [show (M 7 3) = (nI np) from hw.s3]
      refine ac_icmp_ge 35 12 dX0_weightOf_9 (by decide) rfl (fun c_9 => absurd c_9 (nI_ge hk (by omega))) (fun _ => ?_)
      refine ac_iload_n 13 dX0_weightOf_12 rfl rfl ?_
      refine ac_iconst 14 1 dX0_weightOf_13 rfl (by decide) ?_
      refine ac_iload_n 15 dX0_weightOf_14 rfl rfl ?_
      refine ac_ishl 16 dX0_weightOf_15 rfl ?_
      refine ac_iand 17 dX0_weightOf_16 rfl ?_
      refine ac_if_eq 29 20 dX0_weightOf_17 (by decide) rfl (fun c_17 => ?_) (fun c_17 => ?_)
      · refine ac_iinc 32 (nI (k + 1)) [some (Value.ref 7), some (Value.int (nI s)), some (Value.int (wtS w s k)), some (Value.int (nI (k + 1)))] dX0_weightOf_29 rfl rfl (nI_1 _) rfl (by decide) rfl ?_
        refine ac_goto 4 dX0_weightOf_32 (by decide) ?_
        have e9 : wtS w s (k + 1) = (wtS w s k) := by show _ + _ = _; first | (rw [(bit_ok s hs k (by omega)).mp c_17]; exact Int32.add_zero _) | rw [if_pos (by have := fun h => c_17 ((bit_ok s hs k (by omega)).mpr h); simpa using this)]
        rw [e9] at ih
        exact ih
      · refine ac_iload_n 21 dX0_weightOf_20 rfl rfl ?_
        refine ac_aload_n 22 dX0_weightOf_21 rfl rfl ?_
        refine ac_getO 25 11 dX0_weightOf_22 rfl fl0_53 ob7 rfl ?_
        refine ac_iload_n 26 dX0_weightOf_25 rfl rfl ?_
        refine ac_iald 27 dX0_weightOf_26 rfl ar11 (ix_nI (by omega) (by decide)) ?_
        rw [show (M 11 k) = (w (4 + 4 * k + 3)) from (hw.p3 hk)]
        refine ac_iadd 28 dX0_weightOf_27 rfl ?_
        refine ac_istore_n 29 [some (Value.ref 7), some (Value.int (nI s)), some (Value.int ((wtS w s k) + (w (4 + 4 * k + 3)))), some (Value.int (nI k))] dX0_weightOf_28 rfl rfl (Nat.le_of_ble_eq_true rfl) (by decide) rfl ?_
        refine ac_iinc 32 (nI (k + 1)) [some (Value.ref 7), some (Value.int (nI s)), some (Value.int ((wtS w s k) + (w (4 + 4 * k + 3)))), some (Value.int (nI (k + 1)))] dX0_weightOf_29 rfl rfl (nI_1 _) rfl (by decide) rfl ?_
        refine ac_goto 4 dX0_weightOf_32 (by decide) ?_
        have e9 : wtS w s (k + 1) = ((wtS w s k) + (w (4 + 4 * k + 3))) := by show _ + _ = _; first | (rw [(bit_ok s hs k (by omega)).mp c_17]; exact Int32.add_zero _) | rw [if_pos (by have := fun h => c_17 ((bit_ok s hs k (by omega)).mpr h); simpa using this)]
        rw [e9] at ih
        exact ih
  refine ac_iconst 3 0 dX0_weightOf_2 rfl (by decide) ?_
  refine ac_istore_n 4 [some (Value.ref 7), some (Value.int (nI s)), some (Value.int 0), some (Value.int 0)] dX0_weightOf_3 rfl rfl (Nat.le_of_ble_eq_true rfl) (by decide) rfl ?_
  exact hL
theorem pc_gt {a b : Nat} (ha : a < 2 ^ 30) (hb : b < 2 ^ 30) (h : (0 : Int32) < nI a - nI b) : b < a := by
  have h1 := Int32.lt_iff_toInt_lt.mp h
  rw [pk_sub_toInt ha hb] at h1
  have e : (0 : Int32).toInt = 0 := by decide
  omega
theorem pc_ngt {a b : Nat} (ha : a < 2 ^ 30) (hb : b < 2 ^ 30) (h : ¬ (0 : Int32) < nI a - nI b) : ¬ b < a := fun q => h (by
  rw [Int32.lt_iff_toInt_lt, pk_sub_toInt ha hb]
  have e : (0 : Int32).toInt = 0 := by decide
  omega)
theorem pc_ne {a b : Nat} (h : ¬ nI a - nI b = 0) : ¬ a = b := fun q => h (by rw [q]; exact Int32.sub_self _)
theorem pc_eq {a b : Nat} (ha : a < 2 ^ 30) (hb : b < 2 ^ 30) (h : nI a - nI b = 0) : a = b := by
  have h1 := congrArg Int32.toInt h
  rw [pk_sub_toInt ha hb] at h1
  have e : (0 : Int32).toInt = 0 := by decide
  omega
set_option maxRecDepth 20000 in
theorem c0_better {M : am_I} {V : am_J} {f : Nat → Option Nat} {w : rN} {np nd nh s t : Nat} (hw : CW M 7 w np nd nh) (hs : s < 2 ^ np) (ht : t < 2 ^ np) : CT m0_isBetter 5 [Value.ref 7, Value.int (nI s), Value.int (nI t)] M V f (RV (bi (pcS t np < pcS s np ∨ pcS s np = pcS t np ∧ wtS w t np < wtS w s np)) M V f) := by
  have h5 := hw.n5
  have h32 := pow_le np h5
  have p1 := pcS_le s np
  have p2 := pcS_le t np
  have e1 : bcF (nI s) = nI (pcS s np) := (bc_ok s (by omega)).trans (by rw [pc_ok np h5 s hs])
  have e2 : bcF (nI t) = nI (pcS t np) := (bc_ok t (by omega)).trans (by rw [pc_ok np h5 t ht])
  refine CT.of m0_isBetter_S.1 _ (en_aii_4 7 (nI s) (nI t)) ?_
  refine ac_iload_n 1 dX0_isBetter_0 rfl rfl ?_
  refine ac_callS (μ' := j6_bitCount_0f7a4) 4 dX0_isBetter_1 rfl lk0_44 j6_bitCount_0f7a4_S (c9_bc _) rfl rfl (by decide) (Nat.le_of_ble_eq_true rfl) ?_
  rw [show (bcF (nI s)) = (nI (pcS s np)) from e1]
  refine ac_iload_n 5 dX0_isBetter_4 rfl rfl ?_
  refine ac_callS (μ' := j6_bitCount_0f7a4) 8 dX0_isBetter_5 rfl lk0_44 j6_bitCount_0f7a4_S (c9_bc _) rfl rfl (by decide) (Nat.le_of_ble_eq_true rfl) ?_
  rw [show (bcF (nI t)) = (nI (pcS t np)) from e2]
  refine ac_isub 9 dX0_isBetter_8 rfl ?_
  refine ac_istore_n 10 [some (Value.ref 7), some (Value.int (nI s)), some (Value.int (nI t)), some (Value.int ((nI (pcS s np)) - (nI (pcS t np))))] dX0_isBetter_9 rfl rfl (Nat.le_of_ble_eq_true rfl) (by decide) rfl ?_
  refine ac_iload_n 11 dX0_isBetter_10 rfl rfl ?_
  refine ac_if_gt 31 14 dX0_isBetter_11 (by decide) rfl (fun c_11 => ?_) (fun c_11 => ?_)
  · have q1 : pcS t np < pcS s np := pc_gt (by omega) (by omega) c_11
    refine ac_iconst 32 1 dX0_isBetter_31 rfl (by decide) ?_
    refine ac_goto 36 dX0_isBetter_32 (by decide) ?_
    refine ac_iret dX0_isBetter_36 ⟨_, rfl, rfl⟩ ?_
    exact rv_mk (bi_t (by first | exact Or.inl q1 | exact Or.inr ⟨q2, Int32.not_le.mp c_28⟩ | exact fun h => h.elim q1 (fun z => q2 z.1) | exact fun h => h.elim q1 (fun z => absurd z.2 (Int32.not_lt.mpr c_28)))).symm
  · have q1 : ¬ pcS t np < pcS s np := pc_ngt (by omega) (by omega) c_11
    refine ac_iload_n 15 dX0_isBetter_14 rfl rfl ?_
    refine ac_if_ne 35 18 dX0_isBetter_15 (by decide) rfl (fun c_15 => ?_) (fun c_15 => ?_)
    · have q2 : ¬ pcS s np = pcS t np := pc_ne c_15
      refine ac_iconst 36 0 dX0_isBetter_35 rfl (by decide) ?_
      refine ac_iret dX0_isBetter_36 ⟨_, rfl, rfl⟩ ?_
      exact rv_mk (bi_f (by first | exact Or.inl q1 | exact Or.inr ⟨q2, Int32.not_le.mp c_28⟩ | exact fun h => h.elim q1 (fun z => q2 z.1) | exact fun h => h.elim q1 (fun z => absurd z.2 (Int32.not_lt.mpr c_28)))).symm
    · have q2 : pcS s np = pcS t np := pc_eq (by omega) (by omega) c_15
      refine ac_aload_n 19 dX0_isBetter_18 rfl rfl ?_
      refine ac_iload_n 20 dX0_isBetter_19 rfl rfl ?_
      refine ac_callS (μ' := m0_weightOf) 23 dX0_isBetter_20 rfl lk0_50 m0_weightOf_S (c0_weight hw (by omega)) rfl rfl (by decide) (Nat.le_of_ble_eq_true rfl) ?_
      refine ac_aload_n 24 dX0_isBetter_23 rfl rfl ?_
      refine ac_iload_n 25 dX0_isBetter_24 rfl rfl ?_
      refine ac_callS (μ' := m0_weightOf) 28 dX0_isBetter_25 rfl lk0_50 m0_weightOf_S (c0_weight hw (by omega)) rfl rfl (by decide) (Nat.le_of_ble_eq_true rfl) ?_
      refine ac_icmp_le 35 31 dX0_isBetter_28 (by decide) rfl (fun c_28 => ?_) (fun c_28 => ?_)
      · refine ac_iconst 36 0 dX0_isBetter_35 rfl (by decide) ?_
        refine ac_iret dX0_isBetter_36 ⟨_, rfl, rfl⟩ ?_
        exact rv_mk (bi_f (by first | exact Or.inl q1 | exact Or.inr ⟨q2, Int32.not_le.mp c_28⟩ | exact fun h => h.elim q1 (fun z => q2 z.1) | exact fun h => h.elim q1 (fun z => absurd z.2 (Int32.not_lt.mpr c_28)))).symm
      · refine ac_iconst 32 1 dX0_isBetter_31 rfl (by decide) ?_
        refine ac_goto 36 dX0_isBetter_32 (by decide) ?_
        refine ac_iret dX0_isBetter_36 ⟨_, rfl, rfl⟩ ?_
        exact rv_mk (bi_t (by first | exact Or.inl q1 | exact Or.inr ⟨q2, Int32.not_le.mp c_28⟩ | exact fun h => h.elim q1 (fun z => q2 z.1) | exact fun h => h.elim q1 (fun z => absurd z.2 (Int32.not_lt.mpr c_28)))).symm
def ffR (X : Nat) : Int32 := if X < 40 then nI X else -9
theorem fit_lt {w : rN} {nd j x W a : Nat} (h : fitN w nd j (nI x)) (hW : w 0 = nI W) (hw : w (4 + 4 * j) = nI a) (ha : 1 ≤ a) (hx : x < 2 ^ 30) (ha9 : a ≤ 9) (hW9 : W ≤ 40) : x + a ≤ W := by
  have h1 := h.1.2
  rw [hW, hw, nI_add] at h1
  exact (nI_leI (by omega) (by omega)).mp h1
set_option maxRecDepth 20000 in
theorem c6_firstFit {M : am_I} {V : am_J} {f : Nat → Option Nat} {w : rN} {np nd nh gp W j a : Nat} {wd : Nat → Nat} (hw : CW M 7 w np nd nh) (hwd : WD w np wd gp) (hW : w 0 = nI W) (hW9 : W ≤ 40) (hj : j < np) (ha : a ≤ 2000) : CT m6_firstFit 3 [Value.ref 7, Value.int (nI j), Value.int (nI a)] M V f (RV (ffR (fsN (fun x => fitN w nd j (nI x)) a)) M V f) := by
  have h5 := hw.n5
  have hwk := hwd.1 j hj
  refine CT.of m6_firstFit_V.1 _ (en_aii_4 7 (nI j) (nI a)) ?_
  refine ac_iload_n 1 dX6_firstFit_0 rfl rfl ?_
  refine ac_istore_n 2 [some (Value.ref 7), some (Value.int (nI j)), some (Value.int (nI a)), some (Value.int (nI a))] dX6_firstFit_1 rfl rfl (Nat.le_of_ble_eq_true rfl) (by decide) rfl ?_
  refine ac_down (n := (max a W)) (P := fun x => (a ≤ x ∧ ∀ y, a ≤ y → y < x → ¬ fitN w nd j (nI y)) → A0 m6_firstFit 3 2 [some (Value.ref 7), some (Value.int (nI j)), some (Value.int (nI a)), some (Value.int (nI x))] [] M V f (RV (ffR (fsN (fun x => fitN w nd j (nI x)) a)) M V f)) ?_ ?_ a (Nat.le_max_left _ _) ⟨Nat.le_refl _, fun y h1 h2 => absurd h2 (Nat.not_lt.mpr h1)⟩
  · intro hpr
    refine ac_iload_n 3 dX6_firstFit_2 rfl rfl ?_
    refine ac_aload_n 4 dX6_firstFit_3 rfl rfl ?_
    refine ac_getI 7 dX6_firstFit_4 rfl fl6_42 ob7 ?_
    rw [show (M 7 0) = (nI W) from (hw.s0.trans hW)]
    refine ac_icmp_ge 27 10 dX6_firstFit_7 (by decide) rfl (fun _ => ?_) (fun c_7 => absurd (nI_le (Nat.le_max_right _ _) (by omega)) c_7)
    refine ac_bipush 29 (-9) dX6_firstFit_27 rfl (by decide) ?_
    refine ac_iret dX6_firstFit_29 ⟨_, rfl, rfl⟩ ?_
    exact rv_mk (if_neg (Nat.not_lt.mpr (fsN_ge (fun y h1 h2 h3 => by
      have := fit_lt h3 hW hwk.1 hwk.2.1 (by omega) hwk.2.2 hW9
      exact hpr.2 y h1 (by omega) h3)))).symm
  · intro x hx ih hpr
    refine ac_iload_n 3 dX6_firstFit_2 rfl rfl ?_
    refine ac_aload_n 4 dX6_firstFit_3 rfl rfl ?_
    refine ac_getI 7 dX6_firstFit_4 rfl fl6_42 ob7 ?_
    rw [show (M 7 0) = (nI W) from (hw.s0.trans hW)]
    refine ac_icmp_ge 27 10 dX6_firstFit_7 (by decide) rfl (fun c_7 => ?_) (fun c_7 => ?_)
    · exfalso
      have := (nI_leI (by omega) (by omega)).mp c_7
      omega
    · refine ac_aload_n 11 dX6_firstFit_10 rfl rfl ?_
      refine ac_iload_n 12 dX6_firstFit_11 rfl rfl ?_
      refine ac_iload_n 13 dX6_firstFit_12 rfl rfl ?_
      refine ac_callV (μ' := m6_fits) 16 dX6_firstFit_13 rfl lk6_85 m6_fits_V ob7 (c6_fits hw hj _) rfl rfl (by decide) (Nat.le_of_ble_eq_true rfl) ?_
      refine ac_if_eq 21 19 dX6_firstFit_16 (by decide) rfl (fun c_16 => ?_) (fun c_16 => ?_)
      · refine ac_iinc 24 (nI (x + 1)) [some (Value.ref 7), some (Value.int (nI j)), some (Value.int (nI a)), some (Value.int (nI (x + 1)))] dX6_firstFit_21 rfl rfl (nI_1 _) rfl (by decide) rfl ?_
        refine ac_goto 2 dX6_firstFit_24 (by decide) ?_
        exact ih ⟨by omega, fun y h1 h2 => by
          by_cases hy : y = x
          · subst hy; exact bi_eq0.mp c_16
          · exact hpr.2 y h1 (by omega)⟩
      · refine ac_iload_n 20 dX6_firstFit_19 rfl rfl ?_
        refine ac_iret dX6_firstFit_20 ⟨_, rfl, rfl⟩ ?_
        exact rv_mk (by
          have hf := bi_ne0.mp c_16
          have h9 := fit_lt hf hW hwk.1 hwk.2.1 (by omega) hwk.2.2 hW9
          rw [fsN_eq hpr.1 hpr.2 hf (by omega)]
          exact (if_pos (by omega)).symm)
set_option maxRecDepth 20000 in
theorem c0_leastEnd {M : am_I} {V : am_J} {f : Nat → Option Nat} {w : rN} {np nd nh gp W s : Nat} {wd T : Nat → Nat} (hw : CW M 7 w np nd nh) (hwd : WD w np wd gp) (hW : w 0 = nI W) (hW9 : W ≤ 40) (hs : s < 32) (hT : ∀ i, T i = 1000 ∨ T i ≤ 48) (hT0 : T 0 = 0) (hM0 : M 95 0 = -(w 2)) (hM : ∀ i, 1 ≤ i → i < s → M 95 i = nI (T i)) : CT m0_leastEnd 4 [Value.ref 94, Value.ref 7, Value.int (nI s)] M V f (RV (nI (leS (fun p x => fitN w nd p (nI x)) wd gp T s np)) M V f) := by
  have h5 := hw.n5
  have hg := hwd.2.2
  refine CT.of m0_leastEnd_V.1 _ (en_aai_7 94 7 (nI s)) ?_
  refine ac_sipush 3 1000 dX0_leastEnd_0 rfl (by decide) ?_
  refine ac_istore_n 4 [some (Value.ref 94), some (Value.ref 7), some (Value.int (nI s)), some (Value.int 1000), none, none, none] dX0_leastEnd_3 rfl rfl (Nat.le_of_ble_eq_true rfl) (by decide) rfl ?_
  have hL : A0 m0_leastEnd 4 7 [some (Value.ref 94), some (Value.ref 7), some (Value.int (nI s)), some (Value.int (nI (leS (fun p x => fitN w nd p (nI x)) wd gp T s 0))), some (Value.int (nI 0)), none, none] [] M V f (RV (nI (leS (fun p x => fitN w nd p (nI x)) wd gp T s np)) M V f) := by
    refine ac_down (n := np) (P := fun k => A0 m0_leastEnd 4 7 [some (Value.ref 94), some (Value.ref 7), some (Value.int (nI s)), some (Value.int (nI (leS (fun p x => fitN w nd p (nI x)) wd gp T s k))), some (Value.int (nI k)), none, none] [] M V f (RV (nI (leS (fun p x => fitN w nd p (nI x)) wd gp T s np)) M V f)) ?_ ?_ 0 (Nat.zero_le _) 
    · refine ac_iload 9 dX0_leastEnd_7 rfl rfl ?_
      refine ac_aload_n 10 dX0_leastEnd_9 rfl rfl ?_
      refine ac_getI 13 dX0_leastEnd_10 rfl fl0_21 ob7 ?_
      rw [show (M 7 3) = (nI np) from hw.s3]
      refine ac_icmp_ge 105 16 dX0_leastEnd_13 (by decide) rfl (fun _ => ?_) (fun c_13 => absurd (Int32.le_refl _) c_13)
      refine ac_iload_n 106 dX0_leastEnd_105 rfl rfl ?_
      refine ac_iret dX0_leastEnd_106 ⟨_, rfl, rfl⟩ ?_
      exact rv_mk rfl
    · intro k hk ih
      have hr := rm_ok s hs k (by omega)
      have hwk := hwd.1 k hk
      have hX : stS T gp s k ≤ (xS (fun p x => fitN w nd p (nI x)) T gp s k) ∧ ((xS (fun p x => fitN w nd p (nI x)) T gp s k) ≤ stS T gp s k ∨ (xS (fun p x => fitN w nd p (nI x)) T gp s k) ≤ 40) := ⟨(fsN_spec ((fun p x => fitN w nd p (nI x)) k) (stS T gp s k)).1, (fsN_spec ((fun p x => fitN w nd p (nI x)) k) (stS T gp s k)).2.1⟩
      have hTb : T (rmS s k) = 1000 ∨ T (rmS s k) ≤ 48 := hT (rmS s k)
      have hst9 : stS T gp s k ≤ 1009 := by unfold stS; split <;> omega
      have hlb := leS_le (fun p x => fitN w nd p (nI x)) wd gp T s k (fun p hp => (hwd.1 p (by omega)).2.2)
      have hE1 : rmS s k < s → M 95 (rmS s k) + w 2 = nI (stS T gp s k) := fun hrs => by
        unfold stS
        by_cases h0 : rmS s k = 0
        · rw [if_pos h0, h0, hM0]; exact Int32.add_left_neg _
        · rw [if_neg h0, hM _ (by omega) hrs, hwd.2.1, nI_add]
      have hE2 : rmS s k < s → (M 95 (rmS s k) = 1000 ↔ T (rmS s k) = 1000) := fun hrs => by
        by_cases h0 : rmS s k = 0
        · rw [h0, hM0, hT0, hwd.2.1]
          refine ⟨fun h => ?_, fun h => absurd h (by decide)⟩
          exact absurd h ((by decide : ∀ g, g < 10 → ¬ (-nI g) = (1000 : Int32)) gp (by omega))
        · rw [hM _ (by omega) hrs]
          exact nI_eq (b := 1000) (by omega) (by decide)
      refine ac_iload 9 dX0_leastEnd_7 rfl rfl ?_
      refine ac_aload_n 10 dX0_leastEnd_9 rfl rfl ?_
      refine ac_getI 13 dX0_leastEnd_10 rfl fl0_21 ob7 ?_
      rw [show (M 7 3) = (nI np) from hw.s3]
      refine ac_icmp_ge 105 16 dX0_leastEnd_13 (by decide) rfl (fun c_13 => absurd c_13 (nI_ge hk (by omega))) (fun _ => ?_)
      refine ac_iload_n 17 dX0_leastEnd_16 rfl rfl ?_
      refine ac_iconst 18 1 dX0_leastEnd_17 rfl (by decide) ?_
      refine ac_iload 20 dX0_leastEnd_18 rfl rfl ?_
      refine ac_ishl 21 dX0_leastEnd_20 rfl ?_
      refine ac_iconst 22 (-1) dX0_leastEnd_21 rfl (by decide) ?_
      refine ac_ixor 23 dX0_leastEnd_22 rfl ?_
      refine ac_iand 24 dX0_leastEnd_23 rfl ?_
      rw [show ((nI s) &&& ((1 <<< ((nI k) &&& 31)) ^^^ (-1))) = (nI (rmS s k)) from hr.1]
      refine ac_istore 26 [some (Value.ref 94), some (Value.ref 7), some (Value.int (nI s)), some (Value.int (nI (leS (fun p x => fitN w nd p (nI x)) wd gp T s k))), some (Value.int (nI k)), some (Value.int (nI (rmS s k))), none] dX0_leastEnd_24 rfl rfl (Nat.le_of_ble_eq_true rfl) (by decide) rfl ?_
      refine ac_iload 28 dX0_leastEnd_26 rfl rfl ?_
      refine ac_if_lt 99 31 dX0_leastEnd_28 (by decide) rfl (fun c_28 => absurd c_28 (nI_pos (by omega))) (fun _ => ?_)
      refine ac_iload 33 dX0_leastEnd_31 rfl rfl ?_
      refine ac_iload_n 34 dX0_leastEnd_33 rfl rfl ?_
      refine ac_icmp_ge 99 37 dX0_leastEnd_34 (by decide) rfl (fun c_34 => ?_) (fun c_34 => ?_)
      · have hbt : ¬ s.testBit k = true := fun q => absurd ((nI_leI (by omega) (by omega)).mp c_34) (Nat.not_le.mpr (hr.2.2.mpr q))
        refine ac_iinc 102 (nI (k + 1)) [some (Value.ref 94), some (Value.ref 7), some (Value.int (nI s)), some (Value.int (nI (leS (fun p x => fitN w nd p (nI x)) wd gp T s k))), some (Value.int (nI (k + 1))), some (Value.int (nI (rmS s k))), none] dX0_leastEnd_99 rfl rfl (nI_1 _) rfl (by decide) rfl ?_
        refine ac_goto 7 dX0_leastEnd_102 (by decide) ?_
        refine ac_kill 5 [some (Value.ref 94), some (Value.ref 7), some (Value.int (nI s)), some (Value.int (nI (leS (fun p x => fitN w nd p (nI x)) wd gp T s k))), some (Value.int (nI (k + 1))), none, none] rfl ?_
        have e9 : (leS (fun p x => fitN w nd p (nI x)) wd gp T s (k + 1)) = (leS (fun p x => fitN w nd p (nI x)) wd gp T s k) := by show (if _ then _ else _) = _; first | rw [if_neg (fun q => hbt q.1)] | rw [if_neg (fun q => hT9 q.2.1)] | rw [if_neg (fun q => hx9 q.2.2.1)]
        rw [e9] at ih
        exact ih
      · have hrs : rmS s k < s := Nat.lt_of_not_le (fun q => c_34 (nI_le q (by omega)))
        have hbt := hr.2.2.mp hrs
        refine ac_iload 39 dX0_leastEnd_37 rfl rfl ?_
        refine ac_bipush 41 32 dX0_leastEnd_39 rfl (by decide) ?_
        refine ac_icmp_ge 99 44 dX0_leastEnd_41 (by decide) rfl (fun c_41 => absurd c_41 (nI_ge (b := 32) (by omega) (by decide))) (fun _ => ?_)
        refine ac_aload_n 45 dX0_leastEnd_44 rfl rfl ?_
        refine ac_getO 48 95 dX0_leastEnd_45 rfl fl0_11 ob94 rfl ?_
        refine ac_iload 50 dX0_leastEnd_48 rfl rfl ?_
        refine ac_iald 51 dX0_leastEnd_50 rfl ar95 (ix_nI (by omega) (by decide)) ?_
        refine ac_sipush 54 1000 dX0_leastEnd_51 rfl (by decide) ?_
        refine ac_icmp_eq 99 57 dX0_leastEnd_54 (by decide) rfl (fun c_54 => ?_) (fun c_54 => ?_)
        · have hT9 : ¬ T (rmS s k) < 1000 := by rw [(hE2 hrs).mp c_54]; decide
          refine ac_iinc 102 (nI (k + 1)) [some (Value.ref 94), some (Value.ref 7), some (Value.int (nI s)), some (Value.int (nI (leS (fun p x => fitN w nd p (nI x)) wd gp T s k))), some (Value.int (nI (k + 1))), some (Value.int (nI (rmS s k))), none] dX0_leastEnd_99 rfl rfl (nI_1 _) rfl (by decide) rfl ?_
          refine ac_goto 7 dX0_leastEnd_102 (by decide) ?_
          refine ac_kill 5 [some (Value.ref 94), some (Value.ref 7), some (Value.int (nI s)), some (Value.int (nI (leS (fun p x => fitN w nd p (nI x)) wd gp T s k))), some (Value.int (nI (k + 1))), none, none] rfl ?_
          have e9 : (leS (fun p x => fitN w nd p (nI x)) wd gp T s (k + 1)) = (leS (fun p x => fitN w nd p (nI x)) wd gp T s k) := by show (if _ then _ else _) = _; first | rw [if_neg (fun q => hbt q.1)] | rw [if_neg (fun q => hT9 q.2.1)] | rw [if_neg (fun q => hx9 q.2.2.1)]
          rw [e9] at ih
          exact ih
        · have hT9 : T (rmS s k) < 1000 := by have h9 : ¬ T (rmS s k) = 1000 := fun h => c_54 ((hE2 hrs).mpr h); omega
          refine ac_aload_n 58 dX0_leastEnd_57 rfl rfl ?_
          refine ac_iload 60 dX0_leastEnd_58 rfl rfl ?_
          refine ac_aload_n 61 dX0_leastEnd_60 rfl rfl ?_
          refine ac_getO 64 95 dX0_leastEnd_61 rfl fl0_11 ob94 rfl ?_
          refine ac_iload 66 dX0_leastEnd_64 rfl rfl ?_
          refine ac_iald 67 dX0_leastEnd_66 rfl ar95 (ix_nI (by omega) (by decide)) ?_
          refine ac_aload_n 68 dX0_leastEnd_67 rfl rfl ?_
          refine ac_getI 71 dX0_leastEnd_68 rfl fl0_15 ob7 ?_
          rw [show (M 7 2) = (w 2) from hw.s2]
          refine ac_iadd 72 dX0_leastEnd_71 rfl ?_
          rw [show ((M 95 (rmS s k)) + (w 2)) = (nI (stS T gp s k)) from (hE1 hrs)]
          refine ac_callV (μ' := m6_firstFit) 75 dX0_leastEnd_72 rfl lk0_32 m6_firstFit_V ob7 (c6_firstFit hw hwd hW hW9 hk (by omega)) rfl rfl (by decide) (Nat.le_of_ble_eq_true rfl) ?_
          refine ac_istore 77 [some (Value.ref 94), some (Value.ref 7), some (Value.int (nI s)), some (Value.int (nI (leS (fun p x => fitN w nd p (nI x)) wd gp T s k))), some (Value.int (nI k)), some (Value.int (nI (rmS s k))), some (Value.int (ffR (xS (fun p x => fitN w nd p (nI x)) T gp s k)))] dX0_leastEnd_75 rfl rfl (Nat.le_of_ble_eq_true rfl) (by decide) rfl ?_
          refine ac_iload 79 dX0_leastEnd_77 rfl rfl ?_
          refine ac_bipush 81 (-9) dX0_leastEnd_79 rfl (by decide) ?_
          refine ac_icmp_eq 99 84 dX0_leastEnd_81 (by decide) rfl (fun c_81 => ?_) (fun c_81 => ?_)
          · have hx9 : ¬ (xS (fun p x => fitN w nd p (nI x)) T gp s k) < 40 := fun q => by
              have e : ffR (xS (fun p x => fitN w nd p (nI x)) T gp s k) = nI (xS (fun p x => fitN w nd p (nI x)) T gp s k) := if_pos q
              rw [e] at c_81
              have := congrArg Int32.toInt c_81
              rw [nI_toInt (by omega)] at this
              have e9 : (-9 : Int32).toInt = -9 := by decide
              omega
            refine ac_iinc 102 (nI (k + 1)) [some (Value.ref 94), some (Value.ref 7), some (Value.int (nI s)), some (Value.int (nI (leS (fun p x => fitN w nd p (nI x)) wd gp T s k))), some (Value.int (nI (k + 1))), some (Value.int (nI (rmS s k))), some (Value.int (ffR (xS (fun p x => fitN w nd p (nI x)) T gp s k)))] dX0_leastEnd_99 rfl rfl (nI_1 _) rfl (by decide) rfl ?_
            refine ac_goto 7 dX0_leastEnd_102 (by decide) ?_
            refine ac_kill 5 [some (Value.ref 94), some (Value.ref 7), some (Value.int (nI s)), some (Value.int (nI (leS (fun p x => fitN w nd p (nI x)) wd gp T s k))), some (Value.int (nI (k + 1))), none, some (Value.int (ffR (xS (fun p x => fitN w nd p (nI x)) T gp s k)))] rfl ?_
            refine ac_kill 6 [some (Value.ref 94), some (Value.ref 7), some (Value.int (nI s)), some (Value.int (nI (leS (fun p x => fitN w nd p (nI x)) wd gp T s k))), some (Value.int (nI (k + 1))), none, none] rfl ?_
            have e9 : (leS (fun p x => fitN w nd p (nI x)) wd gp T s (k + 1)) = (leS (fun p x => fitN w nd p (nI x)) wd gp T s k) := by show (if _ then _ else _) = _; first | rw [if_neg (fun q => hbt q.1)] | rw [if_neg (fun q => hT9 q.2.1)] | rw [if_neg (fun q => hx9 q.2.2.1)]
            rw [e9] at ih
            exact ih
          · have hx9 : (xS (fun p x => fitN w nd p (nI x)) T gp s k) < 40 := Classical.not_not.mp (fun q => c_81 (if_neg q))
            refine ac_iload_n 85 dX0_leastEnd_84 rfl rfl ?_
            refine ac_iload 87 dX0_leastEnd_85 rfl rfl ?_
            refine ac_aload_n 88 dX0_leastEnd_87 rfl rfl ?_
            refine ac_getO 91 8 dX0_leastEnd_88 rfl fl0_36 ob7 rfl ?_
            refine ac_iload 93 dX0_leastEnd_91 rfl rfl ?_
            refine ac_iald 94 dX0_leastEnd_93 rfl ar8 (ix_nI (by omega) (by decide)) ?_
            rw [show (M 8 k) = (w (4 + 4 * k)) from (hw.p0 hk)]
            refine ac_iadd 95 dX0_leastEnd_94 rfl ?_
            rw [show ((ffR (xS (fun p x => fitN w nd p (nI x)) T gp s k)) + (w (4 + 4 * k))) = (nI ((xS (fun p x => fitN w nd p (nI x)) T gp s k) + wd k)) from (by rw [show ffR (xS (fun p x => fitN w nd p (nI x)) T gp s k) = nI (xS (fun p x => fitN w nd p (nI x)) T gp s k) from if_pos hx9, hwk.1, nI_add])]
            refine ac_min 98 dX0_leastEnd_95 rfl lkj0_39 (by decide) (Nat.le_of_ble_eq_true rfl) ?_
            rw [show (if (nI ((xS (fun p x => fitN w nd p (nI x)) T gp s k) + wd k)) < (nI (leS (fun p x => fitN w nd p (nI x)) wd gp T s k)) then (nI ((xS (fun p x => fitN w nd p (nI x)) T gp s k) + wd k)) else (nI (leS (fun p x => fitN w nd p (nI x)) wd gp T s k))) = (nI (leS (fun p x => fitN w nd p (nI x)) wd gp T s (k + 1))) from (by
              have e8 : leS (fun p x => fitN w nd p (nI x)) wd gp T s (k + 1) = if s.testBit k = true ∧ T (rmS s k) < 1000 ∧ (xS (fun p x => fitN w nd p (nI x)) T gp s k) < 40 ∧ (xS (fun p x => fitN w nd p (nI x)) T gp s k) + wd k < (leS (fun p x => fitN w nd p (nI x)) wd gp T s k) then (xS (fun p x => fitN w nd p (nI x)) T gp s k) + wd k else (leS (fun p x => fitN w nd p (nI x)) wd gp T s k) := rfl
              rw [e8]
              by_cases hc : (xS (fun p x => fitN w nd p (nI x)) T gp s k) + wd k < (leS (fun p x => fitN w nd p (nI x)) wd gp T s k)
              · rw [if_pos (nI_lt hc (by omega)), if_pos ⟨hbt, hT9, hx9, hc⟩]
              · rw [if_neg (nI_nlt (Nat.not_lt.mp hc) (by omega)), if_neg (fun q => hc q.2.2.2)])]
            refine ac_istore_n 99 [some (Value.ref 94), some (Value.ref 7), some (Value.int (nI s)), some (Value.int (nI (leS (fun p x => fitN w nd p (nI x)) wd gp T s (k + 1)))), some (Value.int (nI k)), some (Value.int (nI (rmS s k))), some (Value.int (ffR (xS (fun p x => fitN w nd p (nI x)) T gp s k)))] dX0_leastEnd_98 rfl rfl (Nat.le_of_ble_eq_true rfl) (by decide) rfl ?_
            refine ac_iinc 102 (nI (k + 1)) [some (Value.ref 94), some (Value.ref 7), some (Value.int (nI s)), some (Value.int (nI (leS (fun p x => fitN w nd p (nI x)) wd gp T s (k + 1)))), some (Value.int (nI (k + 1))), some (Value.int (nI (rmS s k))), some (Value.int (ffR (xS (fun p x => fitN w nd p (nI x)) T gp s k)))] dX0_leastEnd_99 rfl rfl (nI_1 _) rfl (by decide) rfl ?_
            refine ac_goto 7 dX0_leastEnd_102 (by decide) ?_
            refine ac_kill 5 [some (Value.ref 94), some (Value.ref 7), some (Value.int (nI s)), some (Value.int (nI (leS (fun p x => fitN w nd p (nI x)) wd gp T s (k + 1)))), some (Value.int (nI (k + 1))), none, some (Value.int (ffR (xS (fun p x => fitN w nd p (nI x)) T gp s k)))] rfl ?_
            refine ac_kill 6 [some (Value.ref 94), some (Value.ref 7), some (Value.int (nI s)), some (Value.int (nI (leS (fun p x => fitN w nd p (nI x)) wd gp T s (k + 1)))), some (Value.int (nI (k + 1))), none, none] rfl ?_
            exact ih
  refine ac_iconst 5 0 dX0_leastEnd_4 rfl (by decide) ?_
  refine ac_istore 7 [some (Value.ref 94), some (Value.ref 7), some (Value.int (nI s)), some (Value.int 1000), some (Value.int 0), none, none] dX0_leastEnd_5 rfl rfl (Nat.le_of_ble_eq_true rfl) (by decide) rfl ?_
  exact hL
theorem row_ne {α : Type} {M : Nat → Nat → α} {r i : Nat} {g : Nat → α} (h : i ≠ r) : am_row M r g i = M i := if_neg h
set_option maxRecDepth 20000 in
theorem c0_largest {M : am_I} {V : am_J} {f : Nat → Option Nat} {w : rN} {np nd nh gp W : Nat} {wd : Nat → Nat} (hw : CW M 7 w np nd nh) (hwd : WD w np wd gp) (hW : w 0 = nI W) (hW9 : W ≤ 40) : CT m0_largestSet 6 [Value.ref 94, Value.ref 7] M V f (RM (some (.int (nI (bmS (fun p x => fitN w nd p (nI x)) wd gp np w (2 ^ np - 1))))) (am_row M 95 (rwS (fun p x => fitN w nd p (nI x)) wd gp np (fun i => if i = 0 then -(w 2) else M 95 i) (2 ^ np - 1))) V f) := by
  have hnp := hw.n5
  have h32 := pow_le np hnp
  have h2p : 0 < 2 ^ np := Nat.two_pow_pos np
  refine CT.of m0_largestSet_V.1 _ (en_aa_4 94 7) ?_
  refine ac_iconst 1 0 dX0_largestSet_0 rfl (by decide) ?_
  refine ac_istore_n 2 [some (Value.ref 94), some (Value.ref 7), some (Value.int 0), none] dX0_largestSet_1 rfl rfl (Nat.le_of_ble_eq_true rfl) (by decide) rfl ?_
  refine ac_aload_n 3 dX0_largestSet_2 rfl rfl ?_
  refine ac_getO 6 95 dX0_largestSet_3 rfl fl0_11 ob94 rfl ?_
  refine ac_iconst 7 0 dX0_largestSet_6 rfl (by decide) ?_
  refine ac_aload_n 8 dX0_largestSet_7 rfl rfl ?_
  refine ac_getI 11 dX0_largestSet_8 rfl fl0_15 ob7 ?_
  rw [show (M 7 2) = (w 2) from hw.s2]
  refine ac_ineg 12 dX0_largestSet_11 rfl ?_
  refine ac_iast 13 dX0_largestSet_12 rfl ar95 (ix_nI (k := 0) (by decide) (by decide)) ?_
  have hL : A0 m0_largestSet 6 15 [some (Value.ref 94), some (Value.ref 7), some (Value.int (nI (bmS (fun p x => fitN w nd p (nI x)) wd gp np w 0))), some (Value.int (nI (0 + 1)))] [] (am_row M 95 (rwS (fun p x => fitN w nd p (nI x)) wd gp np (fun i => if i = 0 then -(w 2) else M 95 i) 0)) V f (RM (some (.int (nI (bmS (fun p x => fitN w nd p (nI x)) wd gp np w (2 ^ np - 1))))) (am_row M 95 (rwS (fun p x => fitN w nd p (nI x)) wd gp np (fun i => if i = 0 then -(w 2) else M 95 i) (2 ^ np - 1))) V f) := by
    refine ac_down (n := (2 ^ np - 1)) (P := fun k => A0 m0_largestSet 6 15 [some (Value.ref 94), some (Value.ref 7), some (Value.int (nI (bmS (fun p x => fitN w nd p (nI x)) wd gp np w k))), some (Value.int (nI (k + 1)))] [] (am_row M 95 (rwS (fun p x => fitN w nd p (nI x)) wd gp np (fun i => if i = 0 then -(w 2) else M 95 i) k)) V f (RM (some (.int (nI (bmS (fun p x => fitN w nd p (nI x)) wd gp np w (2 ^ np - 1))))) (am_row M 95 (rwS (fun p x => fitN w nd p (nI x)) wd gp np (fun i => if i = 0 then -(w 2) else M 95 i) (2 ^ np - 1))) V f)) ?_ ?_ 0 (Nat.zero_le _) 
    · refine ac_iload_n 16 dX0_largestSet_15 rfl rfl ?_
      refine ac_iconst 17 1 dX0_largestSet_16 rfl (by decide) ?_
      refine ac_aload_n 18 dX0_largestSet_17 rfl rfl ?_
      refine ac_getI 21 dX0_largestSet_18 rfl fl0_21 ob7 ?_
      rw [show ((am_row M 95 (rwS (fun p x => fitN w nd p (nI x)) wd gp np (fun i => if i = 0 then -(w 2) else M 95 i) (2 ^ np - 1))) 7 3) = (M 7 3) from rfl]
      rw [show (M 7 3) = (nI np) from hw.s3]
      refine ac_ishl 22 dX0_largestSet_21 rfl ?_
      rw [show (1 <<< ((nI np) &&& 31)) = (nI (2 ^ np)) from (shl_ok np hnp)]
      refine ac_icmp_ge 72 25 dX0_largestSet_22 (by decide) rfl (fun _ => ?_) (fun c_22 => absurd (by rw [show 2 ^ np - 1 + 1 = 2 ^ np by omega]; exact Int32.le_refl _) c_22)
      refine ac_iload_n 73 dX0_largestSet_72 rfl rfl ?_
      refine ac_iret dX0_largestSet_73 ⟨_, rfl, rfl⟩ ?_
      exact rm_mk rfl
    · intro k hk ih
      have hlb := leS_le (fun p x => fitN w nd p (nI x)) wd gp (tbS (fun p x => fitN w nd p (nI x)) wd gp np k) (k + 1) np (fun p hp => (hwd.1 p hp).2.2)
      have hbl := bmS_le (F := (fun p x => fitN w nd p (nI x))) (wd := wd) (gp := gp) (np := np) (w := w) k
      have hwk : CW (am_row M 95 (rwS (fun p x => fitN w nd p (nI x)) wd gp np (fun i => if i = 0 then -(w 2) else M 95 i) k)) 7 w np nd nh := hw.same (fun i hi => row_ne (by omega))
      have hwk2 : CW (am_up (am_row M 95 (rwS (fun p x => fitN w nd p (nI x)) wd gp np (fun i => if i = 0 then -(w 2) else M 95 i) k)) 95 (k + 1) (nI (leS (fun p x => fitN w nd p (nI x)) wd gp (tbS (fun p x => fitN w nd p (nI x)) wd gp np k) (k + 1) np))) 7 w np nd nh := hw.same (fun i hi => by rw [am_up_ne (by omega), row_ne (by omega)])
      refine ac_iload_n 16 dX0_largestSet_15 rfl rfl ?_
      refine ac_iconst 17 1 dX0_largestSet_16 rfl (by decide) ?_
      refine ac_aload_n 18 dX0_largestSet_17 rfl rfl ?_
      refine ac_getI 21 dX0_largestSet_18 rfl fl0_21 ob7 ?_
      rw [show ((am_row M 95 (rwS (fun p x => fitN w nd p (nI x)) wd gp np (fun i => if i = 0 then -(w 2) else M 95 i) k)) 7 3) = (M 7 3) from rfl]
      rw [show (M 7 3) = (nI np) from hw.s3]
      refine ac_ishl 22 dX0_largestSet_21 rfl ?_
      rw [show (1 <<< ((nI np) &&& 31)) = (nI (2 ^ np)) from (shl_ok np hnp)]
      refine ac_icmp_ge 72 25 dX0_largestSet_22 (by decide) rfl (fun c_22 => absurd c_22 (nI_ge (by omega) (by omega))) (fun _ => ?_)
      refine ac_iload_n 26 dX0_largestSet_25 rfl rfl ?_
      refine ac_bipush 28 32 dX0_largestSet_26 rfl (by decide) ?_
      refine ac_icmp_ge 72 31 dX0_largestSet_28 (by decide) rfl (fun c_28 => absurd c_28 (nI_ge (b := 32) (by omega) (by decide))) (fun _ => ?_)
      refine ac_aload_n 32 dX0_largestSet_31 rfl rfl ?_
      refine ac_getO 35 95 dX0_largestSet_32 rfl fl0_11 ob94 rfl ?_
      refine ac_iload_n 36 dX0_largestSet_35 rfl rfl ?_
      refine ac_aload_n 37 dX0_largestSet_36 rfl rfl ?_
      refine ac_aload_n 38 dX0_largestSet_37 rfl rfl ?_
      refine ac_iload_n 39 dX0_largestSet_38 rfl rfl ?_
      refine ac_callV (μ' := m0_leastEnd) 42 dX0_largestSet_39 rfl lk0_24 m0_leastEnd_V ob94 (c0_leastEnd (M := (am_row M 95 (rwS (fun p x => fitN w nd p (nI x)) wd gp np (fun i => if i = 0 then -(w 2) else M 95 i) k))) (s := k + 1) (T := (tbS (fun p x => fitN w nd p (nI x)) wd gp np k)) hwk hwd hW hW9 (by omega) (tbS_le (fun p x => fitN w nd p (nI x)) wd gp np (fun p hp => (hwd.1 p hp).2.2) k) (tbS_0 _ _ _ _ k) (by rw [row_at]; exact if_neg (fun q => by omega)) (fun i h1 h2 => by rw [row_at]; exact rwS_in h1 (by omega))) rfl rfl (by decide) (Nat.le_of_ble_eq_true rfl) ?_
      refine ac_iast 43 dX0_largestSet_42 rfl ar95 (ix_nI (by omega) (by decide)) ?_
      refine ac_aload_n 44 dX0_largestSet_43 rfl rfl ?_
      refine ac_getO 47 95 dX0_largestSet_44 rfl fl0_11 ob94 rfl ?_
      refine ac_iload_n 48 dX0_largestSet_47 rfl rfl ?_
      refine ac_iald 49 dX0_largestSet_48 rfl ar95 (ix_nI (by omega) (by decide)) ?_
      rw [show ((am_up (am_row M 95 (rwS (fun p x => fitN w nd p (nI x)) wd gp np (fun i => if i = 0 then -(w 2) else M 95 i) k)) 95 (k + 1) (nI (leS (fun p x => fitN w nd p (nI x)) wd gp (tbS (fun p x => fitN w nd p (nI x)) wd gp np k) (k + 1) np))) 95 (k + 1)) = (nI (leS (fun p x => fitN w nd p (nI x)) wd gp (tbS (fun p x => fitN w nd p (nI x)) wd gp np k) (k + 1) np)) from up_eq]
      refine ac_sipush 52 1000 dX0_largestSet_49 rfl (by decide) ?_
      refine ac_icmp_eq 66 55 dX0_largestSet_52 (by decide) rfl (fun c_52 => ?_) (fun c_52 => ?_)
      · refine ac_iinc 69 (nI (k + 1 + 1)) [some (Value.ref 94), some (Value.ref 7), some (Value.int (nI (bmS (fun p x => fitN w nd p (nI x)) wd gp np w k))), some (Value.int (nI (k + 1 + 1)))] dX0_largestSet_66 rfl rfl (nI_1 _) rfl (by decide) rfl ?_
        refine ac_goto 15 dX0_largestSet_69 (by decide) ?_
        rw [rwS_st]
        have e8 : (bmS (fun p x => fitN w nd p (nI x)) wd gp np w (k + 1)) = (bmS (fun p x => fitN w nd p (nI x)) wd gp np w k) := bmS_f (by rw [tbS_top]; first | exact fun q => absurd q.1 (by rw [(nI_eq (b := 1000) (by omega) (by decide)).mp c_52]; decide) | exact fun q => bi_eq0.mp c_61 q.2)
        rw [e8] at ih
        exact ih
      · refine ac_aload_n 56 dX0_largestSet_55 rfl rfl ?_
        refine ac_iload_n 57 dX0_largestSet_56 rfl rfl ?_
        refine ac_iload_n 58 dX0_largestSet_57 rfl rfl ?_
        refine ac_callS (μ' := m0_isBetter) 61 dX0_largestSet_58 rfl lk0_28 m0_isBetter_S (c0_better (M := (am_up (am_row M 95 (rwS (fun p x => fitN w nd p (nI x)) wd gp np (fun i => if i = 0 then -(w 2) else M 95 i) k)) 95 (k + 1) (nI (leS (fun p x => fitN w nd p (nI x)) wd gp (tbS (fun p x => fitN w nd p (nI x)) wd gp np k) (k + 1) np)))) (s := k + 1) (t := (bmS (fun p x => fitN w nd p (nI x)) wd gp np w k)) hwk2 (by omega) (by omega)) rfl rfl (by decide) (Nat.le_of_ble_eq_true rfl) ?_
        refine ac_if_eq 66 64 dX0_largestSet_61 (by decide) rfl (fun c_61 => ?_) (fun c_61 => ?_)
        · refine ac_iinc 69 (nI (k + 1 + 1)) [some (Value.ref 94), some (Value.ref 7), some (Value.int (nI (bmS (fun p x => fitN w nd p (nI x)) wd gp np w k))), some (Value.int (nI (k + 1 + 1)))] dX0_largestSet_66 rfl rfl (nI_1 _) rfl (by decide) rfl ?_
          refine ac_goto 15 dX0_largestSet_69 (by decide) ?_
          rw [rwS_st]
          have e8 : (bmS (fun p x => fitN w nd p (nI x)) wd gp np w (k + 1)) = (bmS (fun p x => fitN w nd p (nI x)) wd gp np w k) := bmS_f (by rw [tbS_top]; first | exact fun q => absurd q.1 (by rw [(nI_eq (b := 1000) (by omega) (by decide)).mp c_52]; decide) | exact fun q => bi_eq0.mp c_61 q.2)
          rw [e8] at ih
          exact ih
        · refine ac_iload_n 65 dX0_largestSet_64 rfl rfl ?_
          refine ac_istore_n 66 [some (Value.ref 94), some (Value.ref 7), some (Value.int (nI (k + 1))), some (Value.int (nI (k + 1)))] dX0_largestSet_65 rfl rfl (Nat.le_of_ble_eq_true rfl) (by decide) rfl ?_
          refine ac_iinc 69 (nI (k + 1 + 1)) [some (Value.ref 94), some (Value.ref 7), some (Value.int (nI (k + 1))), some (Value.int (nI (k + 1 + 1)))] dX0_largestSet_66 rfl rfl (nI_1 _) rfl (by decide) rfl ?_
          refine ac_goto 15 dX0_largestSet_69 (by decide) ?_
          rw [rwS_st]
          have e8 : (bmS (fun p x => fitN w nd p (nI x)) wd gp np w (k + 1)) = k + 1 := bmS_t (by rw [tbS_top]; exact ⟨(fun (h9 : ¬ (leS (fun p x => fitN w nd p (nI x)) wd gp (tbS (fun p x => fitN w nd p (nI x)) wd gp np k) (k + 1) np) = 1000) => by omega) (fun h => c_52 (by rw [h]; rfl)), bi_ne0.mp c_61⟩)
          rw [e8] at ih
          exact ih
  refine ac_iconst 14 1 dX0_largestSet_13 rfl (by decide) ?_
  refine ac_istore_n 15 [some (Value.ref 94), some (Value.ref 7), some (Value.int 0), some (Value.int 1)] dX0_largestSet_14 rfl rfl (Nat.le_of_ble_eq_true rfl) (by decide) rfl ?_
  rw [rwS_0, show am_row M 95 (fun i => if i = 0 then -(w 2) else M 95 i) = am_up M 95 0 (-(w 2)) from up_row.symm] at hL
  exact hL
set_option maxRecDepth 20000 in
theorem q7_most {M : am_I} {V : am_J} {f : Nat → Option Nat} {w : rN} {np nd nh gp W : Nat} {wd : Nat → Nat} (hw : CW M 7 w np nd nh) (hwd : WD w np wd gp) (hW : w 0 = nI W) (hW9 : W ≤ 40) : CT m7_most 7 [Value.ref 0] M V f (RM (some (.int (nI (bmS (fun p x => fitN w nd p (nI x)) wd gp np w (2 ^ np - 1))))) (am_row M 95 (rwS (fun p x => fitN w nd p (nI x)) wd gp np (fun i => if i = 0 then -(w 2) else M 95 i) (2 ^ np - 1))) V f) := by
  refine CT.of m7_most_V.1 _ (en_a_1 0) ?_
  refine ac_aload_n 1 dX7_most_0 rfl rfl ?_
  refine ac_getO 4 94 dX7_most_1 rfl fl7_55 ob0 rfl ?_
  refine ac_aload_n 5 dX7_most_4 rfl rfl ?_
  refine ac_getO 8 7 dX7_most_5 rfl fl7_27 ob0 rfl ?_
  refine ac_callVm (μ' := m0_largestSet) 11 dX7_most_8 rfl lk7_189 m0_largestSet_V ob94 (c0_largest hw hwd hW hW9) rfl rfl (by decide) (Nat.le_of_ble_eq_true rfl) ?_
  refine ac_iret dX7_most_11 ⟨_, rfl, rfl⟩ ?_
  exact rm_mk rfl
