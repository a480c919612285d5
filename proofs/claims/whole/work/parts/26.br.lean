/-! The best row: the reference. -/
theorem nar_bi {p : Prop} : vp_nar .boolean (bi p) = bi p := by
  rcases bi_cases p with ⟨_, e⟩ | ⟨_, e⟩ <;> rw [e] <;> rfl
/-- what the search of the reference leaves alone -/
def KB (M M' : am_I) : Prop := ∀ i k, (i < 130 ∨ 134 < i) → (i ≠ 121 ∨ k ≠ 17) → M' i k = M i k
theorem KB.row {M M' : am_I} (h : KB M M') {i : Nat} (h1 : i < 130 ∨ 134 < i) (h2 : i ≠ 121) : M' i = M i := funext (fun k => h i k h1 (Or.inl h2))
theorem KB.refl (M : am_I) : KB M M := fun _ _ _ _ => rfl
theorem KB.trans {M M1 M2 : am_I} (h : KB M M1) (h2 : KB M1 M2) : KB M M2 := fun i k a b => (h2 i k a b).trans (h i k a b)
theorem KB.up {M M1 : am_I} (h : KB M M1) {r j : Nat} {v : Int32} (hr : (130 ≤ r ∧ r ≤ 134) ∨ (r = 121 ∧ j = 17)) : KB M (am_up M1 r j v) := fun i k a b => by
  rw [← h i k a b]
  unfold am_up
  by_cases h1 : i = r
  · rw [if_pos h1, if_neg (fun e => by omega)]
  · rw [if_neg h1]
def K2 (M M' : am_I) : Prop := ∀ i, i ≠ 133 → i ≠ 134 → M' i = M i
theorem K2.KB {M M' : am_I} (h : K2 M M') : KB M M' := fun i k a b => by rw [h i (by omega) (by omega)]
def FB (N : rN) (nd p x : Nat) : Prop := fitN N nd p (nI x)
def HB (N : rN) (nh p x : Nat) : Prop := hoN N nh (hkX N p (nI x)) (hkY N p)
def LB (N : rN) (p x : Nat) : Int32 := leN N p (nI x)
/-- the first k places are laid -/
def PL (N : rN) (nd nh k : Nat) (M : am_I) : Prop := ∀ j, j < k → M 133 j = bi (FB N nd (j / 40) (j % 40)) ∧ M 134 j = bi (FB N nd (j / 40) (j % 40) ∧ HB N nh (j / 40) (j % 40))
theorem PL_st {N : rN} {nd nh k : Nat} {M : am_I} {v : Int32} (h : PL N nd nh k M) (hv : v = bi (FB N nd (k / 40) (k % 40) ∧ HB N nh (k / 40) (k % 40))) : PL N nd nh (k + 1) (am_up (am_up M 133 k (bi (FB N nd (k / 40) (k % 40)))) 134 k v) := fun j hj => by
  by_cases hjk : j = k
  · subst hjk
    refine ⟨?_, ?_⟩
    · rw [am_up_ne (by decide), up_eq]
    · rw [up_eq, hv]
  · have h1 := h j (by omega)
    refine ⟨?_, ?_⟩
    · rw [am_up_ne (by decide), up_ne hjk, h1.1]
    · rw [up_ne hjk, am_up_ne (by decide), h1.2]
theorem PL.same {N : rN} {nd nh k : Nat} {M M' : am_I} (h : PL N nd nh k M) (h1 : M' 133 = M 133) (h2 : M' 134 = M 134) : PL N nd nh k M' := fun j hj => by rw [h1, h2]; exact h j hj
set_option maxRecDepth 20000 in
theorem c8_lays {M : am_I} {V : am_J} {f : Nat → Option Nat} {np nd nh : Nat} (hn : NC (M 122) np nd nh) : CT m8_laysPlaces 4 [Value.ref 121] M V f (fun v M' V' f' => v = none ∧ V' = V ∧ f' = f ∧ K2 M M' ∧ PL (M 122) nd nh (40 * np) M') := by
  have hnp := hn.2.1
  refine CT.of m8_laysPlaces_V.1 _ (en_a_2 121) ?_
  refine ac_iconst 1 0 dX8_laysPlaces_0 rfl (by decide) ?_
  refine ac_istore_n 2 [some (Value.ref 121), some (Value.int 0)] dX8_laysPlaces_1 rfl rfl (Nat.le_of_ble_eq_true rfl) (by decide) rfl ?_
  refine ac_down (n := (40 * np)) (P := fun k => ∀ (M1 : am_I), (K2 M M1 ∧ PL (M 122) nd nh (k) M1) → A0 m8_laysPlaces 4 2 [some (Value.ref 121), some (Value.int (nI k))] [] M1 V f (fun v M' V' f' => v = none ∧ V' = V ∧ f' = f ∧ K2 M M' ∧ PL (M 122) nd nh (40 * np) M')) ?_ ?_ 0 (Nat.zero_le _) M ⟨fun _ _ _ => rfl, fun j hj => absurd hj (Nat.not_lt_zero j)⟩
  · intro M1 hpr
    have e122 : M1 122 = M 122 := hpr.1 122 (by decide) (by decide)
    refine ac_iload_n 3 dX8_laysPlaces_2 rfl rfl ?_
    refine ac_bipush 5 40 dX8_laysPlaces_3 rfl (by decide) ?_
    refine ac_aload_n 6 dX8_laysPlaces_5 rfl rfl ?_
    refine ac_getO 9 122 dX8_laysPlaces_6 rfl fl8_7 ob121 rfl ?_
    refine ac_iconst 10 3 dX8_laysPlaces_9 rfl (by decide) ?_
    refine ac_iald 11 dX8_laysPlaces_10 rfl ar122 (ix_nI (k := 3) (by decide) (by decide)) ?_
    rw [show (M1 122 3) = (nI np) from (by rw [e122]; exact hn.1)]
    refine ac_imul 12 dX8_laysPlaces_11 rfl ?_
    rw [show (40 * (nI np)) = (nI (40 * np)) from (pk_mul 40 np)]
    refine ac_icmp_ge 74 15 dX8_laysPlaces_12 (by decide) rfl (fun _ => ?_) (fun c_12 => absurd (Int32.le_refl _) c_12)
    refine ac_vret dX8_laysPlaces_74 rfl ?_
    exact ⟨rfl, rfl, rfl, hpr.1, hpr.2⟩
  · intro k hk ih M1 hpr
    have e122 : M1 122 = M 122 := hpr.1 122 (by decide) (by decide)
    have hn1 : NC (M1 122) np nd nh := by rw [e122]; exact hn
    refine ac_iload_n 3 dX8_laysPlaces_2 rfl rfl ?_
    refine ac_bipush 5 40 dX8_laysPlaces_3 rfl (by decide) ?_
    refine ac_aload_n 6 dX8_laysPlaces_5 rfl rfl ?_
    refine ac_getO 9 122 dX8_laysPlaces_6 rfl fl8_7 ob121 rfl ?_
    refine ac_iconst 10 3 dX8_laysPlaces_9 rfl (by decide) ?_
    refine ac_iald 11 dX8_laysPlaces_10 rfl ar122 (ix_nI (k := 3) (by decide) (by decide)) ?_
    rw [show (M1 122 3) = (nI np) from (by rw [e122]; exact hn.1)]
    refine ac_imul 12 dX8_laysPlaces_11 rfl ?_
    rw [show (40 * (nI np)) = (nI (40 * np)) from (pk_mul 40 np)]
    refine ac_icmp_ge 74 15 dX8_laysPlaces_12 (by decide) rfl (fun c_12 => absurd c_12 (nI_ge hk (by omega))) (fun _ => ?_)
    refine ac_aload_n 16 dX8_laysPlaces_15 rfl rfl ?_
    refine ac_getO 19 133 dX8_laysPlaces_16 rfl fl8_44 ob121 rfl ?_
    refine ac_iload_n 20 dX8_laysPlaces_19 rfl rfl ?_
    refine ac_aload_n 21 dX8_laysPlaces_20 rfl rfl ?_
    refine ac_iload_n 22 dX8_laysPlaces_21 rfl rfl ?_
    refine ac_bipush 24 40 dX8_laysPlaces_22 rfl (by decide) ?_
    refine ac_idiv 25 dX8_laysPlaces_24 rfl (by decide) ?_
    rw [show ((nI k) / 40) = (nI (k / 40)) from (pk_div (d := 40) (by omega) (by decide) (by decide))]
    refine ac_iload_n 26 dX8_laysPlaces_25 rfl rfl ?_
    refine ac_bipush 28 40 dX8_laysPlaces_26 rfl (by decide) ?_
    refine ac_irem 29 dX8_laysPlaces_28 rfl (by decide) ?_
    rw [show ((nI k) - (nI k) / 40 * 40) = (nI (k % 40)) from (pk_rem (d := 40) (by omega) (by decide) (by decide))]
    refine ac_callV (μ' := m8_doesFit) 32 dX8_laysPlaces_29 rfl lk8_139 m8_doesFit_V ob121 (c8_doesFit (M := M1) hn1 (by omega) _) rfl rfl (by decide) (Nat.le_of_ble_eq_true rfl) ?_
    rw [show (bi (fitN (M1 122) nd (k / 40) (nI (k % 40)))) = (bi (FB (M 122) nd (k / 40) (k % 40))) from (by rw [e122]; rfl)]
    refine ac_zast 33 dX8_laysPlaces_32 rfl ar133 (ix_nI (by omega) (by decide)) nar_bi ?_
    refine ac_aload_n 34 dX8_laysPlaces_33 rfl rfl ?_
    refine ac_getO 37 134 dX8_laysPlaces_34 rfl fl8_47 ob121 rfl ?_
    refine ac_iload_n 38 dX8_laysPlaces_37 rfl rfl ?_
    refine ac_aload_n 39 dX8_laysPlaces_38 rfl rfl ?_
    refine ac_getO 42 133 dX8_laysPlaces_39 rfl fl8_44 ob121 rfl ?_
    refine ac_iload_n 43 dX8_laysPlaces_42 rfl rfl ?_
    refine ac_zald 44 dX8_laysPlaces_43 rfl ar133 (ix_nI (by omega) (by decide)) ?_
    rw [show ((am_up M1 133 k (bi (FB (M 122) nd (k / 40) (k % 40)))) 133 k) = (bi (FB (M 122) nd (k / 40) (k % 40))) from up_eq]
    refine ac_if_eq 66 47 dX8_laysPlaces_44 (by decide) rfl (fun c_44 => ?_) (fun c_44 => ?_)
    · refine ac_iconst 67 0 dX8_laysPlaces_66 rfl (by decide) ?_
      refine ac_zast 68 dX8_laysPlaces_67 rfl ar134 (ix_nI (by omega) (by decide)) rfl ?_
      refine ac_iinc 71 (nI (k + 1)) [some (Value.ref 121), some (Value.int (nI (k + 1)))] dX8_laysPlaces_68 rfl rfl (nI_1 _) rfl (by decide) rfl ?_
      refine ac_goto 2 dX8_laysPlaces_71 (by decide) ?_
      exact ih _ ⟨fun i x1 x2 => by rw [am_up_ne x2, am_up_ne x1]; exact hpr.1 i x1 x2, PL_st hpr.2 (by first | exact (bi_f (fun h => bi_eq0.mp c_44 h.1)).symm | exact (bi_f (fun h => bi_eq0.mp c_59 h.2)).symm | exact (bi_t ⟨bi_ne0.mp c_44, bi_ne0.mp c_59⟩).symm)⟩
    · refine ac_aload_n 48 dX8_laysPlaces_47 rfl rfl ?_
      refine ac_iload_n 49 dX8_laysPlaces_48 rfl rfl ?_
      refine ac_bipush 51 40 dX8_laysPlaces_49 rfl (by decide) ?_
      refine ac_idiv 52 dX8_laysPlaces_51 rfl (by decide) ?_
      rw [show ((nI k) / 40) = (nI (k / 40)) from (pk_div (d := 40) (by omega) (by decide) (by decide))]
      refine ac_iload_n 53 dX8_laysPlaces_52 rfl rfl ?_
      refine ac_bipush 55 40 dX8_laysPlaces_53 rfl (by decide) ?_
      refine ac_irem 56 dX8_laysPlaces_55 rfl (by decide) ?_
      rw [show ((nI k) - (nI k) / 40 * 40) = (nI (k % 40)) from (pk_rem (d := 40) (by omega) (by decide) (by decide))]
      refine ac_callV (μ' := m8_hasHole) 59 dX8_laysPlaces_56 rfl lk8_145 m8_hasHole_V ob121 (c8_hasHole (M := (am_up M1 133 k (bi (FB (M 122) nd (k / 40) (k % 40))))) (np := np) (nd := nd) (nh := nh) hn1 (by omega) _) rfl rfl (by decide) (Nat.le_of_ble_eq_true rfl) ?_
      rw [show (bi (hoN ((am_up M1 133 k (bi (FB (M 122) nd (k / 40) (k % 40)))) 122) nh (hkX ((am_up M1 133 k (bi (FB (M 122) nd (k / 40) (k % 40)))) 122) (k / 40) (nI (k % 40))) (hkY ((am_up M1 133 k (bi (FB (M 122) nd (k / 40) (k % 40)))) 122) (k / 40)))) = (bi (HB (M 122) nh (k / 40) (k % 40))) from (by rw [show (am_up M1 133 k (bi (FB (M 122) nd (k / 40) (k % 40)))) 122 = M 122 from e122]; rfl)]
      refine ac_if_eq 66 62 dX8_laysPlaces_59 (by decide) rfl (fun c_59 => ?_) (fun c_59 => ?_)
      · refine ac_iconst 67 0 dX8_laysPlaces_66 rfl (by decide) ?_
        refine ac_zast 68 dX8_laysPlaces_67 rfl ar134 (ix_nI (by omega) (by decide)) rfl ?_
        refine ac_iinc 71 (nI (k + 1)) [some (Value.ref 121), some (Value.int (nI (k + 1)))] dX8_laysPlaces_68 rfl rfl (nI_1 _) rfl (by decide) rfl ?_
        refine ac_goto 2 dX8_laysPlaces_71 (by decide) ?_
        exact ih _ ⟨fun i x1 x2 => by rw [am_up_ne x2, am_up_ne x1]; exact hpr.1 i x1 x2, PL_st hpr.2 (by first | exact (bi_f (fun h => bi_eq0.mp c_44 h.1)).symm | exact (bi_f (fun h => bi_eq0.mp c_59 h.2)).symm | exact (bi_t ⟨bi_ne0.mp c_44, bi_ne0.mp c_59⟩).symm)⟩
      · refine ac_iconst 63 1 dX8_laysPlaces_62 rfl (by decide) ?_
        refine ac_goto 67 dX8_laysPlaces_63 (by decide) ?_
        refine ac_zast 68 dX8_laysPlaces_67 rfl ar134 (ix_nI (by omega) (by decide)) rfl ?_
        refine ac_iinc 71 (nI (k + 1)) [some (Value.ref 121), some (Value.int (nI (k + 1)))] dX8_laysPlaces_68 rfl rfl (nI_1 _) rfl (by decide) rfl ?_
        refine ac_goto 2 dX8_laysPlaces_71 (by decide) ?_
        exact ih _ ⟨fun i x1 x2 => by rw [am_up_ne x2, am_up_ne x1]; exact hpr.1 i x1 x2, PL_st hpr.2 (by first | exact (bi_f (fun h => bi_eq0.mp c_44 h.1)).symm | exact (bi_f (fun h => bi_eq0.mp c_59 h.2)).symm | exact (bi_t ⟨bi_ne0.mp c_44, bi_ne0.mp c_59⟩).symm)⟩
/-- the set of an order's last q -/
def muB (np c : Nat) : Nat → Nat
  | 0 => 0
  | q + 1 => muB np c q ||| 2 ^ (c / np ^ q % np)
theorem or_ok : ∀ u, u < 32 → ∀ p, p < 5 → (nI u ||| nI (2 ^ p)) = nI (u ||| 2 ^ p) := by decide +kernel
theorem muB_lt {np c : Nat} (h0 : 0 < np) : ∀ q, muB np c q < 2 ^ np
  | 0 => Nat.two_pow_pos np
  | q + 1 => Nat.or_lt_two_pow (muB_lt h0 q) (Nat.pow_lt_pow_right (by decide) (Nat.mod_lt _ h0))
theorem muB_bit {np c p : Nat} : ∀ q, (muB np c q).testBit p = true ↔ ∃ i, i < q ∧ c / np ^ i % np = p
  | 0 => by
    show (0 : Nat).testBit p = true ↔ _
    rw [Nat.zero_testBit]
    exact ⟨fun h => (by cases h), fun ⟨i, hi, _⟩ => absurd hi (Nat.not_lt_zero i)⟩
  | q + 1 => by
    show (muB np c q ||| 2 ^ (c / np ^ q % np)).testBit p = true ↔ _
    rw [Nat.testBit_or, Bool.or_eq_true, muB_bit q, Nat.testBit_two_pow]
    constructor
    · rintro (⟨i, hi, e⟩ | h)
      · exact ⟨i, by omega, e⟩
      · exact ⟨q, by omega, by simpa using h⟩
    · rintro ⟨i, hi, e⟩
      by_cases h : i = q
      · subst h; right; simpa using e
      · exact Or.inl ⟨i, by omega, e⟩
theorem full_ok : ∀ np, np ≤ 5 → ∀ u, u < 2 ^ np → ((∀ p, p < np → u.testBit p = true) ↔ u = 2 ^ np - 1) := by
  intro np h
  exact (by decide +kernel : ∀ np, np < 6 → ∀ u, u < 2 ^ np → ((∀ p, p < np → u.testBit p = true) ↔ u = 2 ^ np - 1)) np (by omega)
theorem muB_full {np c : Nat} (h0 : 0 < np) (h5 : np ≤ 5) : muB np c np = 2 ^ np - 1 ↔ njB (dgB np np c) np := by
  rw [← full_ok np h5 _ (muB_lt h0 np)]
  have hl : ∀ k, k < np → dgB np np c k < np := fun k _ => dg_lt h0
  constructor
  · intro h
    refine sur_nj hl (fun p hp => ?_)
    obtain ⟨i, hi, e⟩ := (muB_bit np).mp (h p hp)
    refine ⟨np - 1 - i, by omega, ?_⟩
    unfold dgB
    rw [show np - 1 - (np - 1 - i) = i by omega]
    exact e
  · intro h p hp
    obtain ⟨k, hk, e⟩ := nj_sur hl h p hp
    exact (muB_bit np).mpr ⟨np - 1 - k, by omega, e⟩
def K1 (r : Nat) (M M' : am_I) : Prop := ∀ i, i ≠ r → M' i = M i
set_option maxRecDepth 20000 in
theorem c8_isOrder {M : am_I} {V : am_J} {f : Nat → Option Nat} {np nd nh c : Nat} (hn : NC (M 122) np nd nh) (h0 : 0 < np) (hc : c < 2 ^ 30) : CT m8_isOrder 1 [Value.ref 121, Value.int (nI c)] M V f (fun v M' V' f' => v = some (.int (bi (njB (dgB np np c) np))) ∧ V' = V ∧ f' = f ∧ K1 130 M M' ∧ ∀ k, k < np → M' 130 k = nI (dgB np np c k)) := by
  have hnp := hn.2.1
  have h32 := pow_le np hnp
  have h2p : 0 < 2 ^ np := Nat.two_pow_pos np
  refine CT.of m8_isOrder_V.1 _ (en_ai_5 121 (nI c)) ?_
  refine ac_iload_n 1 dX8_isOrder_0 rfl rfl ?_
  refine ac_istore_n 2 [some (Value.ref 121), some (Value.int (nI c)), some (Value.int (nI c)), none, none] dX8_isOrder_1 rfl rfl (Nat.le_of_ble_eq_true rfl) (by decide) rfl ?_
  refine ac_iconst 3 0 dX8_isOrder_2 rfl (by decide) ?_
  refine ac_istore_n 4 [some (Value.ref 121), some (Value.int (nI c)), some (Value.int (nI c)), some (Value.int 0), none] dX8_isOrder_3 rfl rfl (Nat.le_of_ble_eq_true rfl) (by decide) rfl ?_
  refine ac_aload_n 5 dX8_isOrder_4 rfl rfl ?_
  refine ac_getO 8 122 dX8_isOrder_5 rfl fl8_7 ob121 rfl ?_
  refine ac_iconst 9 3 dX8_isOrder_8 rfl (by decide) ?_
  refine ac_iald 10 dX8_isOrder_9 rfl ar122 (ix_nI (k := 3) (by decide) (by decide)) ?_
  rw [show (M 122 3) = (nI np) from hn.1]
  refine ac_iconst 11 1 dX8_isOrder_10 rfl (by decide) ?_
  refine ac_isub 12 dX8_isOrder_11 rfl ?_
  have hL : A0 m8_isOrder 1 14 [some (Value.ref 121), some (Value.int (nI c)), some (Value.int (nI (c / np ^ 0))), some (Value.int (nI (muB np c 0))), some (Value.int (nI (np - 0) - 1))] [] M V f (fun v M' V' f' => v = some (.int (bi (njB (dgB np np c) np))) ∧ V' = V ∧ f' = f ∧ K1 130 M M' ∧ ∀ k, k < np → M' 130 k = nI (dgB np np c k)) := by
    refine ac_down (n := np) (P := fun q => ∀ (M1 : am_I), (K1 130 M M1 ∧ ∀ i, i < q → M1 130 (np - 1 - i) = nI (c / np ^ i % np)) → A0 m8_isOrder 1 14 [some (Value.ref 121), some (Value.int (nI c)), some (Value.int (nI (c / np ^ q))), some (Value.int (nI (muB np c q))), some (Value.int (nI (np - q) - 1))] [] M1 V f (fun v M' V' f' => v = some (.int (bi (njB (dgB np np c) np))) ∧ V' = V ∧ f' = f ∧ K1 130 M M' ∧ ∀ k, k < np → M' 130 k = nI (dgB np np c k))) ?_ ?_ 0 (Nat.zero_le _) M ⟨fun _ _ => rfl, fun i hi => absurd hi (Nat.not_lt_zero i)⟩
    · intro M1 hpr
      rw [dn_0]
      have e122 : M1 122 = M 122 := hpr.1 122 (by decide)
      have hmu := muB_lt (c := c) h0 np
      refine ac_iload 16 dX8_isOrder_14 rfl rfl ?_
      refine ac_if_lt 61 19 dX8_isOrder_16 (by decide) rfl (fun _ => ?_) (fun c_16 => absurd (by decide) c_16)
      refine ac_iload_n 62 dX8_isOrder_61 rfl rfl ?_
      refine ac_iconst 63 1 dX8_isOrder_62 rfl (by decide) ?_
      refine ac_aload_n 64 dX8_isOrder_63 rfl rfl ?_
      refine ac_getO 67 122 dX8_isOrder_64 rfl fl8_7 ob121 rfl ?_
      refine ac_iconst 68 3 dX8_isOrder_67 rfl (by decide) ?_
      refine ac_iald 69 dX8_isOrder_68 rfl ar122 (ix_nI (k := 3) (by decide) (by decide)) ?_
      rw [show (M1 122 3) = (nI np) from (by rw [e122]; exact hn.1)]
      refine ac_ishl 70 dX8_isOrder_69 rfl ?_
      rw [show (1 <<< ((nI np) &&& 31)) = (nI (2 ^ np)) from (shl_ok np hnp)]
      refine ac_iconst 71 1 dX8_isOrder_70 rfl (by decide) ?_
      refine ac_isub 72 dX8_isOrder_71 rfl ?_
      rw [show ((nI (2 ^ np)) - 1) = (nI (2 ^ np - 1)) from (nI_sub1 h2p)]
      refine ac_icmp_ne 79 75 dX8_isOrder_72 (by decide) rfl (fun c_72 => ?_) (fun c_72 => ?_)
      · refine ac_iconst 80 0 dX8_isOrder_79 rfl (by decide) ?_
        refine ac_iret dX8_isOrder_80 ⟨_, rfl, rfl⟩ ?_
        refine ⟨?_, rfl, rfl, hpr.1, fun k hk => ?_⟩
        · rw [bi_f (fun h => c_72 (by rw [(muB_full h0 hnp).mpr h]))]
        · have h9 := hpr.2 (np - 1 - k) (by omega)
          rw [show np - 1 - (np - 1 - k) = k by omega] at h9
          exact h9
      · refine ac_iconst 76 1 dX8_isOrder_75 rfl (by decide) ?_
        refine ac_goto 80 dX8_isOrder_76 (by decide) ?_
        refine ac_iret dX8_isOrder_80 ⟨_, rfl, rfl⟩ ?_
        refine ⟨?_, rfl, rfl, hpr.1, fun k hk => ?_⟩
        · rw [bi_t ((muB_full h0 hnp).mp ((nI_eq (by omega) (by omega)).mp c_72))]
        · have h9 := hpr.2 (np - 1 - k) (by omega)
          rw [show np - 1 - (np - 1 - k) = k by omega] at h9
          exact h9
    · intro q hq ih M1 hpr
      rw [dn_eq hq]
      have e122 : M1 122 = M 122 := hpr.1 122 (by decide)
      have hcq : c / np ^ q < 2 ^ 31 := Nat.lt_of_le_of_lt (Nat.div_le_self _ _) (by omega)
      have hdg : c / np ^ q % np < np := Nat.mod_lt _ h0
      have hmu := muB_lt (c := c) h0 q
      refine ac_iload 16 dX8_isOrder_14 rfl rfl ?_
      refine ac_if_lt 61 19 dX8_isOrder_16 (by decide) rfl (fun c_16 => absurd c_16 (nI_pos (by omega))) (fun _ => ?_)
      refine ac_aload_n 20 dX8_isOrder_19 rfl rfl ?_
      refine ac_getO 23 130 dX8_isOrder_20 rfl fl8_35 ob121 rfl ?_
      refine ac_iload 25 dX8_isOrder_23 rfl rfl ?_
      refine ac_iload_n 26 dX8_isOrder_25 rfl rfl ?_
      refine ac_aload_n 27 dX8_isOrder_26 rfl rfl ?_
      refine ac_getO 30 122 dX8_isOrder_27 rfl fl8_7 ob121 rfl ?_
      refine ac_iconst 31 3 dX8_isOrder_30 rfl (by decide) ?_
      refine ac_iald 32 dX8_isOrder_31 rfl ar122 (ix_nI (k := 3) (by decide) (by decide)) ?_
      rw [show (M1 122 3) = (nI np) from (by rw [e122]; exact hn.1)]
      refine ac_irem 33 dX8_isOrder_32 rfl (nI_ne0 (by omega) (by omega)) ?_
      rw [show ((nI (c / np ^ q)) - (nI (c / np ^ q)) / (nI np) * (nI np)) = (nI (c / np ^ q % np)) from (pk_rem hcq (by omega) (by omega))]
      refine ac_iast 34 dX8_isOrder_33 rfl ar130 (ix_nI (by omega) (by decide)) ?_
      refine ac_iload_n 35 dX8_isOrder_34 rfl rfl ?_
      refine ac_aload_n 36 dX8_isOrder_35 rfl rfl ?_
      refine ac_getO 39 122 dX8_isOrder_36 rfl fl8_7 ob121 rfl ?_
      refine ac_iconst 40 3 dX8_isOrder_39 rfl (by decide) ?_
      refine ac_iald 41 dX8_isOrder_40 rfl ar122 (ix_nI (k := 3) (by decide) (by decide)) ?_
      rw [show ((am_up M1 130 (np - 1 - q) (nI (c / np ^ q % np))) 122 3) = (M1 122 3) from rfl]
      rw [show (M1 122 3) = (nI np) from (by rw [e122]; exact hn.1)]
      refine ac_idiv 42 dX8_isOrder_41 rfl (nI_ne0 (by omega) (by omega)) ?_
      rw [show ((nI (c / np ^ q)) / (nI np)) = (nI (c / np ^ (q + 1))) from (by rw [pk_div hcq (by omega) (by omega), Nat.div_div_eq_div_mul, ← Nat.pow_succ])]
      refine ac_istore_n 43 [some (Value.ref 121), some (Value.int (nI c)), some (Value.int (nI (c / np ^ (q + 1)))), some (Value.int (nI (muB np c q))), some (Value.int (nI (np - 1 - q)))] dX8_isOrder_42 rfl rfl (Nat.le_of_ble_eq_true rfl) (by decide) rfl ?_
      refine ac_iload_n 44 dX8_isOrder_43 rfl rfl ?_
      refine ac_iconst 45 1 dX8_isOrder_44 rfl (by decide) ?_
      refine ac_aload_n 46 dX8_isOrder_45 rfl rfl ?_
      refine ac_getO 49 130 dX8_isOrder_46 rfl fl8_35 ob121 rfl ?_
      refine ac_iload 51 dX8_isOrder_49 rfl rfl ?_
      refine ac_iald 52 dX8_isOrder_51 rfl ar130 (ix_nI (by omega) (by decide)) ?_
      rw [show ((am_up M1 130 (np - 1 - q) (nI (c / np ^ q % np))) 130 (np - 1 - q)) = (nI (c / np ^ q % np)) from up_eq]
      refine ac_ishl 53 dX8_isOrder_52 rfl ?_
      rw [show (1 <<< ((nI (c / np ^ q % np)) &&& 31)) = (nI (2 ^ (c / np ^ q % np))) from (shl_ok _ (by omega))]
      refine ac_ior 54 dX8_isOrder_53 rfl ?_
      rw [show ((nI (muB np c q)) ||| (nI (2 ^ (c / np ^ q % np)))) = (nI (muB np c (q + 1))) from (or_ok _ (by omega) _ (by omega))]
      refine ac_istore_n 55 [some (Value.ref 121), some (Value.int (nI c)), some (Value.int (nI (c / np ^ (q + 1)))), some (Value.int (nI (muB np c (q + 1)))), some (Value.int (nI (np - 1 - q)))] dX8_isOrder_54 rfl rfl (Nat.le_of_ble_eq_true rfl) (by decide) rfl ?_
      refine ac_iinc 58 (nI (np - (q + 1)) - 1) [some (Value.ref 121), some (Value.int (nI c)), some (Value.int (nI (c / np ^ (q + 1)))), some (Value.int (nI (muB np c (q + 1)))), some (Value.int (nI (np - (q + 1)) - 1))] dX8_isOrder_55 rfl rfl (dn_nx hq) rfl (by decide) rfl ?_
      refine ac_goto 14 dX8_isOrder_58 (by decide) ?_
      exact ih _ ⟨fun i hi => (am_up_ne hi).trans (hpr.1 i hi), fun i hi => by
        by_cases hiq : i = q
        · subst hiq; exact up_eq
        · rw [up_ne (by omega)]; exact hpr.2 i (by omega)⟩
  refine ac_istore 14 [some (Value.ref 121), some (Value.int (nI c)), some (Value.int (nI c)), some (Value.int 0), some (Value.int ((nI np) - 1))] dX8_isOrder_12 rfl rfl (Nat.le_of_ble_eq_true rfl) (by decide) rfl ?_
  rw [Nat.pow_zero, Nat.div_one] at hL
  exact hL
/-- what is found so far, in the reference's cells -/
def RBm (wd : Nat → Nat) (H : Nat → Nat → Prop) (L : Nat → Nat → Int32) (np : Nat) (M : am_I) (r : Option cd) : Prop := (r = none → M 121 17 = 0) ∧ ∀ y, r = some y → M 121 17 = 1 ∧ M 132 0 = nI (bB wd H np y) ∧ M 132 1 = oB wd L np y ∧ M 132 2 = nI y.1 ∧ M 132 3 = nI y.2.1 ∧ ∀ k, k < np → M 131 k = nI (dgB np np y.2.2 k)
theorem RBm_n {wd : Nat → Nat} {H : Nat → Nat → Prop} {L : Nat → Nat → Int32} {np : Nat} {M : am_I} {r : Option cd} (h : RBm wd H L np M r) (h0 : M 121 17 = 0) : r = none := by
  cases r with
  | none => rfl
  | some y => exact absurd ((h.2 y rfl).1.symm.trans h0) (by decide)
theorem RBm_s {wd : Nat → Nat} {H : Nat → Nat → Prop} {L : Nat → Nat → Int32} {np : Nat} {M : am_I} {r : Option cd} (h : RBm wd H L np M r) (h0 : ¬ M 121 17 = 0) : ∃ y, r = some y ∧ M 132 0 = nI (bB wd H np y) ∧ M 132 1 = oB wd L np y ∧ M 132 2 = nI y.1 ∧ M 132 3 = nI y.2.1 ∧ ∀ k, k < np → M 131 k = nI (dgB np np y.2.2 k) := by
  cases r with
  | none => exact absurd (h.1 rfl) h0
  | some y => exact ⟨y, rfl, (h.2 y rfl).2⟩
theorem RBm.same {wd : Nat → Nat} {H : Nat → Nat → Prop} {L : Nat → Nat → Int32} {np : Nat} {M M' : am_I} {r : Option cd} (h : RBm wd H L np M r) (h1 : M' 121 17 = M 121 17) (h2 : M' 132 = M 132) (h3 : M' 131 = M 131) : RBm wd H L np M' r := by
  unfold RBm
  rw [h1, h2, h3]
  exact h
def K3 (M M' : am_I) : Prop := (∀ i, i ≠ 121 → i ≠ 131 → i ≠ 132 → M' i = M i) ∧ ∀ k, k ≠ 17 → M' 121 k = M 121 k
theorem K3.refl (M : am_I) : K3 M M := ⟨fun _ _ _ _ => rfl, fun _ _ => rfl⟩
theorem K3.KB {M M' : am_I} (h : K3 M M') : KB M M' := fun i k a b => by
  by_cases h1 : i = 121
  · subst h1; exact h.2 k (by omega)
  · rw [h.1 i h1 (by omega) (by omega)]
theorem PL_at {N : rN} {nd nh np p x : Nat} {M : am_I} (h : PL N nd nh (40 * np) M) (hp : p < np) (hx : x < 40) : M 133 (40 * p + x) = bi (FB N nd p x) ∧ M 134 (40 * p + x) = bi (FB N nd p x ∧ HB N nh p x) := by
  have h1 := h (40 * p + x) (by omega)
  rw [show (40 * p + x) / 40 = p by omega, show (40 * p + x) % 40 = x by omega] at h1
  exact h1
theorem off_ofI (m : Int32) : (if m < 0 then -m else m) = ofI m := by
  unfold ofI
  by_cases h : m < 0
  · rw [if_pos h, if_neg (Int32.not_le.mpr h), Int32.zero_sub]
  · rw [if_neg h, if_pos (Int32.not_lt.mp h)]
theorem xkB_lt {wd : Nat → Nat} {F : Nat → Nat → Prop} {o : Nat → Nat} {g x np k : Nat} (hx : x < 40) (hg : g ≤ 20) (hw : ∀ p, p < np → wd p ≤ 9) (ho : ∀ k, o k < np) (h : okB wd F o g x k) : xkB wd o g x k < 70 := by
  cases k with
  | zero => show x < 70; omega
  | succ k =>
    have h1 := (h k (by omega)).1
    have h2 := hw (o k) (ho k)
    show xkB wd o g x k + wd (o k) + g < 70
    omega
set_option maxRecDepth 20000 in
theorem c8_tries {M : am_I} {V : am_J} {f : Nat → Option Nat} {np nd nh gp g x c : Nat} {wd : Nat → Nat} (hn : NC (M 122) np nd nh) (hwd : WD (M 122) np wd gp) (h0 : 0 < np) (hx : x < 40) (hg : gp ≤ g) (hg2 : g ≤ 20) (hc : c < np ^ np) (hnj : njB (dgB np np c) np) (hpl : PL (M 122) nd nh (40 * np) M) (ho : ∀ k, k < np → M 130 k = nI (dgB np np c k)) {r : Option cd} {S S' : cd → Prop} (hR : RBm wd (HB (M 122) nh) (LB (M 122)) np M r) (hI : IsB (VLB wd (FB (M 122) nd) np gp) (bB wd (HB (M 122) nh) np) (oB wd (LB (M 122)) np) S r) (hSS : ∀ y, S y → S' y) (ht : S' (g, x, c)) (hS2 : ∀ y, S' y → S y ∨ y = (g, x, c)) (hlt : ∀ y, S y → (VLB wd (FB (M 122) nd) np gp) y → y.2.2 < c ∨ y.2.2 = c ∧ (y.1 < g ∨ y.1 = g ∧ y.2.1 < x)) : CT m8_tries 4 [Value.ref 121, Value.int (nI g), Value.int (nI x)] M V f (fun v M' V' f' => v = none ∧ V' = V ∧ f' = f ∧ K3 M M' ∧ ∃ r', RBm wd (HB (M 122) nh) (LB (M 122)) np M' r' ∧ IsB (VLB wd (FB (M 122) nd) np gp) (bB wd (HB (M 122) nh) np) (oB wd (LB (M 122)) np) S' r') := by
  have hnp := hn.2.1
  refine CT.of m8_tries_V.1 _ (en_aii_9 121 (nI g) (nI x)) ?_
  refine ac_iload_n 1 dX8_tries_0 rfl rfl ?_
  refine ac_istore_n 2 [some (Value.ref 121), some (Value.int (nI g)), some (Value.int (nI x)), some (Value.int (nI x)), none, none, none, none, none] dX8_tries_1 rfl rfl (Nat.le_of_ble_eq_true rfl) (by decide) rfl ?_
  refine ac_iconst 3 0 dX8_tries_2 rfl (by decide) ?_
  refine ac_istore 5 [some (Value.ref 121), some (Value.int (nI g)), some (Value.int (nI x)), some (Value.int (nI x)), some (Value.int 0), none, none, none, none] dX8_tries_3 rfl rfl (Nat.le_of_ble_eq_true rfl) (by decide) rfl ?_
  refine ac_iconst 6 0 dX8_tries_5 rfl (by decide) ?_
  refine ac_istore 8 [some (Value.ref 121), some (Value.int (nI g)), some (Value.int (nI x)), some (Value.int (nI x)), some (Value.int 0), some (Value.int 0), none, none, none] dX8_tries_6 rfl rfl (Nat.le_of_ble_eq_true rfl) (by decide) rfl ?_
  refine ac_iconst 9 0 dX8_tries_8 rfl (by decide) ?_
  have hL : A0 m8_tries 4 11 [some (Value.ref 121), some (Value.int (nI g)), some (Value.int (nI x)), some (Value.int (nI (xkB wd (dgB np np c) g x 0))), some (Value.int (nI (bkB wd (HB (M 122) nh) (dgB np np c) g x 0))), some (Value.int (mkB wd (LB (M 122)) (dgB np np c) g x 0)), some (Value.int (nI 0)), none, none] [] M V f (fun v M' V' f' => v = none ∧ V' = V ∧ f' = f ∧ K3 M M' ∧ ∃ r', RBm wd (HB (M 122) nh) (LB (M 122)) np M' r' ∧ IsB (VLB wd (FB (M 122) nd) np gp) (bB wd (HB (M 122) nh) np) (oB wd (LB (M 122)) np) S' r') := by
    refine ac_down (n := np) (P := fun k => (okB wd (FB (M 122) nd) (dgB np np c) g x k) → A0 m8_tries 4 11 [some (Value.ref 121), some (Value.int (nI g)), some (Value.int (nI x)), some (Value.int (nI (xkB wd (dgB np np c) g x k))), some (Value.int (nI (bkB wd (HB (M 122) nh) (dgB np np c) g x k))), some (Value.int (mkB wd (LB (M 122)) (dgB np np c) g x k)), some (Value.int (nI k)), none, none] [] M V f (fun v M' V' f' => v = none ∧ V' = V ∧ f' = f ∧ K3 M M' ∧ ∃ r', RBm wd (HB (M 122) nh) (LB (M 122)) np M' r' ∧ IsB (VLB wd (FB (M 122) nd) np gp) (bB wd (HB (M 122) nh) np) (oB wd (LB (M 122)) np) S' r')) ?_ ?_ 0 (Nat.zero_le _) (fun j hj => absurd hj (Nat.not_lt_zero j))
    · intro hpr
      have hP : (VLB wd (FB (M 122) nd) np gp) (g, x, c) := ⟨hg, hg2, hc, ⟨hnj, h0⟩, hpr⟩
      have b5 : (bB wd (HB (M 122) nh) np) (g, x, c) ≤ np := bkB_le np
      refine ac_iload 13 dX8_tries_11 rfl rfl ?_
      refine ac_aload_n 14 dX8_tries_13 rfl rfl ?_
      refine ac_getO 17 122 dX8_tries_14 rfl fl8_7 ob121 rfl ?_
      refine ac_iconst 18 3 dX8_tries_17 rfl (by decide) ?_
      refine ac_iald 19 dX8_tries_18 rfl ar122 (ix_nI (k := 3) (by decide) (by decide)) ?_
      refine ac_icmp_ge 108 22 dX8_tries_19 (by decide) rfl (fun _ => ?_) (fun c_19 => absurd (by rw [hn.1]; exact Int32.le_refl _) c_19)
      refine ac_iload 110 dX8_tries_108 rfl rfl ?_
      refine ac_callS (μ' := m8_off) 113 dX8_tries_110 rfl lk8_161 m8_off_S (c8_off _) rfl rfl (by decide) (Nat.le_of_ble_eq_true rfl) ?_
      rw [show (if (mkB wd (LB (M 122)) (dgB np np c) g x np) < 0 then -(mkB wd (LB (M 122)) (dgB np np c) g x np) else (mkB wd (LB (M 122)) (dgB np np c) g x np)) = ((oB wd (LB (M 122)) np) (g, x, c)) from (off_ofI _)]
      refine ac_istore 115 [some (Value.ref 121), some (Value.int (nI g)), some (Value.int (nI x)), some (Value.int (nI (xkB wd (dgB np np c) g x np))), some (Value.int (nI (bkB wd (HB (M 122) nh) (dgB np np c) g x np))), some (Value.int (mkB wd (LB (M 122)) (dgB np np c) g x np)), some (Value.int ((oB wd (LB (M 122)) np) (g, x, c))), none, none] dX8_tries_113 rfl rfl (Nat.le_of_ble_eq_true rfl) (by decide) rfl ?_
      refine ac_aload_n 116 dX8_tries_115 rfl rfl ?_
      refine ac_getI 119 dX8_tries_116 rfl fl8_164 ob121 ?_
      refine ac_if_eq 133 122 dX8_tries_119 (by decide) rfl (fun c_119 => ?_) (fun c_119 => ?_)
      · have hr : r = none := RBm_n hR c_119
        subst hr
        have hb : ∀ r0, none = some r0 → btr (bB wd (HB (M 122) nh) np) (oB wd (LB (M 122)) np) (g, x, c) r0 := fun r0 h9 => by cases h9
        refine ac_iconst 134 1 dX8_tries_133 rfl (by decide) ?_
        refine ac_goto 138 dX8_tries_134 (by decide) ?_
        refine ac_istore 140 [some (Value.ref 121), some (Value.int (nI g)), some (Value.int (nI x)), some (Value.int (nI (xkB wd (dgB np np c) g x np))), some (Value.int (nI (bkB wd (HB (M 122) nh) (dgB np np c) g x np))), some (Value.int (mkB wd (LB (M 122)) (dgB np np c) g x np)), some (Value.int ((oB wd (LB (M 122)) np) (g, x, c))), some (Value.int 1), none] dX8_tries_138 rfl rfl (Nat.le_of_ble_eq_true rfl) (by decide) rfl ?_
        refine ac_iload 142 dX8_tries_140 rfl rfl ?_
        refine ac_if_ne 215 145 dX8_tries_142 (by decide) rfl (fun _ => ?_) (fun c_142 => absurd c_142 (by decide))
        refine ac_iload 217 dX8_tries_215 rfl rfl ?_
        refine ac_if_eq 289 220 dX8_tries_217 (by decide) rfl (fun c_217 => absurd c_217 (by decide)) (fun _ => ?_)
        refine ac_aload_n 221 dX8_tries_220 rfl rfl ?_
        refine ac_iconst 222 1 dX8_tries_221 rfl (by decide) ?_
        refine ac_putI 225 dX8_tries_222 rfl fl8_164 rfl rfl ob121 ?_
        refine ac_aload_n 226 dX8_tries_225 rfl rfl ?_
        refine ac_getO 229 132 dX8_tries_226 rfl fl8_41 ob121 rfl ?_
        refine ac_iconst 230 0 dX8_tries_229 rfl (by decide) ?_
        refine ac_iload 232 dX8_tries_230 rfl rfl ?_
        refine ac_iast 233 dX8_tries_232 rfl ar132 (ix_nI (k := 0) (by decide) (by decide)) ?_
        refine ac_aload_n 234 dX8_tries_233 rfl rfl ?_
        refine ac_getO 237 132 dX8_tries_234 rfl fl8_41 ob121 rfl ?_
        refine ac_iconst 238 1 dX8_tries_237 rfl (by decide) ?_
        refine ac_iload 240 dX8_tries_238 rfl rfl ?_
        refine ac_iast 241 dX8_tries_240 rfl ar132 (ix_nI (k := 1) (by decide) (by decide)) ?_
        refine ac_aload_n 242 dX8_tries_241 rfl rfl ?_
        refine ac_getO 245 132 dX8_tries_242 rfl fl8_41 ob121 rfl ?_
        refine ac_iconst 246 2 dX8_tries_245 rfl (by decide) ?_
        refine ac_iload_n 247 dX8_tries_246 rfl rfl ?_
        refine ac_iast 248 dX8_tries_247 rfl ar132 (ix_nI (k := 2) (by decide) (by decide)) ?_
        refine ac_aload_n 249 dX8_tries_248 rfl rfl ?_
        refine ac_getO 252 132 dX8_tries_249 rfl fl8_41 ob121 rfl ?_
        refine ac_iconst 253 3 dX8_tries_252 rfl (by decide) ?_
        refine ac_iload_n 254 dX8_tries_253 rfl rfl ?_
        refine ac_iast 255 dX8_tries_254 rfl ar132 (ix_nI (k := 3) (by decide) (by decide)) ?_
        refine ac_iconst 256 0 dX8_tries_255 rfl (by decide) ?_
        refine ac_istore 258 [some (Value.ref 121), some (Value.int (nI g)), some (Value.int (nI x)), some (Value.int (nI (xkB wd (dgB np np c) g x np))), some (Value.int (nI (bkB wd (HB (M 122) nh) (dgB np np c) g x np))), some (Value.int (mkB wd (LB (M 122)) (dgB np np c) g x np)), some (Value.int ((oB wd (LB (M 122)) np) (g, x, c))), some (Value.int 1), some (Value.int 0)] dX8_tries_256 rfl rfl (Nat.le_of_ble_eq_true rfl) (by decide) rfl ?_
        refine ac_down (n := np) (P := fun q => ∀ (M2 : am_I), ((∀ i, i ≠ 131 → M2 i = (am_up (am_up (am_up (am_up (am_up M 121 17 1) 132 0 (nI (bkB wd (HB (M 122) nh) (dgB np np c) g x np))) 132 1 ((oB wd (LB (M 122)) np) (g, x, c))) 132 2 (nI g)) 132 3 (nI x)) i) ∧ ∀ j, j < q → M2 131 j = nI (dgB np np c j)) → A0 m8_tries 4 258 [some (Value.ref 121), some (Value.int (nI g)), some (Value.int (nI x)), some (Value.int (nI (xkB wd (dgB np np c) g x np))), some (Value.int (nI (bkB wd (HB (M 122) nh) (dgB np np c) g x np))), some (Value.int (mkB wd (LB (M 122)) (dgB np np c) g x np)), some (Value.int ((oB wd (LB (M 122)) np) (g, x, c))), some (Value.int 1), some (Value.int (nI q))] [] M2 V f (fun v M' V' f' => v = none ∧ V' = V ∧ f' = f ∧ K3 M M' ∧ ∃ r', RBm wd (HB (M 122) nh) (LB (M 122)) np M' r' ∧ IsB (VLB wd (FB (M 122) nd) np gp) (bB wd (HB (M 122) nh) np) (oB wd (LB (M 122)) np) S' r')) ?_ ?_ 0 (Nat.zero_le _) (am_up (am_up (am_up (am_up (am_up M 121 17 1) 132 0 (nI (bkB wd (HB (M 122) nh) (dgB np np c) g x np))) 132 1 ((oB wd (LB (M 122)) np) (g, x, c))) 132 2 (nI g)) 132 3 (nI x)) ⟨fun _ _ => rfl, fun j hj => absurd hj (Nat.not_lt_zero j)⟩
        · intro M2 hpr
          have hpr2 := hpr
          have e122 : M2 122 = M 122 := hpr.1 122 (by decide)
          refine ac_iload 260 dX8_tries_258 rfl rfl ?_
          refine ac_aload_n 261 dX8_tries_260 rfl rfl ?_
          refine ac_getO 264 122 dX8_tries_261 rfl fl8_7 ob121 rfl ?_
          refine ac_iconst 265 3 dX8_tries_264 rfl (by decide) ?_
          refine ac_iald 266 dX8_tries_265 rfl ar122 (ix_nI (k := 3) (by decide) (by decide)) ?_
          refine ac_icmp_ge 289 269 dX8_tries_266 (by decide) rfl (fun _ => ?_) (fun c_266 => absurd (by rw [e122, hn.1]; exact Int32.le_refl _) c_266)
          refine ac_vret dX8_tries_289 rfl ?_
          exact ⟨rfl, rfl, rfl, ⟨fun i a1 a2 a3 => (hpr2.1 i a2).trans (by rw [am_up_ne a3, am_up_ne a3, am_up_ne a3, am_up_ne a3, am_up_ne a1]), fun k hk => by rw [hpr2.1 121 (by decide), am_up_ne (by decide), am_up_ne (by decide), am_up_ne (by decide), am_up_ne (by decide)]; exact up_ne hk⟩, some (g, x, c), ⟨fun h => by (cases h), fun y hy => by
            cases hy
            have q1 := hpr2.1 121 (by decide)
            have q2 := hpr2.1 132 (by decide)
            exact ⟨by rw [q1]; rfl, by rw [q2]; rfl, by rw [q2]; rfl, by rw [q2]; rfl, by rw [q2]; rfl, hpr2.2⟩⟩, IsB_take hI hP ht (fun y h1 _ => hS2 y h1) hb⟩
        · intro q hq ih M2 hpr
          have hpr2 := hpr
          have e122 : M2 122 = M 122 := hpr.1 122 (by decide)
          have e130 : M2 130 = M 130 := hpr.1 130 (by decide)
          refine ac_iload 260 dX8_tries_258 rfl rfl ?_
          refine ac_aload_n 261 dX8_tries_260 rfl rfl ?_
          refine ac_getO 264 122 dX8_tries_261 rfl fl8_7 ob121 rfl ?_
          refine ac_iconst 265 3 dX8_tries_264 rfl (by decide) ?_
          refine ac_iald 266 dX8_tries_265 rfl ar122 (ix_nI (k := 3) (by decide) (by decide)) ?_
          refine ac_icmp_ge 289 269 dX8_tries_266 (by decide) rfl (fun c_266 => absurd c_266 (by rw [e122, hn.1]; exact nI_ge hq (by omega))) (fun _ => ?_)
          refine ac_aload_n 270 dX8_tries_269 rfl rfl ?_
          refine ac_getO 273 131 dX8_tries_270 rfl fl8_38 ob121 rfl ?_
          refine ac_iload 275 dX8_tries_273 rfl rfl ?_
          refine ac_aload_n 276 dX8_tries_275 rfl rfl ?_
          refine ac_getO 279 130 dX8_tries_276 rfl fl8_35 ob121 rfl ?_
          refine ac_iload 281 dX8_tries_279 rfl rfl ?_
          refine ac_iald 282 dX8_tries_281 rfl ar130 (ix_nI (by omega) (by decide)) ?_
          rw [show (M2 130 q) = (nI (dgB np np c q)) from (by rw [e130]; exact ho q hq)]
          refine ac_iast 283 dX8_tries_282 rfl ar131 (ix_nI (by omega) (by decide)) ?_
          refine ac_iinc 286 (nI (q + 1)) [some (Value.ref 121), some (Value.int (nI g)), some (Value.int (nI x)), some (Value.int (nI (xkB wd (dgB np np c) g x np))), some (Value.int (nI (bkB wd (HB (M 122) nh) (dgB np np c) g x np))), some (Value.int (mkB wd (LB (M 122)) (dgB np np c) g x np)), some (Value.int ((oB wd (LB (M 122)) np) (g, x, c))), some (Value.int 1), some (Value.int (nI (q + 1)))] dX8_tries_283 rfl rfl (nI_1 _) rfl (by decide) rfl ?_
          refine ac_goto 258 dX8_tries_286 (by decide) ?_
          exact ih _ ⟨fun i hi => (am_up_ne hi).trans (hpr2.1 i hi), fun j hj => by
            by_cases hjq : j = q
            · subst hjq; exact up_eq
            · rw [up_ne hjq]; exact hpr2.2 j (by omega)⟩
      · obtain ⟨y0, hr, e0, e1, e2, e3, e4⟩ := RBm_s hR c_119
        subst hr
        have hP0 := hI.1
        have b1 := hP0.2.1
        have b2 : y0.2.1 < 40 := (hP0.2.2.2.2 0 h0).1
        have b3 := hP0.2.2.1
        have h3125 := npp np hnp
        have b4 : (bB wd (HB (M 122) nh) np) y0 ≤ np := bkB_le np
        have hl0 := hlt y0 hI.2.1 hP0
        refine ac_iload 124 dX8_tries_122 rfl rfl ?_
        refine ac_aload_n 125 dX8_tries_124 rfl rfl ?_
        refine ac_getO 128 132 dX8_tries_125 rfl fl8_41 ob121 rfl ?_
        refine ac_iconst 129 0 dX8_tries_128 rfl (by decide) ?_
        refine ac_iald 130 dX8_tries_129 rfl ar132 (ix_nI (k := 0) (by decide) (by decide)) ?_
        rw [show (M 132 0) = (nI ((bB wd (HB (M 122) nh) np) y0)) from e0]
        refine ac_icmp_ge 137 133 dX8_tries_130 (by decide) rfl (fun c_130 => ?_) (fun c_130 => ?_)
        · have d1 : (bB wd (HB (M 122) nh) np) y0 ≤ (bB wd (HB (M 122) nh) np) (g, x, c) := (nI_leI (by omega) (by omega)).mp c_130
          refine ac_iconst 138 0 dX8_tries_137 rfl (by decide) ?_
          refine ac_istore 140 [some (Value.ref 121), some (Value.int (nI g)), some (Value.int (nI x)), some (Value.int (nI (xkB wd (dgB np np c) g x np))), some (Value.int (nI (bkB wd (HB (M 122) nh) (dgB np np c) g x np))), some (Value.int (mkB wd (LB (M 122)) (dgB np np c) g x np)), some (Value.int ((oB wd (LB (M 122)) np) (g, x, c))), some (Value.int 0), none] dX8_tries_138 rfl rfl (Nat.le_of_ble_eq_true rfl) (by decide) rfl ?_
          refine ac_iload 142 dX8_tries_140 rfl rfl ?_
          refine ac_if_ne 215 145 dX8_tries_142 (by decide) rfl (fun c_142 => absurd (by decide) c_142) (fun _ => ?_)
          refine ac_iload 147 dX8_tries_145 rfl rfl ?_
          refine ac_aload_n 148 dX8_tries_147 rfl rfl ?_
          refine ac_getO 151 132 dX8_tries_148 rfl fl8_41 ob121 rfl ?_
          refine ac_iconst 152 0 dX8_tries_151 rfl (by decide) ?_
          refine ac_iald 153 dX8_tries_152 rfl ar132 (ix_nI (k := 0) (by decide) (by decide)) ?_
          rw [show (M 132 0) = (nI ((bB wd (HB (M 122) nh) np) y0)) from e0]
          refine ac_icmp_ne 215 156 dX8_tries_153 (by decide) rfl (fun c_153 => ?_) (fun c_153 => ?_)
          · have d2 : ¬ (bB wd (HB (M 122) nh) np) (g, x, c) = (bB wd (HB (M 122) nh) np) y0 := fun h => c_153 (congrArg nI h)
            refine ac_iload 217 dX8_tries_215 rfl rfl ?_
            refine ac_if_eq 289 220 dX8_tries_217 (by decide) rfl (fun _ => ?_) (fun c_217 => absurd (by decide) c_217)
            refine ac_vret dX8_tries_289 rfl ?_
            exact ⟨rfl, rfl, rfl, K3.refl _, some y0, hR, IsB_keep hI hSS (fun y h1 h2 h3 => by
              rcases hS2 y h1 with h | h
              · exact absurd h h2
              · subst h
                refine ⟨y0, rfl, ?_⟩
                unfold btr psC
                dsimp only
                omega)⟩
          · have d2 : (bB wd (HB (M 122) nh) np) (g, x, c) = (bB wd (HB (M 122) nh) np) y0 := (nI_eq (by omega) (by omega)).mp c_153
            refine ac_iload 158 dX8_tries_156 rfl rfl ?_
            refine ac_aload_n 159 dX8_tries_158 rfl rfl ?_
            refine ac_getO 162 132 dX8_tries_159 rfl fl8_41 ob121 rfl ?_
            refine ac_iconst 163 1 dX8_tries_162 rfl (by decide) ?_
            refine ac_iald 164 dX8_tries_163 rfl ar132 (ix_nI (k := 1) (by decide) (by decide)) ?_
            rw [show (M 132 1) = ((oB wd (LB (M 122)) np) y0) from e1]
            refine ac_icmp_lt 208 167 dX8_tries_164 (by decide) rfl (fun c_164 => ?_) (fun c_164 => ?_)
            · have d3 : ((oB wd (LB (M 122)) np) (g, x, c)).toInt < ((oB wd (LB (M 122)) np) y0).toInt := Int32.lt_iff_toInt_lt.mp c_164
              have hb : ∀ r0, some y0 = some r0 → btr (bB wd (HB (M 122) nh) np) (oB wd (LB (M 122)) np) (g, x, c) r0 := fun r0 h9 => by
                cases h9
                unfold btr psC
                dsimp only
                omega
              refine ac_iconst 209 1 dX8_tries_208 rfl (by decide) ?_
              refine ac_goto 213 dX8_tries_209 (by decide) ?_
              refine ac_istore 215 [some (Value.ref 121), some (Value.int (nI g)), some (Value.int (nI x)), some (Value.int (nI (xkB wd (dgB np np c) g x np))), some (Value.int (nI (bkB wd (HB (M 122) nh) (dgB np np c) g x np))), some (Value.int (mkB wd (LB (M 122)) (dgB np np c) g x np)), some (Value.int ((oB wd (LB (M 122)) np) (g, x, c))), some (Value.int 1), none] dX8_tries_213 rfl rfl (Nat.le_of_ble_eq_true rfl) (by decide) rfl ?_
              refine ac_iload 217 dX8_tries_215 rfl rfl ?_
              refine ac_if_eq 289 220 dX8_tries_217 (by decide) rfl (fun c_217 => absurd c_217 (by decide)) (fun _ => ?_)
              refine ac_aload_n 221 dX8_tries_220 rfl rfl ?_
              refine ac_iconst 222 1 dX8_tries_221 rfl (by decide) ?_
              refine ac_putI 225 dX8_tries_222 rfl fl8_164 rfl rfl ob121 ?_
              refine ac_aload_n 226 dX8_tries_225 rfl rfl ?_
              refine ac_getO 229 132 dX8_tries_226 rfl fl8_41 ob121 rfl ?_
              refine ac_iconst 230 0 dX8_tries_229 rfl (by decide) ?_
              refine ac_iload 232 dX8_tries_230 rfl rfl ?_
              refine ac_iast 233 dX8_tries_232 rfl ar132 (ix_nI (k := 0) (by decide) (by decide)) ?_
              refine ac_aload_n 234 dX8_tries_233 rfl rfl ?_
              refine ac_getO 237 132 dX8_tries_234 rfl fl8_41 ob121 rfl ?_
              refine ac_iconst 238 1 dX8_tries_237 rfl (by decide) ?_
              refine ac_iload 240 dX8_tries_238 rfl rfl ?_
              refine ac_iast 241 dX8_tries_240 rfl ar132 (ix_nI (k := 1) (by decide) (by decide)) ?_
              refine ac_aload_n 242 dX8_tries_241 rfl rfl ?_
              refine ac_getO 245 132 dX8_tries_242 rfl fl8_41 ob121 rfl ?_
              refine ac_iconst 246 2 dX8_tries_245 rfl (by decide) ?_
              refine ac_iload_n 247 dX8_tries_246 rfl rfl ?_
              refine ac_iast 248 dX8_tries_247 rfl ar132 (ix_nI (k := 2) (by decide) (by decide)) ?_
              refine ac_aload_n 249 dX8_tries_248 rfl rfl ?_
              refine ac_getO 252 132 dX8_tries_249 rfl fl8_41 ob121 rfl ?_
              refine ac_iconst 253 3 dX8_tries_252 rfl (by decide) ?_
              refine ac_iload_n 254 dX8_tries_253 rfl rfl ?_
              refine ac_iast 255 dX8_tries_254 rfl ar132 (ix_nI (k := 3) (by decide) (by decide)) ?_
              refine ac_iconst 256 0 dX8_tries_255 rfl (by decide) ?_
              refine ac_istore 258 [some (Value.ref 121), some (Value.int (nI g)), some (Value.int (nI x)), some (Value.int (nI (xkB wd (dgB np np c) g x np))), some (Value.int (nI (bkB wd (HB (M 122) nh) (dgB np np c) g x np))), some (Value.int (mkB wd (LB (M 122)) (dgB np np c) g x np)), some (Value.int ((oB wd (LB (M 122)) np) (g, x, c))), some (Value.int 1), some (Value.int 0)] dX8_tries_256 rfl rfl (Nat.le_of_ble_eq_true rfl) (by decide) rfl ?_
              refine ac_down (n := np) (P := fun q => ∀ (M2 : am_I), ((∀ i, i ≠ 131 → M2 i = (am_up (am_up (am_up (am_up (am_up M 121 17 1) 132 0 (nI (bkB wd (HB (M 122) nh) (dgB np np c) g x np))) 132 1 ((oB wd (LB (M 122)) np) (g, x, c))) 132 2 (nI g)) 132 3 (nI x)) i) ∧ ∀ j, j < q → M2 131 j = nI (dgB np np c j)) → A0 m8_tries 4 258 [some (Value.ref 121), some (Value.int (nI g)), some (Value.int (nI x)), some (Value.int (nI (xkB wd (dgB np np c) g x np))), some (Value.int (nI (bkB wd (HB (M 122) nh) (dgB np np c) g x np))), some (Value.int (mkB wd (LB (M 122)) (dgB np np c) g x np)), some (Value.int ((oB wd (LB (M 122)) np) (g, x, c))), some (Value.int 1), some (Value.int (nI q))] [] M2 V f (fun v M' V' f' => v = none ∧ V' = V ∧ f' = f ∧ K3 M M' ∧ ∃ r', RBm wd (HB (M 122) nh) (LB (M 122)) np M' r' ∧ IsB (VLB wd (FB (M 122) nd) np gp) (bB wd (HB (M 122) nh) np) (oB wd (LB (M 122)) np) S' r')) ?_ ?_ 0 (Nat.zero_le _) (am_up (am_up (am_up (am_up (am_up M 121 17 1) 132 0 (nI (bkB wd (HB (M 122) nh) (dgB np np c) g x np))) 132 1 ((oB wd (LB (M 122)) np) (g, x, c))) 132 2 (nI g)) 132 3 (nI x)) ⟨fun _ _ => rfl, fun j hj => absurd hj (Nat.not_lt_zero j)⟩
              · intro M2 hpr
                have hpr2 := hpr
                have e122 : M2 122 = M 122 := hpr.1 122 (by decide)
                refine ac_iload 260 dX8_tries_258 rfl rfl ?_
                refine ac_aload_n 261 dX8_tries_260 rfl rfl ?_
                refine ac_getO 264 122 dX8_tries_261 rfl fl8_7 ob121 rfl ?_
                refine ac_iconst 265 3 dX8_tries_264 rfl (by decide) ?_
                refine ac_iald 266 dX8_tries_265 rfl ar122 (ix_nI (k := 3) (by decide) (by decide)) ?_
                refine ac_icmp_ge 289 269 dX8_tries_266 (by decide) rfl (fun _ => ?_) (fun c_266 => absurd (by rw [e122, hn.1]; exact Int32.le_refl _) c_266)
                refine ac_vret dX8_tries_289 rfl ?_
                exact ⟨rfl, rfl, rfl, ⟨fun i a1 a2 a3 => (hpr2.1 i a2).trans (by rw [am_up_ne a3, am_up_ne a3, am_up_ne a3, am_up_ne a3, am_up_ne a1]), fun k hk => by rw [hpr2.1 121 (by decide), am_up_ne (by decide), am_up_ne (by decide), am_up_ne (by decide), am_up_ne (by decide)]; exact up_ne hk⟩, some (g, x, c), ⟨fun h => by (cases h), fun y hy => by
                  cases hy
                  have q1 := hpr2.1 121 (by decide)
                  have q2 := hpr2.1 132 (by decide)
                  exact ⟨by rw [q1]; rfl, by rw [q2]; rfl, by rw [q2]; rfl, by rw [q2]; rfl, by rw [q2]; rfl, hpr2.2⟩⟩, IsB_take hI hP ht (fun y h1 _ => hS2 y h1) hb⟩
              · intro q hq ih M2 hpr
                have hpr2 := hpr
                have e122 : M2 122 = M 122 := hpr.1 122 (by decide)
                have e130 : M2 130 = M 130 := hpr.1 130 (by decide)
                refine ac_iload 260 dX8_tries_258 rfl rfl ?_
                refine ac_aload_n 261 dX8_tries_260 rfl rfl ?_
                refine ac_getO 264 122 dX8_tries_261 rfl fl8_7 ob121 rfl ?_
                refine ac_iconst 265 3 dX8_tries_264 rfl (by decide) ?_
                refine ac_iald 266 dX8_tries_265 rfl ar122 (ix_nI (k := 3) (by decide) (by decide)) ?_
                refine ac_icmp_ge 289 269 dX8_tries_266 (by decide) rfl (fun c_266 => absurd c_266 (by rw [e122, hn.1]; exact nI_ge hq (by omega))) (fun _ => ?_)
                refine ac_aload_n 270 dX8_tries_269 rfl rfl ?_
                refine ac_getO 273 131 dX8_tries_270 rfl fl8_38 ob121 rfl ?_
                refine ac_iload 275 dX8_tries_273 rfl rfl ?_
                refine ac_aload_n 276 dX8_tries_275 rfl rfl ?_
                refine ac_getO 279 130 dX8_tries_276 rfl fl8_35 ob121 rfl ?_
                refine ac_iload 281 dX8_tries_279 rfl rfl ?_
                refine ac_iald 282 dX8_tries_281 rfl ar130 (ix_nI (by omega) (by decide)) ?_
                rw [show (M2 130 q) = (nI (dgB np np c q)) from (by rw [e130]; exact ho q hq)]
                refine ac_iast 283 dX8_tries_282 rfl ar131 (ix_nI (by omega) (by decide)) ?_
                refine ac_iinc 286 (nI (q + 1)) [some (Value.ref 121), some (Value.int (nI g)), some (Value.int (nI x)), some (Value.int (nI (xkB wd (dgB np np c) g x np))), some (Value.int (nI (bkB wd (HB (M 122) nh) (dgB np np c) g x np))), some (Value.int (mkB wd (LB (M 122)) (dgB np np c) g x np)), some (Value.int ((oB wd (LB (M 122)) np) (g, x, c))), some (Value.int 1), some (Value.int (nI (q + 1)))] dX8_tries_283 rfl rfl (nI_1 _) rfl (by decide) rfl ?_
                refine ac_goto 258 dX8_tries_286 (by decide) ?_
                exact ih _ ⟨fun i hi => (am_up_ne hi).trans (hpr2.1 i hi), fun j hj => by
                  by_cases hjq : j = q
                  · subst hjq; exact up_eq
                  · rw [up_ne hjq]; exact hpr2.2 j (by omega)⟩
            · have d3 : ¬ ((oB wd (LB (M 122)) np) (g, x, c)).toInt < ((oB wd (LB (M 122)) np) y0).toInt := fun h => c_164 (Int32.lt_iff_toInt_lt.mpr h)
              refine ac_iload 169 dX8_tries_167 rfl rfl ?_
              refine ac_aload_n 170 dX8_tries_169 rfl rfl ?_
              refine ac_getO 173 132 dX8_tries_170 rfl fl8_41 ob121 rfl ?_
              refine ac_iconst 174 1 dX8_tries_173 rfl (by decide) ?_
              refine ac_iald 175 dX8_tries_174 rfl ar132 (ix_nI (k := 1) (by decide) (by decide)) ?_
              rw [show (M 132 1) = ((oB wd (LB (M 122)) np) y0) from e1]
              refine ac_icmp_ne 212 178 dX8_tries_175 (by decide) rfl (fun c_175 => ?_) (fun c_175 => ?_)
              · have d4 : ¬ ((oB wd (LB (M 122)) np) (g, x, c)).toInt = ((oB wd (LB (M 122)) np) y0).toInt := fun h => c_175 (Int32.toInt_inj.mp h)
                refine ac_iconst 213 0 dX8_tries_212 rfl (by decide) ?_
                refine ac_istore 215 [some (Value.ref 121), some (Value.int (nI g)), some (Value.int (nI x)), some (Value.int (nI (xkB wd (dgB np np c) g x np))), some (Value.int (nI (bkB wd (HB (M 122) nh) (dgB np np c) g x np))), some (Value.int (mkB wd (LB (M 122)) (dgB np np c) g x np)), some (Value.int ((oB wd (LB (M 122)) np) (g, x, c))), some (Value.int 0), none] dX8_tries_213 rfl rfl (Nat.le_of_ble_eq_true rfl) (by decide) rfl ?_
                refine ac_iload 217 dX8_tries_215 rfl rfl ?_
                refine ac_if_eq 289 220 dX8_tries_217 (by decide) rfl (fun _ => ?_) (fun c_217 => absurd (by decide) c_217)
                refine ac_vret dX8_tries_289 rfl ?_
                exact ⟨rfl, rfl, rfl, K3.refl _, some y0, hR, IsB_keep hI hSS (fun y h1 h2 h3 => by
                  rcases hS2 y h1 with h | h
                  · exact absurd h h2
                  · subst h
                    refine ⟨y0, rfl, ?_⟩
                    unfold btr psC
                    dsimp only
                    omega)⟩
              · have d4 : ((oB wd (LB (M 122)) np) (g, x, c)).toInt = ((oB wd (LB (M 122)) np) y0).toInt := congrArg Int32.toInt c_175
                refine ac_iload_n 179 dX8_tries_178 rfl rfl ?_
                refine ac_aload_n 180 dX8_tries_179 rfl rfl ?_
                refine ac_getO 183 132 dX8_tries_180 rfl fl8_41 ob121 rfl ?_
                refine ac_iconst 184 2 dX8_tries_183 rfl (by decide) ?_
                refine ac_iald 185 dX8_tries_184 rfl ar132 (ix_nI (k := 2) (by decide) (by decide)) ?_
                rw [show (M 132 2) = (nI y0.1) from e2]
                refine ac_icmp_lt 208 188 dX8_tries_185 (by decide) rfl (fun c_185 => ?_) (fun c_185 => ?_)
                · have d5 : g < y0.1 := (nI_ltI (by omega) (by omega)).mp c_185
                  have hb : ∀ r0, some y0 = some r0 → btr (bB wd (HB (M 122) nh) np) (oB wd (LB (M 122)) np) (g, x, c) r0 := fun r0 h9 => by
                    cases h9
                    unfold btr psC
                    dsimp only
                    omega
                  refine ac_iconst 209 1 dX8_tries_208 rfl (by decide) ?_
                  refine ac_goto 213 dX8_tries_209 (by decide) ?_
                  refine ac_istore 215 [some (Value.ref 121), some (Value.int (nI g)), some (Value.int (nI x)), some (Value.int (nI (xkB wd (dgB np np c) g x np))), some (Value.int (nI (bkB wd (HB (M 122) nh) (dgB np np c) g x np))), some (Value.int (mkB wd (LB (M 122)) (dgB np np c) g x np)), some (Value.int ((oB wd (LB (M 122)) np) (g, x, c))), some (Value.int 1), none] dX8_tries_213 rfl rfl (Nat.le_of_ble_eq_true rfl) (by decide) rfl ?_
                  refine ac_iload 217 dX8_tries_215 rfl rfl ?_
                  refine ac_if_eq 289 220 dX8_tries_217 (by decide) rfl (fun c_217 => absurd c_217 (by decide)) (fun _ => ?_)
                  refine ac_aload_n 221 dX8_tries_220 rfl rfl ?_
                  refine ac_iconst 222 1 dX8_tries_221 rfl (by decide) ?_
                  refine ac_putI 225 dX8_tries_222 rfl fl8_164 rfl rfl ob121 ?_
                  refine ac_aload_n 226 dX8_tries_225 rfl rfl ?_
                  refine ac_getO 229 132 dX8_tries_226 rfl fl8_41 ob121 rfl ?_
                  refine ac_iconst 230 0 dX8_tries_229 rfl (by decide) ?_
                  refine ac_iload 232 dX8_tries_230 rfl rfl ?_
                  refine ac_iast 233 dX8_tries_232 rfl ar132 (ix_nI (k := 0) (by decide) (by decide)) ?_
                  refine ac_aload_n 234 dX8_tries_233 rfl rfl ?_
                  refine ac_getO 237 132 dX8_tries_234 rfl fl8_41 ob121 rfl ?_
                  refine ac_iconst 238 1 dX8_tries_237 rfl (by decide) ?_
                  refine ac_iload 240 dX8_tries_238 rfl rfl ?_
                  refine ac_iast 241 dX8_tries_240 rfl ar132 (ix_nI (k := 1) (by decide) (by decide)) ?_
                  refine ac_aload_n 242 dX8_tries_241 rfl rfl ?_
                  refine ac_getO 245 132 dX8_tries_242 rfl fl8_41 ob121 rfl ?_
                  refine ac_iconst 246 2 dX8_tries_245 rfl (by decide) ?_
                  refine ac_iload_n 247 dX8_tries_246 rfl rfl ?_
                  refine ac_iast 248 dX8_tries_247 rfl ar132 (ix_nI (k := 2) (by decide) (by decide)) ?_
                  refine ac_aload_n 249 dX8_tries_248 rfl rfl ?_
                  refine ac_getO 252 132 dX8_tries_249 rfl fl8_41 ob121 rfl ?_
                  refine ac_iconst 253 3 dX8_tries_252 rfl (by decide) ?_
                  refine ac_iload_n 254 dX8_tries_253 rfl rfl ?_
                  refine ac_iast 255 dX8_tries_254 rfl ar132 (ix_nI (k := 3) (by decide) (by decide)) ?_
                  refine ac_iconst 256 0 dX8_tries_255 rfl (by decide) ?_
                  refine ac_istore 258 [some (Value.ref 121), some (Value.int (nI g)), some (Value.int (nI x)), some (Value.int (nI (xkB wd (dgB np np c) g x np))), some (Value.int (nI (bkB wd (HB (M 122) nh) (dgB np np c) g x np))), some (Value.int (mkB wd (LB (M 122)) (dgB np np c) g x np)), some (Value.int ((oB wd (LB (M 122)) np) (g, x, c))), some (Value.int 1), some (Value.int 0)] dX8_tries_256 rfl rfl (Nat.le_of_ble_eq_true rfl) (by decide) rfl ?_
                  refine ac_down (n := np) (P := fun q => ∀ (M2 : am_I), ((∀ i, i ≠ 131 → M2 i = (am_up (am_up (am_up (am_up (am_up M 121 17 1) 132 0 (nI (bkB wd (HB (M 122) nh) (dgB np np c) g x np))) 132 1 ((oB wd (LB (M 122)) np) (g, x, c))) 132 2 (nI g)) 132 3 (nI x)) i) ∧ ∀ j, j < q → M2 131 j = nI (dgB np np c j)) → A0 m8_tries 4 258 [some (Value.ref 121), some (Value.int (nI g)), some (Value.int (nI x)), some (Value.int (nI (xkB wd (dgB np np c) g x np))), some (Value.int (nI (bkB wd (HB (M 122) nh) (dgB np np c) g x np))), some (Value.int (mkB wd (LB (M 122)) (dgB np np c) g x np)), some (Value.int ((oB wd (LB (M 122)) np) (g, x, c))), some (Value.int 1), some (Value.int (nI q))] [] M2 V f (fun v M' V' f' => v = none ∧ V' = V ∧ f' = f ∧ K3 M M' ∧ ∃ r', RBm wd (HB (M 122) nh) (LB (M 122)) np M' r' ∧ IsB (VLB wd (FB (M 122) nd) np gp) (bB wd (HB (M 122) nh) np) (oB wd (LB (M 122)) np) S' r')) ?_ ?_ 0 (Nat.zero_le _) (am_up (am_up (am_up (am_up (am_up M 121 17 1) 132 0 (nI (bkB wd (HB (M 122) nh) (dgB np np c) g x np))) 132 1 ((oB wd (LB (M 122)) np) (g, x, c))) 132 2 (nI g)) 132 3 (nI x)) ⟨fun _ _ => rfl, fun j hj => absurd hj (Nat.not_lt_zero j)⟩
                  · intro M2 hpr
                    have hpr2 := hpr
                    have e122 : M2 122 = M 122 := hpr.1 122 (by decide)
                    refine ac_iload 260 dX8_tries_258 rfl rfl ?_
                    refine ac_aload_n 261 dX8_tries_260 rfl rfl ?_
                    refine ac_getO 264 122 dX8_tries_261 rfl fl8_7 ob121 rfl ?_
                    refine ac_iconst 265 3 dX8_tries_264 rfl (by decide) ?_
                    refine ac_iald 266 dX8_tries_265 rfl ar122 (ix_nI (k := 3) (by decide) (by decide)) ?_
                    refine ac_icmp_ge 289 269 dX8_tries_266 (by decide) rfl (fun _ => ?_) (fun c_266 => absurd (by rw [e122, hn.1]; exact Int32.le_refl _) c_266)
                    refine ac_vret dX8_tries_289 rfl ?_
                    exact ⟨rfl, rfl, rfl, ⟨fun i a1 a2 a3 => (hpr2.1 i a2).trans (by rw [am_up_ne a3, am_up_ne a3, am_up_ne a3, am_up_ne a3, am_up_ne a1]), fun k hk => by rw [hpr2.1 121 (by decide), am_up_ne (by decide), am_up_ne (by decide), am_up_ne (by decide), am_up_ne (by decide)]; exact up_ne hk⟩, some (g, x, c), ⟨fun h => by (cases h), fun y hy => by
                      cases hy
                      have q1 := hpr2.1 121 (by decide)
                      have q2 := hpr2.1 132 (by decide)
                      exact ⟨by rw [q1]; rfl, by rw [q2]; rfl, by rw [q2]; rfl, by rw [q2]; rfl, by rw [q2]; rfl, hpr2.2⟩⟩, IsB_take hI hP ht (fun y h1 _ => hS2 y h1) hb⟩
                  · intro q hq ih M2 hpr
                    have hpr2 := hpr
                    have e122 : M2 122 = M 122 := hpr.1 122 (by decide)
                    have e130 : M2 130 = M 130 := hpr.1 130 (by decide)
                    refine ac_iload 260 dX8_tries_258 rfl rfl ?_
                    refine ac_aload_n 261 dX8_tries_260 rfl rfl ?_
                    refine ac_getO 264 122 dX8_tries_261 rfl fl8_7 ob121 rfl ?_
                    refine ac_iconst 265 3 dX8_tries_264 rfl (by decide) ?_
                    refine ac_iald 266 dX8_tries_265 rfl ar122 (ix_nI (k := 3) (by decide) (by decide)) ?_
                    refine ac_icmp_ge 289 269 dX8_tries_266 (by decide) rfl (fun c_266 => absurd c_266 (by rw [e122, hn.1]; exact nI_ge hq (by omega))) (fun _ => ?_)
                    refine ac_aload_n 270 dX8_tries_269 rfl rfl ?_
                    refine ac_getO 273 131 dX8_tries_270 rfl fl8_38 ob121 rfl ?_
                    refine ac_iload 275 dX8_tries_273 rfl rfl ?_
                    refine ac_aload_n 276 dX8_tries_275 rfl rfl ?_
                    refine ac_getO 279 130 dX8_tries_276 rfl fl8_35 ob121 rfl ?_
                    refine ac_iload 281 dX8_tries_279 rfl rfl ?_
                    refine ac_iald 282 dX8_tries_281 rfl ar130 (ix_nI (by omega) (by decide)) ?_
                    rw [show (M2 130 q) = (nI (dgB np np c q)) from (by rw [e130]; exact ho q hq)]
                    refine ac_iast 283 dX8_tries_282 rfl ar131 (ix_nI (by omega) (by decide)) ?_
                    refine ac_iinc 286 (nI (q + 1)) [some (Value.ref 121), some (Value.int (nI g)), some (Value.int (nI x)), some (Value.int (nI (xkB wd (dgB np np c) g x np))), some (Value.int (nI (bkB wd (HB (M 122) nh) (dgB np np c) g x np))), some (Value.int (mkB wd (LB (M 122)) (dgB np np c) g x np)), some (Value.int ((oB wd (LB (M 122)) np) (g, x, c))), some (Value.int 1), some (Value.int (nI (q + 1)))] dX8_tries_283 rfl rfl (nI_1 _) rfl (by decide) rfl ?_
                    refine ac_goto 258 dX8_tries_286 (by decide) ?_
                    exact ih _ ⟨fun i hi => (am_up_ne hi).trans (hpr2.1 i hi), fun j hj => by
                      by_cases hjq : j = q
                      · subst hjq; exact up_eq
                      · rw [up_ne hjq]; exact hpr2.2 j (by omega)⟩
                · have d5 : ¬ g < y0.1 := fun h => c_185 (nI_lt h (by omega))
                  refine ac_iload_n 189 dX8_tries_188 rfl rfl ?_
                  refine ac_aload_n 190 dX8_tries_189 rfl rfl ?_
                  refine ac_getO 193 132 dX8_tries_190 rfl fl8_41 ob121 rfl ?_
                  refine ac_iconst 194 2 dX8_tries_193 rfl (by decide) ?_
                  refine ac_iald 195 dX8_tries_194 rfl ar132 (ix_nI (k := 2) (by decide) (by decide)) ?_
                  rw [show (M 132 2) = (nI y0.1) from e2]
                  refine ac_icmp_ne 212 198 dX8_tries_195 (by decide) rfl (fun c_195 => ?_) (fun c_195 => ?_)
                  · have d6 : ¬ g = y0.1 := fun h => c_195 (congrArg nI h)
                    refine ac_iconst 213 0 dX8_tries_212 rfl (by decide) ?_
                    refine ac_istore 215 [some (Value.ref 121), some (Value.int (nI g)), some (Value.int (nI x)), some (Value.int (nI (xkB wd (dgB np np c) g x np))), some (Value.int (nI (bkB wd (HB (M 122) nh) (dgB np np c) g x np))), some (Value.int (mkB wd (LB (M 122)) (dgB np np c) g x np)), some (Value.int ((oB wd (LB (M 122)) np) (g, x, c))), some (Value.int 0), none] dX8_tries_213 rfl rfl (Nat.le_of_ble_eq_true rfl) (by decide) rfl ?_
                    refine ac_iload 217 dX8_tries_215 rfl rfl ?_
                    refine ac_if_eq 289 220 dX8_tries_217 (by decide) rfl (fun _ => ?_) (fun c_217 => absurd (by decide) c_217)
                    refine ac_vret dX8_tries_289 rfl ?_
                    exact ⟨rfl, rfl, rfl, K3.refl _, some y0, hR, IsB_keep hI hSS (fun y h1 h2 h3 => by
                      rcases hS2 y h1 with h | h
                      · exact absurd h h2
                      · subst h
                        refine ⟨y0, rfl, ?_⟩
                        unfold btr psC
                        dsimp only
                        omega)⟩
                  · have d6 : g = y0.1 := (nI_eq (by omega) (by omega)).mp c_195
                    refine ac_iload_n 199 dX8_tries_198 rfl rfl ?_
                    refine ac_aload_n 200 dX8_tries_199 rfl rfl ?_
                    refine ac_getO 203 132 dX8_tries_200 rfl fl8_41 ob121 rfl ?_
                    refine ac_iconst 204 3 dX8_tries_203 rfl (by decide) ?_
                    refine ac_iald 205 dX8_tries_204 rfl ar132 (ix_nI (k := 3) (by decide) (by decide)) ?_
                    rw [show (M 132 3) = (nI y0.2.1) from e3]
                    refine ac_icmp_ge 212 208 dX8_tries_205 (by decide) rfl (fun c_205 => ?_) (fun c_205 => ?_)
                    · have d7 : y0.2.1 ≤ x := (nI_leI (by omega) (by omega)).mp c_205
                      refine ac_iconst 213 0 dX8_tries_212 rfl (by decide) ?_
                      refine ac_istore 215 [some (Value.ref 121), some (Value.int (nI g)), some (Value.int (nI x)), some (Value.int (nI (xkB wd (dgB np np c) g x np))), some (Value.int (nI (bkB wd (HB (M 122) nh) (dgB np np c) g x np))), some (Value.int (mkB wd (LB (M 122)) (dgB np np c) g x np)), some (Value.int ((oB wd (LB (M 122)) np) (g, x, c))), some (Value.int 0), none] dX8_tries_213 rfl rfl (Nat.le_of_ble_eq_true rfl) (by decide) rfl ?_
                      refine ac_iload 217 dX8_tries_215 rfl rfl ?_
                      refine ac_if_eq 289 220 dX8_tries_217 (by decide) rfl (fun _ => ?_) (fun c_217 => absurd (by decide) c_217)
                      refine ac_vret dX8_tries_289 rfl ?_
                      exact ⟨rfl, rfl, rfl, K3.refl _, some y0, hR, IsB_keep hI hSS (fun y h1 h2 h3 => by
                        rcases hS2 y h1 with h | h
                        · exact absurd h h2
                        · subst h
                          refine ⟨y0, rfl, ?_⟩
                          unfold btr psC
                          dsimp only
                          omega)⟩
                    · have d7 : x < y0.2.1 := (nI_ltI (by omega) (by omega)).mp (Int32.not_le.mp c_205)
                      have hb : ∀ r0, some y0 = some r0 → btr (bB wd (HB (M 122) nh) np) (oB wd (LB (M 122)) np) (g, x, c) r0 := fun r0 h9 => by
                        cases h9
                        unfold btr psC
                        dsimp only
                        omega
                      refine ac_iconst 209 1 dX8_tries_208 rfl (by decide) ?_
                      refine ac_goto 213 dX8_tries_209 (by decide) ?_
                      refine ac_istore 215 [some (Value.ref 121), some (Value.int (nI g)), some (Value.int (nI x)), some (Value.int (nI (xkB wd (dgB np np c) g x np))), some (Value.int (nI (bkB wd (HB (M 122) nh) (dgB np np c) g x np))), some (Value.int (mkB wd (LB (M 122)) (dgB np np c) g x np)), some (Value.int ((oB wd (LB (M 122)) np) (g, x, c))), some (Value.int 1), none] dX8_tries_213 rfl rfl (Nat.le_of_ble_eq_true rfl) (by decide) rfl ?_
                      refine ac_iload 217 dX8_tries_215 rfl rfl ?_
                      refine ac_if_eq 289 220 dX8_tries_217 (by decide) rfl (fun c_217 => absurd c_217 (by decide)) (fun _ => ?_)
                      refine ac_aload_n 221 dX8_tries_220 rfl rfl ?_
                      refine ac_iconst 222 1 dX8_tries_221 rfl (by decide) ?_
                      refine ac_putI 225 dX8_tries_222 rfl fl8_164 rfl rfl ob121 ?_
                      refine ac_aload_n 226 dX8_tries_225 rfl rfl ?_
                      refine ac_getO 229 132 dX8_tries_226 rfl fl8_41 ob121 rfl ?_
                      refine ac_iconst 230 0 dX8_tries_229 rfl (by decide) ?_
                      refine ac_iload 232 dX8_tries_230 rfl rfl ?_
                      refine ac_iast 233 dX8_tries_232 rfl ar132 (ix_nI (k := 0) (by decide) (by decide)) ?_
                      refine ac_aload_n 234 dX8_tries_233 rfl rfl ?_
                      refine ac_getO 237 132 dX8_tries_234 rfl fl8_41 ob121 rfl ?_
                      refine ac_iconst 238 1 dX8_tries_237 rfl (by decide) ?_
                      refine ac_iload 240 dX8_tries_238 rfl rfl ?_
                      refine ac_iast 241 dX8_tries_240 rfl ar132 (ix_nI (k := 1) (by decide) (by decide)) ?_
                      refine ac_aload_n 242 dX8_tries_241 rfl rfl ?_
                      refine ac_getO 245 132 dX8_tries_242 rfl fl8_41 ob121 rfl ?_
                      refine ac_iconst 246 2 dX8_tries_245 rfl (by decide) ?_
                      refine ac_iload_n 247 dX8_tries_246 rfl rfl ?_
                      refine ac_iast 248 dX8_tries_247 rfl ar132 (ix_nI (k := 2) (by decide) (by decide)) ?_
                      refine ac_aload_n 249 dX8_tries_248 rfl rfl ?_
                      refine ac_getO 252 132 dX8_tries_249 rfl fl8_41 ob121 rfl ?_
                      refine ac_iconst 253 3 dX8_tries_252 rfl (by decide) ?_
                      refine ac_iload_n 254 dX8_tries_253 rfl rfl ?_
                      refine ac_iast 255 dX8_tries_254 rfl ar132 (ix_nI (k := 3) (by decide) (by decide)) ?_
                      refine ac_iconst 256 0 dX8_tries_255 rfl (by decide) ?_
                      refine ac_istore 258 [some (Value.ref 121), some (Value.int (nI g)), some (Value.int (nI x)), some (Value.int (nI (xkB wd (dgB np np c) g x np))), some (Value.int (nI (bkB wd (HB (M 122) nh) (dgB np np c) g x np))), some (Value.int (mkB wd (LB (M 122)) (dgB np np c) g x np)), some (Value.int ((oB wd (LB (M 122)) np) (g, x, c))), some (Value.int 1), some (Value.int 0)] dX8_tries_256 rfl rfl (Nat.le_of_ble_eq_true rfl) (by decide) rfl ?_
                      refine ac_down (n := np) (P := fun q => ∀ (M2 : am_I), ((∀ i, i ≠ 131 → M2 i = (am_up (am_up (am_up (am_up (am_up M 121 17 1) 132 0 (nI (bkB wd (HB (M 122) nh) (dgB np np c) g x np))) 132 1 ((oB wd (LB (M 122)) np) (g, x, c))) 132 2 (nI g)) 132 3 (nI x)) i) ∧ ∀ j, j < q → M2 131 j = nI (dgB np np c j)) → A0 m8_tries 4 258 [some (Value.ref 121), some (Value.int (nI g)), some (Value.int (nI x)), some (Value.int (nI (xkB wd (dgB np np c) g x np))), some (Value.int (nI (bkB wd (HB (M 122) nh) (dgB np np c) g x np))), some (Value.int (mkB wd (LB (M 122)) (dgB np np c) g x np)), some (Value.int ((oB wd (LB (M 122)) np) (g, x, c))), some (Value.int 1), some (Value.int (nI q))] [] M2 V f (fun v M' V' f' => v = none ∧ V' = V ∧ f' = f ∧ K3 M M' ∧ ∃ r', RBm wd (HB (M 122) nh) (LB (M 122)) np M' r' ∧ IsB (VLB wd (FB (M 122) nd) np gp) (bB wd (HB (M 122) nh) np) (oB wd (LB (M 122)) np) S' r')) ?_ ?_ 0 (Nat.zero_le _) (am_up (am_up (am_up (am_up (am_up M 121 17 1) 132 0 (nI (bkB wd (HB (M 122) nh) (dgB np np c) g x np))) 132 1 ((oB wd (LB (M 122)) np) (g, x, c))) 132 2 (nI g)) 132 3 (nI x)) ⟨fun _ _ => rfl, fun j hj => absurd hj (Nat.not_lt_zero j)⟩
                      · intro M2 hpr
                        have hpr2 := hpr
                        have e122 : M2 122 = M 122 := hpr.1 122 (by decide)
                        refine ac_iload 260 dX8_tries_258 rfl rfl ?_
                        refine ac_aload_n 261 dX8_tries_260 rfl rfl ?_
                        refine ac_getO 264 122 dX8_tries_261 rfl fl8_7 ob121 rfl ?_
                        refine ac_iconst 265 3 dX8_tries_264 rfl (by decide) ?_
                        refine ac_iald 266 dX8_tries_265 rfl ar122 (ix_nI (k := 3) (by decide) (by decide)) ?_
                        refine ac_icmp_ge 289 269 dX8_tries_266 (by decide) rfl (fun _ => ?_) (fun c_266 => absurd (by rw [e122, hn.1]; exact Int32.le_refl _) c_266)
                        refine ac_vret dX8_tries_289 rfl ?_
                        exact ⟨rfl, rfl, rfl, ⟨fun i a1 a2 a3 => (hpr2.1 i a2).trans (by rw [am_up_ne a3, am_up_ne a3, am_up_ne a3, am_up_ne a3, am_up_ne a1]), fun k hk => by rw [hpr2.1 121 (by decide), am_up_ne (by decide), am_up_ne (by decide), am_up_ne (by decide), am_up_ne (by decide)]; exact up_ne hk⟩, some (g, x, c), ⟨fun h => by (cases h), fun y hy => by
                          cases hy
                          have q1 := hpr2.1 121 (by decide)
                          have q2 := hpr2.1 132 (by decide)
                          exact ⟨by rw [q1]; rfl, by rw [q2]; rfl, by rw [q2]; rfl, by rw [q2]; rfl, by rw [q2]; rfl, hpr2.2⟩⟩, IsB_take hI hP ht (fun y h1 _ => hS2 y h1) hb⟩
                      · intro q hq ih M2 hpr
                        have hpr2 := hpr
                        have e122 : M2 122 = M 122 := hpr.1 122 (by decide)
                        have e130 : M2 130 = M 130 := hpr.1 130 (by decide)
                        refine ac_iload 260 dX8_tries_258 rfl rfl ?_
                        refine ac_aload_n 261 dX8_tries_260 rfl rfl ?_
                        refine ac_getO 264 122 dX8_tries_261 rfl fl8_7 ob121 rfl ?_
                        refine ac_iconst 265 3 dX8_tries_264 rfl (by decide) ?_
                        refine ac_iald 266 dX8_tries_265 rfl ar122 (ix_nI (k := 3) (by decide) (by decide)) ?_
                        refine ac_icmp_ge 289 269 dX8_tries_266 (by decide) rfl (fun c_266 => absurd c_266 (by rw [e122, hn.1]; exact nI_ge hq (by omega))) (fun _ => ?_)
                        refine ac_aload_n 270 dX8_tries_269 rfl rfl ?_
                        refine ac_getO 273 131 dX8_tries_270 rfl fl8_38 ob121 rfl ?_
                        refine ac_iload 275 dX8_tries_273 rfl rfl ?_
                        refine ac_aload_n 276 dX8_tries_275 rfl rfl ?_
                        refine ac_getO 279 130 dX8_tries_276 rfl fl8_35 ob121 rfl ?_
                        refine ac_iload 281 dX8_tries_279 rfl rfl ?_
                        refine ac_iald 282 dX8_tries_281 rfl ar130 (ix_nI (by omega) (by decide)) ?_
                        rw [show (M2 130 q) = (nI (dgB np np c q)) from (by rw [e130]; exact ho q hq)]
                        refine ac_iast 283 dX8_tries_282 rfl ar131 (ix_nI (by omega) (by decide)) ?_
                        refine ac_iinc 286 (nI (q + 1)) [some (Value.ref 121), some (Value.int (nI g)), some (Value.int (nI x)), some (Value.int (nI (xkB wd (dgB np np c) g x np))), some (Value.int (nI (bkB wd (HB (M 122) nh) (dgB np np c) g x np))), some (Value.int (mkB wd (LB (M 122)) (dgB np np c) g x np)), some (Value.int ((oB wd (LB (M 122)) np) (g, x, c))), some (Value.int 1), some (Value.int (nI (q + 1)))] dX8_tries_283 rfl rfl (nI_1 _) rfl (by decide) rfl ?_
                        refine ac_goto 258 dX8_tries_286 (by decide) ?_
                        exact ih _ ⟨fun i hi => (am_up_ne hi).trans (hpr2.1 i hi), fun j hj => by
                          by_cases hjq : j = q
                          · subst hjq; exact up_eq
                          · rw [up_ne hjq]; exact hpr2.2 j (by omega)⟩
        · have d1 : (bB wd (HB (M 122) nh) np) (g, x, c) < (bB wd (HB (M 122) nh) np) y0 := (nI_ltI (by omega) (by omega)).mp (Int32.not_le.mp c_130)
          have hb : ∀ r0, some y0 = some r0 → btr (bB wd (HB (M 122) nh) np) (oB wd (LB (M 122)) np) (g, x, c) r0 := fun r0 h9 => by
            cases h9
            unfold btr psC
            dsimp only
            omega
          refine ac_iconst 134 1 dX8_tries_133 rfl (by decide) ?_
          refine ac_goto 138 dX8_tries_134 (by decide) ?_
          refine ac_istore 140 [some (Value.ref 121), some (Value.int (nI g)), some (Value.int (nI x)), some (Value.int (nI (xkB wd (dgB np np c) g x np))), some (Value.int (nI (bkB wd (HB (M 122) nh) (dgB np np c) g x np))), some (Value.int (mkB wd (LB (M 122)) (dgB np np c) g x np)), some (Value.int ((oB wd (LB (M 122)) np) (g, x, c))), some (Value.int 1), none] dX8_tries_138 rfl rfl (Nat.le_of_ble_eq_true rfl) (by decide) rfl ?_
          refine ac_iload 142 dX8_tries_140 rfl rfl ?_
          refine ac_if_ne 215 145 dX8_tries_142 (by decide) rfl (fun _ => ?_) (fun c_142 => absurd c_142 (by decide))
          refine ac_iload 217 dX8_tries_215 rfl rfl ?_
          refine ac_if_eq 289 220 dX8_tries_217 (by decide) rfl (fun c_217 => absurd c_217 (by decide)) (fun _ => ?_)
          refine ac_aload_n 221 dX8_tries_220 rfl rfl ?_
          refine ac_iconst 222 1 dX8_tries_221 rfl (by decide) ?_
          refine ac_putI 225 dX8_tries_222 rfl fl8_164 rfl rfl ob121 ?_
          refine ac_aload_n 226 dX8_tries_225 rfl rfl ?_
          refine ac_getO 229 132 dX8_tries_226 rfl fl8_41 ob121 rfl ?_
          refine ac_iconst 230 0 dX8_tries_229 rfl (by decide) ?_
          refine ac_iload 232 dX8_tries_230 rfl rfl ?_
          refine ac_iast 233 dX8_tries_232 rfl ar132 (ix_nI (k := 0) (by decide) (by decide)) ?_
          refine ac_aload_n 234 dX8_tries_233 rfl rfl ?_
          refine ac_getO 237 132 dX8_tries_234 rfl fl8_41 ob121 rfl ?_
          refine ac_iconst 238 1 dX8_tries_237 rfl (by decide) ?_
          refine ac_iload 240 dX8_tries_238 rfl rfl ?_
          refine ac_iast 241 dX8_tries_240 rfl ar132 (ix_nI (k := 1) (by decide) (by decide)) ?_
          refine ac_aload_n 242 dX8_tries_241 rfl rfl ?_
          refine ac_getO 245 132 dX8_tries_242 rfl fl8_41 ob121 rfl ?_
          refine ac_iconst 246 2 dX8_tries_245 rfl (by decide) ?_
          refine ac_iload_n 247 dX8_tries_246 rfl rfl ?_
          refine ac_iast 248 dX8_tries_247 rfl ar132 (ix_nI (k := 2) (by decide) (by decide)) ?_
          refine ac_aload_n 249 dX8_tries_248 rfl rfl ?_
          refine ac_getO 252 132 dX8_tries_249 rfl fl8_41 ob121 rfl ?_
          refine ac_iconst 253 3 dX8_tries_252 rfl (by decide) ?_
          refine ac_iload_n 254 dX8_tries_253 rfl rfl ?_
          refine ac_iast 255 dX8_tries_254 rfl ar132 (ix_nI (k := 3) (by decide) (by decide)) ?_
          refine ac_iconst 256 0 dX8_tries_255 rfl (by decide) ?_
          refine ac_istore 258 [some (Value.ref 121), some (Value.int (nI g)), some (Value.int (nI x)), some (Value.int (nI (xkB wd (dgB np np c) g x np))), some (Value.int (nI (bkB wd (HB (M 122) nh) (dgB np np c) g x np))), some (Value.int (mkB wd (LB (M 122)) (dgB np np c) g x np)), some (Value.int ((oB wd (LB (M 122)) np) (g, x, c))), some (Value.int 1), some (Value.int 0)] dX8_tries_256 rfl rfl (Nat.le_of_ble_eq_true rfl) (by decide) rfl ?_
          refine ac_down (n := np) (P := fun q => ∀ (M2 : am_I), ((∀ i, i ≠ 131 → M2 i = (am_up (am_up (am_up (am_up (am_up M 121 17 1) 132 0 (nI (bkB wd (HB (M 122) nh) (dgB np np c) g x np))) 132 1 ((oB wd (LB (M 122)) np) (g, x, c))) 132 2 (nI g)) 132 3 (nI x)) i) ∧ ∀ j, j < q → M2 131 j = nI (dgB np np c j)) → A0 m8_tries 4 258 [some (Value.ref 121), some (Value.int (nI g)), some (Value.int (nI x)), some (Value.int (nI (xkB wd (dgB np np c) g x np))), some (Value.int (nI (bkB wd (HB (M 122) nh) (dgB np np c) g x np))), some (Value.int (mkB wd (LB (M 122)) (dgB np np c) g x np)), some (Value.int ((oB wd (LB (M 122)) np) (g, x, c))), some (Value.int 1), some (Value.int (nI q))] [] M2 V f (fun v M' V' f' => v = none ∧ V' = V ∧ f' = f ∧ K3 M M' ∧ ∃ r', RBm wd (HB (M 122) nh) (LB (M 122)) np M' r' ∧ IsB (VLB wd (FB (M 122) nd) np gp) (bB wd (HB (M 122) nh) np) (oB wd (LB (M 122)) np) S' r')) ?_ ?_ 0 (Nat.zero_le _) (am_up (am_up (am_up (am_up (am_up M 121 17 1) 132 0 (nI (bkB wd (HB (M 122) nh) (dgB np np c) g x np))) 132 1 ((oB wd (LB (M 122)) np) (g, x, c))) 132 2 (nI g)) 132 3 (nI x)) ⟨fun _ _ => rfl, fun j hj => absurd hj (Nat.not_lt_zero j)⟩
          · intro M2 hpr
            have hpr2 := hpr
            have e122 : M2 122 = M 122 := hpr.1 122 (by decide)
            refine ac_iload 260 dX8_tries_258 rfl rfl ?_
            refine ac_aload_n 261 dX8_tries_260 rfl rfl ?_
            refine ac_getO 264 122 dX8_tries_261 rfl fl8_7 ob121 rfl ?_
            refine ac_iconst 265 3 dX8_tries_264 rfl (by decide) ?_
            refine ac_iald 266 dX8_tries_265 rfl ar122 (ix_nI (k := 3) (by decide) (by decide)) ?_
            refine ac_icmp_ge 289 269 dX8_tries_266 (by decide) rfl (fun _ => ?_) (fun c_266 => absurd (by rw [e122, hn.1]; exact Int32.le_refl _) c_266)
            refine ac_vret dX8_tries_289 rfl ?_
            exact ⟨rfl, rfl, rfl, ⟨fun i a1 a2 a3 => (hpr2.1 i a2).trans (by rw [am_up_ne a3, am_up_ne a3, am_up_ne a3, am_up_ne a3, am_up_ne a1]), fun k hk => by rw [hpr2.1 121 (by decide), am_up_ne (by decide), am_up_ne (by decide), am_up_ne (by decide), am_up_ne (by decide)]; exact up_ne hk⟩, some (g, x, c), ⟨fun h => by (cases h), fun y hy => by
              cases hy
              have q1 := hpr2.1 121 (by decide)
              have q2 := hpr2.1 132 (by decide)
              exact ⟨by rw [q1]; rfl, by rw [q2]; rfl, by rw [q2]; rfl, by rw [q2]; rfl, by rw [q2]; rfl, hpr2.2⟩⟩, IsB_take hI hP ht (fun y h1 _ => hS2 y h1) hb⟩
          · intro q hq ih M2 hpr
            have hpr2 := hpr
            have e122 : M2 122 = M 122 := hpr.1 122 (by decide)
            have e130 : M2 130 = M 130 := hpr.1 130 (by decide)
            refine ac_iload 260 dX8_tries_258 rfl rfl ?_
            refine ac_aload_n 261 dX8_tries_260 rfl rfl ?_
            refine ac_getO 264 122 dX8_tries_261 rfl fl8_7 ob121 rfl ?_
            refine ac_iconst 265 3 dX8_tries_264 rfl (by decide) ?_
            refine ac_iald 266 dX8_tries_265 rfl ar122 (ix_nI (k := 3) (by decide) (by decide)) ?_
            refine ac_icmp_ge 289 269 dX8_tries_266 (by decide) rfl (fun c_266 => absurd c_266 (by rw [e122, hn.1]; exact nI_ge hq (by omega))) (fun _ => ?_)
            refine ac_aload_n 270 dX8_tries_269 rfl rfl ?_
            refine ac_getO 273 131 dX8_tries_270 rfl fl8_38 ob121 rfl ?_
            refine ac_iload 275 dX8_tries_273 rfl rfl ?_
            refine ac_aload_n 276 dX8_tries_275 rfl rfl ?_
            refine ac_getO 279 130 dX8_tries_276 rfl fl8_35 ob121 rfl ?_
            refine ac_iload 281 dX8_tries_279 rfl rfl ?_
            refine ac_iald 282 dX8_tries_281 rfl ar130 (ix_nI (by omega) (by decide)) ?_
            rw [show (M2 130 q) = (nI (dgB np np c q)) from (by rw [e130]; exact ho q hq)]
            refine ac_iast 283 dX8_tries_282 rfl ar131 (ix_nI (by omega) (by decide)) ?_
            refine ac_iinc 286 (nI (q + 1)) [some (Value.ref 121), some (Value.int (nI g)), some (Value.int (nI x)), some (Value.int (nI (xkB wd (dgB np np c) g x np))), some (Value.int (nI (bkB wd (HB (M 122) nh) (dgB np np c) g x np))), some (Value.int (mkB wd (LB (M 122)) (dgB np np c) g x np)), some (Value.int ((oB wd (LB (M 122)) np) (g, x, c))), some (Value.int 1), some (Value.int (nI (q + 1)))] dX8_tries_283 rfl rfl (nI_1 _) rfl (by decide) rfl ?_
            refine ac_goto 258 dX8_tries_286 (by decide) ?_
            exact ih _ ⟨fun i hi => (am_up_ne hi).trans (hpr2.1 i hi), fun j hj => by
              by_cases hjq : j = q
              · subst hjq; exact up_eq
              · rw [up_ne hjq]; exact hpr2.2 j (by omega)⟩
    · intro k hk ih hpr
      have hD : (dgB np np c k) < np := dg_lt h0
      have hX : (xkB wd (dgB np np c) g x k) < 70 := xkB_lt (np := np) (k := k) hx hg2 (fun p hp => (hwd.1 p hp).2.2) (fun k => dg_lt h0) hpr
      refine ac_iload 13 dX8_tries_11 rfl rfl ?_
      refine ac_aload_n 14 dX8_tries_13 rfl rfl ?_
      refine ac_getO 17 122 dX8_tries_14 rfl fl8_7 ob121 rfl ?_
      refine ac_iconst 18 3 dX8_tries_17 rfl (by decide) ?_
      refine ac_iald 19 dX8_tries_18 rfl ar122 (ix_nI (k := 3) (by decide) (by decide)) ?_
      refine ac_icmp_ge 108 22 dX8_tries_19 (by decide) rfl (fun c_19 => absurd c_19 (by rw [hn.1]; exact nI_ge hk (by omega))) (fun _ => ?_)
      refine ac_aload_n 23 dX8_tries_22 rfl rfl ?_
      refine ac_getO 26 130 dX8_tries_23 rfl fl8_35 ob121 rfl ?_
      refine ac_iload 28 dX8_tries_26 rfl rfl ?_
      refine ac_iald 29 dX8_tries_28 rfl ar130 (ix_nI (by omega) (by decide)) ?_
      rw [show (M 130 k) = (nI (dgB np np c k)) from (ho k hk)]
      refine ac_istore 31 [some (Value.ref 121), some (Value.int (nI g)), some (Value.int (nI x)), some (Value.int (nI (xkB wd (dgB np np c) g x k))), some (Value.int (nI (bkB wd (HB (M 122) nh) (dgB np np c) g x k))), some (Value.int (mkB wd (LB (M 122)) (dgB np np c) g x k)), some (Value.int (nI k)), some (Value.int (nI (dgB np np c k))), none] dX8_tries_29 rfl rfl (Nat.le_of_ble_eq_true rfl) (by decide) rfl ?_
      refine ac_iload_n 32 dX8_tries_31 rfl rfl ?_
      refine ac_bipush 34 39 dX8_tries_32 rfl (by decide) ?_
      refine ac_icmp_gt 52 37 dX8_tries_34 (by decide) rfl (fun c_34 => ?_) (fun c_34 => ?_)
      · have hno : ¬ ((xkB wd (dgB np np c) g x k) < 40 ∧ FB (M 122) nd (dgB np np c k) (xkB wd (dgB np np c) g x k)) := fun h => absurd ((nI_ltI (a := 39) (by decide) (by omega)).mp c_34) (by omega)
        refine ac_vret dX8_tries_52 rfl ?_
        exact ⟨rfl, rfl, rfl, K3.refl _, r, hR, IsB_keep hI hSS (fun y h1 h2 h3 => by
          rcases hS2 y h1 with h | h
          · exact absurd h h2
          · subst h; exact absurd (h3.2.2.2.2 k hk) hno)⟩
      · have hX4 : (xkB wd (dgB np np c) g x k) < 40 := Nat.lt_of_not_le (fun q => c_34 (nI_lt (a := 39) (by omega) (by omega)))
        have hpk := PL_at hpl hD hX4
        refine ac_aload_n 38 dX8_tries_37 rfl rfl ?_
        refine ac_getO 41 133 dX8_tries_38 rfl fl8_44 ob121 rfl ?_
        refine ac_bipush 43 40 dX8_tries_41 rfl (by decide) ?_
        refine ac_iload 45 dX8_tries_43 rfl rfl ?_
        refine ac_imul 46 dX8_tries_45 rfl ?_
        refine ac_iload_n 47 dX8_tries_46 rfl rfl ?_
        refine ac_iadd 48 dX8_tries_47 rfl ?_
        refine ac_zald 49 dX8_tries_48 rfl ar133 (ix_of (k := 40 * (dgB np np c k) + (xkB wd (dgB np np c) g x k)) (by simp only [show (40 : Int32) = nI 40 from rfl, pk_mul, nI_add]) (by omega) (by decide)) ?_
        rw [show (M 133 (40 * (dgB np np c k) + (xkB wd (dgB np np c) g x k))) = (bi (FB (M 122) nd (dgB np np c k) (xkB wd (dgB np np c) g x k))) from hpk.1]
        refine ac_if_ne 53 52 dX8_tries_49 (by decide) rfl (fun c_49 => ?_) (fun c_49 => ?_)
        · have hF := bi_ne0.mp c_49
          refine ac_iload 55 dX8_tries_53 rfl rfl ?_
          refine ac_aload_n 56 dX8_tries_55 rfl rfl ?_
          refine ac_getO 59 134 dX8_tries_56 rfl fl8_47 ob121 rfl ?_
          refine ac_bipush 61 40 dX8_tries_59 rfl (by decide) ?_
          refine ac_iload 63 dX8_tries_61 rfl rfl ?_
          refine ac_imul 64 dX8_tries_63 rfl ?_
          refine ac_iload_n 65 dX8_tries_64 rfl rfl ?_
          refine ac_iadd 66 dX8_tries_65 rfl ?_
          refine ac_zald 67 dX8_tries_66 rfl ar134 (ix_of (k := 40 * (dgB np np c k) + (xkB wd (dgB np np c) g x k)) (by simp only [show (40 : Int32) = nI 40 from rfl, pk_mul, nI_add]) (by omega) (by decide)) ?_
          rw [show (M 134 (40 * (dgB np np c k) + (xkB wd (dgB np np c) g x k))) = (bi (FB (M 122) nd (dgB np np c k) (xkB wd (dgB np np c) g x k) ∧ HB (M 122) nh (dgB np np c k) (xkB wd (dgB np np c) g x k))) from hpk.2]
          refine ac_if_eq 74 70 dX8_tries_67 (by decide) rfl (fun c_67 => ?_) (fun c_67 => ?_)
          · have eB : (bkB wd (HB (M 122) nh) (dgB np np c) g x (k + 1)) = (bkB wd (HB (M 122) nh) (dgB np np c) g x k) + 1 := by show _ + cif _ 0 1 = _; rw [cif_f (fun h => bi_eq0.mp c_67 ⟨hF, h⟩)]
            refine ac_iconst 75 1 dX8_tries_74 rfl (by decide) ?_
            refine ac_iadd 76 dX8_tries_75 rfl ?_
            rw [show ((nI (bkB wd (HB (M 122) nh) (dgB np np c) g x k)) + 1) = (nI (bkB wd (HB (M 122) nh) (dgB np np c) g x (k + 1))) from (by rw [eB]; exact nI_1 _)]
            refine ac_istore 78 [some (Value.ref 121), some (Value.int (nI g)), some (Value.int (nI x)), some (Value.int (nI (xkB wd (dgB np np c) g x k))), some (Value.int (nI (bkB wd (HB (M 122) nh) (dgB np np c) g x (k + 1)))), some (Value.int (mkB wd (LB (M 122)) (dgB np np c) g x k)), some (Value.int (nI k)), some (Value.int (nI (dgB np np c k))), none] dX8_tries_76 rfl rfl (Nat.le_of_ble_eq_true rfl) (by decide) rfl ?_
            refine ac_iload 80 dX8_tries_78 rfl rfl ?_
            refine ac_aload_n 81 dX8_tries_80 rfl rfl ?_
            refine ac_iload 83 dX8_tries_81 rfl rfl ?_
            refine ac_iload_n 84 dX8_tries_83 rfl rfl ?_
            refine ac_callV (μ' := m8_leanOf) 87 dX8_tries_84 rfl lk8_155 m8_leanOf_V ob121 (c8_leanOf (by omega) _) rfl rfl (by decide) (Nat.le_of_ble_eq_true rfl) ?_
            rw [show (M 122 (4 + 4 * (dgB np np c k) + 3) * (2 * nI (xkB wd (dgB np np c) g x k) + M 122 (4 + 4 * (dgB np np c k)) - M 122 0)) = (LB (M 122) (dgB np np c k) (xkB wd (dgB np np c) g x k)) from rfl]
            refine ac_iadd 88 dX8_tries_87 rfl ?_
            rw [show ((mkB wd (LB (M 122)) (dgB np np c) g x k) + (LB (M 122) (dgB np np c k) (xkB wd (dgB np np c) g x k))) = (mkB wd (LB (M 122)) (dgB np np c) g x (k + 1)) from rfl]
            refine ac_istore 90 [some (Value.ref 121), some (Value.int (nI g)), some (Value.int (nI x)), some (Value.int (nI (xkB wd (dgB np np c) g x k))), some (Value.int (nI (bkB wd (HB (M 122) nh) (dgB np np c) g x (k + 1)))), some (Value.int (mkB wd (LB (M 122)) (dgB np np c) g x (k + 1))), some (Value.int (nI k)), some (Value.int (nI (dgB np np c k))), none] dX8_tries_88 rfl rfl (Nat.le_of_ble_eq_true rfl) (by decide) rfl ?_
            refine ac_iload_n 91 dX8_tries_90 rfl rfl ?_
            refine ac_aload_n 92 dX8_tries_91 rfl rfl ?_
            refine ac_iload 94 dX8_tries_92 rfl rfl ?_
            refine ac_iconst 95 0 dX8_tries_94 rfl (by decide) ?_
            refine ac_callV (μ' := m8_ofPicture) 98 dX8_tries_95 rfl lk8_118 m8_ofPicture_V ob121 (c8_ofP0 (by omega)) rfl rfl (by decide) (Nat.le_of_ble_eq_true rfl) ?_
            rw [show (M 122 (4 + 4 * (dgB np np c k))) = (nI (wd (dgB np np c k))) from (hwd.1 _ hD).1]
            refine ac_iload_n 99 dX8_tries_98 rfl rfl ?_
            refine ac_iadd 100 dX8_tries_99 rfl ?_
            refine ac_iadd 101 dX8_tries_100 rfl ?_
            rw [show ((nI (xkB wd (dgB np np c) g x k)) + ((nI (wd (dgB np np c k))) + (nI g))) = (nI (xkB wd (dgB np np c) g x (k + 1))) from (by rw [nI_add, nI_add, ← Nat.add_assoc]; rfl)]
            refine ac_istore_n 102 [some (Value.ref 121), some (Value.int (nI g)), some (Value.int (nI x)), some (Value.int (nI (xkB wd (dgB np np c) g x (k + 1)))), some (Value.int (nI (bkB wd (HB (M 122) nh) (dgB np np c) g x (k + 1)))), some (Value.int (mkB wd (LB (M 122)) (dgB np np c) g x (k + 1))), some (Value.int (nI k)), some (Value.int (nI (dgB np np c k))), none] dX8_tries_101 rfl rfl (Nat.le_of_ble_eq_true rfl) (by decide) rfl ?_
            refine ac_iinc 105 (nI (k + 1)) [some (Value.ref 121), some (Value.int (nI g)), some (Value.int (nI x)), some (Value.int (nI (xkB wd (dgB np np c) g x (k + 1)))), some (Value.int (nI (bkB wd (HB (M 122) nh) (dgB np np c) g x (k + 1)))), some (Value.int (mkB wd (LB (M 122)) (dgB np np c) g x (k + 1))), some (Value.int (nI (k + 1))), some (Value.int (nI (dgB np np c k))), none] dX8_tries_102 rfl rfl (nI_1 _) rfl (by decide) rfl ?_
            refine ac_goto 11 dX8_tries_105 (by decide) ?_
            refine ac_kill 7 [some (Value.ref 121), some (Value.int (nI g)), some (Value.int (nI x)), some (Value.int (nI (xkB wd (dgB np np c) g x (k + 1)))), some (Value.int (nI (bkB wd (HB (M 122) nh) (dgB np np c) g x (k + 1)))), some (Value.int (mkB wd (LB (M 122)) (dgB np np c) g x (k + 1))), some (Value.int (nI (k + 1))), none, none] rfl ?_
            exact ih (fun j hj => by
              by_cases hjk : j = k
              · subst hjk; exact ⟨hX4, hF⟩
              · exact hpr j (by omega))
          · have eB : (bkB wd (HB (M 122) nh) (dgB np np c) g x (k + 1)) = (bkB wd (HB (M 122) nh) (dgB np np c) g x k) := by show _ + cif _ 0 1 = _; rw [cif_t (bi_ne0.mp c_67).2, Nat.add_zero]
            refine ac_iconst 71 0 dX8_tries_70 rfl (by decide) ?_
            refine ac_goto 75 dX8_tries_71 (by decide) ?_
            refine ac_iadd 76 dX8_tries_75 rfl ?_
            rw [show ((nI (bkB wd (HB (M 122) nh) (dgB np np c) g x k)) + 0) = (nI (bkB wd (HB (M 122) nh) (dgB np np c) g x (k + 1))) from (by rw [eB]; exact Int32.add_zero _)]
            refine ac_istore 78 [some (Value.ref 121), some (Value.int (nI g)), some (Value.int (nI x)), some (Value.int (nI (xkB wd (dgB np np c) g x k))), some (Value.int (nI (bkB wd (HB (M 122) nh) (dgB np np c) g x (k + 1)))), some (Value.int (mkB wd (LB (M 122)) (dgB np np c) g x k)), some (Value.int (nI k)), some (Value.int (nI (dgB np np c k))), none] dX8_tries_76 rfl rfl (Nat.le_of_ble_eq_true rfl) (by decide) rfl ?_
            refine ac_iload 80 dX8_tries_78 rfl rfl ?_
            refine ac_aload_n 81 dX8_tries_80 rfl rfl ?_
            refine ac_iload 83 dX8_tries_81 rfl rfl ?_
            refine ac_iload_n 84 dX8_tries_83 rfl rfl ?_
            refine ac_callV (μ' := m8_leanOf) 87 dX8_tries_84 rfl lk8_155 m8_leanOf_V ob121 (c8_leanOf (by omega) _) rfl rfl (by decide) (Nat.le_of_ble_eq_true rfl) ?_
            rw [show (M 122 (4 + 4 * (dgB np np c k) + 3) * (2 * nI (xkB wd (dgB np np c) g x k) + M 122 (4 + 4 * (dgB np np c k)) - M 122 0)) = (LB (M 122) (dgB np np c k) (xkB wd (dgB np np c) g x k)) from rfl]
            refine ac_iadd 88 dX8_tries_87 rfl ?_
            rw [show ((mkB wd (LB (M 122)) (dgB np np c) g x k) + (LB (M 122) (dgB np np c k) (xkB wd (dgB np np c) g x k))) = (mkB wd (LB (M 122)) (dgB np np c) g x (k + 1)) from rfl]
            refine ac_istore 90 [some (Value.ref 121), some (Value.int (nI g)), some (Value.int (nI x)), some (Value.int (nI (xkB wd (dgB np np c) g x k))), some (Value.int (nI (bkB wd (HB (M 122) nh) (dgB np np c) g x (k + 1)))), some (Value.int (mkB wd (LB (M 122)) (dgB np np c) g x (k + 1))), some (Value.int (nI k)), some (Value.int (nI (dgB np np c k))), none] dX8_tries_88 rfl rfl (Nat.le_of_ble_eq_true rfl) (by decide) rfl ?_
            refine ac_iload_n 91 dX8_tries_90 rfl rfl ?_
            refine ac_aload_n 92 dX8_tries_91 rfl rfl ?_
            refine ac_iload 94 dX8_tries_92 rfl rfl ?_
            refine ac_iconst 95 0 dX8_tries_94 rfl (by decide) ?_
            refine ac_callV (μ' := m8_ofPicture) 98 dX8_tries_95 rfl lk8_118 m8_ofPicture_V ob121 (c8_ofP0 (by omega)) rfl rfl (by decide) (Nat.le_of_ble_eq_true rfl) ?_
            rw [show (M 122 (4 + 4 * (dgB np np c k))) = (nI (wd (dgB np np c k))) from (hwd.1 _ hD).1]
            refine ac_iload_n 99 dX8_tries_98 rfl rfl ?_
            refine ac_iadd 100 dX8_tries_99 rfl ?_
            refine ac_iadd 101 dX8_tries_100 rfl ?_
            rw [show ((nI (xkB wd (dgB np np c) g x k)) + ((nI (wd (dgB np np c k))) + (nI g))) = (nI (xkB wd (dgB np np c) g x (k + 1))) from (by rw [nI_add, nI_add, ← Nat.add_assoc]; rfl)]
            refine ac_istore_n 102 [some (Value.ref 121), some (Value.int (nI g)), some (Value.int (nI x)), some (Value.int (nI (xkB wd (dgB np np c) g x (k + 1)))), some (Value.int (nI (bkB wd (HB (M 122) nh) (dgB np np c) g x (k + 1)))), some (Value.int (mkB wd (LB (M 122)) (dgB np np c) g x (k + 1))), some (Value.int (nI k)), some (Value.int (nI (dgB np np c k))), none] dX8_tries_101 rfl rfl (Nat.le_of_ble_eq_true rfl) (by decide) rfl ?_
            refine ac_iinc 105 (nI (k + 1)) [some (Value.ref 121), some (Value.int (nI g)), some (Value.int (nI x)), some (Value.int (nI (xkB wd (dgB np np c) g x (k + 1)))), some (Value.int (nI (bkB wd (HB (M 122) nh) (dgB np np c) g x (k + 1)))), some (Value.int (mkB wd (LB (M 122)) (dgB np np c) g x (k + 1))), some (Value.int (nI (k + 1))), some (Value.int (nI (dgB np np c k))), none] dX8_tries_102 rfl rfl (nI_1 _) rfl (by decide) rfl ?_
            refine ac_goto 11 dX8_tries_105 (by decide) ?_
            refine ac_kill 7 [some (Value.ref 121), some (Value.int (nI g)), some (Value.int (nI x)), some (Value.int (nI (xkB wd (dgB np np c) g x (k + 1)))), some (Value.int (nI (bkB wd (HB (M 122) nh) (dgB np np c) g x (k + 1)))), some (Value.int (mkB wd (LB (M 122)) (dgB np np c) g x (k + 1))), some (Value.int (nI (k + 1))), none, none] rfl ?_
            exact ih (fun j hj => by
              by_cases hjk : j = k
              · subst hjk; exact ⟨hX4, hF⟩
              · exact hpr j (by omega))
        · have hno : ¬ ((xkB wd (dgB np np c) g x k) < 40 ∧ FB (M 122) nd (dgB np np c k) (xkB wd (dgB np np c) g x k)) := fun h => bi_eq0.mp c_49 h.2
          refine ac_vret dX8_tries_52 rfl ?_
          exact ⟨rfl, rfl, rfl, K3.refl _, r, hR, IsB_keep hI hSS (fun y h1 h2 h3 => by
            rcases hS2 y h1 with h | h
            · exact absurd h h2
            · subst h; exact absurd (h3.2.2.2.2 k hk) hno)⟩
  refine ac_istore 11 [some (Value.ref 121), some (Value.int (nI g)), some (Value.int (nI x)), some (Value.int (nI x)), some (Value.int 0), some (Value.int 0), some (Value.int 0), none, none] dX8_tries_9 rfl rfl (Nat.le_of_ble_eq_true rfl) (by decide) rfl ?_
  exact hL
theorem c8_tries2 {M : am_I} {V : am_J} {f : Nat → Option Nat} {N : rN} (eN : M 122 = N) {np nd nh gp g x c : Nat} {wd : Nat → Nat} (hn : NC N np nd nh) (hwd : WD N np wd gp) (h0 : 0 < np) (hx : x < 40) (hg : gp ≤ g) (hg2 : g ≤ 20) (hc : c < np ^ np) (hnj : njB (dgB np np c) np) (hpl : PL N nd nh (40 * np) M) (ho : ∀ k, k < np → M 130 k = nI (dgB np np c k)) {r : Option cd} {S S' : cd → Prop} (hR : RBm wd (HB N nh) (LB N) np M r) (hI : IsB (VLB wd (FB N nd) np gp) (bB wd (HB N nh) np) (oB wd (LB N) np) S r) (hSS : ∀ y, S y → S' y) (ht : S' (g, x, c)) (hS2 : ∀ y, S' y → S y ∨ y = (g, x, c)) (hlt : ∀ y, S y → (VLB wd (FB N nd) np gp) y → y.2.2 < c ∨ y.2.2 = c ∧ (y.1 < g ∨ y.1 = g ∧ y.2.1 < x)) : CT m8_tries 4 [Value.ref 121, Value.int (nI g), Value.int (nI x)] M V f (fun v M' V' f' => v = none ∧ V' = V ∧ f' = f ∧ K3 M M' ∧ ∃ r', RBm wd (HB N nh) (LB N) np M' r' ∧ IsB (VLB wd (FB N nd) np gp) (bB wd (HB N nh) np) (oB wd (LB N) np) S' r') := by
  subst eN
  exact c8_tries hn hwd h0 hx hg hg2 hc hnj hpl ho hR hI hSS ht hS2 hlt
theorem IsB_all {P : cd → Prop} {b : cd → Nat} {o : cd → Int32} {S : cd → Prop} {r : Option cd} (h : IsB P b o S r) (hk : ∀ y, P y → S y) : IsB P b o (fun _ => True) r := IsB_keep h (fun _ _ => trivial) (fun y _ h2 h3 => absurd (hk y h3) h2)
theorem IsB_more {P : cd → Prop} {b : cd → Nat} {o : cd → Int32} {S S' : cd → Prop} {r : Option cd} (h : IsB P b o S r) (hs : ∀ y, S y → S' y) (hk : ∀ y, S' y → P y → S y) : IsB P b o S' r := IsB_keep h hs (fun y h1 h2 h3 => absurd (hk y h1 h3) h2)
theorem VLB_x {N : rN} {nd np gp W : Nat} {wd : Nat → Nat} {y : cd} (h : VLB wd (FB N nd) np gp y) (hwd : WD N np wd gp) (hW : N 0 = nI W) (hW9 : W ≤ 40) : y.2.1 < W := by
  have h0 := h.2.2.2.1.2
  obtain ⟨h1, h2⟩ := h.2.2.2.2 0 h0
  have h3 : y.2.1 < 40 := h1
  have hp := hwd.1 (dgB np np y.2.2 0) (dg_lt h0)
  have h4 := fit_lt (show fitN N nd (dgB np np y.2.2 0) (nI y.2.1) from h2) hW hp.1 hp.2.1 (by omega) hp.2.2 hW9
  omega
set_option maxRecDepth 20000 in
theorem c8_finds {M : am_I} {V : am_J} {f : Nat → Option Nat} {np nd nh gp W : Nat} {wd : Nat → Nat} (hn : NC (M 122) np nd nh) (hwd : WD (M 122) np wd gp) (hW : M 122 0 = nI W) (hW9 : W ≤ 40) : CT m8_findsBest 5 [Value.ref 121] M V f (fun v M' V' f' => v = none ∧ V' = V ∧ f' = f ∧ KB M M' ∧ ∃ r, RBm wd (HB (M 122) nh) (LB (M 122)) np M' r ∧ BestB wd (FB (M 122) nd) (HB (M 122) nh) (LB (M 122)) np gp r) := by
  have hnp := hn.2.1
  have h3125 := npp np hnp
  have hgp := hwd.2.2
  refine CT.of m8_findsBest_V.1 _ (en_a_6 121) ?_
  refine ac_aload_n 1 dX8_findsBest_0 rfl rfl ?_
  refine ac_iconst 2 0 dX8_findsBest_1 rfl (by decide) ?_
  refine ac_putI 5 dX8_findsBest_2 rfl fl8_164 rfl rfl ob121 ?_
  refine ac_aload_n 6 dX8_findsBest_5 rfl rfl ?_
  refine ac_callVg (μ' := m8_laysPlaces) 9 dX8_findsBest_6 rfl lk8_167 m8_laysPlaces_V ob121 (c8_lays (M := (am_up M 121 17 0)) (np := np) (nd := nd) (nh := nh) hn) rfl rfl (by decide) (Nat.le_of_ble_eq_true rfl) (fun v0 Ma V0 f0 h9 => ?_)
  obtain ⟨a1, a2, a3, a4, a5⟩ := h9
  subst a1
  obtain rfl := a2.symm
  obtain rfl := a3.symm
  have hKa : KB M Ma := ((KB.refl M).up (Or.inr ⟨rfl, rfl⟩)).trans a4.KB
  have eMa : Ma 122 = M 122 := hKa.row (by decide) (by decide)
  refine ac_iconst 10 1 dX8_findsBest_9 rfl (by decide) ?_
  refine ac_istore_n 11 [some (Value.ref 121), some (Value.int 1), none, none, none, none] dX8_findsBest_10 rfl rfl (Nat.le_of_ble_eq_true rfl) (by decide) rfl ?_
  have hL : A0 m8_findsBest 5 13 [some (Value.ref 121), some (Value.int (nI (np ^ 0))), some (Value.int (nI 0)), none, none, none] [] Ma V f (fun v M' V' f' => v = none ∧ V' = V ∧ f' = f ∧ KB M M' ∧ ∃ r, RBm wd (HB (M 122) nh) (LB (M 122)) np M' r ∧ BestB wd (FB (M 122) nd) (HB (M 122) nh) (LB (M 122)) np gp r) := by
    refine ac_down (n := np) (P := fun k => A0 m8_findsBest 5 13 [some (Value.ref 121), some (Value.int (nI (np ^ k))), some (Value.int (nI k)), none, none, none] [] Ma V f (fun v M' V' f' => v = none ∧ V' = V ∧ f' = f ∧ KB M M' ∧ ∃ r, RBm wd (HB (M 122) nh) (LB (M 122)) np M' r ∧ BestB wd (FB (M 122) nd) (HB (M 122) nh) (LB (M 122)) np gp r)) ?_ ?_ 0 (Nat.zero_le _) 
    · refine ac_iload_n 14 dX8_findsBest_13 rfl rfl ?_
      refine ac_aload_n 15 dX8_findsBest_14 rfl rfl ?_
      refine ac_getO 18 122 dX8_findsBest_15 rfl fl8_7 ob121 rfl ?_
      refine ac_iconst 19 3 dX8_findsBest_18 rfl (by decide) ?_
      refine ac_iald 20 dX8_findsBest_19 rfl ar122 (ix_nI (k := 3) (by decide) (by decide)) ?_
      rw [show (Ma 122 3) = (nI np) from (by rw [eMa]; exact hn.1)]
      refine ac_icmp_ge 38 23 dX8_findsBest_20 (by decide) rfl (fun _ => ?_) (fun c_20 => absurd (Int32.le_refl _) c_20)
      refine ac_iconst 39 0 dX8_findsBest_38 rfl (by decide) ?_
      refine ac_istore_n 40 [some (Value.ref 121), some (Value.int (nI (np ^ np))), some (Value.int 0), none, none, none] dX8_findsBest_39 rfl rfl (Nat.le_of_ble_eq_true rfl) (by decide) rfl ?_
      refine ac_down (n := (np ^ np)) (P := fun k => ∀ (Mp : am_I), ((KB M Mp ∧ PL (M 122) nd nh (40 * np) Mp ∧ ∃ r, RBm wd (HB (M 122) nh) (LB (M 122)) np Mp r ∧ IsB (VLB wd (FB (M 122) nd) np gp) (bB wd (HB (M 122) nh) np) (oB wd (LB (M 122)) np) (fun y => y.2.2 < k) r)) → A0 m8_findsBest 5 40 [some (Value.ref 121), some (Value.int (nI (np ^ np))), some (Value.int (nI k)), none, none, none] [] Mp V f (fun v M' V' f' => v = none ∧ V' = V ∧ f' = f ∧ KB M M' ∧ ∃ r, RBm wd (HB (M 122) nh) (LB (M 122)) np M' r ∧ BestB wd (FB (M 122) nd) (HB (M 122) nh) (LB (M 122)) np gp r)) ?_ ?_ 0 (Nat.zero_le _) Ma ⟨hKa, a5, none, ⟨fun _ => (by rw [a4 121 (by decide) (by decide)]; rfl) , fun y h => by (cases h)⟩, fun y h => absurd h (Nat.not_lt_zero _)⟩
      · intro Mp hpr
        obtain ⟨g1, g2, r, g3, g4⟩ := hpr
        refine ac_iload_n 41 dX8_findsBest_40 rfl rfl ?_
        refine ac_iload_n 42 dX8_findsBest_41 rfl rfl ?_
        refine ac_icmp_ge 119 45 dX8_findsBest_42 (by decide) rfl (fun _ => ?_) (fun c_42 => absurd (Int32.le_refl _) c_42)
        refine ac_vret dX8_findsBest_119 rfl ?_
        exact ⟨rfl, rfl, rfl, g1, r, g3, IsB_all g4 (fun y hy => hy.2.2.1)⟩
      · intro k hk ih Mp hpr
        obtain ⟨g1, g2, r, g3, g4⟩ := hpr
        have ih2 := ih
        have eMp : Mp 122 = M 122 := g1.row (by decide) (by decide)
        refine ac_iload_n 41 dX8_findsBest_40 rfl rfl ?_
        refine ac_iload_n 42 dX8_findsBest_41 rfl rfl ?_
        refine ac_icmp_ge 119 45 dX8_findsBest_42 (by decide) rfl (fun c_42 => absurd c_42 (nI_ge hk (by omega))) (fun _ => ?_)
        refine ac_aload_n 46 dX8_findsBest_45 rfl rfl ?_
        refine ac_getO 49 122 dX8_findsBest_46 rfl fl8_7 ob121 rfl ?_
        refine ac_iconst 50 3 dX8_findsBest_49 rfl (by decide) ?_
        refine ac_iald 51 dX8_findsBest_50 rfl ar122 (ix_nI (k := 3) (by decide) (by decide)) ?_
        rw [show (Mp 122 3) = (nI np) from (by rw [eMp]; exact hn.1)]
        refine ac_if_le 119 54 dX8_findsBest_51 (by decide) rfl (fun c_51 => ?_) (fun c_51 => ?_)
        · refine ac_vret dX8_findsBest_119 rfl ?_
          exact ⟨rfl, rfl, rfl, g1, r, g3, IsB_all g4 (fun y hy => absurd hy.2.2.2.1.2 (fun q => absurd ((nI_leI (b := 0) (by omega) (by decide)).mp c_51) (by omega)))⟩
        · have h0 : 0 < np := Nat.lt_of_not_le (fun q => c_51 (nI_le (b := 0) q (by decide)))
          refine ac_aload_n 55 dX8_findsBest_54 rfl rfl ?_
          refine ac_iload_n 56 dX8_findsBest_55 rfl rfl ?_
          refine ac_callVg (μ' := m8_isOrder) 59 dX8_findsBest_56 rfl lk8_170 m8_isOrder_V ob121 (c8_isOrder (M := Mp) (np := np) (nd := nd) (nh := nh) (c := k) (by rw [eMp]; exact hn) h0 (by omega)) rfl rfl (by decide) (Nat.le_of_ble_eq_true rfl) (fun v1 Mb V1 f1 h1 => ?_)
          obtain ⟨i1, i2, i3, i4, i5⟩ := h1
          subst i1
          obtain rfl := i2.symm
          obtain rfl := i3.symm
          have gb : KB M Mb := g1.trans (fun i j z1 z2 => by rw [i4 i (by omega)])
          have eMb : Mb 122 = M 122 := gb.row (by decide) (by decide)
          refine ac_istore_n 60 [some (Value.ref 121), some (Value.int (nI (np ^ np))), some (Value.int (nI k)), some (Value.int (bi (njB (dgB np np k) np))), none, none] dX8_findsBest_59 rfl rfl (Nat.le_of_ble_eq_true rfl) (by decide) rfl ?_
          refine ac_aload_n 61 dX8_findsBest_60 rfl rfl ?_
          refine ac_getO 64 122 dX8_findsBest_61 rfl fl8_7 ob121 rfl ?_
          refine ac_iconst 65 2 dX8_findsBest_64 rfl (by decide) ?_
          refine ac_iald 66 dX8_findsBest_65 rfl ar122 (ix_nI (k := 2) (by decide) (by decide)) ?_
          rw [show (Mb 122 2) = (nI gp) from (by rw [eMb]; exact hwd.2.1)]
          refine ac_istore 68 [some (Value.ref 121), some (Value.int (nI (np ^ np))), some (Value.int (nI k)), some (Value.int (bi (njB (dgB np np k) np))), some (Value.int (nI gp)), none] dX8_findsBest_66 rfl rfl (Nat.le_of_ble_eq_true rfl) (by decide) rfl ?_
          refine ac_down (n := 21) (P := fun g => ∀ (Mq : am_I), ((KB M Mq ∧ PL (M 122) nd nh (40 * np) Mq ∧ ∃ r, RBm wd (HB (M 122) nh) (LB (M 122)) np Mq r ∧ IsB (VLB wd (FB (M 122) nd) np gp) (bB wd (HB (M 122) nh) np) (oB wd (LB (M 122)) np) (fun y => y.2.2 < k ∨ y.2.2 = k ∧ y.1 < g) r) ∧ (∀ j, j < np → Mq 130 j = nI (dgB np np k j)) ∧ gp ≤ g) → A0 m8_findsBest 5 68 [some (Value.ref 121), some (Value.int (nI (np ^ np))), some (Value.int (nI k)), some (Value.int (bi (njB (dgB np np k) np))), some (Value.int (nI g)), none] [] Mq V f (fun v M' V' f' => v = none ∧ V' = V ∧ f' = f ∧ KB M M' ∧ ∃ r, RBm wd (HB (M 122) nh) (LB (M 122)) np M' r ∧ BestB wd (FB (M 122) nd) (HB (M 122) nh) (LB (M 122)) np gp r)) ?_ ?_ gp (by omega) Mb ⟨⟨gb, g2.same (i4 133 (by decide)) (i4 134 (by decide)), r, g3.same (by rw [i4 121 (by decide)]) (i4 132 (by decide)) (i4 131 (by decide)), IsB_more g4 (fun y z => Or.inl z) (fun y z hy => by
            have z3 := hy.1
            rcases z with z | z
            · exact z
            · exact absurd z.2 (by omega))⟩, i5, Nat.le_refl _⟩
          · intro Mq hpr
            obtain ⟨⟨q1, q2, r3, q3, q4⟩, q5, q6⟩ := hpr
            refine ac_iload 70 dX8_findsBest_68 rfl rfl ?_
            refine ac_bipush 72 20 dX8_findsBest_70 rfl (by decide) ?_
            refine ac_icmp_gt 113 75 dX8_findsBest_72 (by decide) rfl (fun _ => ?_) (fun c_72 => absurd (by decide) c_72)
            refine ac_iinc 116 (nI (k + 1)) [some (Value.ref 121), some (Value.int (nI (np ^ np))), some (Value.int (nI (k + 1))), some (Value.int (bi (njB (dgB np np k) np))), some (Value.int (nI 21)), none] dX8_findsBest_113 rfl rfl (nI_1 _) rfl (by decide) rfl ?_
            refine ac_goto 40 dX8_findsBest_116 (by decide) ?_
            refine ac_kill 3 [some (Value.ref 121), some (Value.int (nI (np ^ np))), some (Value.int (nI (k + 1))), none, some (Value.int (nI 21)), none] rfl ?_
            refine ac_kill 4 [some (Value.ref 121), some (Value.int (nI (np ^ np))), some (Value.int (nI (k + 1))), none, none, none] rfl ?_
            exact ih2 _ ⟨q1, q2, r3, q3, IsB_more q4 (fun y z => by show y.2.2 < k + 1; rcases z with z | z <;> omega) (fun y z hy => by
              have z2 : y.2.2 < k + 1 := z
              have z3 := hy.2.1
              by_cases hyk : y.2.2 = k
              · exact Or.inr ⟨hyk, by omega⟩
              · exact Or.inl (by omega))⟩
          · intro g hg ih Mq hpr
            obtain ⟨⟨q1, q2, r3, q3, q4⟩, q5, q6⟩ := hpr
            have ih3 := ih
            have eMq : Mq 122 = M 122 := q1.row (by decide) (by decide)
            refine ac_iload 70 dX8_findsBest_68 rfl rfl ?_
            refine ac_bipush 72 20 dX8_findsBest_70 rfl (by decide) ?_
            refine ac_icmp_gt 113 75 dX8_findsBest_72 (by decide) rfl (fun c_72 => absurd c_72 (nI_nlt (a := 20) (by omega) (by decide))) (fun _ => ?_)
            refine ac_iload_n 76 dX8_findsBest_75 rfl rfl ?_
            refine ac_if_eq 113 79 dX8_findsBest_76 (by decide) rfl (fun c_76 => ?_) (fun c_76 => ?_)
            · refine ac_iinc 116 (nI (k + 1)) [some (Value.ref 121), some (Value.int (nI (np ^ np))), some (Value.int (nI (k + 1))), some (Value.int (bi (njB (dgB np np k) np))), some (Value.int (nI g)), none] dX8_findsBest_113 rfl rfl (nI_1 _) rfl (by decide) rfl ?_
              refine ac_goto 40 dX8_findsBest_116 (by decide) ?_
              refine ac_kill 3 [some (Value.ref 121), some (Value.int (nI (np ^ np))), some (Value.int (nI (k + 1))), none, some (Value.int (nI g)), none] rfl ?_
              refine ac_kill 4 [some (Value.ref 121), some (Value.int (nI (np ^ np))), some (Value.int (nI (k + 1))), none, none, none] rfl ?_
              exact ih2 _ ⟨q1, q2, r3, q3, IsB_more q4 (fun y z => by show y.2.2 < k + 1; rcases z with z | z <;> omega) (fun y z hy => by
                have z2 : y.2.2 < k + 1 := z
                by_cases hyk : y.2.2 = k
                · exact absurd hy.2.2.2.1.1 (by rw [hyk]; exact bi_eq0.mp c_76)
                · exact Or.inl (by omega))⟩
            · refine ac_iconst 80 0 dX8_findsBest_79 rfl (by decide) ?_
              refine ac_istore 82 [some (Value.ref 121), some (Value.int (nI (np ^ np))), some (Value.int (nI k)), some (Value.int (bi (njB (dgB np np k) np))), some (Value.int (nI g)), some (Value.int 0)] dX8_findsBest_80 rfl rfl (Nat.le_of_ble_eq_true rfl) (by decide) rfl ?_
              refine ac_down (n := W) (P := fun x => ∀ (Mr : am_I), ((KB M Mr ∧ PL (M 122) nd nh (40 * np) Mr ∧ ∃ r, RBm wd (HB (M 122) nh) (LB (M 122)) np Mr r ∧ IsB (VLB wd (FB (M 122) nd) np gp) (bB wd (HB (M 122) nh) np) (oB wd (LB (M 122)) np) (fun y => y.2.2 < k ∨ y.2.2 = k ∧ (y.1 < g ∨ y.1 = g ∧ y.2.1 < x)) r) ∧ (∀ j, j < np → Mr 130 j = nI (dgB np np k j))) → A0 m8_findsBest 5 82 [some (Value.ref 121), some (Value.int (nI (np ^ np))), some (Value.int (nI k)), some (Value.int (bi (njB (dgB np np k) np))), some (Value.int (nI g)), some (Value.int (nI x))] [] Mr V f (fun v M' V' f' => v = none ∧ V' = V ∧ f' = f ∧ KB M M' ∧ ∃ r, RBm wd (HB (M 122) nh) (LB (M 122)) np M' r ∧ BestB wd (FB (M 122) nd) (HB (M 122) nh) (LB (M 122)) np gp r)) ?_ ?_ 0 (Nat.zero_le _) Mq ⟨⟨q1, q2, r3, q3, IsB_more q4 (fun y z => by rcases z with z | z; exact Or.inl z; exact Or.inr ⟨z.1, Or.inl z.2⟩) (fun y z hy => by rcases z with z | ⟨z1, z | z⟩; exact Or.inl z; exact Or.inr ⟨z1, z⟩; exact absurd z.2 (Nat.not_lt_zero _))⟩, q5⟩
              · intro Mr hpr
                obtain ⟨⟨u1, u2, r4, u3, u4⟩, u5⟩ := hpr
                have eMr : Mr 122 = M 122 := u1.row (by decide) (by decide)
                refine ac_iload 84 dX8_findsBest_82 rfl rfl ?_
                refine ac_aload_n 85 dX8_findsBest_84 rfl rfl ?_
                refine ac_getO 88 122 dX8_findsBest_85 rfl fl8_7 ob121 rfl ?_
                refine ac_iconst 89 0 dX8_findsBest_88 rfl (by decide) ?_
                refine ac_iald 90 dX8_findsBest_89 rfl ar122 (ix_nI (k := 0) (by decide) (by decide)) ?_
                rw [show (Mr 122 0) = (nI W) from (by rw [eMr]; exact hW)]
                refine ac_icmp_ge 107 93 dX8_findsBest_90 (by decide) rfl (fun _ => ?_) (fun c_90 => absurd (Int32.le_refl _) c_90)
                refine ac_iinc 110 (nI (g + 1)) [some (Value.ref 121), some (Value.int (nI (np ^ np))), some (Value.int (nI k)), some (Value.int (bi (njB (dgB np np k) np))), some (Value.int (nI (g + 1))), some (Value.int (nI W))] dX8_findsBest_107 rfl rfl (nI_1 _) rfl (by decide) rfl ?_
                refine ac_goto 68 dX8_findsBest_110 (by decide) ?_
                refine ac_kill 5 [some (Value.ref 121), some (Value.int (nI (np ^ np))), some (Value.int (nI k)), some (Value.int (bi (njB (dgB np np k) np))), some (Value.int (nI (g + 1))), none] rfl ?_
                exact ih3 _ ⟨⟨u1, u2, r4, u3, IsB_more u4 (fun y z => by rcases z with z | z | z <;> first | exact Or.inl z | exact Or.inr ⟨by omega, by omega⟩) (fun y z hy => by
                  have z3 := VLB_x hy hwd hW hW9
                  rcases z with z | z
                  · exact Or.inl z
                  · refine Or.inr ⟨z.1, ?_⟩
                    omega)⟩, u5, by omega⟩
              · intro x hx ih Mr hpr
                obtain ⟨⟨u1, u2, r4, u3, u4⟩, u5⟩ := hpr
                have eMr : Mr 122 = M 122 := u1.row (by decide) (by decide)
                refine ac_iload 84 dX8_findsBest_82 rfl rfl ?_
                refine ac_aload_n 85 dX8_findsBest_84 rfl rfl ?_
                refine ac_getO 88 122 dX8_findsBest_85 rfl fl8_7 ob121 rfl ?_
                refine ac_iconst 89 0 dX8_findsBest_88 rfl (by decide) ?_
                refine ac_iald 90 dX8_findsBest_89 rfl ar122 (ix_nI (k := 0) (by decide) (by decide)) ?_
                rw [show (Mr 122 0) = (nI W) from (by rw [eMr]; exact hW)]
                refine ac_icmp_ge 107 93 dX8_findsBest_90 (by decide) rfl (fun c_90 => absurd c_90 (nI_ge hx (by omega))) (fun _ => ?_)
                refine ac_aload_n 94 dX8_findsBest_93 rfl rfl ?_
                refine ac_iload 96 dX8_findsBest_94 rfl rfl ?_
                refine ac_iload 98 dX8_findsBest_96 rfl rfl ?_
                refine ac_callVg (μ' := m8_tries) 101 dX8_findsBest_98 rfl lk8_173 m8_tries_V ob121 (c8_tries2 (M := Mr) (N := M 122) (g := g) (x := x) (c := k) (gp := gp) (S' := (fun y => y.2.2 < k ∨ y.2.2 = k ∧ (y.1 < g ∨ y.1 = g ∧ y.2.1 < (x + 1)))) eMr hn hwd h0 (by omega) q6 (by omega) hk (bi_ne0.mp c_76) u2 u5 u3 u4 (fun y z => by rcases z with z | ⟨z1, z | z⟩; exact Or.inl z; exact Or.inr ⟨z1, Or.inl z⟩; exact Or.inr ⟨z1, Or.inr ⟨z.1, by omega⟩⟩) (Or.inr ⟨rfl, Or.inr ⟨rfl, Nat.lt_succ_self _⟩⟩) (fun y z => by
                  by_cases hy9 : y = (g, x, k)
                  · exact Or.inr hy9
                  · refine Or.inl ?_
                    obtain ⟨y1, y2, y3⟩ := y
                    have z9 : y3 < k ∨ y3 = k ∧ (y1 < g ∨ y1 = g ∧ y2 < x + 1) := z
                    have hne : ¬ (y1 = g ∧ y2 = x ∧ y3 = k) := fun ⟨w1, w2, w3⟩ => hy9 (by rw [w1, w2, w3])
                    show y3 < k ∨ y3 = k ∧ (y1 < g ∨ y1 = g ∧ y2 < x)
                    omega) (fun y z _ => z)) rfl rfl (by decide) (Nat.le_of_ble_eq_true rfl) (fun v3 Md V3 f3 h3 => ?_)
                obtain ⟨j1, j2, j3, j4, r5, j5, j6⟩ := h3
                subst j1
                obtain rfl := j2.symm
                obtain rfl := j3.symm
                refine ac_iinc 104 (nI (x + 1)) [some (Value.ref 121), some (Value.int (nI (np ^ np))), some (Value.int (nI k)), some (Value.int (bi (njB (dgB np np k) np))), some (Value.int (nI g)), some (Value.int (nI (x + 1)))] dX8_findsBest_101 rfl rfl (nI_1 _) rfl (by decide) rfl ?_
                refine ac_goto 82 dX8_findsBest_104 (by decide) ?_
                exact ih _ ⟨⟨u1.trans j4.KB, u2.same (j4.1 133 (by decide) (by decide) (by decide)) (j4.1 134 (by decide) (by decide) (by decide)), r5, j5, j6⟩, fun j hj => by rw [j4.1 130 (by decide) (by decide) (by decide)]; exact u5 j hj⟩
    · intro k hk ih
      refine ac_iload_n 14 dX8_findsBest_13 rfl rfl ?_
      refine ac_aload_n 15 dX8_findsBest_14 rfl rfl ?_
      refine ac_getO 18 122 dX8_findsBest_15 rfl fl8_7 ob121 rfl ?_
      refine ac_iconst 19 3 dX8_findsBest_18 rfl (by decide) ?_
      refine ac_iald 20 dX8_findsBest_19 rfl ar122 (ix_nI (k := 3) (by decide) (by decide)) ?_
      rw [show (Ma 122 3) = (nI np) from (by rw [eMa]; exact hn.1)]
      refine ac_icmp_ge 38 23 dX8_findsBest_20 (by decide) rfl (fun c_20 => absurd c_20 (nI_ge hk (by omega))) (fun _ => ?_)
      refine ac_iload_n 24 dX8_findsBest_23 rfl rfl ?_
      refine ac_aload_n 25 dX8_findsBest_24 rfl rfl ?_
      refine ac_getO 28 122 dX8_findsBest_25 rfl fl8_7 ob121 rfl ?_
      refine ac_iconst 29 3 dX8_findsBest_28 rfl (by decide) ?_
      refine ac_iald 30 dX8_findsBest_29 rfl ar122 (ix_nI (k := 3) (by decide) (by decide)) ?_
      rw [show (Ma 122 3) = (nI np) from (by rw [eMa]; exact hn.1)]
      refine ac_imul 31 dX8_findsBest_30 rfl ?_
      rw [show ((nI (np ^ k)) * (nI np)) = (nI (np ^ (k + 1))) from (pk_mul _ _)]
      refine ac_istore_n 32 [some (Value.ref 121), some (Value.int (nI (np ^ (k + 1)))), some (Value.int (nI k)), none, none, none] dX8_findsBest_31 rfl rfl (Nat.le_of_ble_eq_true rfl) (by decide) rfl ?_
      refine ac_iinc 35 (nI (k + 1)) [some (Value.ref 121), some (Value.int (nI (np ^ (k + 1)))), some (Value.int (nI (k + 1))), none, none, none] dX8_findsBest_32 rfl rfl (nI_1 _) rfl (by decide) rfl ?_
      refine ac_goto 13 dX8_findsBest_35 (by decide) ?_
      exact ih
  refine ac_iconst 12 0 dX8_findsBest_11 rfl (by decide) ?_
  refine ac_istore_n 13 [some (Value.ref 121), some (Value.int 1), some (Value.int 0), none, none, none] dX8_findsBest_12 rfl rfl (Nat.le_of_ble_eq_true rfl) (by decide) rfl ?_
  exact hL
theorem w4_ge {x : Int32} (h : 4 ≤ x) : ∃ j : Nat, j < 2 ^ 31 ∧ x - 4 = nI j := by
  obtain ⟨j, hj, rfl⟩ := nI_of (x := x) (fun q => by
    have h1 := Int32.le_iff_toInt_le.mp h
    have h2 := Int32.lt_iff_toInt_lt.mp q
    have e1 : (4 : Int32).toInt = 4 := by decide
    have e2 : (0 : Int32).toInt = 0 := by decide
    omega)
  have h4 : 4 ≤ j := (nI_leI (a := 4) (by decide) hj).mp h
  refine ⟨j - 4, by omega, ?_⟩
  rw [show j = (j - 4) + 4 by omega, ← nI_add, show j - 4 + 4 - 4 = j - 4 by omega]
  exact Int32.add_sub_cancel _ _
theorem w4_lt {x : Int32} (h0 : ¬ x < 0) (h : ¬ 4 ≤ x) : ∃ j : Nat, j < 4 ∧ x = nI j := by
  obtain ⟨j, hj, rfl⟩ := nI_of h0
  exact ⟨j, Nat.lt_of_not_le (fun q => h (nI_le (a := 4) q (by omega))), rfl⟩
theorem ans_j {wd : Nat → Nat} {H : Nat → Nat → Prop} {L : Nat → Nat → Int32} {np j : Nat} {y : cd} (g : Nat → Int32) (hj : j < 4) (h0 : g 0 = nI (bB wd H np y)) (h1 : g 1 = oB wd L np y) (h2 : g 2 = nI y.1) (h3 : g 3 = nI y.2.1) : g j = ansB wd H L np (nI j) (some y) := by
  unfold ansB
  dsimp only
  rcases (show j = 0 ∨ j = 1 ∨ j = 2 ∨ j = 3 by omega) with rfl | rfl | rfl | rfl
  · rw [if_pos (by decide), h0]
  · rw [if_neg (by decide), if_pos (by decide), h1]
  · rw [if_neg (by decide), if_neg (by decide), if_pos (by decide), h2]
  · rw [if_neg (by decide), if_neg (by decide), if_neg (by decide), if_pos (by decide), h3]
theorem ans_4 {wd : Nat → Nat} {H : Nat → Nat → Prop} {L : Nat → Nat → Int32} {np : Nat} {y : cd} {x : Int32} (h : 4 ≤ x) : ansB wd H L np x (some y) = if x - 4 < nI np then nI (dgB np np y.2.2 (x - 4).toNatClampNeg) else -9 := by
  unfold ansB
  dsimp only
  rw [if_neg (fun e => by rw [e] at h; exact absurd h (by decide)), if_neg (fun e => by rw [e] at h; exact absurd h (by decide)), if_neg (fun e => by rw [e] at h; exact absurd h (by decide)), if_neg (fun e => by rw [e] at h; exact absurd h (by decide))]
set_option maxRecDepth 20000 in
theorem q8_bestN {M : am_I} {V : am_J} {f : Nat → Option Nat} {w : Int32} (hw : w < 0) : CT m8_best 6 [Value.ref 121, Value.int w] M V f (RV (-1) M V f) := by
  refine CT.of m8_best_V.1 _ (en_ai_2 121 w) ?_
  refine ac_iload_n 1 dX8_best_0 rfl rfl ?_
  refine ac_if_ge 6 4 dX8_best_1 (by decide) rfl (fun c_1 => absurd c_1 (Int32.not_le.mpr hw)) (fun _ => ?_)
  refine ac_iconst 5 (-1) dX8_best_4 rfl (by decide) ?_
  refine ac_iret dX8_best_5 ⟨_, rfl, rfl⟩ ?_
  exact rv_mk rfl
set_option maxRecDepth 20000 in
theorem q8_best {M : am_I} {V : am_J} {f : Nat → Option Nat} {np nd nh gp W : Nat} {wd : Nat → Nat} (hn : NC (M 122) np nd nh) (hwd : WD (M 122) np wd gp) (hW : M 122 0 = nI W) (hW9 : W ≤ 40) {w : Int32} (hw : ¬ w < 0) : CT m8_best 6 [Value.ref 121, Value.int w] M V f (fun v M' V' f' => ∃ r, BestB wd (FB (M 122) nd) (HB (M 122) nh) (LB (M 122)) np gp r ∧ v = some (.int (ansB wd (HB (M 122) nh) (LB (M 122)) np w r)) ∧ V' = V ∧ f' = f ∧ KB M M') := by
  have hnp := hn.2.1
  refine CT.of m8_best_V.1 _ (en_ai_2 121 w) ?_
  refine ac_iload_n 1 dX8_best_0 rfl rfl ?_
  refine ac_if_ge 6 4 dX8_best_1 (by decide) rfl (fun _ => ?_) (fun c_1 => absurd (Int32.not_lt.mp hw) c_1)
  refine ac_aload_n 7 dX8_best_6 rfl rfl ?_
  refine ac_callVg (μ' := m8_findsBest) 10 dX8_best_7 rfl lk8_177 m8_findsBest_V ob121 (c8_finds hn hwd hW hW9) rfl rfl (by decide) (Nat.le_of_ble_eq_true rfl) (fun v0 Ma V0 f0 h9 => ?_)
  obtain ⟨a1, a2, a3, a4, r, a5, a6⟩ := h9
  subst a1
  obtain rfl := a2.symm
  obtain rfl := a3.symm
  have eMa : Ma 122 = M 122 := a4.row (by decide) (by decide)
  refine ac_aload_n 11 dX8_best_10 rfl rfl ?_
  refine ac_getI 14 dX8_best_11 rfl fl8_164 ob121 ?_
  refine ac_if_ne 20 17 dX8_best_14 (by decide) rfl (fun c_14 => ?_) (fun c_14 => ?_)
  · obtain ⟨y0, hr, e0, e1, e2, e3, e4⟩ := RBm_s a5 c_14
    subst hr
    refine ac_iload_n 21 dX8_best_20 rfl rfl ?_
    refine ac_iconst 22 4 dX8_best_21 rfl (by decide) ?_
    refine ac_icmp_ge 34 25 dX8_best_22 (by decide) rfl (fun c_22 => ?_) (fun c_22 => ?_)
    · refine ac_iload_n 35 dX8_best_34 rfl rfl ?_
      refine ac_iconst 36 4 dX8_best_35 rfl (by decide) ?_
      refine ac_isub 37 dX8_best_36 rfl ?_
      refine ac_aload_n 38 dX8_best_37 rfl rfl ?_
      refine ac_getO 41 122 dX8_best_38 rfl fl8_7 ob121 rfl ?_
      refine ac_iconst 42 3 dX8_best_41 rfl (by decide) ?_
      refine ac_iald 43 dX8_best_42 rfl ar122 (ix_nI (k := 3) (by decide) (by decide)) ?_
      rw [show (Ma 122 3) = (nI np) from (by rw [eMa]; exact hn.1)]
      refine ac_icmp_ge 57 46 dX8_best_43 (by decide) rfl (fun c_43 => ?_) (fun c_43 => ?_)
      · refine ac_bipush 59 (-9) dX8_best_57 rfl (by decide) ?_
        refine ac_iret dX8_best_59 ⟨_, rfl, rfl⟩ ?_
        exact ⟨some y0, a6, by rw [ans_4 c_22, if_neg (Int32.not_lt.mpr c_43)], rfl, rfl, a4⟩
      · obtain ⟨j, hj, ej⟩ := w4_ge c_22
        have hj5 : j < np := Nat.lt_of_not_le (fun q => c_43 (by rw [ej]; exact nI_le q hj))
        refine ac_aload_n 47 dX8_best_46 rfl rfl ?_
        refine ac_getO 50 131 dX8_best_47 rfl fl8_38 ob121 rfl ?_
        refine ac_iload_n 51 dX8_best_50 rfl rfl ?_
        refine ac_iconst 52 4 dX8_best_51 rfl (by decide) ?_
        refine ac_isub 53 dX8_best_52 rfl ?_
        refine ac_iald 54 dX8_best_53 rfl ar131 (ix_of (k := j) ej (by omega) (by decide)) ?_
        refine ac_goto 59 dX8_best_54 (by decide) ?_
        refine ac_iret dX8_best_59 ⟨_, rfl, rfl⟩ ?_
        exact ⟨some y0, a6, by rw [ans_4 c_22, if_pos (by rw [ej]; exact nI_lt hj5 (by omega)), ej, nI_clamp hj, e4 j hj5], rfl, rfl, a4⟩
    · obtain ⟨j, hj, rfl⟩ := w4_lt hw c_22
      refine ac_aload_n 26 dX8_best_25 rfl rfl ?_
      refine ac_getO 29 132 dX8_best_26 rfl fl8_41 ob121 rfl ?_
      refine ac_iload_n 30 dX8_best_29 rfl rfl ?_
      refine ac_iald 31 dX8_best_30 rfl ar132 (ix_nI (by omega) (by decide)) ?_
      refine ac_goto 59 dX8_best_31 (by decide) ?_
      refine ac_iret dX8_best_59 ⟨_, rfl, rfl⟩ ?_
      exact ⟨some y0, a6, by rw [ans_j (Ma 132) hj e0 e1 e2 e3], rfl, rfl, a4⟩
  · have hr : r = none := RBm_n a5 c_14
    refine ac_bipush 19 (-9) dX8_best_17 rfl (by decide) ?_
    refine ac_iret dX8_best_19 ⟨_, rfl, rfl⟩ ?_
    subst hr
    exact ⟨none, a6, rfl, rfl, rfl, a4⟩
