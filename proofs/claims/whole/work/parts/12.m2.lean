/-! The reference: what it asks of the wall, loop by loop (N is its row of numbers). -/
abbrev rN : Type := Nat → Int32
/-- how many pictures, doors, holes -/
def NC (N : rN) (np nd nh : Nat) : Prop := N 3 = nI np ∧ np ≤ 5 ∧ N 24 = nI nd ∧ nd ≤ 3 ∧ N 31 = nI nh ∧ nh ≤ 16
def fitN (N : rN) (nd j : Nat) (x : Int32) : Prop := (0 ≤ x ∧ x + N (4 + 4 * j) ≤ N 0) ∧ ∀ k, k < nd → (x + N (4 + 4 * j) ≤ N (25 + 2 * k) ∨ N (25 + 2 * k + 1) ≤ x)
def apN (N : rN) (np j : Nat) (x : Int32) : Prop := ∀ q, q < np → (N (64 + q) = -9 ∨ x + N (4 + 4 * j) + N 2 ≤ N (64 + q) ∨ N (64 + q) + N (4 + 4 * q) + N 2 ≤ x)
def hoN (N : rN) (nh : Nat) (X Y : Int32) : Prop := ∃ k, k < nh ∧ N (32 + 2 * k) = X ∧ N (32 + 2 * k + 1) = Y
def hkX (N : rN) (j : Nat) (x : Int32) : Int32 := 2 * x + N (4 + 4 * j)
def hkY (N : rN) (j : Nat) : Int32 := 2 * N 1 + N (4 + 4 * j + 1) - 2 * N (4 + 4 * j + 2)
def leN (N : rN) (j : Nat) (x : Int32) : Int32 := N (4 + 4 * j + 3) * (hkX N j x - N 0)
/-- the moment of the first k that hang; how many of the first k hang -/
def moN (N : rN) : Nat → Int32
  | 0 => 0
  | k + 1 => moN N k + (if N (64 + k) = -9 then 0 else leN N k (N (64 + k)))
def upN (N : rN) : Nat → Int32
  | 0 => 0
  | k + 1 => upN N k + (if N (64 + k) = -9 then 0 else 1)
/-- the last k below n with p; none: -9 -/
noncomputable def laN (p : Nat → Prop) : Nat → Int32
  | 0 => -9
  | k + 1 => @ite Int32 (p k) (Classical.propDecidable _) (nI k) (laN p k)
theorem laN_t {p : Nat → Prop} {k : Nat} (h : p k) : laN p (k + 1) = nI k := if_pos h
theorem laN_f {p : Nat → Prop} {k : Nat} (h : ¬ p k) : laN p (k + 1) = laN p k := if_neg h
def onN (N : rN) (k p : Nat) : Prop := N (64 + p) ≠ -9 ∧ hkX N p (N (64 + p)) = N (32 + 2 * k) ∧ hkY N p = N (32 + 2 * k + 1)
theorem all_suc {p : Nat → Prop} {k : Nat} : (∀ i, i < k + 1 → p i) ↔ (∀ i, i < k → p i) ∧ p k := ⟨fun h => ⟨fun i hi => h i (by omega), h k (by omega)⟩, fun h i hi => by
  rcases Nat.lt_or_ge i k with q | q
  · exact h.1 i q
  · have : i = k := by omega
    subst this; exact h.2⟩
theorem ex_suc {p : Nat → Prop} {k : Nat} : (∃ i, i < k + 1 ∧ p i) ↔ (∃ i, i < k ∧ p i) ∨ p k := ⟨fun ⟨i, hi, h⟩ => by
  rcases Nat.lt_or_ge i k with q | q
  · exact Or.inl ⟨i, q, h⟩
  · have : i = k := by omega
    subst this; exact Or.inr h, fun h => h.elim (fun ⟨i, hi, h⟩ => ⟨i, by omega, h⟩) (fun h => ⟨k, by omega, h⟩)⟩
set_option maxRecDepth 20000 in
theorem c8_doesFit {M : am_I} {V : am_J} {f : Nat → Option Nat} {np nd nh j : Nat} (hn : NC (M 122) np nd nh) (hj : j < 5) (x : Int32) : CT m8_doesFit 2 [Value.ref 121, Value.int (nI j), Value.int x] M V f (RV (bi (fitN (M 122) nd j x)) M V f) := by
  have hnd := hn.2.2.2.1
  unfold fitN
  refine CT.of m8_doesFit_V.1 _ (en_aii_6 121 (nI j) x) ?_
  refine ac_iload_n 1 dX8_doesFit_0 rfl rfl ?_
  refine ac_aload_n 2 dX8_doesFit_1 rfl rfl ?_
  refine ac_iload_n 3 dX8_doesFit_2 rfl rfl ?_
  refine ac_iconst 4 0 dX8_doesFit_3 rfl (by decide) ?_
  refine ac_callV (μ' := m8_ofPicture) 7 dX8_doesFit_4 rfl lk8_118 m8_ofPicture_V ob121 (c8_ofPicture (w := 0) hj (by decide)) rfl rfl (by decide) (Nat.le_of_ble_eq_true rfl) ?_
  refine ac_iadd 8 dX8_doesFit_7 rfl ?_
  refine ac_istore_n 9 [some (Value.ref 121), some (Value.int (nI j)), some (Value.int x), some (Value.int (x + (M 122 (4 + 4 * (j))))), none, none] dX8_doesFit_8 rfl rfl (Nat.le_of_ble_eq_true rfl) (by decide) rfl ?_
  have hL : A0 m8_doesFit 2 33 [some (Value.ref 121), some (Value.int (nI j)), some (Value.int x), some (Value.int (x + (M 122 (4 + 4 * (j))))), some (Value.int (bi ((0 ≤ x ∧ x + M 122 (4 + 4 * j) ≤ M 122 0) ∧ ∀ i, i < 0 → (x + M 122 (4 + 4 * j) ≤ M 122 (25 + 2 * i) ∨ M 122 (25 + 2 * i + 1) ≤ x)))), some (Value.int (nI 0))] [] M V f (RV (bi (fitN (M 122) nd j x)) M V f) := by
    refine ac_down (n := nd) (P := fun k => A0 m8_doesFit 2 33 [some (Value.ref 121), some (Value.int (nI j)), some (Value.int x), some (Value.int (x + (M 122 (4 + 4 * (j))))), some (Value.int (bi ((0 ≤ x ∧ x + M 122 (4 + 4 * j) ≤ M 122 0) ∧ ∀ i, i < k → (x + M 122 (4 + 4 * j) ≤ M 122 (25 + 2 * i) ∨ M 122 (25 + 2 * i + 1) ≤ x)))), some (Value.int (nI k))] [] M V f (RV (bi (fitN (M 122) nd j x)) M V f)) ?_ ?_ 0 (Nat.zero_le _) 
    · refine ac_iload 35 dX8_doesFit_33 rfl rfl ?_
      refine ac_aload_n 36 dX8_doesFit_35 rfl rfl ?_
      refine ac_getO 39 122 dX8_doesFit_36 rfl fl8_7 ob121 rfl ?_
      refine ac_bipush 41 24 dX8_doesFit_39 rfl (by decide) ?_
      refine ac_iald 42 dX8_doesFit_41 rfl ar122 (ix_nI (k := 24) (by decide) (by decide)) ?_
      refine ac_icmp_ge 97 45 dX8_doesFit_42 (by decide) rfl (fun _ => ?_) (fun c_42 => absurd (by rw [hn.2.2.1]; exact Int32.le_refl _) c_42)
      refine ac_iload 99 dX8_doesFit_97 rfl rfl ?_
      refine ac_iret dX8_doesFit_99 (bi_nr rfl _) ?_
      exact rv_mk rfl
    · intro k hk ih
      refine ac_iload 35 dX8_doesFit_33 rfl rfl ?_
      refine ac_aload_n 36 dX8_doesFit_35 rfl rfl ?_
      refine ac_getO 39 122 dX8_doesFit_36 rfl fl8_7 ob121 rfl ?_
      refine ac_bipush 41 24 dX8_doesFit_39 rfl (by decide) ?_
      refine ac_iald 42 dX8_doesFit_41 rfl ar122 (ix_nI (k := 24) (by decide) (by decide)) ?_
      refine ac_icmp_ge 97 45 dX8_doesFit_42 (by decide) rfl (fun c_42 => absurd c_42 (by rw [hn.2.2.1]; exact nI_ge hk (by omega))) (fun _ => ?_)
      refine ac_iload 47 dX8_doesFit_45 rfl rfl ?_
      refine ac_if_eq 88 50 dX8_doesFit_47 (by decide) rfl (fun c_47 => ?_) (fun c_47 => ?_)
      · have hb := bi_eq0.mp c_47
        refine ac_iconst 89 0 dX8_doesFit_88 rfl (by decide) ?_
        refine ac_istore 91 [some (Value.ref 121), some (Value.int (nI j)), some (Value.int x), some (Value.int (x + (M 122 (4 + 4 * (j))))), some (Value.int 0), some (Value.int (nI k))] dX8_doesFit_89 rfl rfl (Nat.le_of_ble_eq_true rfl) (by decide) rfl ?_
        refine ac_iinc 94 (nI (k + 1)) [some (Value.ref 121), some (Value.int (nI j)), some (Value.int x), some (Value.int (x + (M 122 (4 + 4 * (j))))), some (Value.int 0), some (Value.int (nI (k + 1)))] dX8_doesFit_91 rfl rfl (nI_1 _) rfl (by decide) rfl ?_
        refine ac_goto 33 dX8_doesFit_94 (by decide) ?_
        rw [show bi ((0 ≤ x ∧ x + M 122 (4 + 4 * j) ≤ M 122 0) ∧ ∀ i, i < (k + 1) → (x + M 122 (4 + 4 * j) ≤ M 122 (25 + 2 * i) ∨ M 122 (25 + 2 * i + 1) ≤ x)) = 0 from (bi_f (by first | exact fun h => hb ⟨h.1, (all_suc.mp h.2).1⟩ | exact fun h => ((all_suc.mp h.2).2).elim c_63 (fun h2 => absurd c_81 (Int32.not_lt.mpr h2))))] at ih
        exact ih
      · have hb := bi_ne0.mp c_47
        refine ac_iload_n 51 dX8_doesFit_50 rfl rfl ?_
        refine ac_aload_n 52 dX8_doesFit_51 rfl rfl ?_
        refine ac_getO 55 122 dX8_doesFit_52 rfl fl8_7 ob121 rfl ?_
        refine ac_bipush 57 25 dX8_doesFit_55 rfl (by decide) ?_
        refine ac_iconst 58 2 dX8_doesFit_57 rfl (by decide) ?_
        refine ac_iload 60 dX8_doesFit_58 rfl rfl ?_
        refine ac_imul 61 dX8_doesFit_60 rfl ?_
        refine ac_iadd 62 dX8_doesFit_61 rfl ?_
        refine ac_iald 63 dX8_doesFit_62 rfl ar122 (ix_of (k := (25 + (2 * (k)))) (by simp only [show (2 : Int32) = nI 2 from rfl, show (25 : Int32) = nI 25 from rfl, pk_mul, nI_add]) (by omega) (by decide)) ?_
        refine ac_icmp_le 84 66 dX8_doesFit_63 (by decide) rfl (fun c_63 => ?_) (fun c_63 => ?_)
        · refine ac_iconst 85 1 dX8_doesFit_84 rfl (by decide) ?_
          refine ac_goto 89 dX8_doesFit_85 (by decide) ?_
          refine ac_istore 91 [some (Value.ref 121), some (Value.int (nI j)), some (Value.int x), some (Value.int (x + (M 122 (4 + 4 * (j))))), some (Value.int 1), some (Value.int (nI k))] dX8_doesFit_89 rfl rfl (Nat.le_of_ble_eq_true rfl) (by decide) rfl ?_
          refine ac_iinc 94 (nI (k + 1)) [some (Value.ref 121), some (Value.int (nI j)), some (Value.int x), some (Value.int (x + (M 122 (4 + 4 * (j))))), some (Value.int 1), some (Value.int (nI (k + 1)))] dX8_doesFit_91 rfl rfl (nI_1 _) rfl (by decide) rfl ?_
          refine ac_goto 33 dX8_doesFit_94 (by decide) ?_
          rw [show bi ((0 ≤ x ∧ x + M 122 (4 + 4 * j) ≤ M 122 0) ∧ ∀ i, i < (k + 1) → (x + M 122 (4 + 4 * j) ≤ M 122 (25 + 2 * i) ∨ M 122 (25 + 2 * i + 1) ≤ x)) = 1 from (bi_t (by first | exact ⟨hb.1, all_suc.mpr ⟨hb.2, Or.inl c_63⟩⟩ | exact ⟨hb.1, all_suc.mpr ⟨hb.2, Or.inr (Int32.not_lt.mp c_81)⟩⟩))] at ih
          exact ih
        · refine ac_iload_n 67 dX8_doesFit_66 rfl rfl ?_
          refine ac_aload_n 68 dX8_doesFit_67 rfl rfl ?_
          refine ac_getO 71 122 dX8_doesFit_68 rfl fl8_7 ob121 rfl ?_
          refine ac_bipush 73 25 dX8_doesFit_71 rfl (by decide) ?_
          refine ac_iconst 74 2 dX8_doesFit_73 rfl (by decide) ?_
          refine ac_iload 76 dX8_doesFit_74 rfl rfl ?_
          refine ac_imul 77 dX8_doesFit_76 rfl ?_
          refine ac_iadd 78 dX8_doesFit_77 rfl ?_
          refine ac_iconst 79 1 dX8_doesFit_78 rfl (by decide) ?_
          refine ac_iadd 80 dX8_doesFit_79 rfl ?_
          refine ac_iald 81 dX8_doesFit_80 rfl ar122 (ix_of (k := ((25 + (2 * (k))) + 1)) (by simp only [show (1 : Int32) = nI 1 from rfl, show (2 : Int32) = nI 2 from rfl, show (25 : Int32) = nI 25 from rfl, pk_mul, nI_add]) (by omega) (by decide)) ?_
          refine ac_icmp_lt 88 84 dX8_doesFit_81 (by decide) rfl (fun c_81 => ?_) (fun c_81 => ?_)
          · refine ac_iconst 89 0 dX8_doesFit_88 rfl (by decide) ?_
            refine ac_istore 91 [some (Value.ref 121), some (Value.int (nI j)), some (Value.int x), some (Value.int (x + (M 122 (4 + 4 * (j))))), some (Value.int 0), some (Value.int (nI k))] dX8_doesFit_89 rfl rfl (Nat.le_of_ble_eq_true rfl) (by decide) rfl ?_
            refine ac_iinc 94 (nI (k + 1)) [some (Value.ref 121), some (Value.int (nI j)), some (Value.int x), some (Value.int (x + (M 122 (4 + 4 * (j))))), some (Value.int 0), some (Value.int (nI (k + 1)))] dX8_doesFit_91 rfl rfl (nI_1 _) rfl (by decide) rfl ?_
            refine ac_goto 33 dX8_doesFit_94 (by decide) ?_
            rw [show bi ((0 ≤ x ∧ x + M 122 (4 + 4 * j) ≤ M 122 0) ∧ ∀ i, i < (k + 1) → (x + M 122 (4 + 4 * j) ≤ M 122 (25 + 2 * i) ∨ M 122 (25 + 2 * i + 1) ≤ x)) = 0 from (bi_f (by first | exact fun h => hb ⟨h.1, (all_suc.mp h.2).1⟩ | exact fun h => ((all_suc.mp h.2).2).elim c_63 (fun h2 => absurd c_81 (Int32.not_lt.mpr h2))))] at ih
            exact ih
          · refine ac_iconst 85 1 dX8_doesFit_84 rfl (by decide) ?_
            refine ac_goto 89 dX8_doesFit_85 (by decide) ?_
            refine ac_istore 91 [some (Value.ref 121), some (Value.int (nI j)), some (Value.int x), some (Value.int (x + (M 122 (4 + 4 * (j))))), some (Value.int 1), some (Value.int (nI k))] dX8_doesFit_89 rfl rfl (Nat.le_of_ble_eq_true rfl) (by decide) rfl ?_
            refine ac_iinc 94 (nI (k + 1)) [some (Value.ref 121), some (Value.int (nI j)), some (Value.int x), some (Value.int (x + (M 122 (4 + 4 * (j))))), some (Value.int 1), some (Value.int (nI (k + 1)))] dX8_doesFit_91 rfl rfl (nI_1 _) rfl (by decide) rfl ?_
            refine ac_goto 33 dX8_doesFit_94 (by decide) ?_
            rw [show bi ((0 ≤ x ∧ x + M 122 (4 + 4 * j) ≤ M 122 0) ∧ ∀ i, i < (k + 1) → (x + M 122 (4 + 4 * j) ≤ M 122 (25 + 2 * i) ∨ M 122 (25 + 2 * i + 1) ≤ x)) = 1 from (bi_t (by first | exact ⟨hb.1, all_suc.mpr ⟨hb.2, Or.inl c_63⟩⟩ | exact ⟨hb.1, all_suc.mpr ⟨hb.2, Or.inr (Int32.not_lt.mp c_81)⟩⟩))] at ih
            exact ih
  refine ac_iload_n 10 dX8_doesFit_9 rfl rfl ?_
  refine ac_if_lt 27 13 dX8_doesFit_10 (by decide) rfl (fun c_10 => ?_) (fun c_10 => ?_)
  · refine ac_iconst 28 0 dX8_doesFit_27 rfl (by decide) ?_
    refine ac_istore 30 [some (Value.ref 121), some (Value.int (nI j)), some (Value.int x), some (Value.int (x + (M 122 (4 + 4 * (j))))), some (Value.int 0), none] dX8_doesFit_28 rfl rfl (Nat.le_of_ble_eq_true rfl) (by decide) rfl ?_
    refine ac_iconst 31 0 dX8_doesFit_30 rfl (by decide) ?_
    refine ac_istore 33 [some (Value.ref 121), some (Value.int (nI j)), some (Value.int x), some (Value.int (x + (M 122 (4 + 4 * (j))))), some (Value.int 0), some (Value.int 0)] dX8_doesFit_31 rfl rfl (Nat.le_of_ble_eq_true rfl) (by decide) rfl ?_
    rw [show bi ((0 ≤ x ∧ x + M 122 (4 + 4 * j) ≤ M 122 0) ∧ ∀ i, i < 0 → (x + M 122 (4 + 4 * j) ≤ M 122 (25 + 2 * i) ∨ M 122 (25 + 2 * i + 1) ≤ x)) = 0 from (bi_f (by first | exact fun h => absurd c_10 (Int32.not_lt.mpr h.1.1) | exact fun h => absurd c_20 (Int32.not_lt.mpr h.1.2)))] at hL
    exact hL
  · refine ac_iload_n 14 dX8_doesFit_13 rfl rfl ?_
    refine ac_aload_n 15 dX8_doesFit_14 rfl rfl ?_
    refine ac_getO 18 122 dX8_doesFit_15 rfl fl8_7 ob121 rfl ?_
    refine ac_iconst 19 0 dX8_doesFit_18 rfl (by decide) ?_
    refine ac_iald 20 dX8_doesFit_19 rfl ar122 (ix_nI (k := 0) (by decide) (by decide)) ?_
    refine ac_icmp_gt 27 23 dX8_doesFit_20 (by decide) rfl (fun c_20 => ?_) (fun c_20 => ?_)
    · refine ac_iconst 28 0 dX8_doesFit_27 rfl (by decide) ?_
      refine ac_istore 30 [some (Value.ref 121), some (Value.int (nI j)), some (Value.int x), some (Value.int (x + (M 122 (4 + 4 * (j))))), some (Value.int 0), none] dX8_doesFit_28 rfl rfl (Nat.le_of_ble_eq_true rfl) (by decide) rfl ?_
      refine ac_iconst 31 0 dX8_doesFit_30 rfl (by decide) ?_
      refine ac_istore 33 [some (Value.ref 121), some (Value.int (nI j)), some (Value.int x), some (Value.int (x + (M 122 (4 + 4 * (j))))), some (Value.int 0), some (Value.int 0)] dX8_doesFit_31 rfl rfl (Nat.le_of_ble_eq_true rfl) (by decide) rfl ?_
      rw [show bi ((0 ≤ x ∧ x + M 122 (4 + 4 * j) ≤ M 122 0) ∧ ∀ i, i < 0 → (x + M 122 (4 + 4 * j) ≤ M 122 (25 + 2 * i) ∨ M 122 (25 + 2 * i + 1) ≤ x)) = 0 from (bi_f (by first | exact fun h => absurd c_10 (Int32.not_lt.mpr h.1.1) | exact fun h => absurd c_20 (Int32.not_lt.mpr h.1.2)))] at hL
      exact hL
    · refine ac_iconst 24 1 dX8_doesFit_23 rfl (by decide) ?_
      refine ac_goto 28 dX8_doesFit_24 (by decide) ?_
      refine ac_istore 30 [some (Value.ref 121), some (Value.int (nI j)), some (Value.int x), some (Value.int (x + (M 122 (4 + 4 * (j))))), some (Value.int 1), none] dX8_doesFit_28 rfl rfl (Nat.le_of_ble_eq_true rfl) (by decide) rfl ?_
      refine ac_iconst 31 0 dX8_doesFit_30 rfl (by decide) ?_
      refine ac_istore 33 [some (Value.ref 121), some (Value.int (nI j)), some (Value.int x), some (Value.int (x + (M 122 (4 + 4 * (j))))), some (Value.int 1), some (Value.int 0)] dX8_doesFit_31 rfl rfl (Nat.le_of_ble_eq_true rfl) (by decide) rfl ?_
      rw [show bi ((0 ≤ x ∧ x + M 122 (4 + 4 * j) ≤ M 122 0) ∧ ∀ i, i < 0 → (x + M 122 (4 + 4 * j) ≤ M 122 (25 + 2 * i) ∨ M 122 (25 + 2 * i + 1) ≤ x)) = 1 from bi_t ⟨⟨Int32.not_lt.mp c_10, Int32.not_lt.mp c_20⟩, fun i hi => absurd hi (Nat.not_lt_zero i)⟩] at hL
      exact hL
set_option maxRecDepth 20000 in
theorem c8_isApart {M : am_I} {V : am_J} {f : Nat → Option Nat} {np nd nh j : Nat} (hn : NC (M 122) np nd nh) (hj : j < 5) (x : Int32) : CT m8_isApart 2 [Value.ref 121, Value.int (nI j), Value.int x] M V f (RV (bi (apN (M 122) np j x)) M V f) := by
  have hnp := hn.2.1
  unfold apN
  refine CT.of m8_isApart_V.1 _ (en_aii_8 121 (nI j) x) ?_
  refine ac_iconst 1 1 dX8_isApart_0 rfl (by decide) ?_
  refine ac_istore_n 2 [some (Value.ref 121), some (Value.int (nI j)), some (Value.int x), some (Value.int 1), none, none, none, none] dX8_isApart_1 rfl rfl (Nat.le_of_ble_eq_true rfl) (by decide) rfl ?_
  have hL : A0 m8_isApart 2 5 [some (Value.ref 121), some (Value.int (nI j)), some (Value.int x), some (Value.int (bi (∀ q, q < 0 → (M 122 (64 + q) = -9 ∨ x + M 122 (4 + 4 * j) + M 122 2 ≤ M 122 (64 + q) ∨ M 122 (64 + q) + M 122 (4 + 4 * q) + M 122 2 ≤ x)))), some (Value.int (nI 0)), none, none, none] [] M V f (RV (bi (apN (M 122) np j x)) M V f) := by
    refine ac_down (n := np) (P := fun k => A0 m8_isApart 2 5 [some (Value.ref 121), some (Value.int (nI j)), some (Value.int x), some (Value.int (bi (∀ q, q < k → (M 122 (64 + q) = -9 ∨ x + M 122 (4 + 4 * j) + M 122 2 ≤ M 122 (64 + q) ∨ M 122 (64 + q) + M 122 (4 + 4 * q) + M 122 2 ≤ x)))), some (Value.int (nI k)), none, none, none] [] M V f (RV (bi (apN (M 122) np j x)) M V f)) ?_ ?_ 0 (Nat.zero_le _) 
    · refine ac_iload 7 dX8_isApart_5 rfl rfl ?_
      refine ac_aload_n 8 dX8_isApart_7 rfl rfl ?_
      refine ac_getO 11 122 dX8_isApart_8 rfl fl8_7 ob121 rfl ?_
      refine ac_iconst 12 3 dX8_isApart_11 rfl (by decide) ?_
      refine ac_iald 13 dX8_isApart_12 rfl ar122 (ix_nI (k := 3) (by decide) (by decide)) ?_
      refine ac_icmp_ge 118 16 dX8_isApart_13 (by decide) rfl (fun _ => ?_) (fun c_13 => absurd (by rw [hn.1]; exact Int32.le_refl _) c_13)
      refine ac_iload_n 119 dX8_isApart_118 rfl rfl ?_
      refine ac_iret dX8_isApart_119 (bi_nr rfl _) ?_
      exact rv_mk rfl
    · intro k hk ih
      refine ac_iload 7 dX8_isApart_5 rfl rfl ?_
      refine ac_aload_n 8 dX8_isApart_7 rfl rfl ?_
      refine ac_getO 11 122 dX8_isApart_8 rfl fl8_7 ob121 rfl ?_
      refine ac_iconst 12 3 dX8_isApart_11 rfl (by decide) ?_
      refine ac_iald 13 dX8_isApart_12 rfl ar122 (ix_nI (k := 3) (by decide) (by decide)) ?_
      refine ac_icmp_ge 118 16 dX8_isApart_13 (by decide) rfl (fun c_13 => absurd c_13 (by rw [hn.1]; exact nI_ge hk (by omega))) (fun _ => ?_)
      refine ac_aload_n 17 dX8_isApart_16 rfl rfl ?_
      refine ac_getO 20 122 dX8_isApart_17 rfl fl8_7 ob121 rfl ?_
      refine ac_bipush 22 64 dX8_isApart_20 rfl (by decide) ?_
      refine ac_iload 24 dX8_isApart_22 rfl rfl ?_
      refine ac_iadd 25 dX8_isApart_24 rfl ?_
      refine ac_iald 26 dX8_isApart_25 rfl ar122 (ix_of (k := (64 + (k))) (by simp only [show (64 : Int32) = nI 64 from rfl, pk_mul, nI_add]) (by omega) (by decide)) ?_
      refine ac_istore 28 [some (Value.ref 121), some (Value.int (nI j)), some (Value.int x), some (Value.int (bi (∀ q, q < k → (M 122 (64 + q) = -9 ∨ x + M 122 (4 + 4 * j) + M 122 2 ≤ M 122 (64 + q) ∨ M 122 (64 + q) + M 122 (4 + 4 * q) + M 122 2 ≤ x)))), some (Value.int (nI k)), some (Value.int (M 122 (64 + (k)))), none, none] dX8_isApart_26 rfl rfl (Nat.le_of_ble_eq_true rfl) (by decide) rfl ?_
      refine ac_iload_n 29 dX8_isApart_28 rfl rfl ?_
      refine ac_aload_n 30 dX8_isApart_29 rfl rfl ?_
      refine ac_iload_n 31 dX8_isApart_30 rfl rfl ?_
      refine ac_iconst 32 0 dX8_isApart_31 rfl (by decide) ?_
      refine ac_callV (μ' := m8_ofPicture) 35 dX8_isApart_32 rfl lk8_118 m8_ofPicture_V ob121 (c8_ofPicture (w := 0) hj (by decide)) rfl rfl (by decide) (Nat.le_of_ble_eq_true rfl) ?_
      refine ac_iadd 36 dX8_isApart_35 rfl ?_
      refine ac_aload_n 37 dX8_isApart_36 rfl rfl ?_
      refine ac_getO 40 122 dX8_isApart_37 rfl fl8_7 ob121 rfl ?_
      refine ac_iconst 41 2 dX8_isApart_40 rfl (by decide) ?_
      refine ac_iald 42 dX8_isApart_41 rfl ar122 (ix_nI (k := 2) (by decide) (by decide)) ?_
      refine ac_iadd 43 dX8_isApart_42 rfl ?_
      refine ac_iload 45 dX8_isApart_43 rfl rfl ?_
      refine ac_icmp_gt 52 48 dX8_isApart_45 (by decide) rfl (fun c_45 => ?_) (fun c_45 => ?_)
      · refine ac_iconst 53 0 dX8_isApart_52 rfl (by decide) ?_
        refine ac_istore 55 [some (Value.ref 121), some (Value.int (nI j)), some (Value.int x), some (Value.int (bi (∀ q, q < k → (M 122 (64 + q) = -9 ∨ x + M 122 (4 + 4 * j) + M 122 2 ≤ M 122 (64 + q) ∨ M 122 (64 + q) + M 122 (4 + 4 * q) + M 122 2 ≤ x)))), some (Value.int (nI k)), some (Value.int (M 122 (64 + (k)))), some (Value.int 0), none] dX8_isApart_53 rfl rfl (Nat.le_of_ble_eq_true rfl) (by decide) rfl ?_
        refine ac_iload 57 dX8_isApart_55 rfl rfl ?_
        refine ac_aload_n 58 dX8_isApart_57 rfl rfl ?_
        refine ac_iload 60 dX8_isApart_58 rfl rfl ?_
        refine ac_iconst 61 0 dX8_isApart_60 rfl (by decide) ?_
        refine ac_callV (μ' := m8_ofPicture) 64 dX8_isApart_61 rfl lk8_118 m8_ofPicture_V ob121 (c8_ofPicture (w := 0) (by omega) (by decide)) rfl rfl (by decide) (Nat.le_of_ble_eq_true rfl) ?_
        refine ac_iadd 65 dX8_isApart_64 rfl ?_
        refine ac_aload_n 66 dX8_isApart_65 rfl rfl ?_
        refine ac_getO 69 122 dX8_isApart_66 rfl fl8_7 ob121 rfl ?_
        refine ac_iconst 70 2 dX8_isApart_69 rfl (by decide) ?_
        refine ac_iald 71 dX8_isApart_70 rfl ar122 (ix_nI (k := 2) (by decide) (by decide)) ?_
        refine ac_iadd 72 dX8_isApart_71 rfl ?_
        refine ac_iload_n 73 dX8_isApart_72 rfl rfl ?_
        refine ac_icmp_gt 80 76 dX8_isApart_73 (by decide) rfl (fun c_73 => ?_) (fun c_73 => ?_)
        · refine ac_iconst 81 0 dX8_isApart_80 rfl (by decide) ?_
          refine ac_istore 83 [some (Value.ref 121), some (Value.int (nI j)), some (Value.int x), some (Value.int (bi (∀ q, q < k → (M 122 (64 + q) = -9 ∨ x + M 122 (4 + 4 * j) + M 122 2 ≤ M 122 (64 + q) ∨ M 122 (64 + q) + M 122 (4 + 4 * q) + M 122 2 ≤ x)))), some (Value.int (nI k)), some (Value.int (M 122 (64 + (k)))), some (Value.int 0), some (Value.int 0)] dX8_isApart_81 rfl rfl (Nat.le_of_ble_eq_true rfl) (by decide) rfl ?_
          refine ac_iload_n 84 dX8_isApart_83 rfl rfl ?_
          refine ac_if_eq 110 87 dX8_isApart_84 (by decide) rfl (fun c_84 => ?_) (fun c_84 => ?_)
          · have hb := bi_eq0.mp c_84
            refine ac_iconst 111 0 dX8_isApart_110 rfl (by decide) ?_
            refine ac_istore_n 112 [some (Value.ref 121), some (Value.int (nI j)), some (Value.int x), some (Value.int 0), some (Value.int (nI k)), some (Value.int (M 122 (64 + (k)))), some (Value.int 0), some (Value.int 0)] dX8_isApart_111 rfl rfl (Nat.le_of_ble_eq_true rfl) (by decide) rfl ?_
            refine ac_iinc 115 (nI (k + 1)) [some (Value.ref 121), some (Value.int (nI j)), some (Value.int x), some (Value.int 0), some (Value.int (nI (k + 1))), some (Value.int (M 122 (64 + (k)))), some (Value.int 0), some (Value.int 0)] dX8_isApart_112 rfl rfl (nI_1 _) rfl (by decide) rfl ?_
            refine ac_goto 5 dX8_isApart_115 (by decide) ?_
            refine ac_kill 5 [some (Value.ref 121), some (Value.int (nI j)), some (Value.int x), some (Value.int 0), some (Value.int (nI (k + 1))), none, some (Value.int 0), some (Value.int 0)] rfl ?_
            refine ac_kill 6 [some (Value.ref 121), some (Value.int (nI j)), some (Value.int x), some (Value.int 0), some (Value.int (nI (k + 1))), none, none, some (Value.int 0)] rfl ?_
            refine ac_kill 7 [some (Value.ref 121), some (Value.int (nI j)), some (Value.int x), some (Value.int 0), some (Value.int (nI (k + 1))), none, none, none] rfl ?_
            rw [show bi (∀ q, q < k + 1 → (M 122 (64 + q) = -9 ∨ x + M 122 (4 + 4 * j) + M 122 2 ≤ M 122 (64 + q) ∨ M 122 (64 + q) + M 122 (4 + 4 * q) + M 122 2 ≤ x)) = 0 from (bi_f (by first | exact fun h => hb (all_suc.mp h).1 | exact fun h => ((all_suc.mp h).2).elim hq (fun h2 => h2.elim (fun h3 => absurd c_45 (Int32.not_lt.mpr h3)) (fun h3 => absurd c_73 (Int32.not_lt.mpr h3)))))] at ih
            exact ih
          · have hb := bi_ne0.mp c_84
            refine ac_aload_n 88 dX8_isApart_87 rfl rfl ?_
            refine ac_iload 90 dX8_isApart_88 rfl rfl ?_
            refine ac_callV (μ' := m8_hangsNow) 93 dX8_isApart_90 rfl lk8_122 m8_hangsNow_V ob121 (c8_hangsNow (j := (k)) (by omega)) rfl rfl (by decide) (Nat.le_of_ble_eq_true rfl) ?_
            refine ac_if_eq 106 96 dX8_isApart_93 (by decide) rfl (fun c_93 => ?_) (fun c_93 => ?_)
            · have hq := bi_eq0.mp c_93
              refine ac_iconst 107 1 dX8_isApart_106 rfl (by decide) ?_
              refine ac_goto 111 dX8_isApart_107 (by decide) ?_
              refine ac_istore_n 112 [some (Value.ref 121), some (Value.int (nI j)), some (Value.int x), some (Value.int 1), some (Value.int (nI k)), some (Value.int (M 122 (64 + (k)))), some (Value.int 0), some (Value.int 0)] dX8_isApart_111 rfl rfl (Nat.le_of_ble_eq_true rfl) (by decide) rfl ?_
              refine ac_iinc 115 (nI (k + 1)) [some (Value.ref 121), some (Value.int (nI j)), some (Value.int x), some (Value.int 1), some (Value.int (nI (k + 1))), some (Value.int (M 122 (64 + (k)))), some (Value.int 0), some (Value.int 0)] dX8_isApart_112 rfl rfl (nI_1 _) rfl (by decide) rfl ?_
              refine ac_goto 5 dX8_isApart_115 (by decide) ?_
              refine ac_kill 5 [some (Value.ref 121), some (Value.int (nI j)), some (Value.int x), some (Value.int 1), some (Value.int (nI (k + 1))), none, some (Value.int 0), some (Value.int 0)] rfl ?_
              refine ac_kill 6 [some (Value.ref 121), some (Value.int (nI j)), some (Value.int x), some (Value.int 1), some (Value.int (nI (k + 1))), none, none, some (Value.int 0)] rfl ?_
              refine ac_kill 7 [some (Value.ref 121), some (Value.int (nI j)), some (Value.int x), some (Value.int 1), some (Value.int (nI (k + 1))), none, none, none] rfl ?_
              rw [show bi (∀ q, q < k + 1 → (M 122 (64 + q) = -9 ∨ x + M 122 (4 + 4 * j) + M 122 2 ≤ M 122 (64 + q) ∨ M 122 (64 + q) + M 122 (4 + 4 * q) + M 122 2 ≤ x)) = 1 from (bi_t (all_suc.mpr ⟨hb, by first | exact Or.inl (Classical.not_not.mp hq) | exact Or.inr (Or.inl (Int32.not_lt.mp c_45)) | exact Or.inr (Or.inr (Int32.not_lt.mp c_73))⟩))] at ih
              exact ih
            · have hq := bi_ne0.mp c_93
              refine ac_iload 98 dX8_isApart_96 rfl rfl ?_
              refine ac_if_ne 106 101 dX8_isApart_98 (by decide) rfl (fun c_98 => absurd (by decide) c_98) (fun _ => ?_)
              refine ac_iload 103 dX8_isApart_101 rfl rfl ?_
              refine ac_if_eq 110 106 dX8_isApart_103 (by decide) rfl (fun _ => ?_) (fun c_103 => absurd (by decide) c_103)
              refine ac_iconst 111 0 dX8_isApart_110 rfl (by decide) ?_
              refine ac_istore_n 112 [some (Value.ref 121), some (Value.int (nI j)), some (Value.int x), some (Value.int 0), some (Value.int (nI k)), some (Value.int (M 122 (64 + (k)))), some (Value.int 0), some (Value.int 0)] dX8_isApart_111 rfl rfl (Nat.le_of_ble_eq_true rfl) (by decide) rfl ?_
              refine ac_iinc 115 (nI (k + 1)) [some (Value.ref 121), some (Value.int (nI j)), some (Value.int x), some (Value.int 0), some (Value.int (nI (k + 1))), some (Value.int (M 122 (64 + (k)))), some (Value.int 0), some (Value.int 0)] dX8_isApart_112 rfl rfl (nI_1 _) rfl (by decide) rfl ?_
              refine ac_goto 5 dX8_isApart_115 (by decide) ?_
              refine ac_kill 5 [some (Value.ref 121), some (Value.int (nI j)), some (Value.int x), some (Value.int 0), some (Value.int (nI (k + 1))), none, some (Value.int 0), some (Value.int 0)] rfl ?_
              refine ac_kill 6 [some (Value.ref 121), some (Value.int (nI j)), some (Value.int x), some (Value.int 0), some (Value.int (nI (k + 1))), none, none, some (Value.int 0)] rfl ?_
              refine ac_kill 7 [some (Value.ref 121), some (Value.int (nI j)), some (Value.int x), some (Value.int 0), some (Value.int (nI (k + 1))), none, none, none] rfl ?_
              rw [show bi (∀ q, q < k + 1 → (M 122 (64 + q) = -9 ∨ x + M 122 (4 + 4 * j) + M 122 2 ≤ M 122 (64 + q) ∨ M 122 (64 + q) + M 122 (4 + 4 * q) + M 122 2 ≤ x)) = 0 from (bi_f (by first | exact fun h => hb (all_suc.mp h).1 | exact fun h => ((all_suc.mp h).2).elim hq (fun h2 => h2.elim (fun h3 => absurd c_45 (Int32.not_lt.mpr h3)) (fun h3 => absurd c_73 (Int32.not_lt.mpr h3)))))] at ih
              exact ih
        · refine ac_iconst 77 1 dX8_isApart_76 rfl (by decide) ?_
          refine ac_goto 81 dX8_isApart_77 (by decide) ?_
          refine ac_istore 83 [some (Value.ref 121), some (Value.int (nI j)), some (Value.int x), some (Value.int (bi (∀ q, q < k → (M 122 (64 + q) = -9 ∨ x + M 122 (4 + 4 * j) + M 122 2 ≤ M 122 (64 + q) ∨ M 122 (64 + q) + M 122 (4 + 4 * q) + M 122 2 ≤ x)))), some (Value.int (nI k)), some (Value.int (M 122 (64 + (k)))), some (Value.int 0), some (Value.int 1)] dX8_isApart_81 rfl rfl (Nat.le_of_ble_eq_true rfl) (by decide) rfl ?_
          refine ac_iload_n 84 dX8_isApart_83 rfl rfl ?_
          refine ac_if_eq 110 87 dX8_isApart_84 (by decide) rfl (fun c_84 => ?_) (fun c_84 => ?_)
          · have hb := bi_eq0.mp c_84
            refine ac_iconst 111 0 dX8_isApart_110 rfl (by decide) ?_
            refine ac_istore_n 112 [some (Value.ref 121), some (Value.int (nI j)), some (Value.int x), some (Value.int 0), some (Value.int (nI k)), some (Value.int (M 122 (64 + (k)))), some (Value.int 0), some (Value.int 1)] dX8_isApart_111 rfl rfl (Nat.le_of_ble_eq_true rfl) (by decide) rfl ?_
            refine ac_iinc 115 (nI (k + 1)) [some (Value.ref 121), some (Value.int (nI j)), some (Value.int x), some (Value.int 0), some (Value.int (nI (k + 1))), some (Value.int (M 122 (64 + (k)))), some (Value.int 0), some (Value.int 1)] dX8_isApart_112 rfl rfl (nI_1 _) rfl (by decide) rfl ?_
            refine ac_goto 5 dX8_isApart_115 (by decide) ?_
            refine ac_kill 5 [some (Value.ref 121), some (Value.int (nI j)), some (Value.int x), some (Value.int 0), some (Value.int (nI (k + 1))), none, some (Value.int 0), some (Value.int 1)] rfl ?_
            refine ac_kill 6 [some (Value.ref 121), some (Value.int (nI j)), some (Value.int x), some (Value.int 0), some (Value.int (nI (k + 1))), none, none, some (Value.int 1)] rfl ?_
            refine ac_kill 7 [some (Value.ref 121), some (Value.int (nI j)), some (Value.int x), some (Value.int 0), some (Value.int (nI (k + 1))), none, none, none] rfl ?_
            rw [show bi (∀ q, q < k + 1 → (M 122 (64 + q) = -9 ∨ x + M 122 (4 + 4 * j) + M 122 2 ≤ M 122 (64 + q) ∨ M 122 (64 + q) + M 122 (4 + 4 * q) + M 122 2 ≤ x)) = 0 from (bi_f (by first | exact fun h => hb (all_suc.mp h).1 | exact fun h => ((all_suc.mp h).2).elim hq (fun h2 => h2.elim (fun h3 => absurd c_45 (Int32.not_lt.mpr h3)) (fun h3 => absurd c_73 (Int32.not_lt.mpr h3)))))] at ih
            exact ih
          · have hb := bi_ne0.mp c_84
            refine ac_aload_n 88 dX8_isApart_87 rfl rfl ?_
            refine ac_iload 90 dX8_isApart_88 rfl rfl ?_
            refine ac_callV (μ' := m8_hangsNow) 93 dX8_isApart_90 rfl lk8_122 m8_hangsNow_V ob121 (c8_hangsNow (j := (k)) (by omega)) rfl rfl (by decide) (Nat.le_of_ble_eq_true rfl) ?_
            refine ac_if_eq 106 96 dX8_isApart_93 (by decide) rfl (fun c_93 => ?_) (fun c_93 => ?_)
            · have hq := bi_eq0.mp c_93
              refine ac_iconst 107 1 dX8_isApart_106 rfl (by decide) ?_
              refine ac_goto 111 dX8_isApart_107 (by decide) ?_
              refine ac_istore_n 112 [some (Value.ref 121), some (Value.int (nI j)), some (Value.int x), some (Value.int 1), some (Value.int (nI k)), some (Value.int (M 122 (64 + (k)))), some (Value.int 0), some (Value.int 1)] dX8_isApart_111 rfl rfl (Nat.le_of_ble_eq_true rfl) (by decide) rfl ?_
              refine ac_iinc 115 (nI (k + 1)) [some (Value.ref 121), some (Value.int (nI j)), some (Value.int x), some (Value.int 1), some (Value.int (nI (k + 1))), some (Value.int (M 122 (64 + (k)))), some (Value.int 0), some (Value.int 1)] dX8_isApart_112 rfl rfl (nI_1 _) rfl (by decide) rfl ?_
              refine ac_goto 5 dX8_isApart_115 (by decide) ?_
              refine ac_kill 5 [some (Value.ref 121), some (Value.int (nI j)), some (Value.int x), some (Value.int 1), some (Value.int (nI (k + 1))), none, some (Value.int 0), some (Value.int 1)] rfl ?_
              refine ac_kill 6 [some (Value.ref 121), some (Value.int (nI j)), some (Value.int x), some (Value.int 1), some (Value.int (nI (k + 1))), none, none, some (Value.int 1)] rfl ?_
              refine ac_kill 7 [some (Value.ref 121), some (Value.int (nI j)), some (Value.int x), some (Value.int 1), some (Value.int (nI (k + 1))), none, none, none] rfl ?_
              rw [show bi (∀ q, q < k + 1 → (M 122 (64 + q) = -9 ∨ x + M 122 (4 + 4 * j) + M 122 2 ≤ M 122 (64 + q) ∨ M 122 (64 + q) + M 122 (4 + 4 * q) + M 122 2 ≤ x)) = 1 from (bi_t (all_suc.mpr ⟨hb, by first | exact Or.inl (Classical.not_not.mp hq) | exact Or.inr (Or.inl (Int32.not_lt.mp c_45)) | exact Or.inr (Or.inr (Int32.not_lt.mp c_73))⟩))] at ih
              exact ih
            · have hq := bi_ne0.mp c_93
              refine ac_iload 98 dX8_isApart_96 rfl rfl ?_
              refine ac_if_ne 106 101 dX8_isApart_98 (by decide) rfl (fun c_98 => absurd (by decide) c_98) (fun _ => ?_)
              refine ac_iload 103 dX8_isApart_101 rfl rfl ?_
              refine ac_if_eq 110 106 dX8_isApart_103 (by decide) rfl (fun c_103 => absurd c_103 (by decide)) (fun _ => ?_)
              refine ac_iconst 107 1 dX8_isApart_106 rfl (by decide) ?_
              refine ac_goto 111 dX8_isApart_107 (by decide) ?_
              refine ac_istore_n 112 [some (Value.ref 121), some (Value.int (nI j)), some (Value.int x), some (Value.int 1), some (Value.int (nI k)), some (Value.int (M 122 (64 + (k)))), some (Value.int 0), some (Value.int 1)] dX8_isApart_111 rfl rfl (Nat.le_of_ble_eq_true rfl) (by decide) rfl ?_
              refine ac_iinc 115 (nI (k + 1)) [some (Value.ref 121), some (Value.int (nI j)), some (Value.int x), some (Value.int 1), some (Value.int (nI (k + 1))), some (Value.int (M 122 (64 + (k)))), some (Value.int 0), some (Value.int 1)] dX8_isApart_112 rfl rfl (nI_1 _) rfl (by decide) rfl ?_
              refine ac_goto 5 dX8_isApart_115 (by decide) ?_
              refine ac_kill 5 [some (Value.ref 121), some (Value.int (nI j)), some (Value.int x), some (Value.int 1), some (Value.int (nI (k + 1))), none, some (Value.int 0), some (Value.int 1)] rfl ?_
              refine ac_kill 6 [some (Value.ref 121), some (Value.int (nI j)), some (Value.int x), some (Value.int 1), some (Value.int (nI (k + 1))), none, none, some (Value.int 1)] rfl ?_
              refine ac_kill 7 [some (Value.ref 121), some (Value.int (nI j)), some (Value.int x), some (Value.int 1), some (Value.int (nI (k + 1))), none, none, none] rfl ?_
              rw [show bi (∀ q, q < k + 1 → (M 122 (64 + q) = -9 ∨ x + M 122 (4 + 4 * j) + M 122 2 ≤ M 122 (64 + q) ∨ M 122 (64 + q) + M 122 (4 + 4 * q) + M 122 2 ≤ x)) = 1 from (bi_t (all_suc.mpr ⟨hb, by first | exact Or.inl (Classical.not_not.mp hq) | exact Or.inr (Or.inl (Int32.not_lt.mp c_45)) | exact Or.inr (Or.inr (Int32.not_lt.mp c_73))⟩))] at ih
              exact ih
      · refine ac_iconst 49 1 dX8_isApart_48 rfl (by decide) ?_
        refine ac_goto 53 dX8_isApart_49 (by decide) ?_
        refine ac_istore 55 [some (Value.ref 121), some (Value.int (nI j)), some (Value.int x), some (Value.int (bi (∀ q, q < k → (M 122 (64 + q) = -9 ∨ x + M 122 (4 + 4 * j) + M 122 2 ≤ M 122 (64 + q) ∨ M 122 (64 + q) + M 122 (4 + 4 * q) + M 122 2 ≤ x)))), some (Value.int (nI k)), some (Value.int (M 122 (64 + (k)))), some (Value.int 1), none] dX8_isApart_53 rfl rfl (Nat.le_of_ble_eq_true rfl) (by decide) rfl ?_
        refine ac_iload 57 dX8_isApart_55 rfl rfl ?_
        refine ac_aload_n 58 dX8_isApart_57 rfl rfl ?_
        refine ac_iload 60 dX8_isApart_58 rfl rfl ?_
        refine ac_iconst 61 0 dX8_isApart_60 rfl (by decide) ?_
        refine ac_callV (μ' := m8_ofPicture) 64 dX8_isApart_61 rfl lk8_118 m8_ofPicture_V ob121 (c8_ofPicture (w := 0) (by omega) (by decide)) rfl rfl (by decide) (Nat.le_of_ble_eq_true rfl) ?_
        refine ac_iadd 65 dX8_isApart_64 rfl ?_
        refine ac_aload_n 66 dX8_isApart_65 rfl rfl ?_
        refine ac_getO 69 122 dX8_isApart_66 rfl fl8_7 ob121 rfl ?_
        refine ac_iconst 70 2 dX8_isApart_69 rfl (by decide) ?_
        refine ac_iald 71 dX8_isApart_70 rfl ar122 (ix_nI (k := 2) (by decide) (by decide)) ?_
        refine ac_iadd 72 dX8_isApart_71 rfl ?_
        refine ac_iload_n 73 dX8_isApart_72 rfl rfl ?_
        refine ac_icmp_gt 80 76 dX8_isApart_73 (by decide) rfl (fun c_73 => ?_) (fun c_73 => ?_)
        · refine ac_iconst 81 0 dX8_isApart_80 rfl (by decide) ?_
          refine ac_istore 83 [some (Value.ref 121), some (Value.int (nI j)), some (Value.int x), some (Value.int (bi (∀ q, q < k → (M 122 (64 + q) = -9 ∨ x + M 122 (4 + 4 * j) + M 122 2 ≤ M 122 (64 + q) ∨ M 122 (64 + q) + M 122 (4 + 4 * q) + M 122 2 ≤ x)))), some (Value.int (nI k)), some (Value.int (M 122 (64 + (k)))), some (Value.int 1), some (Value.int 0)] dX8_isApart_81 rfl rfl (Nat.le_of_ble_eq_true rfl) (by decide) rfl ?_
          refine ac_iload_n 84 dX8_isApart_83 rfl rfl ?_
          refine ac_if_eq 110 87 dX8_isApart_84 (by decide) rfl (fun c_84 => ?_) (fun c_84 => ?_)
          · have hb := bi_eq0.mp c_84
            refine ac_iconst 111 0 dX8_isApart_110 rfl (by decide) ?_
            refine ac_istore_n 112 [some (Value.ref 121), some (Value.int (nI j)), some (Value.int x), some (Value.int 0), some (Value.int (nI k)), some (Value.int (M 122 (64 + (k)))), some (Value.int 1), some (Value.int 0)] dX8_isApart_111 rfl rfl (Nat.le_of_ble_eq_true rfl) (by decide) rfl ?_
            refine ac_iinc 115 (nI (k + 1)) [some (Value.ref 121), some (Value.int (nI j)), some (Value.int x), some (Value.int 0), some (Value.int (nI (k + 1))), some (Value.int (M 122 (64 + (k)))), some (Value.int 1), some (Value.int 0)] dX8_isApart_112 rfl rfl (nI_1 _) rfl (by decide) rfl ?_
            refine ac_goto 5 dX8_isApart_115 (by decide) ?_
            refine ac_kill 5 [some (Value.ref 121), some (Value.int (nI j)), some (Value.int x), some (Value.int 0), some (Value.int (nI (k + 1))), none, some (Value.int 1), some (Value.int 0)] rfl ?_
            refine ac_kill 6 [some (Value.ref 121), some (Value.int (nI j)), some (Value.int x), some (Value.int 0), some (Value.int (nI (k + 1))), none, none, some (Value.int 0)] rfl ?_
            refine ac_kill 7 [some (Value.ref 121), some (Value.int (nI j)), some (Value.int x), some (Value.int 0), some (Value.int (nI (k + 1))), none, none, none] rfl ?_
            rw [show bi (∀ q, q < k + 1 → (M 122 (64 + q) = -9 ∨ x + M 122 (4 + 4 * j) + M 122 2 ≤ M 122 (64 + q) ∨ M 122 (64 + q) + M 122 (4 + 4 * q) + M 122 2 ≤ x)) = 0 from (bi_f (by first | exact fun h => hb (all_suc.mp h).1 | exact fun h => ((all_suc.mp h).2).elim hq (fun h2 => h2.elim (fun h3 => absurd c_45 (Int32.not_lt.mpr h3)) (fun h3 => absurd c_73 (Int32.not_lt.mpr h3)))))] at ih
            exact ih
          · have hb := bi_ne0.mp c_84
            refine ac_aload_n 88 dX8_isApart_87 rfl rfl ?_
            refine ac_iload 90 dX8_isApart_88 rfl rfl ?_
            refine ac_callV (μ' := m8_hangsNow) 93 dX8_isApart_90 rfl lk8_122 m8_hangsNow_V ob121 (c8_hangsNow (j := (k)) (by omega)) rfl rfl (by decide) (Nat.le_of_ble_eq_true rfl) ?_
            refine ac_if_eq 106 96 dX8_isApart_93 (by decide) rfl (fun c_93 => ?_) (fun c_93 => ?_)
            · have hq := bi_eq0.mp c_93
              refine ac_iconst 107 1 dX8_isApart_106 rfl (by decide) ?_
              refine ac_goto 111 dX8_isApart_107 (by decide) ?_
              refine ac_istore_n 112 [some (Value.ref 121), some (Value.int (nI j)), some (Value.int x), some (Value.int 1), some (Value.int (nI k)), some (Value.int (M 122 (64 + (k)))), some (Value.int 1), some (Value.int 0)] dX8_isApart_111 rfl rfl (Nat.le_of_ble_eq_true rfl) (by decide) rfl ?_
              refine ac_iinc 115 (nI (k + 1)) [some (Value.ref 121), some (Value.int (nI j)), some (Value.int x), some (Value.int 1), some (Value.int (nI (k + 1))), some (Value.int (M 122 (64 + (k)))), some (Value.int 1), some (Value.int 0)] dX8_isApart_112 rfl rfl (nI_1 _) rfl (by decide) rfl ?_
              refine ac_goto 5 dX8_isApart_115 (by decide) ?_
              refine ac_kill 5 [some (Value.ref 121), some (Value.int (nI j)), some (Value.int x), some (Value.int 1), some (Value.int (nI (k + 1))), none, some (Value.int 1), some (Value.int 0)] rfl ?_
              refine ac_kill 6 [some (Value.ref 121), some (Value.int (nI j)), some (Value.int x), some (Value.int 1), some (Value.int (nI (k + 1))), none, none, some (Value.int 0)] rfl ?_
              refine ac_kill 7 [some (Value.ref 121), some (Value.int (nI j)), some (Value.int x), some (Value.int 1), some (Value.int (nI (k + 1))), none, none, none] rfl ?_
              rw [show bi (∀ q, q < k + 1 → (M 122 (64 + q) = -9 ∨ x + M 122 (4 + 4 * j) + M 122 2 ≤ M 122 (64 + q) ∨ M 122 (64 + q) + M 122 (4 + 4 * q) + M 122 2 ≤ x)) = 1 from (bi_t (all_suc.mpr ⟨hb, by first | exact Or.inl (Classical.not_not.mp hq) | exact Or.inr (Or.inl (Int32.not_lt.mp c_45)) | exact Or.inr (Or.inr (Int32.not_lt.mp c_73))⟩))] at ih
              exact ih
            · have hq := bi_ne0.mp c_93
              refine ac_iload 98 dX8_isApart_96 rfl rfl ?_
              refine ac_if_ne 106 101 dX8_isApart_98 (by decide) rfl (fun _ => ?_) (fun c_98 => absurd c_98 (by decide))
              refine ac_iconst 107 1 dX8_isApart_106 rfl (by decide) ?_
              refine ac_goto 111 dX8_isApart_107 (by decide) ?_
              refine ac_istore_n 112 [some (Value.ref 121), some (Value.int (nI j)), some (Value.int x), some (Value.int 1), some (Value.int (nI k)), some (Value.int (M 122 (64 + (k)))), some (Value.int 1), some (Value.int 0)] dX8_isApart_111 rfl rfl (Nat.le_of_ble_eq_true rfl) (by decide) rfl ?_
              refine ac_iinc 115 (nI (k + 1)) [some (Value.ref 121), some (Value.int (nI j)), some (Value.int x), some (Value.int 1), some (Value.int (nI (k + 1))), some (Value.int (M 122 (64 + (k)))), some (Value.int 1), some (Value.int 0)] dX8_isApart_112 rfl rfl (nI_1 _) rfl (by decide) rfl ?_
              refine ac_goto 5 dX8_isApart_115 (by decide) ?_
              refine ac_kill 5 [some (Value.ref 121), some (Value.int (nI j)), some (Value.int x), some (Value.int 1), some (Value.int (nI (k + 1))), none, some (Value.int 1), some (Value.int 0)] rfl ?_
              refine ac_kill 6 [some (Value.ref 121), some (Value.int (nI j)), some (Value.int x), some (Value.int 1), some (Value.int (nI (k + 1))), none, none, some (Value.int 0)] rfl ?_
              refine ac_kill 7 [some (Value.ref 121), some (Value.int (nI j)), some (Value.int x), some (Value.int 1), some (Value.int (nI (k + 1))), none, none, none] rfl ?_
              rw [show bi (∀ q, q < k + 1 → (M 122 (64 + q) = -9 ∨ x + M 122 (4 + 4 * j) + M 122 2 ≤ M 122 (64 + q) ∨ M 122 (64 + q) + M 122 (4 + 4 * q) + M 122 2 ≤ x)) = 1 from (bi_t (all_suc.mpr ⟨hb, by first | exact Or.inl (Classical.not_not.mp hq) | exact Or.inr (Or.inl (Int32.not_lt.mp c_45)) | exact Or.inr (Or.inr (Int32.not_lt.mp c_73))⟩))] at ih
              exact ih
        · refine ac_iconst 77 1 dX8_isApart_76 rfl (by decide) ?_
          refine ac_goto 81 dX8_isApart_77 (by decide) ?_
          refine ac_istore 83 [some (Value.ref 121), some (Value.int (nI j)), some (Value.int x), some (Value.int (bi (∀ q, q < k → (M 122 (64 + q) = -9 ∨ x + M 122 (4 + 4 * j) + M 122 2 ≤ M 122 (64 + q) ∨ M 122 (64 + q) + M 122 (4 + 4 * q) + M 122 2 ≤ x)))), some (Value.int (nI k)), some (Value.int (M 122 (64 + (k)))), some (Value.int 1), some (Value.int 1)] dX8_isApart_81 rfl rfl (Nat.le_of_ble_eq_true rfl) (by decide) rfl ?_
          refine ac_iload_n 84 dX8_isApart_83 rfl rfl ?_
          refine ac_if_eq 110 87 dX8_isApart_84 (by decide) rfl (fun c_84 => ?_) (fun c_84 => ?_)
          · have hb := bi_eq0.mp c_84
            refine ac_iconst 111 0 dX8_isApart_110 rfl (by decide) ?_
            refine ac_istore_n 112 [some (Value.ref 121), some (Value.int (nI j)), some (Value.int x), some (Value.int 0), some (Value.int (nI k)), some (Value.int (M 122 (64 + (k)))), some (Value.int 1), some (Value.int 1)] dX8_isApart_111 rfl rfl (Nat.le_of_ble_eq_true rfl) (by decide) rfl ?_
            refine ac_iinc 115 (nI (k + 1)) [some (Value.ref 121), some (Value.int (nI j)), some (Value.int x), some (Value.int 0), some (Value.int (nI (k + 1))), some (Value.int (M 122 (64 + (k)))), some (Value.int 1), some (Value.int 1)] dX8_isApart_112 rfl rfl (nI_1 _) rfl (by decide) rfl ?_
            refine ac_goto 5 dX8_isApart_115 (by decide) ?_
            refine ac_kill 5 [some (Value.ref 121), some (Value.int (nI j)), some (Value.int x), some (Value.int 0), some (Value.int (nI (k + 1))), none, some (Value.int 1), some (Value.int 1)] rfl ?_
            refine ac_kill 6 [some (Value.ref 121), some (Value.int (nI j)), some (Value.int x), some (Value.int 0), some (Value.int (nI (k + 1))), none, none, some (Value.int 1)] rfl ?_
            refine ac_kill 7 [some (Value.ref 121), some (Value.int (nI j)), some (Value.int x), some (Value.int 0), some (Value.int (nI (k + 1))), none, none, none] rfl ?_
            rw [show bi (∀ q, q < k + 1 → (M 122 (64 + q) = -9 ∨ x + M 122 (4 + 4 * j) + M 122 2 ≤ M 122 (64 + q) ∨ M 122 (64 + q) + M 122 (4 + 4 * q) + M 122 2 ≤ x)) = 0 from (bi_f (by first | exact fun h => hb (all_suc.mp h).1 | exact fun h => ((all_suc.mp h).2).elim hq (fun h2 => h2.elim (fun h3 => absurd c_45 (Int32.not_lt.mpr h3)) (fun h3 => absurd c_73 (Int32.not_lt.mpr h3)))))] at ih
            exact ih
          · have hb := bi_ne0.mp c_84
            refine ac_aload_n 88 dX8_isApart_87 rfl rfl ?_
            refine ac_iload 90 dX8_isApart_88 rfl rfl ?_
            refine ac_callV (μ' := m8_hangsNow) 93 dX8_isApart_90 rfl lk8_122 m8_hangsNow_V ob121 (c8_hangsNow (j := (k)) (by omega)) rfl rfl (by decide) (Nat.le_of_ble_eq_true rfl) ?_
            refine ac_if_eq 106 96 dX8_isApart_93 (by decide) rfl (fun c_93 => ?_) (fun c_93 => ?_)
            · have hq := bi_eq0.mp c_93
              refine ac_iconst 107 1 dX8_isApart_106 rfl (by decide) ?_
              refine ac_goto 111 dX8_isApart_107 (by decide) ?_
              refine ac_istore_n 112 [some (Value.ref 121), some (Value.int (nI j)), some (Value.int x), some (Value.int 1), some (Value.int (nI k)), some (Value.int (M 122 (64 + (k)))), some (Value.int 1), some (Value.int 1)] dX8_isApart_111 rfl rfl (Nat.le_of_ble_eq_true rfl) (by decide) rfl ?_
              refine ac_iinc 115 (nI (k + 1)) [some (Value.ref 121), some (Value.int (nI j)), some (Value.int x), some (Value.int 1), some (Value.int (nI (k + 1))), some (Value.int (M 122 (64 + (k)))), some (Value.int 1), some (Value.int 1)] dX8_isApart_112 rfl rfl (nI_1 _) rfl (by decide) rfl ?_
              refine ac_goto 5 dX8_isApart_115 (by decide) ?_
              refine ac_kill 5 [some (Value.ref 121), some (Value.int (nI j)), some (Value.int x), some (Value.int 1), some (Value.int (nI (k + 1))), none, some (Value.int 1), some (Value.int 1)] rfl ?_
              refine ac_kill 6 [some (Value.ref 121), some (Value.int (nI j)), some (Value.int x), some (Value.int 1), some (Value.int (nI (k + 1))), none, none, some (Value.int 1)] rfl ?_
              refine ac_kill 7 [some (Value.ref 121), some (Value.int (nI j)), some (Value.int x), some (Value.int 1), some (Value.int (nI (k + 1))), none, none, none] rfl ?_
              rw [show bi (∀ q, q < k + 1 → (M 122 (64 + q) = -9 ∨ x + M 122 (4 + 4 * j) + M 122 2 ≤ M 122 (64 + q) ∨ M 122 (64 + q) + M 122 (4 + 4 * q) + M 122 2 ≤ x)) = 1 from (bi_t (all_suc.mpr ⟨hb, by first | exact Or.inl (Classical.not_not.mp hq) | exact Or.inr (Or.inl (Int32.not_lt.mp c_45)) | exact Or.inr (Or.inr (Int32.not_lt.mp c_73))⟩))] at ih
              exact ih
            · have hq := bi_ne0.mp c_93
              refine ac_iload 98 dX8_isApart_96 rfl rfl ?_
              refine ac_if_ne 106 101 dX8_isApart_98 (by decide) rfl (fun _ => ?_) (fun c_98 => absurd c_98 (by decide))
              refine ac_iconst 107 1 dX8_isApart_106 rfl (by decide) ?_
              refine ac_goto 111 dX8_isApart_107 (by decide) ?_
              refine ac_istore_n 112 [some (Value.ref 121), some (Value.int (nI j)), some (Value.int x), some (Value.int 1), some (Value.int (nI k)), some (Value.int (M 122 (64 + (k)))), some (Value.int 1), some (Value.int 1)] dX8_isApart_111 rfl rfl (Nat.le_of_ble_eq_true rfl) (by decide) rfl ?_
              refine ac_iinc 115 (nI (k + 1)) [some (Value.ref 121), some (Value.int (nI j)), some (Value.int x), some (Value.int 1), some (Value.int (nI (k + 1))), some (Value.int (M 122 (64 + (k)))), some (Value.int 1), some (Value.int 1)] dX8_isApart_112 rfl rfl (nI_1 _) rfl (by decide) rfl ?_
              refine ac_goto 5 dX8_isApart_115 (by decide) ?_
              refine ac_kill 5 [some (Value.ref 121), some (Value.int (nI j)), some (Value.int x), some (Value.int 1), some (Value.int (nI (k + 1))), none, some (Value.int 1), some (Value.int 1)] rfl ?_
              refine ac_kill 6 [some (Value.ref 121), some (Value.int (nI j)), some (Value.int x), some (Value.int 1), some (Value.int (nI (k + 1))), none, none, some (Value.int 1)] rfl ?_
              refine ac_kill 7 [some (Value.ref 121), some (Value.int (nI j)), some (Value.int x), some (Value.int 1), some (Value.int (nI (k + 1))), none, none, none] rfl ?_
              rw [show bi (∀ q, q < k + 1 → (M 122 (64 + q) = -9 ∨ x + M 122 (4 + 4 * j) + M 122 2 ≤ M 122 (64 + q) ∨ M 122 (64 + q) + M 122 (4 + 4 * q) + M 122 2 ≤ x)) = 1 from (bi_t (all_suc.mpr ⟨hb, by first | exact Or.inl (Classical.not_not.mp hq) | exact Or.inr (Or.inl (Int32.not_lt.mp c_45)) | exact Or.inr (Or.inr (Int32.not_lt.mp c_73))⟩))] at ih
              exact ih
  refine ac_iconst 3 0 dX8_isApart_2 rfl (by decide) ?_
  refine ac_istore 5 [some (Value.ref 121), some (Value.int (nI j)), some (Value.int x), some (Value.int 1), some (Value.int 0), none, none, none] dX8_isApart_3 rfl rfl (Nat.le_of_ble_eq_true rfl) (by decide) rfl ?_
  rw [show bi (∀ q, q < 0 → (M 122 (64 + q) = -9 ∨ x + M 122 (4 + 4 * j) + M 122 2 ≤ M 122 (64 + q) ∨ M 122 (64 + q) + M 122 (4 + 4 * q) + M 122 2 ≤ x)) = 1 from bi_t (fun q hq => absurd hq (Nat.not_lt_zero q))] at hL
  exact hL
set_option maxRecDepth 20000 in
theorem c8_holeAt {M : am_I} {V : am_J} {f : Nat → Option Nat} {np nd nh : Nat} (hn : NC (M 122) np nd nh) (X Y : Int32) : CT m8_holeAt 1 [Value.ref 121, Value.int X, Value.int Y] M V f (RV (laN (fun k => M 122 (32 + 2 * k) = X ∧ M 122 (32 + 2 * k + 1) = Y) nh) M V f) := by
  have hnh := hn.2.2.2.2.2
  refine CT.of m8_holeAt_V.1 _ (en_aii_5 121 X Y) ?_
  refine ac_bipush 2 (-9) dX8_holeAt_0 rfl (by decide) ?_
  refine ac_istore_n 3 [some (Value.ref 121), some (Value.int X), some (Value.int Y), some (Value.int (-9)), none] dX8_holeAt_2 rfl rfl (Nat.le_of_ble_eq_true rfl) (by decide) rfl ?_
  have hL : A0 m8_holeAt 1 6 [some (Value.ref 121), some (Value.int X), some (Value.int Y), some (Value.int (laN (fun k => M 122 (32 + 2 * k) = X ∧ M 122 (32 + 2 * k + 1) = Y) 0)), some (Value.int (nI 0))] [] M V f (RV (laN (fun k => M 122 (32 + 2 * k) = X ∧ M 122 (32 + 2 * k + 1) = Y) nh) M V f) := by
    refine ac_down (n := nh) (P := fun k => A0 m8_holeAt 1 6 [some (Value.ref 121), some (Value.int X), some (Value.int Y), some (Value.int (laN (fun k => M 122 (32 + 2 * k) = X ∧ M 122 (32 + 2 * k + 1) = Y) k)), some (Value.int (nI k))] [] M V f (RV (laN (fun k => M 122 (32 + 2 * k) = X ∧ M 122 (32 + 2 * k + 1) = Y) nh) M V f)) ?_ ?_ 0 (Nat.zero_le _) 
    · refine ac_iload 8 dX8_holeAt_6 rfl rfl ?_
      refine ac_aload_n 9 dX8_holeAt_8 rfl rfl ?_
      refine ac_getO 12 122 dX8_holeAt_9 rfl fl8_7 ob121 rfl ?_
      refine ac_bipush 14 31 dX8_holeAt_12 rfl (by decide) ?_
      refine ac_iald 15 dX8_holeAt_14 rfl ar122 (ix_nI (k := 31) (by decide) (by decide)) ?_
      refine ac_icmp_ge 65 18 dX8_holeAt_15 (by decide) rfl (fun _ => ?_) (fun c_15 => absurd (by rw [hn.2.2.2.2.1]; exact Int32.le_refl _) c_15)
      refine ac_iload_n 66 dX8_holeAt_65 rfl rfl ?_
      refine ac_iret dX8_holeAt_66 ⟨_, rfl, rfl⟩ ?_
      exact rv_mk rfl
    · intro k hk ih
      refine ac_iload 8 dX8_holeAt_6 rfl rfl ?_
      refine ac_aload_n 9 dX8_holeAt_8 rfl rfl ?_
      refine ac_getO 12 122 dX8_holeAt_9 rfl fl8_7 ob121 rfl ?_
      refine ac_bipush 14 31 dX8_holeAt_12 rfl (by decide) ?_
      refine ac_iald 15 dX8_holeAt_14 rfl ar122 (ix_nI (k := 31) (by decide) (by decide)) ?_
      refine ac_icmp_ge 65 18 dX8_holeAt_15 (by decide) rfl (fun c_15 => absurd c_15 (by rw [hn.2.2.2.2.1]; exact nI_ge hk (by omega))) (fun _ => ?_)
      refine ac_aload_n 19 dX8_holeAt_18 rfl rfl ?_
      refine ac_getO 22 122 dX8_holeAt_19 rfl fl8_7 ob121 rfl ?_
      refine ac_bipush 24 32 dX8_holeAt_22 rfl (by decide) ?_
      refine ac_iconst 25 2 dX8_holeAt_24 rfl (by decide) ?_
      refine ac_iload 27 dX8_holeAt_25 rfl rfl ?_
      refine ac_imul 28 dX8_holeAt_27 rfl ?_
      refine ac_iadd 29 dX8_holeAt_28 rfl ?_
      refine ac_iald 30 dX8_holeAt_29 rfl ar122 (ix_of (k := (32 + (2 * (k)))) (by simp only [show (2 : Int32) = nI 2 from rfl, show (32 : Int32) = nI 32 from rfl, pk_mul, nI_add]) (by omega) (by decide)) ?_
      refine ac_iload_n 31 dX8_holeAt_30 rfl rfl ?_
      refine ac_icmp_ne 57 34 dX8_holeAt_31 (by decide) rfl (fun c_31 => ?_) (fun c_31 => ?_)
      · refine ac_iload_n 58 dX8_holeAt_57 rfl rfl ?_
        refine ac_istore_n 59 [some (Value.ref 121), some (Value.int X), some (Value.int Y), some (Value.int (laN (fun k => M 122 (32 + 2 * k) = X ∧ M 122 (32 + 2 * k + 1) = Y) k)), some (Value.int (nI k))] dX8_holeAt_58 rfl rfl (Nat.le_of_ble_eq_true rfl) (by decide) rfl ?_
        refine ac_iinc 62 (nI (k + 1)) [some (Value.ref 121), some (Value.int X), some (Value.int Y), some (Value.int (laN (fun k => M 122 (32 + 2 * k) = X ∧ M 122 (32 + 2 * k + 1) = Y) k)), some (Value.int (nI (k + 1)))] dX8_holeAt_59 rfl rfl (nI_1 _) rfl (by decide) rfl ?_
        refine ac_goto 6 dX8_holeAt_62 (by decide) ?_
        rw [show laN (fun k => M 122 (32 + 2 * k) = X ∧ M 122 (32 + 2 * k + 1) = Y) (k + 1) = (laN (fun k => M 122 (32 + 2 * k) = X ∧ M 122 (32 + 2 * k + 1) = Y) k) from laN_f (by first | exact fun h => c_31 h.1 | exact fun h => c_49 h.2)] at ih
        exact ih
      · refine ac_aload_n 35 dX8_holeAt_34 rfl rfl ?_
        refine ac_getO 38 122 dX8_holeAt_35 rfl fl8_7 ob121 rfl ?_
        refine ac_bipush 40 32 dX8_holeAt_38 rfl (by decide) ?_
        refine ac_iconst 41 2 dX8_holeAt_40 rfl (by decide) ?_
        refine ac_iload 43 dX8_holeAt_41 rfl rfl ?_
        refine ac_imul 44 dX8_holeAt_43 rfl ?_
        refine ac_iadd 45 dX8_holeAt_44 rfl ?_
        refine ac_iconst 46 1 dX8_holeAt_45 rfl (by decide) ?_
        refine ac_iadd 47 dX8_holeAt_46 rfl ?_
        refine ac_iald 48 dX8_holeAt_47 rfl ar122 (ix_of (k := ((32 + (2 * (k))) + 1)) (by simp only [show (1 : Int32) = nI 1 from rfl, show (2 : Int32) = nI 2 from rfl, show (32 : Int32) = nI 32 from rfl, pk_mul, nI_add]) (by omega) (by decide)) ?_
        refine ac_iload_n 49 dX8_holeAt_48 rfl rfl ?_
        refine ac_icmp_ne 57 52 dX8_holeAt_49 (by decide) rfl (fun c_49 => ?_) (fun c_49 => ?_)
        · refine ac_iload_n 58 dX8_holeAt_57 rfl rfl ?_
          refine ac_istore_n 59 [some (Value.ref 121), some (Value.int X), some (Value.int Y), some (Value.int (laN (fun k => M 122 (32 + 2 * k) = X ∧ M 122 (32 + 2 * k + 1) = Y) k)), some (Value.int (nI k))] dX8_holeAt_58 rfl rfl (Nat.le_of_ble_eq_true rfl) (by decide) rfl ?_
          refine ac_iinc 62 (nI (k + 1)) [some (Value.ref 121), some (Value.int X), some (Value.int Y), some (Value.int (laN (fun k => M 122 (32 + 2 * k) = X ∧ M 122 (32 + 2 * k + 1) = Y) k)), some (Value.int (nI (k + 1)))] dX8_holeAt_59 rfl rfl (nI_1 _) rfl (by decide) rfl ?_
          refine ac_goto 6 dX8_holeAt_62 (by decide) ?_
          rw [show laN (fun k => M 122 (32 + 2 * k) = X ∧ M 122 (32 + 2 * k + 1) = Y) (k + 1) = (laN (fun k => M 122 (32 + 2 * k) = X ∧ M 122 (32 + 2 * k + 1) = Y) k) from laN_f (by first | exact fun h => c_31 h.1 | exact fun h => c_49 h.2)] at ih
          exact ih
        · refine ac_iload 54 dX8_holeAt_52 rfl rfl ?_
          refine ac_goto 58 dX8_holeAt_54 (by decide) ?_
          refine ac_istore_n 59 [some (Value.ref 121), some (Value.int X), some (Value.int Y), some (Value.int (nI k)), some (Value.int (nI k))] dX8_holeAt_58 rfl rfl (Nat.le_of_ble_eq_true rfl) (by decide) rfl ?_
          refine ac_iinc 62 (nI (k + 1)) [some (Value.ref 121), some (Value.int X), some (Value.int Y), some (Value.int (nI k)), some (Value.int (nI (k + 1)))] dX8_holeAt_59 rfl rfl (nI_1 _) rfl (by decide) rfl ?_
          refine ac_goto 6 dX8_holeAt_62 (by decide) ?_
          rw [show laN (fun k => M 122 (32 + 2 * k) = X ∧ M 122 (32 + 2 * k + 1) = Y) (k + 1) = (nI k) from laN_t ⟨c_31, c_49⟩] at ih
          exact ih
  refine ac_iconst 4 0 dX8_holeAt_3 rfl (by decide) ?_
  refine ac_istore 6 [some (Value.ref 121), some (Value.int X), some (Value.int Y), some (Value.int (-9)), some (Value.int 0)] dX8_holeAt_4 rfl rfl (Nat.le_of_ble_eq_true rfl) (by decide) rfl ?_
  exact hL
theorem laN_ne {p : Nat → Prop} : ∀ {n : Nat}, n < 2 ^ 31 → (laN p n ≠ -9 ↔ ∃ k, k < n ∧ p k)
  | 0, _ => ⟨fun h => absurd rfl h, fun ⟨k, hk, _⟩ => absurd hk (Nat.not_lt_zero k)⟩
  | n + 1, hn => by
    by_cases h : p n
    · rw [laN_t h]
      refine ⟨fun _ => ⟨n, by omega, h⟩, fun _ h9 => ?_⟩
      have := congrArg Int32.toInt h9
      rw [nI_toInt (by omega)] at this
      have e : (-9 : Int32).toInt = -9 := by decide
      omega
    · rw [laN_f h, laN_ne (by omega), ex_suc]
      exact ⟨Or.inl, fun h2 => h2.elim id (fun h3 => absurd h3 h)⟩
set_option maxRecDepth 20000 in
theorem c8_hasHole {M : am_I} {V : am_J} {f : Nat → Option Nat} {np nd nh j : Nat} (hn : NC (M 122) np nd nh) (hj : j < 5) (x : Int32) : CT m8_hasHole 3 [Value.ref 121, Value.int (nI j), Value.int x] M V f (RV (bi (hoN (M 122) nh (hkX (M 122) j x) (hkY (M 122) j))) M V f) := by
  have hnh := hn.2.2.2.2.2
  refine CT.of m8_hasHole_V.1 _ (en_aii_3 121 (nI j) x) ?_
  refine ac_aload_n 1 dX8_hasHole_0 rfl rfl ?_
  refine ac_aload_n 2 dX8_hasHole_1 rfl rfl ?_
  refine ac_iload_n 3 dX8_hasHole_2 rfl rfl ?_
  refine ac_iload_n 4 dX8_hasHole_3 rfl rfl ?_
  refine ac_callV (μ' := m8_hookX) 7 dX8_hasHole_4 rfl lk8_126 m8_hookX_V ob121 (c8_hookX hj _) rfl rfl (by decide) (Nat.le_of_ble_eq_true rfl) ?_
  refine ac_aload_n 8 dX8_hasHole_7 rfl rfl ?_
  refine ac_iload_n 9 dX8_hasHole_8 rfl rfl ?_
  refine ac_callV (μ' := m8_hookY) 12 dX8_hasHole_9 rfl lk8_129 m8_hookY_V ob121 (c8_hookY hj) rfl rfl (by decide) (Nat.le_of_ble_eq_true rfl) ?_
  refine ac_callV (μ' := m8_holeAt) 15 dX8_hasHole_12 rfl lk8_133 m8_holeAt_V ob121 (c8_holeAt hn _ _) rfl rfl (by decide) (Nat.le_of_ble_eq_true rfl) ?_
  refine ac_bipush 17 (-9) dX8_hasHole_15 rfl (by decide) ?_
  refine ac_icmp_eq 24 20 dX8_hasHole_17 (by decide) rfl (fun c_17 => ?_) (fun c_17 => ?_)
  · refine ac_iconst 25 0 dX8_hasHole_24 rfl (by decide) ?_
    refine ac_iret dX8_hasHole_25 ⟨_, rfl, rfl⟩ ?_
    exact rv_mk (bi_f (by first | exact (laN_ne (by omega)).mp c_17 | exact fun h => absurd c_17 ((laN_ne (by omega)).mpr h) | simp_all)).symm
  · refine ac_iconst 21 1 dX8_hasHole_20 rfl (by decide) ?_
    refine ac_goto 25 dX8_hasHole_21 (by decide) ?_
    refine ac_iret dX8_hasHole_25 ⟨_, rfl, rfl⟩ ?_
    exact rv_mk (bi_t (by first | exact (laN_ne (by omega)).mp c_17 | exact fun h => absurd c_17 ((laN_ne (by omega)).mpr h) | simp_all)).symm
set_option maxRecDepth 20000 in
theorem c8_hangingAt {M : am_I} {V : am_J} {f : Nat → Option Nat} {np nd nh i : Nat} (hn : NC (M 122) np nd nh) (hi : i < 16) : CT m8_hangingAt 3 [Value.ref 121, Value.int (nI i)] M V f (RV (laN (onN (M 122) i) np) M V f) := by
  have hnp := hn.2.1
  refine CT.of m8_hangingAt_V.1 _ (en_ai_5 121 (nI i)) ?_
  refine ac_bipush 2 (-9) dX8_hangingAt_0 rfl (by decide) ?_
  refine ac_istore_n 3 [some (Value.ref 121), some (Value.int (nI i)), some (Value.int (-9)), none, none] dX8_hangingAt_2 rfl rfl (Nat.le_of_ble_eq_true rfl) (by decide) rfl ?_
  have hL : A0 m8_hangingAt 3 5 [some (Value.ref 121), some (Value.int (nI i)), some (Value.int (laN (onN (M 122) i) 0)), some (Value.int (nI 0)), none] [] M V f (RV (laN (onN (M 122) i) np) M V f) := by
    refine ac_down (n := np) (P := fun k => A0 m8_hangingAt 3 5 [some (Value.ref 121), some (Value.int (nI i)), some (Value.int (laN (onN (M 122) i) k)), some (Value.int (nI k)), none] [] M V f (RV (laN (onN (M 122) i) np) M V f)) ?_ ?_ 0 (Nat.zero_le _) 
    · refine ac_iload_n 6 dX8_hangingAt_5 rfl rfl ?_
      refine ac_aload_n 7 dX8_hangingAt_6 rfl rfl ?_
      refine ac_getO 10 122 dX8_hangingAt_7 rfl fl8_7 ob121 rfl ?_
      refine ac_iconst 11 3 dX8_hangingAt_10 rfl (by decide) ?_
      refine ac_iald 12 dX8_hangingAt_11 rfl ar122 (ix_nI (k := 3) (by decide) (by decide)) ?_
      refine ac_icmp_ge 96 15 dX8_hangingAt_12 (by decide) rfl (fun _ => ?_) (fun c_12 => absurd (by rw [hn.1]; exact Int32.le_refl _) c_12)
      refine ac_iload_n 97 dX8_hangingAt_96 rfl rfl ?_
      refine ac_iret dX8_hangingAt_97 ⟨_, rfl, rfl⟩ ?_
      exact rv_mk rfl
    · intro k hk ih
      refine ac_iload_n 6 dX8_hangingAt_5 rfl rfl ?_
      refine ac_aload_n 7 dX8_hangingAt_6 rfl rfl ?_
      refine ac_getO 10 122 dX8_hangingAt_7 rfl fl8_7 ob121 rfl ?_
      refine ac_iconst 11 3 dX8_hangingAt_10 rfl (by decide) ?_
      refine ac_iald 12 dX8_hangingAt_11 rfl ar122 (ix_nI (k := 3) (by decide) (by decide)) ?_
      refine ac_icmp_ge 96 15 dX8_hangingAt_12 (by decide) rfl (fun c_12 => absurd c_12 (by rw [hn.1]; exact nI_ge hk (by omega))) (fun _ => ?_)
      refine ac_aload_n 16 dX8_hangingAt_15 rfl rfl ?_
      refine ac_iload_n 17 dX8_hangingAt_16 rfl rfl ?_
      refine ac_callV (μ' := m8_hangsNow) 20 dX8_hangingAt_17 rfl lk8_122 m8_hangsNow_V ob121 (c8_hangsNow (j := (k)) (by omega)) rfl rfl (by decide) (Nat.le_of_ble_eq_true rfl) ?_
      refine ac_if_eq 76 23 dX8_hangingAt_20 (by decide) rfl (fun c_20 => ?_) (fun c_20 => ?_)
      · have hq := bi_eq0.mp c_20
        refine ac_iconst 77 0 dX8_hangingAt_76 rfl (by decide) ?_
        refine ac_istore 79 [some (Value.ref 121), some (Value.int (nI i)), some (Value.int (laN (onN (M 122) i) k)), some (Value.int (nI k)), some (Value.int 0)] dX8_hangingAt_77 rfl rfl (Nat.le_of_ble_eq_true rfl) (by decide) rfl ?_
        refine ac_iload 81 dX8_hangingAt_79 rfl rfl ?_
        refine ac_if_eq 88 84 dX8_hangingAt_81 (by decide) rfl (fun _ => ?_) (fun c_81 => absurd (by decide) c_81)
        refine ac_iload_n 89 dX8_hangingAt_88 rfl rfl ?_
        refine ac_istore_n 90 [some (Value.ref 121), some (Value.int (nI i)), some (Value.int (laN (onN (M 122) i) k)), some (Value.int (nI k)), some (Value.int 0)] dX8_hangingAt_89 rfl rfl (Nat.le_of_ble_eq_true rfl) (by decide) rfl ?_
        refine ac_iinc 93 (nI (k + 1)) [some (Value.ref 121), some (Value.int (nI i)), some (Value.int (laN (onN (M 122) i) k)), some (Value.int (nI (k + 1))), some (Value.int 0)] dX8_hangingAt_90 rfl rfl (nI_1 _) rfl (by decide) rfl ?_
        refine ac_goto 5 dX8_hangingAt_93 (by decide) ?_
        refine ac_kill 4 [some (Value.ref 121), some (Value.int (nI i)), some (Value.int (laN (onN (M 122) i) k)), some (Value.int (nI (k + 1))), none] rfl ?_
        rw [show laN (onN (M 122) i) (k + 1) = (laN (onN (M 122) i) k) from laN_f (by first | exact fun h => hq h.1 | exact fun h => c_48 h.2.1 | exact fun h => c_69 h.2.2)] at ih
        exact ih
      · have hq := bi_ne0.mp c_20
        refine ac_aload_n 24 dX8_hangingAt_23 rfl rfl ?_
        refine ac_iload_n 25 dX8_hangingAt_24 rfl rfl ?_
        refine ac_aload_n 26 dX8_hangingAt_25 rfl rfl ?_
        refine ac_getO 29 122 dX8_hangingAt_26 rfl fl8_7 ob121 rfl ?_
        refine ac_bipush 31 64 dX8_hangingAt_29 rfl (by decide) ?_
        refine ac_iload_n 32 dX8_hangingAt_31 rfl rfl ?_
        refine ac_iadd 33 dX8_hangingAt_32 rfl ?_
        refine ac_iald 34 dX8_hangingAt_33 rfl ar122 (ix_of (k := (64 + (k))) (by simp only [show (64 : Int32) = nI 64 from rfl, pk_mul, nI_add]) (by omega) (by decide)) ?_
        refine ac_callV (μ' := m8_hookX) 37 dX8_hangingAt_34 rfl lk8_126 m8_hookX_V ob121 (c8_hookX (by omega) _) rfl rfl (by decide) (Nat.le_of_ble_eq_true rfl) ?_
        refine ac_aload_n 38 dX8_hangingAt_37 rfl rfl ?_
        refine ac_getO 41 122 dX8_hangingAt_38 rfl fl8_7 ob121 rfl ?_
        refine ac_bipush 43 32 dX8_hangingAt_41 rfl (by decide) ?_
        refine ac_iconst 44 2 dX8_hangingAt_43 rfl (by decide) ?_
        refine ac_iload_n 45 dX8_hangingAt_44 rfl rfl ?_
        refine ac_imul 46 dX8_hangingAt_45 rfl ?_
        refine ac_iadd 47 dX8_hangingAt_46 rfl ?_
        refine ac_iald 48 dX8_hangingAt_47 rfl ar122 (ix_of (k := (32 + (2 * (i)))) (by simp only [show (2 : Int32) = nI 2 from rfl, show (32 : Int32) = nI 32 from rfl, pk_mul, nI_add]) (by omega) (by decide)) ?_
        refine ac_icmp_ne 76 51 dX8_hangingAt_48 (by decide) rfl (fun c_48 => ?_) (fun c_48 => ?_)
        · refine ac_iconst 77 0 dX8_hangingAt_76 rfl (by decide) ?_
          refine ac_istore 79 [some (Value.ref 121), some (Value.int (nI i)), some (Value.int (laN (onN (M 122) i) k)), some (Value.int (nI k)), some (Value.int 0)] dX8_hangingAt_77 rfl rfl (Nat.le_of_ble_eq_true rfl) (by decide) rfl ?_
          refine ac_iload 81 dX8_hangingAt_79 rfl rfl ?_
          refine ac_if_eq 88 84 dX8_hangingAt_81 (by decide) rfl (fun _ => ?_) (fun c_81 => absurd (by decide) c_81)
          refine ac_iload_n 89 dX8_hangingAt_88 rfl rfl ?_
          refine ac_istore_n 90 [some (Value.ref 121), some (Value.int (nI i)), some (Value.int (laN (onN (M 122) i) k)), some (Value.int (nI k)), some (Value.int 0)] dX8_hangingAt_89 rfl rfl (Nat.le_of_ble_eq_true rfl) (by decide) rfl ?_
          refine ac_iinc 93 (nI (k + 1)) [some (Value.ref 121), some (Value.int (nI i)), some (Value.int (laN (onN (M 122) i) k)), some (Value.int (nI (k + 1))), some (Value.int 0)] dX8_hangingAt_90 rfl rfl (nI_1 _) rfl (by decide) rfl ?_
          refine ac_goto 5 dX8_hangingAt_93 (by decide) ?_
          refine ac_kill 4 [some (Value.ref 121), some (Value.int (nI i)), some (Value.int (laN (onN (M 122) i) k)), some (Value.int (nI (k + 1))), none] rfl ?_
          rw [show laN (onN (M 122) i) (k + 1) = (laN (onN (M 122) i) k) from laN_f (by first | exact fun h => hq h.1 | exact fun h => c_48 h.2.1 | exact fun h => c_69 h.2.2)] at ih
          exact ih
        · refine ac_aload_n 52 dX8_hangingAt_51 rfl rfl ?_
          refine ac_iload_n 53 dX8_hangingAt_52 rfl rfl ?_
          refine ac_callV (μ' := m8_hookY) 56 dX8_hangingAt_53 rfl lk8_129 m8_hookY_V ob121 (c8_hookY (by omega)) rfl rfl (by decide) (Nat.le_of_ble_eq_true rfl) ?_
          refine ac_aload_n 57 dX8_hangingAt_56 rfl rfl ?_
          refine ac_getO 60 122 dX8_hangingAt_57 rfl fl8_7 ob121 rfl ?_
          refine ac_bipush 62 32 dX8_hangingAt_60 rfl (by decide) ?_
          refine ac_iconst 63 2 dX8_hangingAt_62 rfl (by decide) ?_
          refine ac_iload_n 64 dX8_hangingAt_63 rfl rfl ?_
          refine ac_imul 65 dX8_hangingAt_64 rfl ?_
          refine ac_iadd 66 dX8_hangingAt_65 rfl ?_
          refine ac_iconst 67 1 dX8_hangingAt_66 rfl (by decide) ?_
          refine ac_iadd 68 dX8_hangingAt_67 rfl ?_
          refine ac_iald 69 dX8_hangingAt_68 rfl ar122 (ix_of (k := ((32 + (2 * (i))) + 1)) (by simp only [show (1 : Int32) = nI 1 from rfl, show (2 : Int32) = nI 2 from rfl, show (32 : Int32) = nI 32 from rfl, pk_mul, nI_add]) (by omega) (by decide)) ?_
          refine ac_icmp_ne 76 72 dX8_hangingAt_69 (by decide) rfl (fun c_69 => ?_) (fun c_69 => ?_)
          · refine ac_iconst 77 0 dX8_hangingAt_76 rfl (by decide) ?_
            refine ac_istore 79 [some (Value.ref 121), some (Value.int (nI i)), some (Value.int (laN (onN (M 122) i) k)), some (Value.int (nI k)), some (Value.int 0)] dX8_hangingAt_77 rfl rfl (Nat.le_of_ble_eq_true rfl) (by decide) rfl ?_
            refine ac_iload 81 dX8_hangingAt_79 rfl rfl ?_
            refine ac_if_eq 88 84 dX8_hangingAt_81 (by decide) rfl (fun _ => ?_) (fun c_81 => absurd (by decide) c_81)
            refine ac_iload_n 89 dX8_hangingAt_88 rfl rfl ?_
            refine ac_istore_n 90 [some (Value.ref 121), some (Value.int (nI i)), some (Value.int (laN (onN (M 122) i) k)), some (Value.int (nI k)), some (Value.int 0)] dX8_hangingAt_89 rfl rfl (Nat.le_of_ble_eq_true rfl) (by decide) rfl ?_
            refine ac_iinc 93 (nI (k + 1)) [some (Value.ref 121), some (Value.int (nI i)), some (Value.int (laN (onN (M 122) i) k)), some (Value.int (nI (k + 1))), some (Value.int 0)] dX8_hangingAt_90 rfl rfl (nI_1 _) rfl (by decide) rfl ?_
            refine ac_goto 5 dX8_hangingAt_93 (by decide) ?_
            refine ac_kill 4 [some (Value.ref 121), some (Value.int (nI i)), some (Value.int (laN (onN (M 122) i) k)), some (Value.int (nI (k + 1))), none] rfl ?_
            rw [show laN (onN (M 122) i) (k + 1) = (laN (onN (M 122) i) k) from laN_f (by first | exact fun h => hq h.1 | exact fun h => c_48 h.2.1 | exact fun h => c_69 h.2.2)] at ih
            exact ih
          · refine ac_iconst 73 1 dX8_hangingAt_72 rfl (by decide) ?_
            refine ac_goto 77 dX8_hangingAt_73 (by decide) ?_
            refine ac_istore 79 [some (Value.ref 121), some (Value.int (nI i)), some (Value.int (laN (onN (M 122) i) k)), some (Value.int (nI k)), some (Value.int 1)] dX8_hangingAt_77 rfl rfl (Nat.le_of_ble_eq_true rfl) (by decide) rfl ?_
            refine ac_iload 81 dX8_hangingAt_79 rfl rfl ?_
            refine ac_if_eq 88 84 dX8_hangingAt_81 (by decide) rfl (fun c_81 => absurd c_81 (by decide)) (fun _ => ?_)
            refine ac_iload_n 85 dX8_hangingAt_84 rfl rfl ?_
            refine ac_goto 89 dX8_hangingAt_85 (by decide) ?_
            refine ac_istore_n 90 [some (Value.ref 121), some (Value.int (nI i)), some (Value.int (nI k)), some (Value.int (nI k)), some (Value.int 1)] dX8_hangingAt_89 rfl rfl (Nat.le_of_ble_eq_true rfl) (by decide) rfl ?_
            refine ac_iinc 93 (nI (k + 1)) [some (Value.ref 121), some (Value.int (nI i)), some (Value.int (nI k)), some (Value.int (nI (k + 1))), some (Value.int 1)] dX8_hangingAt_90 rfl rfl (nI_1 _) rfl (by decide) rfl ?_
            refine ac_goto 5 dX8_hangingAt_93 (by decide) ?_
            refine ac_kill 4 [some (Value.ref 121), some (Value.int (nI i)), some (Value.int (nI k)), some (Value.int (nI (k + 1))), none] rfl ?_
            rw [show laN (onN (M 122) i) (k + 1) = (nI k) from laN_t ⟨hq, c_48, c_69⟩] at ih
            exact ih
  refine ac_iconst 4 0 dX8_hangingAt_3 rfl (by decide) ?_
  refine ac_istore_n 5 [some (Value.ref 121), some (Value.int (nI i)), some (Value.int (-9)), some (Value.int 0), none] dX8_hangingAt_4 rfl rfl (Nat.le_of_ble_eq_true rfl) (by decide) rfl ?_
  exact hL
set_option maxRecDepth 20000 in
theorem c8_momentNow {M : am_I} {V : am_J} {f : Nat → Option Nat} {np nd nh : Nat} (hn : NC (M 122) np nd nh) : CT m8_momentNow 4 [Value.ref 121] M V f (RV (moN (M 122) np) M V f) := by
  have hnp := hn.2.1
  refine CT.of m8_momentNow_V.1 _ (en_a_3 121) ?_
  refine ac_iconst 1 0 dX8_momentNow_0 rfl (by decide) ?_
  refine ac_istore_n 2 [some (Value.ref 121), some (Value.int 0), none] dX8_momentNow_1 rfl rfl (Nat.le_of_ble_eq_true rfl) (by decide) rfl ?_
  have hL : A0 m8_momentNow 4 4 [some (Value.ref 121), some (Value.int (moN (M 122) 0)), some (Value.int (nI 0))] [] M V f (RV (moN (M 122) np) M V f) := by
    refine ac_down (n := np) (P := fun k => A0 m8_momentNow 4 4 [some (Value.ref 121), some (Value.int (moN (M 122) k)), some (Value.int (nI k))] [] M V f (RV (moN (M 122) np) M V f)) ?_ ?_ 0 (Nat.zero_le _) 
    · refine ac_iload_n 5 dX8_momentNow_4 rfl rfl ?_
      refine ac_aload_n 6 dX8_momentNow_5 rfl rfl ?_
      refine ac_getO 9 122 dX8_momentNow_6 rfl fl8_7 ob121 rfl ?_
      refine ac_iconst 10 3 dX8_momentNow_9 rfl (by decide) ?_
      refine ac_iald 11 dX8_momentNow_10 rfl ar122 (ix_nI (k := 3) (by decide) (by decide)) ?_
      refine ac_icmp_ge 49 14 dX8_momentNow_11 (by decide) rfl (fun _ => ?_) (fun c_11 => absurd (by rw [hn.1]; exact Int32.le_refl _) c_11)
      refine ac_iload_n 50 dX8_momentNow_49 rfl rfl ?_
      refine ac_iret dX8_momentNow_50 ⟨_, rfl, rfl⟩ ?_
      exact rv_mk rfl
    · intro k hk ih
      refine ac_iload_n 5 dX8_momentNow_4 rfl rfl ?_
      refine ac_aload_n 6 dX8_momentNow_5 rfl rfl ?_
      refine ac_getO 9 122 dX8_momentNow_6 rfl fl8_7 ob121 rfl ?_
      refine ac_iconst 10 3 dX8_momentNow_9 rfl (by decide) ?_
      refine ac_iald 11 dX8_momentNow_10 rfl ar122 (ix_nI (k := 3) (by decide) (by decide)) ?_
      refine ac_icmp_ge 49 14 dX8_momentNow_11 (by decide) rfl (fun c_11 => absurd c_11 (by rw [hn.1]; exact nI_ge hk (by omega))) (fun _ => ?_)
      refine ac_iload_n 15 dX8_momentNow_14 rfl rfl ?_
      refine ac_aload_n 16 dX8_momentNow_15 rfl rfl ?_
      refine ac_iload_n 17 dX8_momentNow_16 rfl rfl ?_
      refine ac_callV (μ' := m8_hangsNow) 20 dX8_momentNow_17 rfl lk8_122 m8_hangsNow_V ob121 (c8_hangsNow (j := (k)) (by omega)) rfl rfl (by decide) (Nat.le_of_ble_eq_true rfl) ?_
      refine ac_if_eq 40 23 dX8_momentNow_20 (by decide) rfl (fun c_20 => ?_) (fun c_20 => ?_)
      · have hq := bi_eq0.mp c_20
        refine ac_iconst 41 0 dX8_momentNow_40 rfl (by decide) ?_
        refine ac_iadd 42 dX8_momentNow_41 rfl ?_
        refine ac_istore_n 43 [some (Value.ref 121), some (Value.int ((moN (M 122) k) + 0)), some (Value.int (nI k))] dX8_momentNow_42 rfl rfl (Nat.le_of_ble_eq_true rfl) (by decide) rfl ?_
        refine ac_iinc 46 (nI (k + 1)) [some (Value.ref 121), some (Value.int ((moN (M 122) k) + 0)), some (Value.int (nI (k + 1)))] dX8_momentNow_43 rfl rfl (nI_1 _) rfl (by decide) rfl ?_
        refine ac_goto 4 dX8_momentNow_46 (by decide) ?_
        have e9 : moN (M 122) (k + 1) = ((moN (M 122) k) + 0) := by
          show _ + _ = _
          first | rw [if_pos (Classical.not_not.mp hq)] | rw [if_neg hq]
        rw [e9] at ih
        exact ih
      · have hq := bi_ne0.mp c_20
        refine ac_aload_n 24 dX8_momentNow_23 rfl rfl ?_
        refine ac_iload_n 25 dX8_momentNow_24 rfl rfl ?_
        refine ac_aload_n 26 dX8_momentNow_25 rfl rfl ?_
        refine ac_getO 29 122 dX8_momentNow_26 rfl fl8_7 ob121 rfl ?_
        refine ac_bipush 31 64 dX8_momentNow_29 rfl (by decide) ?_
        refine ac_iload_n 32 dX8_momentNow_31 rfl rfl ?_
        refine ac_iadd 33 dX8_momentNow_32 rfl ?_
        refine ac_iald 34 dX8_momentNow_33 rfl ar122 (ix_of (k := (64 + (k))) (by simp only [show (64 : Int32) = nI 64 from rfl, pk_mul, nI_add]) (by omega) (by decide)) ?_
        refine ac_callV (μ' := m8_leanOf) 37 dX8_momentNow_34 rfl lk8_155 m8_leanOf_V ob121 (c8_leanOf (by omega) _) rfl rfl (by decide) (Nat.le_of_ble_eq_true rfl) ?_
        refine ac_goto 41 dX8_momentNow_37 (by decide) ?_
        refine ac_iadd 42 dX8_momentNow_41 rfl ?_
        refine ac_istore_n 43 [some (Value.ref 121), some (Value.int ((moN (M 122) k) + (leN (M 122) (k) (M 122 (64 + (k)))))), some (Value.int (nI k))] dX8_momentNow_42 rfl rfl (Nat.le_of_ble_eq_true rfl) (by decide) rfl ?_
        refine ac_iinc 46 (nI (k + 1)) [some (Value.ref 121), some (Value.int ((moN (M 122) k) + (leN (M 122) (k) (M 122 (64 + (k)))))), some (Value.int (nI (k + 1)))] dX8_momentNow_43 rfl rfl (nI_1 _) rfl (by decide) rfl ?_
        refine ac_goto 4 dX8_momentNow_46 (by decide) ?_
        have e9 : moN (M 122) (k + 1) = ((moN (M 122) k) + (leN (M 122) (k) (M 122 (64 + (k))))) := by
          show _ + _ = _
          first | rw [if_pos (Classical.not_not.mp hq)] | rw [if_neg hq]
        rw [e9] at ih
        exact ih
  refine ac_iconst 3 0 dX8_momentNow_2 rfl (by decide) ?_
  refine ac_istore_n 4 [some (Value.ref 121), some (Value.int 0), some (Value.int 0)] dX8_momentNow_3 rfl rfl (Nat.le_of_ble_eq_true rfl) (by decide) rfl ?_
  exact hL
set_option maxRecDepth 20000 in
theorem c8_hanging {M : am_I} {V : am_J} {f : Nat → Option Nat} {np nd nh : Nat} (hn : NC (M 122) np nd nh) : CT m8_hanging 2 [Value.ref 121] M V f (RV (upN (M 122) np) M V f) := by
  have hnp := hn.2.1
  refine CT.of m8_hanging_V.1 _ (en_a_3 121) ?_
  refine ac_iconst 1 0 dX8_hanging_0 rfl (by decide) ?_
  refine ac_istore_n 2 [some (Value.ref 121), some (Value.int 0), none] dX8_hanging_1 rfl rfl (Nat.le_of_ble_eq_true rfl) (by decide) rfl ?_
  have hL : A0 m8_hanging 2 4 [some (Value.ref 121), some (Value.int (upN (M 122) 0)), some (Value.int (nI 0))] [] M V f (RV (upN (M 122) np) M V f) := by
    refine ac_down (n := np) (P := fun k => A0 m8_hanging 2 4 [some (Value.ref 121), some (Value.int (upN (M 122) k)), some (Value.int (nI k))] [] M V f (RV (upN (M 122) np) M V f)) ?_ ?_ 0 (Nat.zero_le _) 
    · refine ac_iload_n 5 dX8_hanging_4 rfl rfl ?_
      refine ac_aload_n 6 dX8_hanging_5 rfl rfl ?_
      refine ac_getO 9 122 dX8_hanging_6 rfl fl8_7 ob121 rfl ?_
      refine ac_iconst 10 3 dX8_hanging_9 rfl (by decide) ?_
      refine ac_iald 11 dX8_hanging_10 rfl ar122 (ix_nI (k := 3) (by decide) (by decide)) ?_
      refine ac_icmp_ge 36 14 dX8_hanging_11 (by decide) rfl (fun _ => ?_) (fun c_11 => absurd (by rw [hn.1]; exact Int32.le_refl _) c_11)
      refine ac_iload_n 37 dX8_hanging_36 rfl rfl ?_
      refine ac_iret dX8_hanging_37 ⟨_, rfl, rfl⟩ ?_
      exact rv_mk rfl
    · intro k hk ih
      refine ac_iload_n 5 dX8_hanging_4 rfl rfl ?_
      refine ac_aload_n 6 dX8_hanging_5 rfl rfl ?_
      refine ac_getO 9 122 dX8_hanging_6 rfl fl8_7 ob121 rfl ?_
      refine ac_iconst 10 3 dX8_hanging_9 rfl (by decide) ?_
      refine ac_iald 11 dX8_hanging_10 rfl ar122 (ix_nI (k := 3) (by decide) (by decide)) ?_
      refine ac_icmp_ge 36 14 dX8_hanging_11 (by decide) rfl (fun c_11 => absurd c_11 (by rw [hn.1]; exact nI_ge hk (by omega))) (fun _ => ?_)
      refine ac_iload_n 15 dX8_hanging_14 rfl rfl ?_
      refine ac_aload_n 16 dX8_hanging_15 rfl rfl ?_
      refine ac_iload_n 17 dX8_hanging_16 rfl rfl ?_
      refine ac_callV (μ' := m8_hangsNow) 20 dX8_hanging_17 rfl lk8_122 m8_hangsNow_V ob121 (c8_hangsNow (j := (k)) (by omega)) rfl rfl (by decide) (Nat.le_of_ble_eq_true rfl) ?_
      refine ac_if_eq 27 23 dX8_hanging_20 (by decide) rfl (fun c_20 => ?_) (fun c_20 => ?_)
      · have hq := bi_eq0.mp c_20
        refine ac_iconst 28 0 dX8_hanging_27 rfl (by decide) ?_
        refine ac_iadd 29 dX8_hanging_28 rfl ?_
        refine ac_istore_n 30 [some (Value.ref 121), some (Value.int ((upN (M 122) k) + 0)), some (Value.int (nI k))] dX8_hanging_29 rfl rfl (Nat.le_of_ble_eq_true rfl) (by decide) rfl ?_
        refine ac_iinc 33 (nI (k + 1)) [some (Value.ref 121), some (Value.int ((upN (M 122) k) + 0)), some (Value.int (nI (k + 1)))] dX8_hanging_30 rfl rfl (nI_1 _) rfl (by decide) rfl ?_
        refine ac_goto 4 dX8_hanging_33 (by decide) ?_
        have e9 : upN (M 122) (k + 1) = ((upN (M 122) k) + 0) := by
          show _ + _ = _
          first | rw [if_pos (Classical.not_not.mp hq)] | rw [if_neg hq]
        rw [e9] at ih
        exact ih
      · have hq := bi_ne0.mp c_20
        refine ac_iconst 24 1 dX8_hanging_23 rfl (by decide) ?_
        refine ac_goto 28 dX8_hanging_24 (by decide) ?_
        refine ac_iadd 29 dX8_hanging_28 rfl ?_
        refine ac_istore_n 30 [some (Value.ref 121), some (Value.int ((upN (M 122) k) + 1)), some (Value.int (nI k))] dX8_hanging_29 rfl rfl (Nat.le_of_ble_eq_true rfl) (by decide) rfl ?_
        refine ac_iinc 33 (nI (k + 1)) [some (Value.ref 121), some (Value.int ((upN (M 122) k) + 1)), some (Value.int (nI (k + 1)))] dX8_hanging_30 rfl rfl (nI_1 _) rfl (by decide) rfl ?_
        refine ac_goto 4 dX8_hanging_33 (by decide) ?_
        have e9 : upN (M 122) (k + 1) = ((upN (M 122) k) + 1) := by
          show _ + _ = _
          first | rw [if_pos (Classical.not_not.mp hq)] | rw [if_neg hq]
        rw [e9] at ih
        exact ih
  refine ac_iconst 3 0 dX8_hanging_2 rfl (by decide) ?_
  refine ac_istore_n 4 [some (Value.ref 121), some (Value.int 0), some (Value.int 0)] dX8_hanging_3 rfl rfl (Nat.le_of_ble_eq_true rfl) (by decide) rfl ?_
  exact hL
