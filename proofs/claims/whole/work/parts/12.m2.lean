/-! The reference: what it asks of the wall, loop by loop (N is its row of numbers). -/
abbrev rN : Type := Nat → Int32
/-- how many pictures, doors, holes -/
def NC (N : rN) (np nd nh : Nat) : Prop := N 3 = nI np ∧ np ≤ 5 ∧ N 24 = nI nd ∧ nd ≤ 3 ∧ N 31 = nI nh ∧ nh ≤ 16
def fitN (N : rN) (nd j : Nat) (x : Int32) : Prop := (0 ≤ x ∧ x + N (4 + 4 * j) ≤ N 0) ∧ ∀ k, k < nd → (x + N (4 + 4 * j) ≤ N (25 + 2 * k) ∨ N (25 + 2 * k + 1) ≤ x)
def apN (N : rN) (np j : Nat) (x : Int32) : Prop := ∀ q, q < np → (N (64 + q) = -9 ∨ x + N (4 + 4 * j) + N 2 ≤ N (64 + q) ∨ N (64 + q) + N (4 + 4 * q) + N 2 ≤ x)
def hoN (N : rN) (nh : Nat) (X Y : Int32) : Prop := ∃ k, k < nh ∧ N (32 + 2 * k) = X ∧ N (32 + 2 * k + 1) = Y
def hkX (N : rN) (j : Nat) (x : Int32) : Int32 := 2 * x + N (4 + 4 * j)
def hkY (N : rN) (j : Nat) : Int32 := 2 * N 1 + N (4 + 4 * j + 1) - 2 * N (4 + 4 * j + 2)
def leN (N : rN) (j : Nat) (x : Int32) : Int32 := N (4 + 4 * j + 3) * (hkX N j x - N 0)
/-- the moment of the first k that hang; how many of the first k hang -/
def moN (N : rN) : Nat → Int32
  | 0 => 0
  | k + 1 => moN N k + (if N (64 + k) = -9 then 0 else leN N k (N (64 + k)))
def upN (N : rN) : Nat → Int32
  | 0 => 0
  | k + 1 => upN N k + (if N (64 + k) = -9 then 0 else 1)
/-- the last k below n with p; none: -9 -/
noncomputable def laN (p : Nat → Prop) : Nat → Int32
  | 0 => -9
  | k + 1 => @ite Int32 (p k) (Classical.propDecidable _) (nI k) (laN p k)
theorem laN_t {p : Nat → Prop} {k : Nat} (h : p k) : laN p (k + 1) = nI k := if_pos h
theorem laN_f {p : Nat → Prop} {k : Nat} (h : ¬ p k) : laN p (k + 1) = laN p k := if_neg h
def onN (N : rN) (k p : Nat) : Prop := N (64 + p) ≠ -9 ∧ hkX N p (N (64 + p)) = N (32 + 2 * k) ∧ hkY N p = N (32 + 2 * k + 1)
theorem all_suc {p : Nat → Prop} {k : Nat} : (∀ i, i < k + 1 → p i) ↔ (∀ i, i < k → p i) ∧ p k := ⟨fun h => ⟨fun i hi => h i (by omega), h k (by omega)⟩, fun h i hi => by
  rcases Nat.lt_or_ge i k with q | q
  · exact h.1 i q
  · have : i = k := by omega
    subst this; exact h.2⟩
theorem ex_suc {p : Nat → Prop} {k : Nat} : (∃ i, i < k + 1 ∧ p i) ↔ (∃ i, i < k ∧ p i) ∨ p k := ⟨fun ⟨i, hi, h⟩ => by
  rcases Nat.lt_or_ge i k with q | q
  · exact Or.inl ⟨i, q, h⟩
  · have : i = k := by omega
    subst this; exact Or.inr h, fun h => h.elim (fun ⟨i, hi, h⟩ => ⟨i, by omega, h⟩) (fun h => ⟨k, by omega, h⟩)⟩
set_option maxRecDepth 20000 in
theorem c8_doesFit {M : am_I} {V : am_J} {f : Nat → Option Nat} {np nd nh j : Nat} (hn : NC (M 122) np nd nh) (hj : j < 5) (x : Int32) : CT m8_doesFit 2 [Value.ref 121, Value.int (nI j), Value.int x] M V f (RV (bi (fitN (M 122) nd j x)) M V f) := by
  have hnd := hn.2.2.2.1
  unfold fitN
  refine CT.of m8_doesFit_V.1 _ (en_aii_6 121 (nI j) x) ?_
  refine ac_iload_n 1 dX8_doesFit_0 rfl rfl ?_
  refine ac_aload_n 2 dX8_doesFit_1 rfl rfl ?_
  refine ac_iload_n 3 dX8_doesFit_2 rfl rfl ?_
  refine ac_iconst 4 0 dX8_doesFit_3 rfl (by decide) ?_
  refine ac_callV (μ' := m8_ofPicture) 7 dX8_doesFit_4 rfl lk8_118 m8_ofPicture_V ob121 (c8_ofPicture (w := 0) hj (by decide)) rfl rfl (by decide) (Nat.le_of_ble_eq_true rfl) ?_
  refine ac_iadd 8 dX8_doesFit_7 rfl ?_
  refine ac_istore_n 9 [some (Value.ref 121), some (Value.int (nI j)), some (Value.int x), some (Value.int (x + (M 122 (4 + 4 * (j))))), none, none] dX8_doesFit_8 rfl rfl (Nat.le_of_ble_eq_true rfl) (by decide) rfl ?_
  have hL : A0 m8_doesFit 2 33 [some (Value.ref 121), some (Value.int (nI j)), some (Value.int x), some (Value.int (x + (M 122 (4 + 4 * (j))))), some (Value.int (bi ((0 ≤ x ∧ x + M 122 (4 + 4 * j) ≤ M 122 0) ∧ ∀ i, i < 0 → (x + M 122 (4 + 4 * j) ≤ M 122 (25 + 2 * i) ∨ M 122 (25 + 2 * i + 1) ≤ x)))), some (Value.int (nI 0))] [] M V f (RV (bi (fitN (M 122) nd j x)) M V f) := by
    refine ac_down (n := nd) (P := fun k => A0 m8_doesFit 2 33 [some (Value.ref 121), some (Value.int (nI j)), some (Value.int x), some (Value.int (x + (M 122 (4 + 4 * (j))))), some (Value.int (bi ((0 ≤ x ∧ x + M 122 (4 + 4 * j) ≤ M 122 0) ∧ ∀ i, i < k → (x + M 122 (4 + 4 * j) ≤ M 122 (25 + 2 * i) ∨ M 122 (25 + 2 * i + 1) ≤ x)))), some (Value.int (nI k))] [] M V f (RV (bi (fitN (M 122) nd j x)) M V f)) ?_ ?_ 0 (Nat.zero_le _) 
    · refine ac_iload 35 dX8_doesFit_33 rfl rfl ?_
      refine ac_aload_n 36 dX8_doesFit_35 rfl rfl ?_
      refine ac_getO 39 122 dX8_doesFit_36 rfl fl8_7 ob121 rfl ?_
      refine ac_bipush 41 24 dX8_doesFit_39 rfl (by decide) ?_
      refine ac_iald 42 dX8_doesFit_41 rfl ar122 (ix_nI (k := 24) (by decide) (by decide)) ?_
      refine ac_icmp_ge 97 45 dX8_doesFit_42 (by decide) rfl (fun _ => ?_) (fun c_42 => absurd (by rw [hn.2.2.1]; exact Int32.le_refl _) c_42)
      refine ac_iload 99 dX8_doesFit_97 rfl rfl ?_
      refine ac_iret dX8_doesFit_99 (bi_nr rfl _) ?_
      exact rv_mk rfl
    · intro k hk ih
      refine ac_iload 35 dX8_doesFit_33 rfl rfl ?_
      refine ac_aload_n 36 dX8_doesFit_35 rfl rfl ?_
      refine ac_getO 39 122 dX8_doesFit_36 rfl fl8_7 ob121 rfl ?_
      refine ac_bipush 41 24 dX8_doesFit_39 rfl (by decide) ?_
      refine ac_iald 42 dX8_doesFit_41 rfl ar122 (ix_nI (k := 24) (by decide) (by decide)) ?_
      refine ac_icmp_ge 97 45 dX8_doesFit_42 (by decide) rfl (fun c_42 => absurd c_42 (by rw [hn.2.2.1]; exact nI_ge hk (by omega))) (fun _ => ?_)
      refine ac_iload 47 dX8_doesFit_45 rfl rfl ?_
      refine ac_if_eq 88 50 dX8_doesFit_47 (by decide) rfl (fun c_47 => ?_) (fun c_47 => ?_)
      · have hb := bi_eq0.mp c_47
        refine ac_iconst 89 0 dX8_doesFit_88 rfl (by decide) ?_
        refine ac_istore 91 [some (Value.ref 121), some (Value.int (nI j)), some (Value.int x), some (Value.int (x + (M 122 (4 + 4 * (j))))), some (Value.int 0), some (Value.int (nI k))] dX8_doesFit_89 rfl rfl (Nat.le_of_ble_eq_true rfl) (by decide) rfl ?_
        refine ac_iinc 94 (nI (k + 1)) [some (Value.ref 121), some (Value.int (nI j)), some (Value.int x), some (Value.int (x + (M 122 (4 + 4 * (j))))), some (Value.int 0), some (Value.int (nI (k + 1)))] dX8_doesFit_91 rfl rfl (nI_1 _) rfl (by decide) rfl ?_
        refine ac_goto 33 dX8_doesFit_94 (by decide) ?_
        rw [show bi ((0 ≤ x ∧ x + M 122 (4 + 4 * j) ≤ M 122 0) ∧ ∀ i, i < (k + 1) → (x + M 122 (4 + 4 * j) ≤ M 122 (25 + 2 * i) ∨ M 122 (25 + 2 * i + 1) ≤ x)) = 0 from (bi_f (by first | exact fun h => hb ⟨h.1, (all_suc.mp h.2).1⟩ | exact fun h => ((all_suc.mp h.2).2).elim c_63 (fun h2 => absurd c_81 (Int32.not_lt.mpr h2))))] at ih
        exact ih
      · have hb := bi_ne0.mp c_47
        refine ac_iload_n 51 dX8_doesFit_50 rfl rfl ?_
        refine ac_aload_n 52 dX8_doesFit_51 rfl rfl ?_
        refine ac_getO 55 122 dX8_doesFit_52 rfl fl8_7 ob121 rfl ?_
        refine ac_bipush 57 25 dX8_doesFit_55 rfl (by decide) ?_
        refine ac_iconst 58 2 dX8_doesFit_57 rfl (by decide) ?_
        refine ac_iload 60 dX8_doesFit_58 rfl rfl ?_
        refine ac_imul 61 dX8_doesFit_60 rfl ?_
        refine ac_iadd 62 dX8_doesFit_61 rfl ?_
        refine ac_iald 63 dX8_doesFit_62 rfl ar122 (ix_of (k := (25 + (2 * (k)))) (by simp only [show (2 : Int32) = nI 2 from rfl, show (25 : Int32) = nI 25 from rfl, pk_mul, nI_add]) (by omega) (by decide)) ?_
        refine ac_icmp_le 84 66 dX8_doesFit_63 (by decide) rfl (fun c_63 => ?_) (fun c_63 => ?_)
        · refine ac_iconst 85 1 dX8_doesFit_84 rfl (by decide) ?_
          refine ac_goto 89 dX8_doesFit_85 (by decide) ?_
          refine ac_istore 91 [some (Value.ref 121), some (Value.int (nI j)), some (Value.int x), some (Value.int (x + (M 122 (4 + 4 * (j))))), some (Value.int 1), some (Value.int (nI k))] dX8_doesFit_89 rfl rfl (Nat.le_of_ble_eq_true rfl) (by decide) rfl ?_
          refine ac_iinc 94 (nI (k + 1)) [some (Value.ref 121), some (Value.int (nI j)), some (Value.int x), some (Value.int (x + (M 122 (4 + 4 * (j))))), some (Value.int 1), some (Value.int (nI (k + 1)))] dX8_doesFit_91 rfl rfl (nI_1 _) rfl (by decide) rfl ?_
          refine ac_goto 33 dX8_doesFit_94 (by decide) ?_
          rw [show bi ((0 ≤ x ∧ x + M 122 (4 + 4 * j) ≤ M 122 0) ∧ ∀ i, i < (k + 1) → (x + M 122 (4 + 4 * j) ≤ M 122 (25 + 2 * i) ∨ M 122 (25 + 2 * i + 1) ≤ x)) = 1 from (bi_t (by first | exact ⟨hb.1, all_suc.mpr ⟨hb.2, Or.inl c_63⟩⟩ | exact ⟨hb.1, all_suc.mpr ⟨hb.2, Or.inr (Int32.not_lt.mp c_81)⟩⟩))] at ih
          exact ih
        · refine ac_iload_n 67 dX8_doesFit_66 rfl rfl ?_
          refine ac_aload_n 68 dX8_doesFit_67 rfl rfl ?_
          refine ac_getO 71 122 dX8_doesFit_68 rfl fl8_7 ob121 rfl ?_
          refine ac_bipush 73 25 dX8_doesFit_71 rfl (by decide) ?_
          refine ac_iconst 74 2 dX8_doesFit_73 rfl (by decide) ?_
          refine ac_iload 76 dX8_doesFit_74 rfl rfl ?_
          refine ac_imul 77 dX8_doesFit_76 rfl ?_
          refine ac_iadd 78 dX8_doesFit_77 rfl ?_
          refine ac_iconst 79 1 dX8_doesFit_78 rfl (by decide) ?_
          refine ac_iadd 80 dX8_doesFit_79 rfl ?_
          refine ac_iald 81 dX8_doesFit_80 rfl ar122 (ix_of (k := ((25 + (2 * (k))) + 1)) (by simp only [show (1 : Int32) = nI 1 from rfl, show (2 : Int32) = nI 2 from rfl, show (25 : Int32) = nI 25 from rfl, pk_mul, nI_add]) (by omega) (by decide)) ?_
          refine ac_icmp_lt 88 84 dX8_doesFit_81 (by decide) rfl (fun c_81 => ?_) (fun c_81 => ?_)
          · refine ac_iconst 89 0 dX8_doesFit_88 rfl (by decide) ?_
            refine ac_istore 91 [some (Value.ref 121), some (Value.int (nI j)), some (Value.int x), some (Value.int (x + (M 122 (4 + 4 * (j))))), some (Value.int 0), some (Value.int (nI k))] dX8_doesFit_89 rfl rfl (Nat.le_of_ble_eq_true rfl) (by decide) rfl ?_
            refine ac_iinc 94 (nI (k + 1)) [some (Value.ref 121), some (Value.int (nI j)), some (Value.int x), some (Value.int (x + (M 122 (4 + 4 * (j))))), some (Value.int 0), some (Value.int (nI (k + 1)))] dX8_doesFit_91 rfl rfl (nI_1 _) rfl (by decide) rfl ?_
            refine ac_goto 33 dX8_doesFit_94 (by decide) ?_
            rw [show bi ((0 ≤ x ∧ x + M 122 (4 + 4 * j) ≤ M 122 0) ∧ ∀ i, i < (k + 1) → (x + M 122 (4 + 4 * j) ≤ M 122 (25 + 2 * i) ∨ M 122 (25 + 2 * i + 1) ≤ x)) = 0 from (bi_f (by first | exact fun h => hb ⟨h.1, (all_suc.mp h.2).1⟩ | exact fun h => ((all_suc.mp h.2).2).elim c_63 (fun h2 => absurd c_81 (Int32.not_lt.mpr h2))))] at ih
            exact ih
          · refine ac_iconst 85 1 dX8_doesFit_84 rfl (by decide) ?_
            refine ac_goto 89 dX8_doesFit_85 (by decide) ?_
            refine ac_istore 91 [some (Value.ref 121), some (Value.int (nI j)), some (Value.int x), some (Value.int (x + (M 122 (4 + 4 * (j))))), some (Value.int 1), some (Value.int (nI k))] dX8_doesFit_89 rfl rfl (Nat.le_of_ble_eq_true rfl) (by decide) rfl ?_
            refine ac_iinc 94 (nI (k + 1)) [some (Value.ref 121), some (Value.int (nI j)), some (Value.int x), some (Value.int (x + (M 122 (4 + 4 * (j))))), some (Value.int 1), some (Value.int (nI (k + 1)))] dX8_doesFit_91 rfl rfl (nI_1 _) rfl (by decide) rfl ?_
            refine ac_goto 33 dX8_doesFit_94 (by decide) ?_
            rw [show bi ((0 ≤ x ∧ x + M 122 (4 + 4 * j) ≤ M 122 0) ∧ ∀ i, i < (k + 1) → (x + M 122 (4 + 4 * j) ≤ M 122 (25 + 2 * i) ∨ M 122 (25 + 2 * i + 1) ≤ x)) = 1 from (bi_t (by first | exact ⟨hb.1, all_suc.mpr ⟨hb.2, Or.inl c_63⟩⟩ | exact ⟨hb.1, all_suc.mpr ⟨hb.2, Or.inr (Int32.not_lt.mp c_81)⟩⟩))] at ih
            exact ih
  refine ac_iload_n 10 dX8_doesFit_9 rfl rfl ?_
  refine ac_if_lt 27 13 dX8_doesFit_10 (by decide) rfl (fun c_10 => ?_) (fun c_10 => ?_)
  · refine ac_iconst 28 0 dX8_doesFit_27 rfl (by decide) ?_
    refine ac_istore 30 [some (Value.ref 121), some (Value.int (nI j)), some (Value.int x), some (Value.int (x + (M 122 (4 + 4 * (j))))), some (Value.int 0), none] dX8_doesFit_28 rfl rfl (Nat.le_of_ble_eq_true rfl) (by decide) rfl ?_
    refine ac_iconst 31 0 dX8_doesFit_30 rfl (by decide) ?_
    refine ac_istore 33 [some (Value.ref 121), some (Value.int (nI j)), some (Value.int x), some (Value.int (x + (M 122 (4 + 4 * (j))))), some (Value.int 0), some (Value.int 0)] dX8_doesFit_31 rfl rfl (Nat.le_of_ble_eq_true rfl) (by decide) rfl ?_
    rw [show bi ((0 ≤ x ∧ x + M 122 (4 + 4 * j) ≤ M 122 0) ∧ ∀ i, i < 0 → (x + M 122 (4 + 4 * j) ≤ M 122 (25 + 2 * i) ∨ M 122 (25 + 2 * i + 1) ≤ x)) = 0 from (bi_f (by first | exact fun h => absurd c_10 (Int32.not_lt.mpr h.1.1) | exact fun h => absurd c_20 (Int32.not_lt.mpr h.1.2)))] at hL
    exact hL
  · refine ac_iload_n 14 dX8_doesFit_13 rfl rfl ?_
    refine ac_aload_n 15 dX8_doesFit_14 rfl rfl ?_
    refine ac_getO 18 122 dX8_doesFit_15 rfl fl8_7 ob121 rfl ?_
    refine ac_iconst 19 0 dX8_doesFit_18 rfl (by decide) ?_
    refine ac_iald 20 dX8_doesFit_19 rfl ar122 (ix_nI (k := 0) (by decide) (by decide)) ?_
    refine ac_icmp_gt 27 23 dX8_doesFit_20 (by decide) rfl (fun c_20 => ?_) (fun c_20 => ?_)
    · refine ac_iconst 28 0 dX8_doesFit_27 rfl (by decide) ?_
      refine ac_istore 30 [some (Value.ref 121), some (Value.int (nI j)), some (Value.int x), some (Value.int (x + (M 122 (4 + 4 * (j))))), some (Value.int 0), none] dX8_doesFit_28 rfl rfl (Nat.le_of_ble_eq_true rfl) (by decide) rfl ?_
      refine ac_iconst 31 0 dX8_doesFit_30 rfl (by decide) ?_
      refine ac_istore 33 [some (Value.ref 121), some (Value.int (nI j)), some (Value.int x), some (Value.int (x + (M 122 (4 + 4 * (j))))), some (Value.int 0), some (Value.int 0)] dX8_doesFit_31 rfl rfl (Nat.le_of_ble_eq_true rfl) (by decide) rfl ?_
      rw [show bi ((0 ≤ x ∧ x + M 122 (4 + 4 * j) ≤ M 122 0) ∧ ∀ i, i < 0 → (x + M 122 (4 + 4 * j) ≤ M 122 (25 + 2 * i) ∨ M 122 (25 + 2 * i + 1) ≤ x)) = 0 from (bi_f (by first | exact fun h => absurd c_10 (Int32.not_lt.mpr h.1.1) | exact fun h => absurd c_20 (Int32.not_lt.mpr h.1.2)))] at hL
      exact hL
    · refine ac_iconst 24 1 dX8_doesFit_23 rfl (by decide) ?_
      refine ac_goto 28 dX8_doesFit_24 (by decide) ?_
      refine ac_istore 30 [some (Value.ref 121), some (Value.int (nI j)), some (Value.int x), some (Value.int (x + (M 122 (4 + 4 * (j))))), some (Value.int 1), none] dX8_doesFit_28 rfl rfl (Nat.le_of_ble_eq_true rfl) (by decide) rfl ?_
      refine ac_iconst 31 0 dX8_doesFit_30 rfl (by decide) ?_
      refine ac_istore 33 [some (Value.ref 121), some (Value.int (nI j)), some (Value.int x), some (Value.int (x + (M 122 (4 + 4 * (j))))), some (Value.int 1), some (Value.int 0)] dX8_doesFit_31 rfl rfl (Nat.le_of_ble_eq_true rfl) (by decide) rfl ?_
      rw [show bi ((0 ≤ x ∧ x + M 122 (4 + 4 * j) ≤ M 122 0) ∧ ∀ i, i < 0 → (x + M 122 (4 + 4 * j) ≤ M 122 (25 + 2 * i) ∨ M 122 (25 + 2 * i + 1) ≤ x)) = 1 from bi_t ⟨⟨Int32.not_lt.mp c_10, Int32.not_lt.mp c_20⟩, fun i hi => absurd hi (Nat.not_lt_zero i)⟩] at hL
      exact hL
