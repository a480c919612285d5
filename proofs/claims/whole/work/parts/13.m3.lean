/-! The reference: its questions. -/
/-- by cases, whatever the case -/
noncomputable def cif {α : Type} (p : Prop) (a b : α) : α := @ite α p (Classical.propDecidable p) a b
theorem cif_t {α : Type} {p : Prop} {a b : α} (h : p) : cif p a b = a := if_pos h
theorem cif_f {α : Type} {p : Prop} {a b : α} (h : ¬ p) : cif p a b = b := if_neg h
theorem c8_wT {M : am_I} {V : am_J} {f : Nat → Option Nat} {v lo hi : Int32} (h : lo ≤ v ∧ v ≤ hi) : CT m8_within 1 [.int v, .int lo, .int hi] M V f (RV 1 M V f) := by
  have h1 := c8_within (M := M) (V := V) (f := f) v lo hi
  rw [bi_t h] at h1
  exact h1
theorem c8_wF {M : am_I} {V : am_J} {f : Nat → Option Nat} {v lo hi : Int32} (h : ¬ (lo ≤ v ∧ v ≤ hi)) : CT m8_within 1 [.int v, .int lo, .int hi] M V f (RV 0 M V f) := by
  have h1 := c8_within (M := M) (V := V) (f := f) v lo hi
  rw [bi_f h] at h1
  exact h1
theorem nI_pos0 {n : Nat} (h : n < 2 ^ 31) : (0 : Int32) ≤ nI n := nI_pos' h
theorem nI_lem {j n : Nat} (h : j < n) (hn : n < 2 ^ 31) : nI j ≤ nI n - 1 := by
  obtain ⟨m, rfl⟩ : ∃ m, n = m + 1 := ⟨n - 1, by omega⟩
  rw [nI_pred]
  exact nI_le (by omega) (by omega)
theorem nI_nlem {n : Nat} (hn : n < 2 ^ 31) {p : Int32} (h : ∀ j, j < n → p ≠ nI j) : ¬ (0 ≤ p ∧ p ≤ nI n - 1) := by
  rintro ⟨h1, h2⟩
  obtain ⟨i, hi, rfl⟩ := nI_of (Int32.not_lt.mpr h1)
  refine h i ?_ rfl
  cases n with
  | zero =>
    have h3 : nI 0 - 1 = (-1 : Int32) := by decide
    rw [h3] at h2
    have := Int32.le_iff_toInt_le.mp h2
    rw [nI_toInt hi] at this
    have e : (-1 : Int32).toInt = -1 := by decide
    omega
  | succ m =>
    rw [nI_pred] at h2
    have := (nI_leI hi (by omega)).mp h2
    omega
/-- p is a number of one of the first n things -/
def vI (p : Int32) (n : Nat) : Prop := ∃ j, j < n ∧ p = nI j
theorem c8_isPT {M : am_I} {V : am_J} {f : Nat → Option Nat} {np nd nh j : Nat} (hn : NC (M 122) np nd nh) (hj : j < np) : CT m8_isPicture 2 [.ref 121, .int (nI j)] M V f (RV 1 M V f) := by
  have h1 := c8_isPicture (M := M) (V := V) (f := f) (nI j)
  have hnp := hn.2.1
  rw [bi_t ⟨nI_pos0 (by omega), by rw [hn.1]; exact nI_lem hj (by omega)⟩] at h1
  exact h1
theorem c8_isPF {M : am_I} {V : am_J} {f : Nat → Option Nat} {np nd nh : Nat} (hn : NC (M 122) np nd nh) {p : Int32} (hp : ¬ vI p np) : CT m8_isPicture 2 [.ref 121, .int p] M V f (RV 0 M V f) := by
  have h1 := c8_isPicture (M := M) (V := V) (f := f) p
  have hnp := hn.2.1
  rw [bi_f (by rw [hn.1]; exact nI_nlem (by omega) (fun j hj e => hp ⟨j, hj, e⟩))] at h1
  exact h1
theorem c8_isHT {M : am_I} {V : am_J} {f : Nat → Option Nat} {np nd nh j : Nat} (hn : NC (M 122) np nd nh) (hj : j < nh) : CT m8_isHole 2 [.ref 121, .int (nI j)] M V f (RV 1 M V f) := by
  have h1 := c8_isHole (M := M) (V := V) (f := f) (nI j)
  have hnp := hn.2.2.2.2.2
  rw [bi_t ⟨nI_pos0 (by omega), by rw [hn.2.2.2.2.1]; exact nI_lem hj (by omega)⟩] at h1
  exact h1
theorem c8_isHF {M : am_I} {V : am_J} {f : Nat → Option Nat} {np nd nh : Nat} (hn : NC (M 122) np nd nh) {p : Int32} (hp : ¬ vI p nh) : CT m8_isHole 2 [.ref 121, .int p] M V f (RV 0 M V f) := by
  have h1 := c8_isHole (M := M) (V := V) (f := f) p
  have hnp := hn.2.2.2.2.2
  rw [bi_f (by rw [hn.2.2.2.2.1]; exact nI_nlem (by omega) (fun j hj e => hp ⟨j, hj, e⟩))] at h1
  exact h1
/-- what a question 0, 1 .. n - 1 is, or none of them -/
theorem wh_cases (x : Int32) (n : Nat) (hn : n < 2 ^ 31) : (∃ j, j < n ∧ x = nI j) ∨ (∀ j, j < n → x ≠ nI j) := (Classical.em (vI x n)).imp id (fun h j hj e => h ⟨j, hj, e⟩)
theorem wh_out {x : Int32} {n : Nat} (hn : n < 2 ^ 31) (h : ¬ vI x n) : x.toInt < 0 ∨ (n : Int) - 1 < x.toInt := by
  by_cases h0 : x < 0
  · exact Or.inl (by simpa using Int32.lt_iff_toInt_lt.mp h0)
  · obtain ⟨i, hi, rfl⟩ := nI_of h0
    refine Or.inr ?_
    rw [nI_toInt hi]
    have : ¬ i < n := fun q => h ⟨i, q, rfl⟩
    omega
theorem wh_not {x : Int32} {n m : Nat} (hn : n < 2 ^ 31) (h : ¬ vI x n) (hm : nI n - 1 = nI m) : ¬ (0 ≤ x ∧ x ≤ nI m) := by
  rw [← hm]
  exact nI_nlem hn (fun j hj e => h ⟨j, hj, e⟩)
set_option maxRecDepth 20000 in
theorem q8_picF {M : am_I} {V : am_J} {f : Nat → Option Nat} {np nd nh : Nat} (hn : NC (M 122) np nd nh) {p : Int32} (hp : ¬ vI p np) (what : Int32) : CT m8_picture 3 [Value.ref 121, Value.int p, Value.int what] M V f (RV (-1000000) M V f) := by
  refine CT.of m8_picture_V.1 _ (en_aii_3 121 p what) ?_
  refine ac_aload_n 1 dX8_picture_0 rfl rfl ?_
  refine ac_iload_n 2 dX8_picture_1 rfl rfl ?_
  refine ac_callV (μ' := m8_isPicture) 5 dX8_picture_2 rfl lk8_136 m8_isPicture_V ob121 (c8_isPF hn hp) rfl rfl (by decide) (Nat.le_of_ble_eq_true rfl) ?_
  refine ac_if_eq 17 8 dX8_picture_5 (by decide) rfl (fun _ => ?_) (fun c_5 => absurd (by decide) c_5)
  refine ac_ldc 19 dX8_picture_17 rfl kc8_154 ?_
  refine ac_iret dX8_picture_19 ⟨_, rfl, rfl⟩ ?_
  exact rv_mk rfl
set_option maxRecDepth 20000 in
theorem q8_picW {M : am_I} {V : am_J} {f : Nat → Option Nat} {np nd nh j : Nat} (hn : NC (M 122) np nd nh) (hj : j < np) {what : Int32} (hw : ¬ vI what 6) : CT m8_picture 3 [Value.ref 121, Value.int (nI j), Value.int what] M V f (RV (-1000000) M V f) := by
  have hnp := hn.2.1
  refine CT.of m8_picture_V.1 _ (en_aii_3 121 (nI j) what) ?_
  refine ac_aload_n 1 dX8_picture_0 rfl rfl ?_
  refine ac_iload_n 2 dX8_picture_1 rfl rfl ?_
  refine ac_callV (μ' := m8_isPicture) 5 dX8_picture_2 rfl lk8_136 m8_isPicture_V ob121 (c8_isPT hn hj) rfl rfl (by decide) (Nat.le_of_ble_eq_true rfl) ?_
  refine ac_if_eq 17 8 dX8_picture_5 (by decide) rfl (fun c_5 => absurd c_5 (by decide)) (fun _ => ?_)
  refine ac_iload_n 9 dX8_picture_8 rfl rfl ?_
  refine ac_iconst 10 0 dX8_picture_9 rfl (by decide) ?_
  refine ac_iconst 11 5 dX8_picture_10 rfl (by decide) ?_
  refine ac_callS (μ' := m8_within) 14 dX8_picture_11 rfl lk8_67 m8_within_S (c8_wF (wh_not (n := 6) (by decide) hw rfl)) rfl rfl (by decide) (Nat.le_of_ble_eq_true rfl) ?_
  refine ac_if_ne 20 17 dX8_picture_14 (by decide) rfl (fun c_14 => absurd (by decide) c_14) (fun _ => ?_)
  refine ac_ldc 19 dX8_picture_17 rfl kc8_154 ?_
  refine ac_iret dX8_picture_19 ⟨_, rfl, rfl⟩ ?_
  exact rv_mk rfl
set_option maxRecDepth 20000 in
theorem q8_pic0 {M : am_I} {V : am_J} {f : Nat → Option Nat} {np nd nh j : Nat} (hn : NC (M 122) np nd nh) (hj : j < np) : CT m8_picture 3 [Value.ref 121, Value.int (nI j), Value.int 0] M V f (RV (M 122 (4 + 4 * j + 0)) M V f) := by
  have hnp := hn.2.1
  refine CT.of m8_picture_V.1 _ (en_aii_3 121 (nI j) 0) ?_
  refine ac_aload_n 1 dX8_picture_0 rfl rfl ?_
  refine ac_iload_n 2 dX8_picture_1 rfl rfl ?_
  refine ac_callV (μ' := m8_isPicture) 5 dX8_picture_2 rfl lk8_136 m8_isPicture_V ob121 (c8_isPT hn hj) rfl rfl (by decide) (Nat.le_of_ble_eq_true rfl) ?_
  refine ac_if_eq 17 8 dX8_picture_5 (by decide) rfl (fun c_5 => absurd c_5 (by decide)) (fun _ => ?_)
  refine ac_iload_n 9 dX8_picture_8 rfl rfl ?_
  refine ac_iconst 10 0 dX8_picture_9 rfl (by decide) ?_
  refine ac_iconst 11 5 dX8_picture_10 rfl (by decide) ?_
  refine ac_callS (μ' := m8_within) 14 dX8_picture_11 rfl lk8_67 m8_within_S (c8_wT (by decide)) rfl rfl (by decide) (Nat.le_of_ble_eq_true rfl) ?_
  refine ac_if_ne 20 17 dX8_picture_14 (by decide) rfl (fun _ => ?_) (fun c_14 => absurd c_14 (by decide))
  refine ac_iload_n 21 dX8_picture_20 rfl rfl ?_
  refine ac_iconst 22 4 dX8_picture_21 rfl (by decide) ?_
  refine ac_icmp_ge 34 25 dX8_picture_22 (by decide) rfl (fun c_22 => absurd c_22 (by decide)) (fun _ => ?_)
  refine ac_aload_n 26 dX8_picture_25 rfl rfl ?_
  refine ac_iload_n 27 dX8_picture_26 rfl rfl ?_
  refine ac_iload_n 28 dX8_picture_27 rfl rfl ?_
  refine ac_callV (μ' := m8_ofPicture) 31 dX8_picture_28 rfl lk8_118 m8_ofPicture_V ob121 (c8_ofPicture (w := 0) (by omega) (by decide)) rfl rfl (by decide) (Nat.le_of_ble_eq_true rfl) ?_
  refine ac_goto 56 dX8_picture_31 (by decide) ?_
  refine ac_iret dX8_picture_56 ⟨_, rfl, rfl⟩ ?_
  exact rv_mk rfl
set_option maxRecDepth 20000 in
theorem q8_pic1 {M : am_I} {V : am_J} {f : Nat → Option Nat} {np nd nh j : Nat} (hn : NC (M 122) np nd nh) (hj : j < np) : CT m8_picture 3 [Value.ref 121, Value.int (nI j), Value.int 1] M V f (RV (M 122 (4 + 4 * j + 1)) M V f) := by
  have hnp := hn.2.1
  refine CT.of m8_picture_V.1 _ (en_aii_3 121 (nI j) 1) ?_
  refine ac_aload_n 1 dX8_picture_0 rfl rfl ?_
  refine ac_iload_n 2 dX8_picture_1 rfl rfl ?_
  refine ac_callV (μ' := m8_isPicture) 5 dX8_picture_2 rfl lk8_136 m8_isPicture_V ob121 (c8_isPT hn hj) rfl rfl (by decide) (Nat.le_of_ble_eq_true rfl) ?_
  refine ac_if_eq 17 8 dX8_picture_5 (by decide) rfl (fun c_5 => absurd c_5 (by decide)) (fun _ => ?_)
  refine ac_iload_n 9 dX8_picture_8 rfl rfl ?_
  refine ac_iconst 10 0 dX8_picture_9 rfl (by decide) ?_
  refine ac_iconst 11 5 dX8_picture_10 rfl (by decide) ?_
  refine ac_callS (μ' := m8_within) 14 dX8_picture_11 rfl lk8_67 m8_within_S (c8_wT (by decide)) rfl rfl (by decide) (Nat.le_of_ble_eq_true rfl) ?_
  refine ac_if_ne 20 17 dX8_picture_14 (by decide) rfl (fun _ => ?_) (fun c_14 => absurd c_14 (by decide))
  refine ac_iload_n 21 dX8_picture_20 rfl rfl ?_
  refine ac_iconst 22 4 dX8_picture_21 rfl (by decide) ?_
  refine ac_icmp_ge 34 25 dX8_picture_22 (by decide) rfl (fun c_22 => absurd c_22 (by decide)) (fun _ => ?_)
  refine ac_aload_n 26 dX8_picture_25 rfl rfl ?_
  refine ac_iload_n 27 dX8_picture_26 rfl rfl ?_
  refine ac_iload_n 28 dX8_picture_27 rfl rfl ?_
  refine ac_callV (μ' := m8_ofPicture) 31 dX8_picture_28 rfl lk8_118 m8_ofPicture_V ob121 (c8_ofPicture (w := 1) (by omega) (by decide)) rfl rfl (by decide) (Nat.le_of_ble_eq_true rfl) ?_
  refine ac_goto 56 dX8_picture_31 (by decide) ?_
  refine ac_iret dX8_picture_56 ⟨_, rfl, rfl⟩ ?_
  exact rv_mk rfl
set_option maxRecDepth 20000 in
theorem q8_pic2 {M : am_I} {V : am_J} {f : Nat → Option Nat} {np nd nh j : Nat} (hn : NC (M 122) np nd nh) (hj : j < np) : CT m8_picture 3 [Value.ref 121, Value.int (nI j), Value.int 2] M V f (RV (M 122 (4 + 4 * j + 2)) M V f) := by
  have hnp := hn.2.1
  refine CT.of m8_picture_V.1 _ (en_aii_3 121 (nI j) 2) ?_
  refine ac_aload_n 1 dX8_picture_0 rfl rfl ?_
  refine ac_iload_n 2 dX8_picture_1 rfl rfl ?_
  refine ac_callV (μ' := m8_isPicture) 5 dX8_picture_2 rfl lk8_136 m8_isPicture_V ob121 (c8_isPT hn hj) rfl rfl (by decide) (Nat.le_of_ble_eq_true rfl) ?_
  refine ac_if_eq 17 8 dX8_picture_5 (by decide) rfl (fun c_5 => absurd c_5 (by decide)) (fun _ => ?_)
  refine ac_iload_n 9 dX8_picture_8 rfl rfl ?_
  refine ac_iconst 10 0 dX8_picture_9 rfl (by decide) ?_
  refine ac_iconst 11 5 dX8_picture_10 rfl (by decide) ?_
  refine ac_callS (μ' := m8_within) 14 dX8_picture_11 rfl lk8_67 m8_within_S (c8_wT (by decide)) rfl rfl (by decide) (Nat.le_of_ble_eq_true rfl) ?_
  refine ac_if_ne 20 17 dX8_picture_14 (by decide) rfl (fun _ => ?_) (fun c_14 => absurd c_14 (by decide))
  refine ac_iload_n 21 dX8_picture_20 rfl rfl ?_
  refine ac_iconst 22 4 dX8_picture_21 rfl (by decide) ?_
  refine ac_icmp_ge 34 25 dX8_picture_22 (by decide) rfl (fun c_22 => absurd c_22 (by decide)) (fun _ => ?_)
  refine ac_aload_n 26 dX8_picture_25 rfl rfl ?_
  refine ac_iload_n 27 dX8_picture_26 rfl rfl ?_
  refine ac_iload_n 28 dX8_picture_27 rfl rfl ?_
  refine ac_callV (μ' := m8_ofPicture) 31 dX8_picture_28 rfl lk8_118 m8_ofPicture_V ob121 (c8_ofPicture (w := 2) (by omega) (by decide)) rfl rfl (by decide) (Nat.le_of_ble_eq_true rfl) ?_
  refine ac_goto 56 dX8_picture_31 (by decide) ?_
  refine ac_iret dX8_picture_56 ⟨_, rfl, rfl⟩ ?_
  exact rv_mk rfl
set_option maxRecDepth 20000 in
theorem q8_pic3 {M : am_I} {V : am_J} {f : Nat → Option Nat} {np nd nh j : Nat} (hn : NC (M 122) np nd nh) (hj : j < np) : CT m8_picture 3 [Value.ref 121, Value.int (nI j), Value.int 3] M V f (RV (M 122 (4 + 4 * j + 3)) M V f) := by
  have hnp := hn.2.1
  refine CT.of m8_picture_V.1 _ (en_aii_3 121 (nI j) 3) ?_
  refine ac_aload_n 1 dX8_picture_0 rfl rfl ?_
  refine ac_iload_n 2 dX8_picture_1 rfl rfl ?_
  refine ac_callV (μ' := m8_isPicture) 5 dX8_picture_2 rfl lk8_136 m8_isPicture_V ob121 (c8_isPT hn hj) rfl rfl (by decide) (Nat.le_of_ble_eq_true rfl) ?_
  refine ac_if_eq 17 8 dX8_picture_5 (by decide) rfl (fun c_5 => absurd c_5 (by decide)) (fun _ => ?_)
  refine ac_iload_n 9 dX8_picture_8 rfl rfl ?_
  refine ac_iconst 10 0 dX8_picture_9 rfl (by decide) ?_
  refine ac_iconst 11 5 dX8_picture_10 rfl (by decide) ?_
  refine ac_callS (μ' := m8_within) 14 dX8_picture_11 rfl lk8_67 m8_within_S (c8_wT (by decide)) rfl rfl (by decide) (Nat.le_of_ble_eq_true rfl) ?_
  refine ac_if_ne 20 17 dX8_picture_14 (by decide) rfl (fun _ => ?_) (fun c_14 => absurd c_14 (by decide))
  refine ac_iload_n 21 dX8_picture_20 rfl rfl ?_
  refine ac_iconst 22 4 dX8_picture_21 rfl (by decide) ?_
  refine ac_icmp_ge 34 25 dX8_picture_22 (by decide) rfl (fun c_22 => absurd c_22 (by decide)) (fun _ => ?_)
  refine ac_aload_n 26 dX8_picture_25 rfl rfl ?_
  refine ac_iload_n 27 dX8_picture_26 rfl rfl ?_
  refine ac_iload_n 28 dX8_picture_27 rfl rfl ?_
  refine ac_callV (μ' := m8_ofPicture) 31 dX8_picture_28 rfl lk8_118 m8_ofPicture_V ob121 (c8_ofPicture (w := 3) (by omega) (by decide)) rfl rfl (by decide) (Nat.le_of_ble_eq_true rfl) ?_
  refine ac_goto 56 dX8_picture_31 (by decide) ?_
  refine ac_iret dX8_picture_56 ⟨_, rfl, rfl⟩ ?_
  exact rv_mk rfl
set_option maxRecDepth 20000 in
theorem q8_pic4 {M : am_I} {V : am_J} {f : Nat → Option Nat} {np nd nh j : Nat} (hn : NC (M 122) np nd nh) (hj : j < np) : CT m8_picture 3 [Value.ref 121, Value.int (nI j), Value.int 4] M V f (RV (M 122 (64 + j)) M V f) := by
  have hnp := hn.2.1
  refine CT.of m8_picture_V.1 _ (en_aii_3 121 (nI j) 4) ?_
  refine ac_aload_n 1 dX8_picture_0 rfl rfl ?_
  refine ac_iload_n 2 dX8_picture_1 rfl rfl ?_
  refine ac_callV (μ' := m8_isPicture) 5 dX8_picture_2 rfl lk8_136 m8_isPicture_V ob121 (c8_isPT hn hj) rfl rfl (by decide) (Nat.le_of_ble_eq_true rfl) ?_
  refine ac_if_eq 17 8 dX8_picture_5 (by decide) rfl (fun c_5 => absurd c_5 (by decide)) (fun _ => ?_)
  refine ac_iload_n 9 dX8_picture_8 rfl rfl ?_
  refine ac_iconst 10 0 dX8_picture_9 rfl (by decide) ?_
  refine ac_iconst 11 5 dX8_picture_10 rfl (by decide) ?_
  refine ac_callS (μ' := m8_within) 14 dX8_picture_11 rfl lk8_67 m8_within_S (c8_wT (by decide)) rfl rfl (by decide) (Nat.le_of_ble_eq_true rfl) ?_
  refine ac_if_ne 20 17 dX8_picture_14 (by decide) rfl (fun _ => ?_) (fun c_14 => absurd c_14 (by decide))
  refine ac_iload_n 21 dX8_picture_20 rfl rfl ?_
  refine ac_iconst 22 4 dX8_picture_21 rfl (by decide) ?_
  refine ac_icmp_ge 34 25 dX8_picture_22 (by decide) rfl (fun _ => ?_) (fun c_22 => absurd (by decide) c_22)
  refine ac_iload_n 35 dX8_picture_34 rfl rfl ?_
  refine ac_iconst 36 4 dX8_picture_35 rfl (by decide) ?_
  refine ac_icmp_ne 51 39 dX8_picture_36 (by decide) rfl (fun c_36 => absurd (by decide) c_36) (fun _ => ?_)
  refine ac_aload_n 40 dX8_picture_39 rfl rfl ?_
  refine ac_getO 43 122 dX8_picture_40 rfl fl8_7 ob121 rfl ?_
  refine ac_bipush 45 64 dX8_picture_43 rfl (by decide) ?_
  refine ac_iload_n 46 dX8_picture_45 rfl rfl ?_
  refine ac_iadd 47 dX8_picture_46 rfl ?_
  refine ac_iald 48 dX8_picture_47 rfl ar122 (ix_of (k := (64 + (j))) (by simp only [show (64 : Int32) = nI 64 from rfl, pk_mul, nI_add]) (by omega) (by decide)) ?_
  refine ac_goto 56 dX8_picture_48 (by decide) ?_
  refine ac_iret dX8_picture_56 ⟨_, rfl, rfl⟩ ?_
  exact rv_mk rfl
set_option maxRecDepth 20000 in
theorem q8_pic5 {M : am_I} {V : am_J} {f : Nat → Option Nat} {np nd nh j : Nat} (hn : NC (M 122) np nd nh) (hj : j < np) : CT m8_picture 3 [Value.ref 121, Value.int (nI j), Value.int 5] M V f (RV (hkY (M 122) j) M V f) := by
  have hnp := hn.2.1
  refine CT.of m8_picture_V.1 _ (en_aii_3 121 (nI j) 5) ?_
  refine ac_aload_n 1 dX8_picture_0 rfl rfl ?_
  refine ac_iload_n 2 dX8_picture_1 rfl rfl ?_
  refine ac_callV (μ' := m8_isPicture) 5 dX8_picture_2 rfl lk8_136 m8_isPicture_V ob121 (c8_isPT hn hj) rfl rfl (by decide) (Nat.le_of_ble_eq_true rfl) ?_
  refine ac_if_eq 17 8 dX8_picture_5 (by decide) rfl (fun c_5 => absurd c_5 (by decide)) (fun _ => ?_)
  refine ac_iload_n 9 dX8_picture_8 rfl rfl ?_
  refine ac_iconst 10 0 dX8_picture_9 rfl (by decide) ?_
  refine ac_iconst 11 5 dX8_picture_10 rfl (by decide) ?_
  refine ac_callS (μ' := m8_within) 14 dX8_picture_11 rfl lk8_67 m8_within_S (c8_wT (by decide)) rfl rfl (by decide) (Nat.le_of_ble_eq_true rfl) ?_
  refine ac_if_ne 20 17 dX8_picture_14 (by decide) rfl (fun _ => ?_) (fun c_14 => absurd c_14 (by decide))
  refine ac_iload_n 21 dX8_picture_20 rfl rfl ?_
  refine ac_iconst 22 4 dX8_picture_21 rfl (by decide) ?_
  refine ac_icmp_ge 34 25 dX8_picture_22 (by decide) rfl (fun _ => ?_) (fun c_22 => absurd (by decide) c_22)
  refine ac_iload_n 35 dX8_picture_34 rfl rfl ?_
  refine ac_iconst 36 4 dX8_picture_35 rfl (by decide) ?_
  refine ac_icmp_ne 51 39 dX8_picture_36 (by decide) rfl (fun _ => ?_) (fun c_36 => absurd c_36 (by decide))
  refine ac_aload_n 52 dX8_picture_51 rfl rfl ?_
  refine ac_iload_n 53 dX8_picture_52 rfl rfl ?_
  refine ac_callV (μ' := m8_hookY) 56 dX8_picture_53 rfl lk8_129 m8_hookY_V ob121 (c8_hookY (by omega)) rfl rfl (by decide) (Nat.le_of_ble_eq_true rfl) ?_
  refine ac_iret dX8_picture_56 ⟨_, rfl, rfl⟩ ?_
  exact rv_mk rfl
set_option maxRecDepth 20000 in
theorem q8_holF {M : am_I} {V : am_J} {f : Nat → Option Nat} {np nd nh : Nat} (hn : NC (M 122) np nd nh) {p : Int32} (hp : ¬ vI p nh) (what : Int32) : CT m8_hole 4 [Value.ref 121, Value.int p, Value.int what] M V f (RV (-1000000) M V f) := by
  refine CT.of m8_hole_V.1 _ (en_aii_3 121 p what) ?_
  refine ac_aload_n 1 dX8_hole_0 rfl rfl ?_
  refine ac_iload_n 2 dX8_hole_1 rfl rfl ?_
  refine ac_callV (μ' := m8_isHole) 5 dX8_hole_2 rfl lk8_148 m8_isHole_V ob121 (c8_isHF hn hp) rfl rfl (by decide) (Nat.le_of_ble_eq_true rfl) ?_
  refine ac_if_eq 17 8 dX8_hole_5 (by decide) rfl (fun _ => ?_) (fun c_5 => absurd (by decide) c_5)
  refine ac_ldc 19 dX8_hole_17 rfl kc8_154 ?_
  refine ac_iret dX8_hole_19 ⟨_, rfl, rfl⟩ ?_
  exact rv_mk rfl
set_option maxRecDepth 20000 in
theorem q8_holW {M : am_I} {V : am_J} {f : Nat → Option Nat} {np nd nh j : Nat} (hn : NC (M 122) np nd nh) (hj : j < nh) {what : Int32} (hw : ¬ vI what 3) : CT m8_hole 4 [Value.ref 121, Value.int (nI j), Value.int what] M V f (RV (-1000000) M V f) := by
  have hnh := hn.2.2.2.2.2
  refine CT.of m8_hole_V.1 _ (en_aii_3 121 (nI j) what) ?_
  refine ac_aload_n 1 dX8_hole_0 rfl rfl ?_
  refine ac_iload_n 2 dX8_hole_1 rfl rfl ?_
  refine ac_callV (μ' := m8_isHole) 5 dX8_hole_2 rfl lk8_148 m8_isHole_V ob121 (c8_isHT hn hj) rfl rfl (by decide) (Nat.le_of_ble_eq_true rfl) ?_
  refine ac_if_eq 17 8 dX8_hole_5 (by decide) rfl (fun c_5 => absurd c_5 (by decide)) (fun _ => ?_)
  refine ac_iload_n 9 dX8_hole_8 rfl rfl ?_
  refine ac_iconst 10 0 dX8_hole_9 rfl (by decide) ?_
  refine ac_iconst 11 2 dX8_hole_10 rfl (by decide) ?_
  refine ac_callS (μ' := m8_within) 14 dX8_hole_11 rfl lk8_67 m8_within_S (c8_wF (wh_not (n := 3) (by decide) hw rfl)) rfl rfl (by decide) (Nat.le_of_ble_eq_true rfl) ?_
  refine ac_if_ne 20 17 dX8_hole_14 (by decide) rfl (fun c_14 => absurd (by decide) c_14) (fun _ => ?_)
  refine ac_ldc 19 dX8_hole_17 rfl kc8_154 ?_
  refine ac_iret dX8_hole_19 ⟨_, rfl, rfl⟩ ?_
  exact rv_mk rfl
set_option maxRecDepth 20000 in
theorem q8_hol0 {M : am_I} {V : am_J} {f : Nat → Option Nat} {np nd nh j : Nat} (hn : NC (M 122) np nd nh) (hj : j < nh) : CT m8_hole 4 [Value.ref 121, Value.int (nI j), Value.int 0] M V f (RV (M 122 (32 + 2 * j + 0)) M V f) := by
  have hnh := hn.2.2.2.2.2
  refine CT.of m8_hole_V.1 _ (en_aii_3 121 (nI j) 0) ?_
  refine ac_aload_n 1 dX8_hole_0 rfl rfl ?_
  refine ac_iload_n 2 dX8_hole_1 rfl rfl ?_
  refine ac_callV (μ' := m8_isHole) 5 dX8_hole_2 rfl lk8_148 m8_isHole_V ob121 (c8_isHT hn hj) rfl rfl (by decide) (Nat.le_of_ble_eq_true rfl) ?_
  refine ac_if_eq 17 8 dX8_hole_5 (by decide) rfl (fun c_5 => absurd c_5 (by decide)) (fun _ => ?_)
  refine ac_iload_n 9 dX8_hole_8 rfl rfl ?_
  refine ac_iconst 10 0 dX8_hole_9 rfl (by decide) ?_
  refine ac_iconst 11 2 dX8_hole_10 rfl (by decide) ?_
  refine ac_callS (μ' := m8_within) 14 dX8_hole_11 rfl lk8_67 m8_within_S (c8_wT (by decide)) rfl rfl (by decide) (Nat.le_of_ble_eq_true rfl) ?_
  refine ac_if_ne 20 17 dX8_hole_14 (by decide) rfl (fun _ => ?_) (fun c_14 => absurd c_14 (by decide))
  refine ac_iload_n 21 dX8_hole_20 rfl rfl ?_
  refine ac_iconst 22 2 dX8_hole_21 rfl (by decide) ?_
  refine ac_icmp_ge 41 25 dX8_hole_22 (by decide) rfl (fun c_22 => absurd c_22 (by decide)) (fun _ => ?_)
  refine ac_aload_n 26 dX8_hole_25 rfl rfl ?_
  refine ac_getO 29 122 dX8_hole_26 rfl fl8_7 ob121 rfl ?_
  refine ac_bipush 31 32 dX8_hole_29 rfl (by decide) ?_
  refine ac_iconst 32 2 dX8_hole_31 rfl (by decide) ?_
  refine ac_iload_n 33 dX8_hole_32 rfl rfl ?_
  refine ac_imul 34 dX8_hole_33 rfl ?_
  refine ac_iadd 35 dX8_hole_34 rfl ?_
  refine ac_iload_n 36 dX8_hole_35 rfl rfl ?_
  refine ac_iadd 37 dX8_hole_36 rfl ?_
  refine ac_iald 38 dX8_hole_37 rfl ar122 (ix_of (k := ((32 + (2 * (j))) + 0)) (by simp only [show (0 : Int32) = nI 0 from rfl, show (2 : Int32) = nI 2 from rfl, show (32 : Int32) = nI 32 from rfl, pk_mul, nI_add]) (by omega) (by decide)) ?_
  refine ac_goto 46 dX8_hole_38 (by decide) ?_
  refine ac_iret dX8_hole_46 ⟨_, rfl, rfl⟩ ?_
  exact rv_mk rfl
set_option maxRecDepth 20000 in
theorem q8_hol1 {M : am_I} {V : am_J} {f : Nat → Option Nat} {np nd nh j : Nat} (hn : NC (M 122) np nd nh) (hj : j < nh) : CT m8_hole 4 [Value.ref 121, Value.int (nI j), Value.int 1] M V f (RV (M 122 (32 + 2 * j + 1)) M V f) := by
  have hnh := hn.2.2.2.2.2
  refine CT.of m8_hole_V.1 _ (en_aii_3 121 (nI j) 1) ?_
  refine ac_aload_n 1 dX8_hole_0 rfl rfl ?_
  refine ac_iload_n 2 dX8_hole_1 rfl rfl ?_
  refine ac_callV (μ' := m8_isHole) 5 dX8_hole_2 rfl lk8_148 m8_isHole_V ob121 (c8_isHT hn hj) rfl rfl (by decide) (Nat.le_of_ble_eq_true rfl) ?_
  refine ac_if_eq 17 8 dX8_hole_5 (by decide) rfl (fun c_5 => absurd c_5 (by decide)) (fun _ => ?_)
  refine ac_iload_n 9 dX8_hole_8 rfl rfl ?_
  refine ac_iconst 10 0 dX8_hole_9 rfl (by decide) ?_
  refine ac_iconst 11 2 dX8_hole_10 rfl (by decide) ?_
  refine ac_callS (μ' := m8_within) 14 dX8_hole_11 rfl lk8_67 m8_within_S (c8_wT (by decide)) rfl rfl (by decide) (Nat.le_of_ble_eq_true rfl) ?_
  refine ac_if_ne 20 17 dX8_hole_14 (by decide) rfl (fun _ => ?_) (fun c_14 => absurd c_14 (by decide))
  refine ac_iload_n 21 dX8_hole_20 rfl rfl ?_
  refine ac_iconst 22 2 dX8_hole_21 rfl (by decide) ?_
  refine ac_icmp_ge 41 25 dX8_hole_22 (by decide) rfl (fun c_22 => absurd c_22 (by decide)) (fun _ => ?_)
  refine ac_aload_n 26 dX8_hole_25 rfl rfl ?_
  refine ac_getO 29 122 dX8_hole_26 rfl fl8_7 ob121 rfl ?_
  refine ac_bipush 31 32 dX8_hole_29 rfl (by decide) ?_
  refine ac_iconst 32 2 dX8_hole_31 rfl (by decide) ?_
  refine ac_iload_n 33 dX8_hole_32 rfl rfl ?_
  refine ac_imul 34 dX8_hole_33 rfl ?_
  refine ac_iadd 35 dX8_hole_34 rfl ?_
  refine ac_iload_n 36 dX8_hole_35 rfl rfl ?_
  refine ac_iadd 37 dX8_hole_36 rfl ?_
  refine ac_iald 38 dX8_hole_37 rfl ar122 (ix_of (k := ((32 + (2 * (j))) + 1)) (by simp only [show (1 : Int32) = nI 1 from rfl, show (2 : Int32) = nI 2 from rfl, show (32 : Int32) = nI 32 from rfl, pk_mul, nI_add]) (by omega) (by decide)) ?_
  refine ac_goto 46 dX8_hole_38 (by decide) ?_
  refine ac_iret dX8_hole_46 ⟨_, rfl, rfl⟩ ?_
  exact rv_mk rfl
set_option maxRecDepth 20000 in
theorem q8_hol2 {M : am_I} {V : am_J} {f : Nat → Option Nat} {np nd nh j : Nat} (hn : NC (M 122) np nd nh) (hj : j < nh) : CT m8_hole 4 [Value.ref 121, Value.int (nI j), Value.int 2] M V f (RV (laN (onN (M 122) j) np) M V f) := by
  have hnh := hn.2.2.2.2.2
  refine CT.of m8_hole_V.1 _ (en_aii_3 121 (nI j) 2) ?_
  refine ac_aload_n 1 dX8_hole_0 rfl rfl ?_
  refine ac_iload_n 2 dX8_hole_1 rfl rfl ?_
  refine ac_callV (μ' := m8_isHole) 5 dX8_hole_2 rfl lk8_148 m8_isHole_V ob121 (c8_isHT hn hj) rfl rfl (by decide) (Nat.le_of_ble_eq_true rfl) ?_
  refine ac_if_eq 17 8 dX8_hole_5 (by decide) rfl (fun c_5 => absurd c_5 (by decide)) (fun _ => ?_)
  refine ac_iload_n 9 dX8_hole_8 rfl rfl ?_
  refine ac_iconst 10 0 dX8_hole_9 rfl (by decide) ?_
  refine ac_iconst 11 2 dX8_hole_10 rfl (by decide) ?_
  refine ac_callS (μ' := m8_within) 14 dX8_hole_11 rfl lk8_67 m8_within_S (c8_wT (by decide)) rfl rfl (by decide) (Nat.le_of_ble_eq_true rfl) ?_
  refine ac_if_ne 20 17 dX8_hole_14 (by decide) rfl (fun _ => ?_) (fun c_14 => absurd c_14 (by decide))
  refine ac_iload_n 21 dX8_hole_20 rfl rfl ?_
  refine ac_iconst 22 2 dX8_hole_21 rfl (by decide) ?_
  refine ac_icmp_ge 41 25 dX8_hole_22 (by decide) rfl (fun _ => ?_) (fun c_22 => absurd (by decide) c_22)
  refine ac_aload_n 42 dX8_hole_41 rfl rfl ?_
  refine ac_iload_n 43 dX8_hole_42 rfl rfl ?_
  refine ac_callV (μ' := m8_hangingAt) 46 dX8_hole_43 rfl lk8_151 m8_hangingAt_V ob121 (c8_hangingAt hn (by omega)) rfl rfl (by decide) (Nat.le_of_ble_eq_true rfl) ?_
  refine ac_iret dX8_hole_46 ⟨_, rfl, rfl⟩ ?_
  exact rv_mk rfl
set_option maxRecDepth 20000 in
theorem q8_dooF {M : am_I} {V : am_J} {f : Nat → Option Nat} {np nd nh : Nat} (hn : NC (M 122) np nd nh) {p : Int32} (hp : ¬ vI p nd) (what : Int32) : CT m8_door 2 [Value.ref 121, Value.int p, Value.int what] M V f (RV (-1) M V f) := by
  have hnd := hn.2.2.2.1
  refine CT.of m8_door_V.1 _ (en_aii_3 121 p what) ?_
  refine ac_iload_n 1 dX8_door_0 rfl rfl ?_
  refine ac_iconst 2 0 dX8_door_1 rfl (by decide) ?_
  refine ac_aload_n 3 dX8_door_2 rfl rfl ?_
  refine ac_getO 6 122 dX8_door_3 rfl fl8_7 ob121 rfl ?_
  refine ac_bipush 8 24 dX8_door_6 rfl (by decide) ?_
  refine ac_iald 9 dX8_door_8 rfl ar122 (ix_nI (k := 24) (by decide) (by decide)) ?_
  refine ac_iconst 10 1 dX8_door_9 rfl (by decide) ?_
  refine ac_isub 11 dX8_door_10 rfl ?_
  refine ac_callS (μ' := m8_within) 14 dX8_door_11 rfl lk8_67 m8_within_S (c8_wF (by rw [hn.2.2.1]; exact nI_nlem (by omega) (fun j hj e => hp ⟨j, hj, e⟩))) rfl rfl (by decide) (Nat.le_of_ble_eq_true rfl) ?_
  refine ac_if_eq 42 17 dX8_door_14 (by decide) rfl (fun _ => ?_) (fun c_14 => absurd (by decide) c_14)
  refine ac_iconst 43 (-1) dX8_door_42 rfl (by decide) ?_
  refine ac_iret dX8_door_43 ⟨_, rfl, rfl⟩ ?_
  exact rv_mk rfl
set_option maxRecDepth 20000 in
theorem q8_dooW {M : am_I} {V : am_J} {f : Nat → Option Nat} {np nd nh j : Nat} (hn : NC (M 122) np nd nh) (hj : j < nd) {what : Int32} (hw : ¬ vI what 2) : CT m8_door 2 [Value.ref 121, Value.int (nI j), Value.int what] M V f (RV (-1) M V f) := by
  have hnd := hn.2.2.2.1
  refine CT.of m8_door_V.1 _ (en_aii_3 121 (nI j) what) ?_
  refine ac_iload_n 1 dX8_door_0 rfl rfl ?_
  refine ac_iconst 2 0 dX8_door_1 rfl (by decide) ?_
  refine ac_aload_n 3 dX8_door_2 rfl rfl ?_
  refine ac_getO 6 122 dX8_door_3 rfl fl8_7 ob121 rfl ?_
  refine ac_bipush 8 24 dX8_door_6 rfl (by decide) ?_
  refine ac_iald 9 dX8_door_8 rfl ar122 (ix_nI (k := 24) (by decide) (by decide)) ?_
  refine ac_iconst 10 1 dX8_door_9 rfl (by decide) ?_
  refine ac_isub 11 dX8_door_10 rfl ?_
  refine ac_callS (μ' := m8_within) 14 dX8_door_11 rfl lk8_67 m8_within_S (c8_wT ⟨nI_pos0 (by omega), by rw [hn.2.2.1]; exact nI_lem hj (by omega)⟩) rfl rfl (by decide) (Nat.le_of_ble_eq_true rfl) ?_
  refine ac_if_eq 42 17 dX8_door_14 (by decide) rfl (fun c_14 => absurd c_14 (by decide)) (fun _ => ?_)
  refine ac_iload_n 18 dX8_door_17 rfl rfl ?_
  refine ac_iconst 19 0 dX8_door_18 rfl (by decide) ?_
  refine ac_iconst 20 1 dX8_door_19 rfl (by decide) ?_
  refine ac_callS (μ' := m8_within) 23 dX8_door_20 rfl lk8_67 m8_within_S (c8_wF (wh_not (n := 2) (by decide) hw rfl)) rfl rfl (by decide) (Nat.le_of_ble_eq_true rfl) ?_
  refine ac_if_eq 42 26 dX8_door_23 (by decide) rfl (fun _ => ?_) (fun c_23 => absurd (by decide) c_23)
  refine ac_iconst 43 (-1) dX8_door_42 rfl (by decide) ?_
  refine ac_iret dX8_door_43 ⟨_, rfl, rfl⟩ ?_
  exact rv_mk rfl
set_option maxRecDepth 20000 in
theorem q8_doo0 {M : am_I} {V : am_J} {f : Nat → Option Nat} {np nd nh j : Nat} (hn : NC (M 122) np nd nh) (hj : j < nd) : CT m8_door 2 [Value.ref 121, Value.int (nI j), Value.int 0] M V f (RV (M 122 (25 + 2 * j + 0)) M V f) := by
  have hnd := hn.2.2.2.1
  refine CT.of m8_door_V.1 _ (en_aii_3 121 (nI j) 0) ?_
  refine ac_iload_n 1 dX8_door_0 rfl rfl ?_
  refine ac_iconst 2 0 dX8_door_1 rfl (by decide) ?_
  refine ac_aload_n 3 dX8_door_2 rfl rfl ?_
  refine ac_getO 6 122 dX8_door_3 rfl fl8_7 ob121 rfl ?_
  refine ac_bipush 8 24 dX8_door_6 rfl (by decide) ?_
  refine ac_iald 9 dX8_door_8 rfl ar122 (ix_nI (k := 24) (by decide) (by decide)) ?_
  refine ac_iconst 10 1 dX8_door_9 rfl (by decide) ?_
  refine ac_isub 11 dX8_door_10 rfl ?_
  refine ac_callS (μ' := m8_within) 14 dX8_door_11 rfl lk8_67 m8_within_S (c8_wT ⟨nI_pos0 (by omega), by rw [hn.2.2.1]; exact nI_lem hj (by omega)⟩) rfl rfl (by decide) (Nat.le_of_ble_eq_true rfl) ?_
  refine ac_if_eq 42 17 dX8_door_14 (by decide) rfl (fun c_14 => absurd c_14 (by decide)) (fun _ => ?_)
  refine ac_iload_n 18 dX8_door_17 rfl rfl ?_
  refine ac_iconst 19 0 dX8_door_18 rfl (by decide) ?_
  refine ac_iconst 20 1 dX8_door_19 rfl (by decide) ?_
  refine ac_callS (μ' := m8_within) 23 dX8_door_20 rfl lk8_67 m8_within_S (c8_wT (by decide)) rfl rfl (by decide) (Nat.le_of_ble_eq_true rfl) ?_
  refine ac_if_eq 42 26 dX8_door_23 (by decide) rfl (fun c_23 => absurd c_23 (by decide)) (fun _ => ?_)
  refine ac_aload_n 27 dX8_door_26 rfl rfl ?_
  refine ac_getO 30 122 dX8_door_27 rfl fl8_7 ob121 rfl ?_
  refine ac_bipush 32 25 dX8_door_30 rfl (by decide) ?_
  refine ac_iconst 33 2 dX8_door_32 rfl (by decide) ?_
  refine ac_iload_n 34 dX8_door_33 rfl rfl ?_
  refine ac_imul 35 dX8_door_34 rfl ?_
  refine ac_iadd 36 dX8_door_35 rfl ?_
  refine ac_iload_n 37 dX8_door_36 rfl rfl ?_
  refine ac_iadd 38 dX8_door_37 rfl ?_
  refine ac_iald 39 dX8_door_38 rfl ar122 (ix_of (k := ((25 + (2 * (j))) + 0)) (by simp only [show (0 : Int32) = nI 0 from rfl, show (2 : Int32) = nI 2 from rfl, show (25 : Int32) = nI 25 from rfl, pk_mul, nI_add]) (by omega) (by decide)) ?_
  refine ac_goto 43 dX8_door_39 (by decide) ?_
  refine ac_iret dX8_door_43 ⟨_, rfl, rfl⟩ ?_
  exact rv_mk rfl
set_option maxRecDepth 20000 in
theorem q8_doo1 {M : am_I} {V : am_J} {f : Nat → Option Nat} {np nd nh j : Nat} (hn : NC (M 122) np nd nh) (hj : j < nd) : CT m8_door 2 [Value.ref 121, Value.int (nI j), Value.int 1] M V f (RV (M 122 (25 + 2 * j + 1)) M V f) := by
  have hnd := hn.2.2.2.1
  refine CT.of m8_door_V.1 _ (en_aii_3 121 (nI j) 1) ?_
  refine ac_iload_n 1 dX8_door_0 rfl rfl ?_
  refine ac_iconst 2 0 dX8_door_1 rfl (by decide) ?_
  refine ac_aload_n 3 dX8_door_2 rfl rfl ?_
  refine ac_getO 6 122 dX8_door_3 rfl fl8_7 ob121 rfl ?_
  refine ac_bipush 8 24 dX8_door_6 rfl (by decide) ?_
  refine ac_iald 9 dX8_door_8 rfl ar122 (ix_nI (k := 24) (by decide) (by decide)) ?_
  refine ac_iconst 10 1 dX8_door_9 rfl (by decide) ?_
  refine ac_isub 11 dX8_door_10 rfl ?_
  refine ac_callS (μ' := m8_within) 14 dX8_door_11 rfl lk8_67 m8_within_S (c8_wT ⟨nI_pos0 (by omega), by rw [hn.2.2.1]; exact nI_lem hj (by omega)⟩) rfl rfl (by decide) (Nat.le_of_ble_eq_true rfl) ?_
  refine ac_if_eq 42 17 dX8_door_14 (by decide) rfl (fun c_14 => absurd c_14 (by decide)) (fun _ => ?_)
  refine ac_iload_n 18 dX8_door_17 rfl rfl ?_
  refine ac_iconst 19 0 dX8_door_18 rfl (by decide) ?_
  refine ac_iconst 20 1 dX8_door_19 rfl (by decide) ?_
  refine ac_callS (μ' := m8_within) 23 dX8_door_20 rfl lk8_67 m8_within_S (c8_wT (by decide)) rfl rfl (by decide) (Nat.le_of_ble_eq_true rfl) ?_
  refine ac_if_eq 42 26 dX8_door_23 (by decide) rfl (fun c_23 => absurd c_23 (by decide)) (fun _ => ?_)
  refine ac_aload_n 27 dX8_door_26 rfl rfl ?_
  refine ac_getO 30 122 dX8_door_27 rfl fl8_7 ob121 rfl ?_
  refine ac_bipush 32 25 dX8_door_30 rfl (by decide) ?_
  refine ac_iconst 33 2 dX8_door_32 rfl (by decide) ?_
  refine ac_iload_n 34 dX8_door_33 rfl rfl ?_
  refine ac_imul 35 dX8_door_34 rfl ?_
  refine ac_iadd 36 dX8_door_35 rfl ?_
  refine ac_iload_n 37 dX8_door_36 rfl rfl ?_
  refine ac_iadd 38 dX8_door_37 rfl ?_
  refine ac_iald 39 dX8_door_38 rfl ar122 (ix_of (k := ((25 + (2 * (j))) + 1)) (by simp only [show (1 : Int32) = nI 1 from rfl, show (2 : Int32) = nI 2 from rfl, show (25 : Int32) = nI 25 from rfl, pk_mul, nI_add]) (by omega) (by decide)) ?_
  refine ac_goto 43 dX8_door_39 (by decide) ?_
  refine ac_iret dX8_door_43 ⟨_, rfl, rfl⟩ ?_
  exact rv_mk rfl
set_option maxRecDepth 20000 in
theorem q8_mom0 {M : am_I} {V : am_J} {f : Nat → Option Nat} {np nd nh : Nat} (hn : NC (M 122) np nd nh) : CT m8_moment 5 [Value.ref 121, Value.int 0] M V f (RV (moN (M 122) np) M V f) := by
  refine CT.of m8_moment_V.1 _ (en_ai_2 121 0) ?_
  refine ac_iload_n 1 dX8_moment_0 rfl rfl ?_
  refine ac_if_ne 11 4 dX8_moment_1 (by decide) rfl (fun c_1 => absurd (by decide) c_1) (fun _ => ?_)
  refine ac_aload_n 5 dX8_moment_4 rfl rfl ?_
  refine ac_callV (μ' := m8_momentNow) 8 dX8_moment_5 rfl lk8_158 m8_momentNow_V ob121 (c8_momentNow hn) rfl rfl (by decide) (Nat.le_of_ble_eq_true rfl) ?_
  refine ac_goto 28 dX8_moment_8 (by decide) ?_
  refine ac_iret dX8_moment_28 ⟨_, rfl, rfl⟩ ?_
  exact rv_mk rfl
set_option maxRecDepth 20000 in
theorem q8_mom1 {M : am_I} {V : am_J} {f : Nat → Option Nat} {np nd nh : Nat} (hn : NC (M 122) np nd nh) : CT m8_moment 5 [Value.ref 121, Value.int 1] M V f (RV (if moN (M 122) np < 0 then -moN (M 122) np else moN (M 122) np) M V f) := by
  refine CT.of m8_moment_V.1 _ (en_ai_2 121 1) ?_
  refine ac_iload_n 1 dX8_moment_0 rfl rfl ?_
  refine ac_if_ne 11 4 dX8_moment_1 (by decide) rfl (fun _ => ?_) (fun c_1 => absurd c_1 (by decide))
  refine ac_iload_n 12 dX8_moment_11 rfl rfl ?_
  refine ac_iconst 13 1 dX8_moment_12 rfl (by decide) ?_
  refine ac_icmp_ne 26 16 dX8_moment_13 (by decide) rfl (fun c_13 => absurd (by decide) c_13) (fun _ => ?_)
  refine ac_aload_n 17 dX8_moment_16 rfl rfl ?_
  refine ac_callV (μ' := m8_momentNow) 20 dX8_moment_17 rfl lk8_158 m8_momentNow_V ob121 (c8_momentNow hn) rfl rfl (by decide) (Nat.le_of_ble_eq_true rfl) ?_
  refine ac_callS (μ' := m8_off) 23 dX8_moment_20 rfl lk8_161 m8_off_S (c8_off _) rfl rfl (by decide) (Nat.le_of_ble_eq_true rfl) ?_
  refine ac_goto 28 dX8_moment_23 (by decide) ?_
  refine ac_iret dX8_moment_28 ⟨_, rfl, rfl⟩ ?_
  exact rv_mk rfl
set_option maxRecDepth 20000 in
theorem q8_momW {M : am_I} {V : am_J} {f : Nat → Option Nat} {np nd nh : Nat} (hn : NC (M 122) np nd nh) {what : Int32} (hw : ¬ vI what 2) : CT m8_moment 5 [Value.ref 121, Value.int what] M V f (RV (-1000000) M V f) := by
  refine CT.of m8_moment_V.1 _ (en_ai_2 121 what) ?_
  refine ac_iload_n 1 dX8_moment_0 rfl rfl ?_
  refine ac_if_ne 11 4 dX8_moment_1 (by decide) rfl (fun _ => ?_) (fun c_1 => absurd c_1 (fun e => hw ⟨0, by decide, e⟩))
  refine ac_iload_n 12 dX8_moment_11 rfl rfl ?_
  refine ac_iconst 13 1 dX8_moment_12 rfl (by decide) ?_
  refine ac_icmp_ne 26 16 dX8_moment_13 (by decide) rfl (fun _ => ?_) (fun c_13 => absurd c_13 (fun e => hw ⟨1, by decide, e⟩))
  refine ac_ldc 28 dX8_moment_26 rfl kc8_154 ?_
  refine ac_iret dX8_moment_28 ⟨_, rfl, rfl⟩ ?_
  exact rv_mk rfl
set_option maxRecDepth 20000 in
theorem q8_cnt0 {M : am_I} {V : am_J} {f : Nat → Option Nat} {np nd nh : Nat} (hn : NC (M 122) np nd nh) : CT m8_count 3 [Value.ref 121, Value.int 0] M V f (RV (M 122 0) M V f) := by
  refine CT.of m8_count_V.1 _ (en_ai_2 121 0) ?_
  refine ac_iload_n 1 dX8_count_0 rfl rfl ?_
  refine ac_tableIn 56 0 55 dX8_count_1 (by decide) (by decide) (by decide) (by decide) ?_
  refine ac_aload_n 57 dX8_count_56 rfl rfl ?_
  refine ac_getO 60 122 dX8_count_57 rfl fl8_7 ob121 rfl ?_
  refine ac_iconst 61 0 dX8_count_60 rfl (by decide) ?_
  refine ac_iald 62 dX8_count_61 rfl ar122 (ix_nI (k := 0) (by decide) (by decide)) ?_
  refine ac_iret dX8_count_62 ⟨_, rfl, rfl⟩ ?_
  exact rv_mk rfl
set_option maxRecDepth 20000 in
theorem q8_cnt1 {M : am_I} {V : am_J} {f : Nat → Option Nat} {np nd nh : Nat} (hn : NC (M 122) np nd nh) : CT m8_count 3 [Value.ref 121, Value.int 1] M V f (RV (M 122 1) M V f) := by
  refine CT.of m8_count_V.1 _ (en_ai_2 121 1) ?_
  refine ac_iload_n 1 dX8_count_0 rfl rfl ?_
  refine ac_tableIn 63 1 62 dX8_count_1 (by decide) (by decide) (by decide) (by decide) ?_
  refine ac_aload_n 64 dX8_count_63 rfl rfl ?_
  refine ac_getO 67 122 dX8_count_64 rfl fl8_7 ob121 rfl ?_
  refine ac_iconst 68 1 dX8_count_67 rfl (by decide) ?_
  refine ac_iald 69 dX8_count_68 rfl ar122 (ix_nI (k := 1) (by decide) (by decide)) ?_
  refine ac_iret dX8_count_69 ⟨_, rfl, rfl⟩ ?_
  exact rv_mk rfl
set_option maxRecDepth 20000 in
theorem q8_cnt2 {M : am_I} {V : am_J} {f : Nat → Option Nat} {np nd nh : Nat} (hn : NC (M 122) np nd nh) : CT m8_count 3 [Value.ref 121, Value.int 2] M V f (RV (M 122 2) M V f) := by
  refine CT.of m8_count_V.1 _ (en_ai_2 121 2) ?_
  refine ac_iload_n 1 dX8_count_0 rfl rfl ?_
  refine ac_tableIn 70 2 69 dX8_count_1 (by decide) (by decide) (by decide) (by decide) ?_
  refine ac_aload_n 71 dX8_count_70 rfl rfl ?_
  refine ac_getO 74 122 dX8_count_71 rfl fl8_7 ob121 rfl ?_
  refine ac_iconst 75 2 dX8_count_74 rfl (by decide) ?_
  refine ac_iald 76 dX8_count_75 rfl ar122 (ix_nI (k := 2) (by decide) (by decide)) ?_
  refine ac_iret dX8_count_76 ⟨_, rfl, rfl⟩ ?_
  exact rv_mk rfl
set_option maxRecDepth 20000 in
theorem q8_cnt3 {M : am_I} {V : am_J} {f : Nat → Option Nat} {np nd nh : Nat} (hn : NC (M 122) np nd nh) : CT m8_count 3 [Value.ref 121, Value.int 3] M V f (RV (M 122 3) M V f) := by
  refine CT.of m8_count_V.1 _ (en_ai_2 121 3) ?_
  refine ac_iload_n 1 dX8_count_0 rfl rfl ?_
  refine ac_tableIn 77 3 76 dX8_count_1 (by decide) (by decide) (by decide) (by decide) ?_
  refine ac_aload_n 78 dX8_count_77 rfl rfl ?_
  refine ac_getO 81 122 dX8_count_78 rfl fl8_7 ob121 rfl ?_
  refine ac_iconst 82 3 dX8_count_81 rfl (by decide) ?_
  refine ac_iald 83 dX8_count_82 rfl ar122 (ix_nI (k := 3) (by decide) (by decide)) ?_
  refine ac_iret dX8_count_83 ⟨_, rfl, rfl⟩ ?_
  exact rv_mk rfl
set_option maxRecDepth 20000 in
theorem q8_cnt4 {M : am_I} {V : am_J} {f : Nat → Option Nat} {np nd nh : Nat} (hn : NC (M 122) np nd nh) : CT m8_count 3 [Value.ref 121, Value.int 4] M V f (RV (M 122 24) M V f) := by
  refine CT.of m8_count_V.1 _ (en_ai_2 121 4) ?_
  refine ac_iload_n 1 dX8_count_0 rfl rfl ?_
  refine ac_tableIn 84 4 83 dX8_count_1 (by decide) (by decide) (by decide) (by decide) ?_
  refine ac_aload_n 85 dX8_count_84 rfl rfl ?_
  refine ac_getO 88 122 dX8_count_85 rfl fl8_7 ob121 rfl ?_
  refine ac_bipush 90 24 dX8_count_88 rfl (by decide) ?_
  refine ac_iald 91 dX8_count_90 rfl ar122 (ix_nI (k := 24) (by decide) (by decide)) ?_
  refine ac_iret dX8_count_91 ⟨_, rfl, rfl⟩ ?_
  exact rv_mk rfl
set_option maxRecDepth 20000 in
theorem q8_cnt5 {M : am_I} {V : am_J} {f : Nat → Option Nat} {np nd nh : Nat} (hn : NC (M 122) np nd nh) : CT m8_count 3 [Value.ref 121, Value.int 5] M V f (RV (M 122 31) M V f) := by
  refine CT.of m8_count_V.1 _ (en_ai_2 121 5) ?_
  refine ac_iload_n 1 dX8_count_0 rfl rfl ?_
  refine ac_tableIn 92 5 91 dX8_count_1 (by decide) (by decide) (by decide) (by decide) ?_
  refine ac_aload_n 93 dX8_count_92 rfl rfl ?_
  refine ac_getO 96 122 dX8_count_93 rfl fl8_7 ob121 rfl ?_
  refine ac_bipush 98 31 dX8_count_96 rfl (by decide) ?_
  refine ac_iald 99 dX8_count_98 rfl ar122 (ix_nI (k := 31) (by decide) (by decide)) ?_
  refine ac_iret dX8_count_99 ⟨_, rfl, rfl⟩ ?_
  exact rv_mk rfl
set_option maxRecDepth 20000 in
theorem q8_cnt6 {M : am_I} {V : am_J} {f : Nat → Option Nat} {np nd nh : Nat} (hn : NC (M 122) np nd nh) : CT m8_count 3 [Value.ref 121, Value.int 6] M V f (RV (upN (M 122) np) M V f) := by
  refine CT.of m8_count_V.1 _ (en_ai_2 121 6) ?_
  refine ac_iload_n 1 dX8_count_0 rfl rfl ?_
  refine ac_tableIn 100 6 99 dX8_count_1 (by decide) (by decide) (by decide) (by decide) ?_
  refine ac_aload_n 101 dX8_count_100 rfl rfl ?_
  refine ac_callV (μ' := m8_hanging) 104 dX8_count_101 rfl lk8_195 m8_hanging_V ob121 (c8_hanging hn) rfl rfl (by decide) (Nat.le_of_ble_eq_true rfl) ?_
  refine ac_iret dX8_count_104 ⟨_, rfl, rfl⟩ ?_
  exact rv_mk rfl
set_option maxRecDepth 20000 in
theorem q8_cnt7 {M : am_I} {V : am_J} {f : Nat → Option Nat} {np nd nh : Nat} (hn : NC (M 122) np nd nh) : CT m8_count 3 [Value.ref 121, Value.int 7] M V f (RV (M 121 6) M V f) := by
  refine CT.of m8_count_V.1 _ (en_ai_2 121 7) ?_
  refine ac_iload_n 1 dX8_count_0 rfl rfl ?_
  refine ac_tableIn 105 7 104 dX8_count_1 (by decide) (by decide) (by decide) (by decide) ?_
  refine ac_aload_n 106 dX8_count_105 rfl rfl ?_
  refine ac_getI 109 dX8_count_106 rfl fl8_189 ob121 ?_
  refine ac_iret dX8_count_109 ⟨_, rfl, rfl⟩ ?_
  exact rv_mk rfl
set_option maxRecDepth 20000 in
theorem q8_cnt8 {M : am_I} {V : am_J} {f : Nat → Option Nat} {np nd nh : Nat} (hn : NC (M 122) np nd nh) : CT m8_count 3 [Value.ref 121, Value.int 8] M V f (RV (M 121 10) M V f) := by
  refine CT.of m8_count_V.1 _ (en_ai_2 121 8) ?_
  refine ac_iload_n 1 dX8_count_0 rfl rfl ?_
  refine ac_tableIn 110 8 109 dX8_count_1 (by decide) (by decide) (by decide) (by decide) ?_
  refine ac_aload_n 111 dX8_count_110 rfl rfl ?_
  refine ac_getI 114 dX8_count_111 rfl fl8_61 ob121 ?_
  refine ac_iret dX8_count_114 ⟨_, rfl, rfl⟩ ?_
  exact rv_mk rfl
set_option maxRecDepth 20000 in
theorem q8_cnt9 {M : am_I} {V : am_J} {f : Nat → Option Nat} {np nd nh : Nat} (hn : NC (M 122) np nd nh) : CT m8_count 3 [Value.ref 121, Value.int 9] M V f (RV (M 121 3) M V f) := by
  refine CT.of m8_count_V.1 _ (en_ai_2 121 9) ?_
  refine ac_iload_n 1 dX8_count_0 rfl rfl ?_
  refine ac_tableIn 115 9 114 dX8_count_1 (by decide) (by decide) (by decide) (by decide) ?_
  refine ac_aload_n 116 dX8_count_115 rfl rfl ?_
  refine ac_getI 119 dX8_count_116 rfl fl8_108 ob121 ?_
  refine ac_iret dX8_count_119 ⟨_, rfl, rfl⟩ ?_
  exact rv_mk rfl
set_option maxRecDepth 20000 in
theorem q8_cntW {M : am_I} {V : am_J} {f : Nat → Option Nat} {what : Int32} (hw : ¬ vI what 10) : CT m8_count 3 [Value.ref 121, Value.int what] M V f (RV (-1) M V f) := by
  refine CT.of m8_count_V.1 _ (en_ai_2 121 what) ?_
  refine ac_iload_n 1 dX8_count_0 rfl rfl ?_
  refine ac_tableOut 120 dX8_count_1 (wh_out (n := 10) (by decide) hw) (by decide) ?_
  refine ac_iconst 121 (-1) dX8_count_120 rfl (by decide) ?_
  refine ac_iret dX8_count_121 ⟨_, rfl, rfl⟩ ?_
  exact rv_mk rfl
set_option maxRecDepth 20000 in
theorem q8_clear {M : am_I} {V : am_J} {f : Nat → Option Nat}  : CT m8_clear 1 [Value.ref 121] M V f (fun v M' V' f' => v = some (.int (M 121 10)) ∧ M' = am_up M 121 10 0 ∧ V' = V ∧ f' = f) := by
  refine CT.of m8_clear_V.1 _ (en_a_2 121) ?_
  refine ac_aload_n 1 dX8_clear_0 rfl rfl ?_
  refine ac_getI 4 dX8_clear_1 rfl fl8_61 ob121 ?_
  refine ac_istore_n 5 [some (Value.ref 121), some (Value.int (M 121 10))] dX8_clear_4 rfl rfl (Nat.le_of_ble_eq_true rfl) (by decide) rfl ?_
  refine ac_aload_n 6 dX8_clear_5 rfl rfl ?_
  refine ac_iconst 7 0 dX8_clear_6 rfl (by decide) ?_
  refine ac_putI 10 dX8_clear_7 rfl fl8_61 rfl rfl ob121 ?_
  refine ac_iload_n 11 dX8_clear_10 rfl rfl ?_
  refine ac_iret dX8_clear_11 ⟨_, rfl, rfl⟩ ?_
  exact ⟨rfl, rfl, rfl, rfl⟩
set_option maxRecDepth 20000 in
theorem q8_forget {M : am_I} {V : am_J} {f : Nat → Option Nat}  : CT m8_forget 1 [Value.ref 121] M V f (fun v M' V' f' => v = some (.int (M 121 6)) ∧ M' = am_up M 121 6 0 ∧ V' = V ∧ f' = f) := by
  refine CT.of m8_forget_V.1 _ (en_a_2 121) ?_
  refine ac_aload_n 1 dX8_forget_0 rfl rfl ?_
  refine ac_getI 4 dX8_forget_1 rfl fl8_189 ob121 ?_
  refine ac_istore_n 5 [some (Value.ref 121), some (Value.int (M 121 6))] dX8_forget_4 rfl rfl (Nat.le_of_ble_eq_true rfl) (by decide) rfl ?_
  refine ac_aload_n 6 dX8_forget_5 rfl rfl ?_
  refine ac_iconst 7 0 dX8_forget_6 rfl (by decide) ?_
  refine ac_putI 10 dX8_forget_7 rfl fl8_189 rfl rfl ob121 ?_
  refine ac_iload_n 11 dX8_forget_10 rfl rfl ?_
  refine ac_iret dX8_forget_11 ⟨_, rfl, rfl⟩ ?_
  exact ⟨rfl, rfl, rfl, rfl⟩
