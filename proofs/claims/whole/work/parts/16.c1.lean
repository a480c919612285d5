/-! The class: what its wall (cell 7) is asked, in the words of a row w of numbers as the reference has them. -/
/-- the wall at cell b holds what w tells -/
def CW (M : am_I) (b : Nat) (w : rN) (np nd nh : Nat) : Prop := NC w np nd nh ∧ (M b 0 = w 0 ∧ M b 1 = w 1 ∧ M b 2 = w 2 ∧ M b 3 = w 3 ∧ M b 4 = w 24 ∧ M b 5 = w 31) ∧
  (∀ j, j < np → M (b + 1) j = w (4 + 4 * j) ∧ M (b + 2) j = w (4 + 4 * j + 1) ∧ M (b + 3) j = w (4 + 4 * j + 2) ∧ M (b + 4) j = w (4 + 4 * j + 3) ∧ M (b + 5) j = w (64 + j)) ∧
  (∀ k, k < nd → M (b + 6) k = w (25 + 2 * k) ∧ M (b + 7) k = w (25 + 2 * k + 1)) ∧ ∀ k, k < nh → M (b + 8) k = w (32 + 2 * k) ∧ M (b + 9) k = w (32 + 2 * k + 1)
section CWS
variable {M : am_I} {b : Nat} {w : rN} {np nd nh : Nat}
theorem CW.n5 (h : CW M b w np nd nh) : np ≤ 5 := h.1.2.1
theorem CW.n3 (h : CW M b w np nd nh) : nd ≤ 3 := h.1.2.2.2.1
theorem CW.n16 (h : CW M b w np nd nh) : nh ≤ 16 := h.1.2.2.2.2.2
theorem CW.s0 (h : CW M b w np nd nh) : M b 0 = w 0 := h.2.1.1
theorem CW.s1 (h : CW M b w np nd nh) : M b 1 = w 1 := h.2.1.2.1
theorem CW.s2 (h : CW M b w np nd nh) : M b 2 = w 2 := h.2.1.2.2.1
theorem CW.s3 (h : CW M b w np nd nh) : M b 3 = nI np := h.2.1.2.2.2.1.trans h.1.1
theorem CW.s4 (h : CW M b w np nd nh) : M b 4 = nI nd := h.2.1.2.2.2.2.1.trans h.1.2.2.1
theorem CW.s5 (h : CW M b w np nd nh) : M b 5 = nI nh := h.2.1.2.2.2.2.2.trans h.1.2.2.2.2.1
theorem CW.p0 (h : CW M b w np nd nh) {j : Nat} (hj : j < np) : M (b + 1) j = w (4 + 4 * j) := (h.2.2.1 j hj).1
theorem CW.p1 (h : CW M b w np nd nh) {j : Nat} (hj : j < np) : M (b + 2) j = w (4 + 4 * j + 1) := (h.2.2.1 j hj).2.1
theorem CW.p2 (h : CW M b w np nd nh) {j : Nat} (hj : j < np) : M (b + 3) j = w (4 + 4 * j + 2) := (h.2.2.1 j hj).2.2.1
theorem CW.p3 (h : CW M b w np nd nh) {j : Nat} (hj : j < np) : M (b + 4) j = w (4 + 4 * j + 3) := (h.2.2.1 j hj).2.2.2.1
theorem CW.p4 (h : CW M b w np nd nh) {j : Nat} (hj : j < np) : M (b + 5) j = w (64 + j) := (h.2.2.1 j hj).2.2.2.2
theorem CW.d0 (h : CW M b w np nd nh) {k : Nat} (hk : k < nd) : M (b + 6) k = w (25 + 2 * k) := (h.2.2.2.1 k hk).1
theorem CW.d1 (h : CW M b w np nd nh) {k : Nat} (hk : k < nd) : M (b + 7) k = w (25 + 2 * k + 1) := (h.2.2.2.1 k hk).2
theorem CW.h0 (h : CW M b w np nd nh) {k : Nat} (hk : k < nh) : M (b + 8) k = w (32 + 2 * k) := (h.2.2.2.2 k hk).1
theorem CW.h1 (h : CW M b w np nd nh) {k : Nat} (hk : k < nh) : M (b + 9) k = w (32 + 2 * k + 1) := (h.2.2.2.2 k hk).2
end CWS
theorem dlst_none {P : Nat → Prop} {n : Nat} : ∀ {m : Nat}, m ≤ n → (∀ q, n - m ≤ q → q < n → ¬ P q) → dlst P n m = -9
  | 0, _, _ => rfl
  | m + 1, hm, h => by
    rw [dlst_f (h (n - 1 - m) (by omega) (by omega))]
    exact dlst_none (by omega) (fun q h1 h2 => h q (by omega) h2)
theorem dlst_first {P : Nat → Prop} {n k : Nat} (hp : P k) (hk : k < n) : ∀ {m : Nat}, m ≤ n → n - m ≤ k → (∀ q, n - m ≤ q → q < k → ¬ P q) → dlst P n m = nI k
  | 0, _, h0, _ => absurd h0 (by omega)
  | m + 1, hm, h0, h => by
    by_cases e : n - 1 - m = k
    · rw [dlst_t (by rw [e]; exact hp), e]
    · rw [dlst_f (h (n - 1 - m) (by omega) (by omega))]
      exact dlst_first hp hk (by omega) (by omega) (fun q h1 h2 => h q (by omega) h2)
theorem dl_n {P : Nat → Prop} {n : Nat} (h : ∀ q, q < n → ¬ P q) : dlst P n n = -9 := dlst_none (Nat.le_refl n) (fun q _ h2 => h q h2)
theorem dl_f {P : Nat → Prop} {n k : Nat} (hp : P k) (hk : k < n) (h : ∀ q, q < k → ¬ P q) : dlst P n n = nI k := dlst_first hp hk (Nat.le_refl n) (by omega) (fun q _ h2 => h q h2)
theorem dl_neg {P : Nat → Prop} {n : Nat} (hn : n < 2 ^ 31) : dlst P n n < 0 ↔ ¬ ∃ k, k < n ∧ P k := by
  by_cases h : ∃ k, k < n ∧ P k
  · refine ⟨fun h1 => ?_, fun h1 => absurd h h1⟩
    have key : ∀ m, m ≤ n → (∃ k, n - m ≤ k ∧ k < n ∧ P k) → ∃ i, i < n ∧ dlst P n m = nI i := by
      intro m
      induction m with
      | zero => rintro - ⟨k, h1, h2, -⟩; omega
      | succ m ih =>
        rintro hm ⟨k, h1, h2, h3⟩
        by_cases hq : P (n - 1 - m)
        · exact ⟨n - 1 - m, by omega, dlst_t hq⟩
        · rw [dlst_f hq]
          have : k ≠ n - 1 - m := fun e => hq (e ▸ h3)
          exact ih (by omega) ⟨k, by omega, h2, h3⟩
    obtain ⟨k, hk, hp⟩ := h
    obtain ⟨i, hi, e⟩ := key n (Nat.le_refl n) ⟨k, by omega, hk, hp⟩
    rw [e] at h1
    exact absurd h1 (nI_pos (by omega))
  · refine ⟨fun _ => h, fun _ => ?_⟩
    rw [dl_n (fun q hq hp => h ⟨q, hq, hp⟩)]
    decide
set_option maxRecDepth 20000 in
theorem c6_hasPictureT {M : am_I} {V : am_J} {f : Nat → Option Nat} {w : rN} {np nd nh j : Nat} (hw : CW M 7 w np nd nh) (hj : j < np) : CT m6_hasPicture 1 [Value.ref 7, Value.int (nI j)] M V f (RV 1 M V f) := by
  have h9 := hw.n5
  refine CT.of m6_hasPicture_V.1 _ (en_ai_2 7 (nI j)) ?_
  refine ac_iload_n 1 dX6_hasPicture_0 rfl rfl ?_
  refine ac_if_lt 16 4 dX6_hasPicture_1 (by decide) rfl (fun c_1 => absurd c_1 (nI_pos (by omega))) (fun _ => ?_)
  refine ac_iload_n 5 dX6_hasPicture_4 rfl rfl ?_
  refine ac_aload_n 6 dX6_hasPicture_5 rfl rfl ?_
  refine ac_getI 9 dX6_hasPicture_6 rfl fl6_52 ob7 ?_
  rw [show (M 7 3) = (nI np) from hw.s3]
  refine ac_icmp_ge 16 12 dX6_hasPicture_9 (by decide) rfl (fun c_9 => absurd c_9 (nI_ge hj (by omega))) (fun _ => ?_)
  refine ac_iconst 13 1 dX6_hasPicture_12 rfl (by decide) ?_
  refine ac_goto 17 dX6_hasPicture_13 (by decide) ?_
  refine ac_iret dX6_hasPicture_17 ⟨_, rfl, rfl⟩ ?_
  exact rv_mk rfl
set_option maxRecDepth 20000 in
theorem c6_hasPictureF {M : am_I} {V : am_J} {f : Nat → Option Nat} {w : rN} {np nd nh : Nat} (hw : CW M 7 w np nd nh) {p : Int32} (hp : ¬ vI p np) : CT m6_hasPicture 1 [Value.ref 7, Value.int p] M V f (RV 0 M V f) := by
  have h9 := hw.n5
  refine CT.of m6_hasPicture_V.1 _ (en_ai_2 7 p) ?_
  refine ac_iload_n 1 dX6_hasPicture_0 rfl rfl ?_
  refine ac_if_lt 16 4 dX6_hasPicture_1 (by decide) rfl (fun c_1 => ?_) (fun c_1 => ?_)
  · refine ac_iconst 17 0 dX6_hasPicture_16 rfl (by decide) ?_
    refine ac_iret dX6_hasPicture_17 ⟨_, rfl, rfl⟩ ?_
    exact rv_mk rfl
  · refine ac_iload_n 5 dX6_hasPicture_4 rfl rfl ?_
    refine ac_aload_n 6 dX6_hasPicture_5 rfl rfl ?_
    refine ac_getI 9 dX6_hasPicture_6 rfl fl6_52 ob7 ?_
    rw [show (M 7 3) = (nI np) from hw.s3]
    refine ac_icmp_ge 16 12 dX6_hasPicture_9 (by decide) rfl (fun c_9 => ?_) (fun c_9 => ?_)
    · refine ac_iconst 17 0 dX6_hasPicture_16 rfl (by decide) ?_
      refine ac_iret dX6_hasPicture_17 ⟨_, rfl, rfl⟩ ?_
      exact rv_mk rfl
    · obtain ⟨i, hi, rfl⟩ := nI_of c_1
      exact absurd ⟨i, Nat.lt_of_not_le (fun h => c_9 (nI_le h (by omega))), rfl⟩ hp
set_option maxRecDepth 20000 in
theorem c6_hasDoorT {M : am_I} {V : am_J} {f : Nat → Option Nat} {w : rN} {np nd nh j : Nat} (hw : CW M 7 w np nd nh) (hj : j < nd) : CT m6_hasDoor 1 [Value.ref 7, Value.int (nI j)] M V f (RV 1 M V f) := by
  have h9 := hw.n3
  refine CT.of m6_hasDoor_V.1 _ (en_ai_2 7 (nI j)) ?_
  refine ac_iload_n 1 dX6_hasDoor_0 rfl rfl ?_
  refine ac_if_lt 16 4 dX6_hasDoor_1 (by decide) rfl (fun c_1 => absurd c_1 (nI_pos (by omega))) (fun _ => ?_)
  refine ac_iload_n 5 dX6_hasDoor_4 rfl rfl ?_
  refine ac_aload_n 6 dX6_hasDoor_5 rfl rfl ?_
  refine ac_getI 9 dX6_hasDoor_6 rfl fl6_55 ob7 ?_
  rw [show (M 7 4) = (nI nd) from hw.s4]
  refine ac_icmp_ge 16 12 dX6_hasDoor_9 (by decide) rfl (fun c_9 => absurd c_9 (nI_ge hj (by omega))) (fun _ => ?_)
  refine ac_iconst 13 1 dX6_hasDoor_12 rfl (by decide) ?_
  refine ac_goto 17 dX6_hasDoor_13 (by decide) ?_
  refine ac_iret dX6_hasDoor_17 ⟨_, rfl, rfl⟩ ?_
  exact rv_mk rfl
set_option maxRecDepth 20000 in
theorem c6_hasDoorF {M : am_I} {V : am_J} {f : Nat → Option Nat} {w : rN} {np nd nh : Nat} (hw : CW M 7 w np nd nh) {p : Int32} (hp : ¬ vI p nd) : CT m6_hasDoor 1 [Value.ref 7, Value.int p] M V f (RV 0 M V f) := by
  have h9 := hw.n3
  refine CT.of m6_hasDoor_V.1 _ (en_ai_2 7 p) ?_
  refine ac_iload_n 1 dX6_hasDoor_0 rfl rfl ?_
  refine ac_if_lt 16 4 dX6_hasDoor_1 (by decide) rfl (fun c_1 => ?_) (fun c_1 => ?_)
  · refine ac_iconst 17 0 dX6_hasDoor_16 rfl (by decide) ?_
    refine ac_iret dX6_hasDoor_17 ⟨_, rfl, rfl⟩ ?_
    exact rv_mk rfl
  · refine ac_iload_n 5 dX6_hasDoor_4 rfl rfl ?_
    refine ac_aload_n 6 dX6_hasDoor_5 rfl rfl ?_
    refine ac_getI 9 dX6_hasDoor_6 rfl fl6_55 ob7 ?_
    rw [show (M 7 4) = (nI nd) from hw.s4]
    refine ac_icmp_ge 16 12 dX6_hasDoor_9 (by decide) rfl (fun c_9 => ?_) (fun c_9 => ?_)
    · refine ac_iconst 17 0 dX6_hasDoor_16 rfl (by decide) ?_
      refine ac_iret dX6_hasDoor_17 ⟨_, rfl, rfl⟩ ?_
      exact rv_mk rfl
    · obtain ⟨i, hi, rfl⟩ := nI_of c_1
      exact absurd ⟨i, Nat.lt_of_not_le (fun h => c_9 (nI_le h (by omega))), rfl⟩ hp
set_option maxRecDepth 20000 in
theorem c6_hasHoleT {M : am_I} {V : am_J} {f : Nat → Option Nat} {w : rN} {np nd nh j : Nat} (hw : CW M 7 w np nd nh) (hj : j < nh) : CT m6_hasHole 1 [Value.ref 7, Value.int (nI j)] M V f (RV 1 M V f) := by
  have h9 := hw.n16
  refine CT.of m6_hasHole_V.1 _ (en_ai_2 7 (nI j)) ?_
  refine ac_iload_n 1 dX6_hasHole_0 rfl rfl ?_
  refine ac_if_lt 16 4 dX6_hasHole_1 (by decide) rfl (fun c_1 => absurd c_1 (nI_pos (by omega))) (fun _ => ?_)
  refine ac_iload_n 5 dX6_hasHole_4 rfl rfl ?_
  refine ac_aload_n 6 dX6_hasHole_5 rfl rfl ?_
  refine ac_getI 9 dX6_hasHole_6 rfl fl6_58 ob7 ?_
  rw [show (M 7 5) = (nI nh) from hw.s5]
  refine ac_icmp_ge 16 12 dX6_hasHole_9 (by decide) rfl (fun c_9 => absurd c_9 (nI_ge hj (by omega))) (fun _ => ?_)
  refine ac_iconst 13 1 dX6_hasHole_12 rfl (by decide) ?_
  refine ac_goto 17 dX6_hasHole_13 (by decide) ?_
  refine ac_iret dX6_hasHole_17 ⟨_, rfl, rfl⟩ ?_
  exact rv_mk rfl
set_option maxRecDepth 20000 in
theorem c6_hasHoleF {M : am_I} {V : am_J} {f : Nat → Option Nat} {w : rN} {np nd nh : Nat} (hw : CW M 7 w np nd nh) {p : Int32} (hp : ¬ vI p nh) : CT m6_hasHole 1 [Value.ref 7, Value.int p] M V f (RV 0 M V f) := by
  have h9 := hw.n16
  refine CT.of m6_hasHole_V.1 _ (en_ai_2 7 p) ?_
  refine ac_iload_n 1 dX6_hasHole_0 rfl rfl ?_
  refine ac_if_lt 16 4 dX6_hasHole_1 (by decide) rfl (fun c_1 => ?_) (fun c_1 => ?_)
  · refine ac_iconst 17 0 dX6_hasHole_16 rfl (by decide) ?_
    refine ac_iret dX6_hasHole_17 ⟨_, rfl, rfl⟩ ?_
    exact rv_mk rfl
  · refine ac_iload_n 5 dX6_hasHole_4 rfl rfl ?_
    refine ac_aload_n 6 dX6_hasHole_5 rfl rfl ?_
    refine ac_getI 9 dX6_hasHole_6 rfl fl6_58 ob7 ?_
    rw [show (M 7 5) = (nI nh) from hw.s5]
    refine ac_icmp_ge 16 12 dX6_hasHole_9 (by decide) rfl (fun c_9 => ?_) (fun c_9 => ?_)
    · refine ac_iconst 17 0 dX6_hasHole_16 rfl (by decide) ?_
      refine ac_iret dX6_hasHole_17 ⟨_, rfl, rfl⟩ ?_
      exact rv_mk rfl
    · obtain ⟨i, hi, rfl⟩ := nI_of c_1
      exact absurd ⟨i, Nat.lt_of_not_le (fun h => c_9 (nI_le h (by omega))), rfl⟩ hp
set_option maxRecDepth 20000 in
theorem c6_findHole {M : am_I} {V : am_J} {f : Nat → Option Nat} {w : rN} {np nd nh : Nat} (hw : CW M 7 w np nd nh) (X Y : Int32) : CT m6_findHole 1 [Value.ref 7, Value.int X, Value.int Y] M V f (RV (dlst (fun k => w (32 + 2 * k) = X ∧ w (32 + 2 * k + 1) = Y) nh nh) M V f) := by
  have h9 := hw.n16
  refine CT.of m6_findHole_V.1 _ (en_aii_4 7 X Y) ?_
  refine ac_iconst 1 0 dX6_findHole_0 rfl (by decide) ?_
  refine ac_istore_n 2 [some (Value.ref 7), some (Value.int X), some (Value.int Y), some (Value.int 0)] dX6_findHole_1 rfl rfl (Nat.le_of_ble_eq_true rfl) (by decide) rfl ?_
  refine ac_down (n := nh) (P := fun k => (∀ i, i < k → ¬ (w (32 + 2 * i) = X ∧ w (32 + 2 * i + 1) = Y)) → A0 m6_findHole 1 2 [some (Value.ref 7), some (Value.int X), some (Value.int Y), some (Value.int (nI k))] [] M V f (RV (dlst (fun k => w (32 + 2 * k) = X ∧ w (32 + 2 * k + 1) = Y) nh nh) M V f)) ?_ ?_ 0 (Nat.zero_le _) (fun i hi => absurd hi (Nat.not_lt_zero i))
  · intro hpr
    refine ac_iload_n 3 dX6_findHole_2 rfl rfl ?_
    refine ac_aload_n 4 dX6_findHole_3 rfl rfl ?_
    refine ac_getI 7 dX6_findHole_4 rfl fl6_58 ob7 ?_
    rw [show (M 7 5) = (nI nh) from hw.s5]
    refine ac_icmp_ge 38 10 dX6_findHole_7 (by decide) rfl (fun _ => ?_) (fun c_7 => absurd (Int32.le_refl _) c_7)
    refine ac_bipush 40 (-9) dX6_findHole_38 rfl (by decide) ?_
    refine ac_iret dX6_findHole_40 ⟨_, rfl, rfl⟩ ?_
    exact rv_mk (dl_n (P := (fun k => w (32 + 2 * k) = X ∧ w (32 + 2 * k + 1) = Y)) hpr).symm
  · intro k hk ih hpr
    refine ac_iload_n 3 dX6_findHole_2 rfl rfl ?_
    refine ac_aload_n 4 dX6_findHole_3 rfl rfl ?_
    refine ac_getI 7 dX6_findHole_4 rfl fl6_58 ob7 ?_
    rw [show (M 7 5) = (nI nh) from hw.s5]
    refine ac_icmp_ge 38 10 dX6_findHole_7 (by decide) rfl (fun c_7 => absurd c_7 (nI_ge hk (by omega))) (fun _ => ?_)
    refine ac_aload_n 11 dX6_findHole_10 rfl rfl ?_
    refine ac_getO 14 15 dX6_findHole_11 rfl fl6_33 ob7 rfl ?_
    refine ac_iload_n 15 dX6_findHole_14 rfl rfl ?_
    refine ac_iald 16 dX6_findHole_15 rfl ar15 (ix_nI (by omega) (by decide)) ?_
    rw [show (M 15 k) = (w (32 + 2 * k)) from (hw.h0 hk)]
    refine ac_iload_n 17 dX6_findHole_16 rfl rfl ?_
    refine ac_icmp_ne 32 20 dX6_findHole_17 (by decide) rfl (fun c_17 => ?_) (fun c_17 => ?_)
    · refine ac_iinc 35 (nI (k + 1)) [some (Value.ref 7), some (Value.int X), some (Value.int Y), some (Value.int (nI (k + 1)))] dX6_findHole_32 rfl rfl (nI_1 _) rfl (by decide) rfl ?_
      refine ac_goto 2 dX6_findHole_35 (by decide) ?_
      exact ih (all_suc.mpr ⟨hpr, by first | exact fun h => c_17 h.1 | exact fun h => c_27 h.2⟩)
    · refine ac_aload_n 21 dX6_findHole_20 rfl rfl ?_
      refine ac_getO 24 16 dX6_findHole_21 rfl fl6_36 ob7 rfl ?_
      refine ac_iload_n 25 dX6_findHole_24 rfl rfl ?_
      refine ac_iald 26 dX6_findHole_25 rfl ar16 (ix_nI (by omega) (by decide)) ?_
      rw [show (M 16 k) = (w (32 + 2 * k + 1)) from (hw.h1 hk)]
      refine ac_iload_n 27 dX6_findHole_26 rfl rfl ?_
      refine ac_icmp_ne 32 30 dX6_findHole_27 (by decide) rfl (fun c_27 => ?_) (fun c_27 => ?_)
      · refine ac_iinc 35 (nI (k + 1)) [some (Value.ref 7), some (Value.int X), some (Value.int Y), some (Value.int (nI (k + 1)))] dX6_findHole_32 rfl rfl (nI_1 _) rfl (by decide) rfl ?_
        refine ac_goto 2 dX6_findHole_35 (by decide) ?_
        exact ih (all_suc.mpr ⟨hpr, by first | exact fun h => c_17 h.1 | exact fun h => c_27 h.2⟩)
      · refine ac_iload_n 31 dX6_findHole_30 rfl rfl ?_
        refine ac_iret dX6_findHole_31 ⟨_, rfl, rfl⟩ ?_
        exact rv_mk (dl_f (P := (fun k => w (32 + 2 * k) = X ∧ w (32 + 2 * k + 1) = Y)) ⟨c_17, c_27⟩ hk hpr).symm
set_option maxRecDepth 20000 in
theorem c6_findHole17 {M : am_I} {V : am_J} {f : Nat → Option Nat} {w : rN} {np nd nh : Nat} (hw : CW M 17 w np nd nh) (X Y : Int32) : CT m6_findHole 1 [Value.ref 17, Value.int X, Value.int Y] M V f (RV (dlst (fun k => w (32 + 2 * k) = X ∧ w (32 + 2 * k + 1) = Y) nh nh) M V f) := by
  have h9 := hw.n16
  refine CT.of m6_findHole_V.1 _ (en_aii_4 17 X Y) ?_
  refine ac_iconst 1 0 dX6_findHole_0 rfl (by decide) ?_
  refine ac_istore_n 2 [some (Value.ref 17), some (Value.int X), some (Value.int Y), some (Value.int 0)] dX6_findHole_1 rfl rfl (Nat.le_of_ble_eq_true rfl) (by decide) rfl ?_
  refine ac_down (n := nh) (P := fun k => (∀ i, i < k → ¬ (w (32 + 2 * i) = X ∧ w (32 + 2 * i + 1) = Y)) → A0 m6_findHole 1 2 [some (Value.ref 17), some (Value.int X), some (Value.int Y), some (Value.int (nI k))] [] M V f (RV (dlst (fun k => w (32 + 2 * k) = X ∧ w (32 + 2 * k + 1) = Y) nh nh) M V f)) ?_ ?_ 0 (Nat.zero_le _) (fun i hi => absurd hi (Nat.not_lt_zero i))
  · intro hpr
    refine ac_iload_n 3 dX6_findHole_2 rfl rfl ?_
    refine ac_aload_n 4 dX6_findHole_3 rfl rfl ?_
    refine ac_getI 7 dX6_findHole_4 rfl fl6_58 ob17 ?_
    rw [show (M 17 5) = (nI nh) from hw.s5]
    refine ac_icmp_ge 38 10 dX6_findHole_7 (by decide) rfl (fun _ => ?_) (fun c_7 => absurd (Int32.le_refl _) c_7)
    refine ac_bipush 40 (-9) dX6_findHole_38 rfl (by decide) ?_
    refine ac_iret dX6_findHole_40 ⟨_, rfl, rfl⟩ ?_
    exact rv_mk (dl_n (P := (fun k => w (32 + 2 * k) = X ∧ w (32 + 2 * k + 1) = Y)) hpr).symm
  · intro k hk ih hpr
    refine ac_iload_n 3 dX6_findHole_2 rfl rfl ?_
    refine ac_aload_n 4 dX6_findHole_3 rfl rfl ?_
    refine ac_getI 7 dX6_findHole_4 rfl fl6_58 ob17 ?_
    rw [show (M 17 5) = (nI nh) from hw.s5]
    refine ac_icmp_ge 38 10 dX6_findHole_7 (by decide) rfl (fun c_7 => absurd c_7 (nI_ge hk (by omega))) (fun _ => ?_)
    refine ac_aload_n 11 dX6_findHole_10 rfl rfl ?_
    refine ac_getO 14 25 dX6_findHole_11 rfl fl6_33 ob17 rfl ?_
    refine ac_iload_n 15 dX6_findHole_14 rfl rfl ?_
    refine ac_iald 16 dX6_findHole_15 rfl ar25 (ix_nI (by omega) (by decide)) ?_
    rw [show (M 25 k) = (w (32 + 2 * k)) from (hw.h0 hk)]
    refine ac_iload_n 17 dX6_findHole_16 rfl rfl ?_
    refine ac_icmp_ne 32 20 dX6_findHole_17 (by decide) rfl (fun c_17 => ?_) (fun c_17 => ?_)
    · refine ac_iinc 35 (nI (k + 1)) [some (Value.ref 17), some (Value.int X), some (Value.int Y), some (Value.int (nI (k + 1)))] dX6_findHole_32 rfl rfl (nI_1 _) rfl (by decide) rfl ?_
      refine ac_goto 2 dX6_findHole_35 (by decide) ?_
      exact ih (all_suc.mpr ⟨hpr, by first | exact fun h => c_17 h.1 | exact fun h => c_27 h.2⟩)
    · refine ac_aload_n 21 dX6_findHole_20 rfl rfl ?_
      refine ac_getO 24 26 dX6_findHole_21 rfl fl6_36 ob17 rfl ?_
      refine ac_iload_n 25 dX6_findHole_24 rfl rfl ?_
      refine ac_iald 26 dX6_findHole_25 rfl ar26 (ix_nI (by omega) (by decide)) ?_
      rw [show (M 26 k) = (w (32 + 2 * k + 1)) from (hw.h1 hk)]
      refine ac_iload_n 27 dX6_findHole_26 rfl rfl ?_
      refine ac_icmp_ne 32 30 dX6_findHole_27 (by decide) rfl (fun c_27 => ?_) (fun c_27 => ?_)
      · refine ac_iinc 35 (nI (k + 1)) [some (Value.ref 17), some (Value.int X), some (Value.int Y), some (Value.int (nI (k + 1)))] dX6_findHole_32 rfl rfl (nI_1 _) rfl (by decide) rfl ?_
        refine ac_goto 2 dX6_findHole_35 (by decide) ?_
        exact ih (all_suc.mpr ⟨hpr, by first | exact fun h => c_17 h.1 | exact fun h => c_27 h.2⟩)
      · refine ac_iload_n 31 dX6_findHole_30 rfl rfl ?_
        refine ac_iret dX6_findHole_31 ⟨_, rfl, rfl⟩ ?_
        exact rv_mk (dl_f (P := (fun k => w (32 + 2 * k) = X ∧ w (32 + 2 * k + 1) = Y)) ⟨c_17, c_27⟩ hk hpr).symm
set_option maxRecDepth 20000 in
theorem c6_isUpT {M : am_I} {V : am_J} {f : Nat → Option Nat} {w : rN} {np nd nh j : Nat} (hw : CW M 7 w np nd nh) (hj : j < np) (ha : w (64 + j) ≠ -9) : CT m6_isUp 2 [Value.ref 7, Value.int (nI j)] M V f (RV 1 M V f) := by
  have h9 := hw.n5
  refine CT.of m6_isUp_V.1 _ (en_ai_2 7 (nI j)) ?_
  refine ac_aload_n 1 dX6_isUp_0 rfl rfl ?_
  refine ac_iload_n 2 dX6_isUp_1 rfl rfl ?_
  refine ac_callV (μ' := m6_hasPicture) 5 dX6_isUp_2 rfl lk6_71 m6_hasPicture_V ob7 (c6_hasPictureT hw hj) rfl rfl (by decide) (Nat.le_of_ble_eq_true rfl) ?_
  refine ac_if_eq 23 8 dX6_isUp_5 (by decide) rfl (fun c_5 => absurd c_5 (by decide)) (fun _ => ?_)
  refine ac_aload_n 9 dX6_isUp_8 rfl rfl ?_
  refine ac_getO 12 12 dX6_isUp_9 rfl fl6_24 ob7 rfl ?_
  refine ac_iload_n 13 dX6_isUp_12 rfl rfl ?_
  refine ac_iald 14 dX6_isUp_13 rfl ar12 (ix_nI (by omega) (by decide)) ?_
  rw [show (M 12 j) = (w (64 + j)) from (hw.p4 hj)]
  refine ac_bipush 16 (-9) dX6_isUp_14 rfl (by decide) ?_
  refine ac_icmp_eq 23 19 dX6_isUp_16 (by decide) rfl (fun c_16 => absurd c_16 ha) (fun _ => ?_)
  refine ac_iconst 20 1 dX6_isUp_19 rfl (by decide) ?_
  refine ac_goto 24 dX6_isUp_20 (by decide) ?_
  refine ac_iret dX6_isUp_24 ⟨_, rfl, rfl⟩ ?_
  exact rv_mk rfl
set_option maxRecDepth 20000 in
theorem c6_isUpN {M : am_I} {V : am_J} {f : Nat → Option Nat} {w : rN} {np nd nh j : Nat} (hw : CW M 7 w np nd nh) (hj : j < np) (ha : w (64 + j) = -9) : CT m6_isUp 2 [Value.ref 7, Value.int (nI j)] M V f (RV 0 M V f) := by
  have h9 := hw.n5
  refine CT.of m6_isUp_V.1 _ (en_ai_2 7 (nI j)) ?_
  refine ac_aload_n 1 dX6_isUp_0 rfl rfl ?_
  refine ac_iload_n 2 dX6_isUp_1 rfl rfl ?_
  refine ac_callV (μ' := m6_hasPicture) 5 dX6_isUp_2 rfl lk6_71 m6_hasPicture_V ob7 (c6_hasPictureT hw hj) rfl rfl (by decide) (Nat.le_of_ble_eq_true rfl) ?_
  refine ac_if_eq 23 8 dX6_isUp_5 (by decide) rfl (fun c_5 => absurd c_5 (by decide)) (fun _ => ?_)
  refine ac_aload_n 9 dX6_isUp_8 rfl rfl ?_
  refine ac_getO 12 12 dX6_isUp_9 rfl fl6_24 ob7 rfl ?_
  refine ac_iload_n 13 dX6_isUp_12 rfl rfl ?_
  refine ac_iald 14 dX6_isUp_13 rfl ar12 (ix_nI (by omega) (by decide)) ?_
  rw [show (M 12 j) = (w (64 + j)) from (hw.p4 hj)]
  refine ac_bipush 16 (-9) dX6_isUp_14 rfl (by decide) ?_
  refine ac_icmp_eq 23 19 dX6_isUp_16 (by decide) rfl (fun _ => ?_) (fun c_16 => absurd ha c_16)
  refine ac_iconst 24 0 dX6_isUp_23 rfl (by decide) ?_
  refine ac_iret dX6_isUp_24 ⟨_, rfl, rfl⟩ ?_
  exact rv_mk rfl
set_option maxRecDepth 20000 in
theorem c6_hookX {M : am_I} {V : am_J} {f : Nat → Option Nat} {w : rN} {np nd nh j : Nat} (hw : CW M 7 w np nd nh) (hj : j < np) (x : Int32) : CT m6_hookX 2 [Value.ref 7, Value.int (nI j), Value.int x] M V f (RV (hkX w j x) M V f) := by
  have h9 := hw.n5
  refine CT.of m6_hookX_V.1 _ (en_aii_3 7 (nI j) x) ?_
  refine ac_aload_n 1 dX6_hookX_0 rfl rfl ?_
  refine ac_iload_n 2 dX6_hookX_1 rfl rfl ?_
  refine ac_callV (μ' := m6_hasPicture) 5 dX6_hookX_2 rfl lk6_71 m6_hasPicture_V ob7 (c6_hasPictureT hw hj) rfl rfl (by decide) (Nat.le_of_ble_eq_true rfl) ?_
  refine ac_if_eq 21 8 dX6_hookX_5 (by decide) rfl (fun c_5 => absurd c_5 (by decide)) (fun _ => ?_)
  refine ac_iconst 9 2 dX6_hookX_8 rfl (by decide) ?_
  refine ac_iload_n 10 dX6_hookX_9 rfl rfl ?_
  refine ac_imul 11 dX6_hookX_10 rfl ?_
  refine ac_aload_n 12 dX6_hookX_11 rfl rfl ?_
  refine ac_getO 15 8 dX6_hookX_12 rfl fl6_9 ob7 rfl ?_
  refine ac_iload_n 16 dX6_hookX_15 rfl rfl ?_
  refine ac_iald 17 dX6_hookX_16 rfl ar8 (ix_nI (by omega) (by decide)) ?_
  rw [show (M 8 j) = (w (4 + 4 * j)) from (hw.p0 hj)]
  refine ac_iadd 18 dX6_hookX_17 rfl ?_
  refine ac_goto 23 dX6_hookX_18 (by decide) ?_
  refine ac_iret dX6_hookX_23 ⟨_, rfl, rfl⟩ ?_
  exact rv_mk rfl
set_option maxRecDepth 20000 in
theorem c6_hookY {M : am_I} {V : am_J} {f : Nat → Option Nat} {w : rN} {np nd nh j : Nat} (hw : CW M 7 w np nd nh) (hj : j < np) : CT m6_hookY 2 [Value.ref 7, Value.int (nI j)] M V f (RV (hkY w j) M V f) := by
  have h9 := hw.n5
  refine CT.of m6_hookY_V.1 _ (en_ai_2 7 (nI j)) ?_
  refine ac_aload_n 1 dX6_hookY_0 rfl rfl ?_
  refine ac_iload_n 2 dX6_hookY_1 rfl rfl ?_
  refine ac_callV (μ' := m6_hasPicture) 5 dX6_hookY_2 rfl lk6_71 m6_hasPicture_V ob7 (c6_hasPictureT hw hj) rfl rfl (by decide) (Nat.le_of_ble_eq_true rfl) ?_
  refine ac_if_eq 33 8 dX6_hookY_5 (by decide) rfl (fun c_5 => absurd c_5 (by decide)) (fun _ => ?_)
  refine ac_iconst 9 2 dX6_hookY_8 rfl (by decide) ?_
  refine ac_aload_n 10 dX6_hookY_9 rfl rfl ?_
  refine ac_getI 13 dX6_hookY_10 rfl fl6_46 ob7 ?_
  rw [show (M 7 1) = (w 1) from hw.s1]
  refine ac_imul 14 dX6_hookY_13 rfl ?_
  refine ac_aload_n 15 dX6_hookY_14 rfl rfl ?_
  refine ac_getO 18 9 dX6_hookY_15 rfl fl6_15 ob7 rfl ?_
  refine ac_iload_n 19 dX6_hookY_18 rfl rfl ?_
  refine ac_iald 20 dX6_hookY_19 rfl ar9 (ix_nI (by omega) (by decide)) ?_
  rw [show (M 9 j) = (w (4 + 4 * j + 1)) from (hw.p1 hj)]
  refine ac_iadd 21 dX6_hookY_20 rfl ?_
  refine ac_iconst 22 2 dX6_hookY_21 rfl (by decide) ?_
  refine ac_aload_n 23 dX6_hookY_22 rfl rfl ?_
  refine ac_getO 26 10 dX6_hookY_23 rfl fl6_18 ob7 rfl ?_
  refine ac_iload_n 27 dX6_hookY_26 rfl rfl ?_
  refine ac_iald 28 dX6_hookY_27 rfl ar10 (ix_nI (by omega) (by decide)) ?_
  rw [show (M 10 j) = (w (4 + 4 * j + 2)) from (hw.p2 hj)]
  refine ac_imul 29 dX6_hookY_28 rfl ?_
  refine ac_isub 30 dX6_hookY_29 rfl ?_
  refine ac_goto 35 dX6_hookY_30 (by decide) ?_
  refine ac_iret dX6_hookY_35 ⟨_, rfl, rfl⟩ ?_
  exact rv_mk rfl
set_option maxRecDepth 20000 in
theorem c6_hasHoleFor {M : am_I} {V : am_J} {f : Nat → Option Nat} {w : rN} {np nd nh j : Nat} (hw : CW M 7 w np nd nh) (hj : j < np) (x : Int32) : CT m6_hasHoleFor 3 [Value.ref 7, Value.int (nI j), Value.int x] M V f (RV (bi (hoN w nh (hkX w j x) (hkY w j))) M V f) := by
  have h9 := hw.n16
  refine CT.of m6_hasHoleFor_V.1 _ (en_aii_3 7 (nI j) x) ?_
  refine ac_aload_n 1 dX6_hasHoleFor_0 rfl rfl ?_
  refine ac_aload_n 2 dX6_hasHoleFor_1 rfl rfl ?_
  refine ac_iload_n 3 dX6_hasHoleFor_2 rfl rfl ?_
  refine ac_iload_n 4 dX6_hasHoleFor_3 rfl rfl ?_
  refine ac_callV (μ' := m6_hookX) 7 dX6_hasHoleFor_4 rfl lk6_74 m6_hookX_V ob7 (c6_hookX hw hj _) rfl rfl (by decide) (Nat.le_of_ble_eq_true rfl) ?_
  refine ac_aload_n 8 dX6_hasHoleFor_7 rfl rfl ?_
  refine ac_iload_n 9 dX6_hasHoleFor_8 rfl rfl ?_
  refine ac_callV (μ' := m6_hookY) 12 dX6_hasHoleFor_9 rfl lk6_78 m6_hookY_V ob7 (c6_hookY hw hj) rfl rfl (by decide) (Nat.le_of_ble_eq_true rfl) ?_
  refine ac_callV (μ' := m6_findHole) 15 dX6_hasHoleFor_12 rfl lk6_82 m6_findHole_V ob7 (c6_findHole hw _ _) rfl rfl (by decide) (Nat.le_of_ble_eq_true rfl) ?_
  refine ac_if_lt 22 18 dX6_hasHoleFor_15 (by decide) rfl (fun c_15 => ?_) (fun c_15 => ?_)
  · refine ac_iconst 23 0 dX6_hasHoleFor_22 rfl (by decide) ?_
    refine ac_iret dX6_hasHoleFor_23 ⟨_, rfl, rfl⟩ ?_
    exact rv_mk (bi_f (by first | exact (dl_neg (by omega)).mp c_15 | exact Classical.not_not.mp (fun h => c_15 ((dl_neg (by omega)).mpr h)))).symm
  · refine ac_iconst 19 1 dX6_hasHoleFor_18 rfl (by decide) ?_
    refine ac_goto 23 dX6_hasHoleFor_19 (by decide) ?_
    refine ac_iret dX6_hasHoleFor_23 ⟨_, rfl, rfl⟩ ?_
    exact rv_mk (bi_t (by first | exact (dl_neg (by omega)).mp c_15 | exact Classical.not_not.mp (fun h => c_15 ((dl_neg (by omega)).mpr h)))).symm
set_option maxRecDepth 20000 in
theorem c6_fits {M : am_I} {V : am_J} {f : Nat → Option Nat} {w : rN} {np nd nh j : Nat} (hw : CW M 7 w np nd nh) (hj : j < np) (x : Int32) : CT m6_fits 2 [Value.ref 7, Value.int (nI j), Value.int x] M V f (RV (bi (fitN w nd j x)) M V f) := by
  have h9 := hw.n5
  have h8 := hw.n3
  refine CT.of m6_fits_V.1 _ (en_aii_4 7 (nI j) x) ?_
  refine ac_aload_n 1 dX6_fits_0 rfl rfl ?_
  refine ac_iload_n 2 dX6_fits_1 rfl rfl ?_
  refine ac_callV (μ' := m6_hasPicture) 5 dX6_fits_2 rfl lk6_71 m6_hasPicture_V ob7 (c6_hasPictureT hw hj) rfl rfl (by decide) (Nat.le_of_ble_eq_true rfl) ?_
  refine ac_if_eq 27 8 dX6_fits_5 (by decide) rfl (fun c_5 => absurd c_5 (by decide)) (fun _ => ?_)
  refine ac_iload_n 9 dX6_fits_8 rfl rfl ?_
  refine ac_if_lt 27 12 dX6_fits_9 (by decide) rfl (fun c_9 => ?_) (fun c_9 => ?_)
  · refine ac_iconst 28 0 dX6_fits_27 rfl (by decide) ?_
    refine ac_iret dX6_fits_28 ⟨_, rfl, rfl⟩ ?_
    exact rv_mk (bi_f (by first | exact fun h => absurd c_9 (Int32.not_lt.mpr h.1.1) | exact fun h => c_24 h.1.2)).symm
  · refine ac_iload_n 13 dX6_fits_12 rfl rfl ?_
    refine ac_aload_n 14 dX6_fits_13 rfl rfl ?_
    refine ac_getO 17 8 dX6_fits_14 rfl fl6_9 ob7 rfl ?_
    refine ac_iload_n 18 dX6_fits_17 rfl rfl ?_
    refine ac_iald 19 dX6_fits_18 rfl ar8 (ix_nI (by omega) (by decide)) ?_
    rw [show (M 8 j) = (w (4 + 4 * j)) from (hw.p0 hj)]
    refine ac_iadd 20 dX6_fits_19 rfl ?_
    refine ac_aload_n 21 dX6_fits_20 rfl rfl ?_
    refine ac_getI 24 dX6_fits_21 rfl fl6_42 ob7 ?_
    rw [show (M 7 0) = (w 0) from hw.s0]
    refine ac_icmp_le 29 27 dX6_fits_24 (by decide) rfl (fun c_24 => ?_) (fun c_24 => ?_)
    · refine ac_iconst 30 0 dX6_fits_29 rfl (by decide) ?_
      refine ac_istore_n 31 [some (Value.ref 7), some (Value.int (nI j)), some (Value.int x), some (Value.int 0)] dX6_fits_30 rfl rfl (Nat.le_of_ble_eq_true rfl) (by decide) rfl ?_
      refine ac_down (n := nd) (P := fun k => (∀ i, i < k → (x + w (4 + 4 * j) ≤ w (25 + 2 * i) ∨ w (25 + 2 * i + 1) ≤ x)) → A0 m6_fits 2 31 [some (Value.ref 7), some (Value.int (nI j)), some (Value.int x), some (Value.int (nI k))] [] M V f (RV (bi (fitN w nd j x)) M V f)) ?_ ?_ 0 (Nat.zero_le _) (fun i hi => absurd hi (Nat.not_lt_zero i))
      · intro hpr
        refine ac_iload_n 32 dX6_fits_31 rfl rfl ?_
        refine ac_aload_n 33 dX6_fits_32 rfl rfl ?_
        refine ac_getI 36 dX6_fits_33 rfl fl6_55 ob7 ?_
        rw [show (M 7 4) = (nI nd) from hw.s4]
        refine ac_icmp_ge 74 39 dX6_fits_36 (by decide) rfl (fun _ => ?_) (fun c_36 => absurd (Int32.le_refl _) c_36)
        refine ac_iconst 75 1 dX6_fits_74 rfl (by decide) ?_
        refine ac_iret dX6_fits_75 ⟨_, rfl, rfl⟩ ?_
        exact rv_mk (bi_t ⟨⟨Int32.not_lt.mp c_9, c_24⟩, hpr⟩).symm
      · intro k hk ih hpr
        refine ac_iload_n 32 dX6_fits_31 rfl rfl ?_
        refine ac_aload_n 33 dX6_fits_32 rfl rfl ?_
        refine ac_getI 36 dX6_fits_33 rfl fl6_55 ob7 ?_
        rw [show (M 7 4) = (nI nd) from hw.s4]
        refine ac_icmp_ge 74 39 dX6_fits_36 (by decide) rfl (fun c_36 => absurd c_36 (nI_ge hk (by omega))) (fun _ => ?_)
        refine ac_iload_n 40 dX6_fits_39 rfl rfl ?_
        refine ac_aload_n 41 dX6_fits_40 rfl rfl ?_
        refine ac_getO 44 14 dX6_fits_41 rfl fl6_30 ob7 rfl ?_
        refine ac_iload_n 45 dX6_fits_44 rfl rfl ?_
        refine ac_iald 46 dX6_fits_45 rfl ar14 (ix_nI (by omega) (by decide)) ?_
        rw [show (M 14 k) = (w (25 + 2 * k + 1)) from (hw.d1 hk)]
        refine ac_icmp_ge 68 49 dX6_fits_46 (by decide) rfl (fun c_46 => ?_) (fun c_46 => ?_)
        · refine ac_iinc 71 (nI (k + 1)) [some (Value.ref 7), some (Value.int (nI j)), some (Value.int x), some (Value.int (nI (k + 1)))] dX6_fits_68 rfl rfl (nI_1 _) rfl (by decide) rfl ?_
          refine ac_goto 31 dX6_fits_71 (by decide) ?_
          exact ih (all_suc.mpr ⟨hpr, by first | exact Or.inr c_46 | exact Or.inl c_63⟩)
        · refine ac_aload_n 50 dX6_fits_49 rfl rfl ?_
          refine ac_getO 53 13 dX6_fits_50 rfl fl6_27 ob7 rfl ?_
          refine ac_iload_n 54 dX6_fits_53 rfl rfl ?_
          refine ac_iald 55 dX6_fits_54 rfl ar13 (ix_nI (by omega) (by decide)) ?_
          rw [show (M 13 k) = (w (25 + 2 * k)) from (hw.d0 hk)]
          refine ac_iload_n 56 dX6_fits_55 rfl rfl ?_
          refine ac_aload_n 57 dX6_fits_56 rfl rfl ?_
          refine ac_getO 60 8 dX6_fits_57 rfl fl6_9 ob7 rfl ?_
          refine ac_iload_n 61 dX6_fits_60 rfl rfl ?_
          refine ac_iald 62 dX6_fits_61 rfl ar8 (ix_nI (by omega) (by decide)) ?_
          rw [show (M 8 j) = (w (4 + 4 * j)) from (hw.p0 hj)]
          refine ac_iadd 63 dX6_fits_62 rfl ?_
          refine ac_icmp_ge 68 66 dX6_fits_63 (by decide) rfl (fun c_63 => ?_) (fun c_63 => ?_)
          · refine ac_iinc 71 (nI (k + 1)) [some (Value.ref 7), some (Value.int (nI j)), some (Value.int x), some (Value.int (nI (k + 1)))] dX6_fits_68 rfl rfl (nI_1 _) rfl (by decide) rfl ?_
            refine ac_goto 31 dX6_fits_71 (by decide) ?_
            exact ih (all_suc.mpr ⟨hpr, by first | exact Or.inr c_46 | exact Or.inl c_63⟩)
          · refine ac_iconst 67 0 dX6_fits_66 rfl (by decide) ?_
            refine ac_iret dX6_fits_67 ⟨_, rfl, rfl⟩ ?_
            exact rv_mk (bi_f (fun h => (h.2 k hk).elim (fun h1 => c_63 h1) (fun h1 => c_46 h1))).symm
    · refine ac_iconst 28 0 dX6_fits_27 rfl (by decide) ?_
      refine ac_iret dX6_fits_28 ⟨_, rfl, rfl⟩ ?_
      exact rv_mk (bi_f (by first | exact fun h => absurd c_9 (Int32.not_lt.mpr h.1.1) | exact fun h => c_24 h.1.2)).symm
set_option maxRecDepth 20000 in
theorem c6_apart {M : am_I} {V : am_J} {f : Nat → Option Nat} {w : rN} {np nd nh j : Nat} (hw : CW M 7 w np nd nh) (hj : j < np) (hd : w (64 + j) = -9) (x : Int32) : CT m6_isApartFromAll 2 [Value.ref 7, Value.int (nI j), Value.int x] M V f (RV (bi (apN w np j x)) M V f) := by
  have h9 := hw.n5
  refine CT.of m6_isApartFromAll_V.1 _ (en_aii_4 7 (nI j) x) ?_
  refine ac_aload_n 1 dX6_isApartFromAll_0 rfl rfl ?_
  refine ac_iload_n 2 dX6_isApartFromAll_1 rfl rfl ?_
  refine ac_callV (μ' := m6_hasPicture) 5 dX6_isApartFromAll_2 rfl lk6_71 m6_hasPicture_V ob7 (c6_hasPictureT hw hj) rfl rfl (by decide) (Nat.le_of_ble_eq_true rfl) ?_
  refine ac_if_ne 10 8 dX6_isApartFromAll_5 (by decide) rfl (fun _ => ?_) (fun c_5 => absurd c_5 (by decide))
  refine ac_iconst 11 0 dX6_isApartFromAll_10 rfl (by decide) ?_
  refine ac_istore_n 12 [some (Value.ref 7), some (Value.int (nI j)), some (Value.int x), some (Value.int 0)] dX6_isApartFromAll_11 rfl rfl (Nat.le_of_ble_eq_true rfl) (by decide) rfl ?_
  refine ac_down (n := np) (P := fun k => (∀ q, q < k → (w (64 + q) = -9 ∨ x + w (4 + 4 * j) + w 2 ≤ w (64 + q) ∨ w (64 + q) + w (4 + 4 * q) + w 2 ≤ x)) → A0 m6_isApartFromAll 2 12 [some (Value.ref 7), some (Value.int (nI j)), some (Value.int x), some (Value.int (nI k))] [] M V f (RV (bi (apN w np j x)) M V f)) ?_ ?_ 0 (Nat.zero_le _) (fun i hi => absurd hi (Nat.not_lt_zero i))
  · intro hpr
    refine ac_iload_n 13 dX6_isApartFromAll_12 rfl rfl ?_
    refine ac_aload_n 14 dX6_isApartFromAll_13 rfl rfl ?_
    refine ac_getI 17 dX6_isApartFromAll_14 rfl fl6_52 ob7 ?_
    rw [show (M 7 3) = (nI np) from hw.s3]
    refine ac_icmp_ge 88 20 dX6_isApartFromAll_17 (by decide) rfl (fun _ => ?_) (fun c_17 => absurd (Int32.le_refl _) c_17)
    refine ac_iconst 89 1 dX6_isApartFromAll_88 rfl (by decide) ?_
    refine ac_iret dX6_isApartFromAll_89 ⟨_, rfl, rfl⟩ ?_
    exact rv_mk (bi_t hpr).symm
  · intro k hk ih hpr
    refine ac_iload_n 13 dX6_isApartFromAll_12 rfl rfl ?_
    refine ac_aload_n 14 dX6_isApartFromAll_13 rfl rfl ?_
    refine ac_getI 17 dX6_isApartFromAll_14 rfl fl6_52 ob7 ?_
    rw [show (M 7 3) = (nI np) from hw.s3]
    refine ac_icmp_ge 88 20 dX6_isApartFromAll_17 (by decide) rfl (fun c_17 => absurd c_17 (nI_ge hk (by omega))) (fun _ => ?_)
    refine ac_iload_n 21 dX6_isApartFromAll_20 rfl rfl ?_
    refine ac_iload_n 22 dX6_isApartFromAll_21 rfl rfl ?_
    refine ac_icmp_eq 82 25 dX6_isApartFromAll_22 (by decide) rfl (fun c_22 => ?_) (fun c_22 => ?_)
    · refine ac_iinc 85 (nI (k + 1)) [some (Value.ref 7), some (Value.int (nI j)), some (Value.int x), some (Value.int (nI (k + 1)))] dX6_isApartFromAll_82 rfl rfl (nI_1 _) rfl (by decide) rfl ?_
      refine ac_goto 12 dX6_isApartFromAll_85 (by decide) ?_
      exact ih (all_suc.mpr ⟨hpr, by first | exact Or.inl c_33 | exact Or.inr (Or.inl c_55) | exact Or.inr (Or.inr c_77) | exact Or.inl (by rw [(nI_eq (by omega) (by omega)).mp c_22]; exact hd)⟩)
    · refine ac_aload_n 26 dX6_isApartFromAll_25 rfl rfl ?_
      refine ac_getO 29 12 dX6_isApartFromAll_26 rfl fl6_24 ob7 rfl ?_
      refine ac_iload_n 30 dX6_isApartFromAll_29 rfl rfl ?_
      refine ac_iald 31 dX6_isApartFromAll_30 rfl ar12 (ix_nI (by omega) (by decide)) ?_
      rw [show (M 12 k) = (w (64 + k)) from (hw.p4 hk)]
      refine ac_bipush 33 (-9) dX6_isApartFromAll_31 rfl (by decide) ?_
      refine ac_icmp_eq 82 36 dX6_isApartFromAll_33 (by decide) rfl (fun c_33 => ?_) (fun c_33 => ?_)
      · refine ac_iinc 85 (nI (k + 1)) [some (Value.ref 7), some (Value.int (nI j)), some (Value.int x), some (Value.int (nI (k + 1)))] dX6_isApartFromAll_82 rfl rfl (nI_1 _) rfl (by decide) rfl ?_
        refine ac_goto 12 dX6_isApartFromAll_85 (by decide) ?_
        exact ih (all_suc.mpr ⟨hpr, by first | exact Or.inl c_33 | exact Or.inr (Or.inl c_55) | exact Or.inr (Or.inr c_77) | exact Or.inl (by rw [(nI_eq (by omega) (by omega)).mp c_22]; exact hd)⟩)
      · refine ac_iload_n 37 dX6_isApartFromAll_36 rfl rfl ?_
        refine ac_aload_n 38 dX6_isApartFromAll_37 rfl rfl ?_
        refine ac_getO 41 8 dX6_isApartFromAll_38 rfl fl6_9 ob7 rfl ?_
        refine ac_iload_n 42 dX6_isApartFromAll_41 rfl rfl ?_
        refine ac_iald 43 dX6_isApartFromAll_42 rfl ar8 (ix_nI (by omega) (by decide)) ?_
        rw [show (M 8 j) = (w (4 + 4 * j)) from (hw.p0 hj)]
        refine ac_iadd 44 dX6_isApartFromAll_43 rfl ?_
        refine ac_aload_n 45 dX6_isApartFromAll_44 rfl rfl ?_
        refine ac_getI 48 dX6_isApartFromAll_45 rfl fl6_49 ob7 ?_
        rw [show (M 7 2) = (w 2) from hw.s2]
        refine ac_iadd 49 dX6_isApartFromAll_48 rfl ?_
        refine ac_aload_n 50 dX6_isApartFromAll_49 rfl rfl ?_
        refine ac_getO 53 12 dX6_isApartFromAll_50 rfl fl6_24 ob7 rfl ?_
        refine ac_iload_n 54 dX6_isApartFromAll_53 rfl rfl ?_
        refine ac_iald 55 dX6_isApartFromAll_54 rfl ar12 (ix_nI (by omega) (by decide)) ?_
        rw [show (M 12 k) = (w (64 + k)) from (hw.p4 hk)]
        refine ac_icmp_le 82 58 dX6_isApartFromAll_55 (by decide) rfl (fun c_55 => ?_) (fun c_55 => ?_)
        · refine ac_iinc 85 (nI (k + 1)) [some (Value.ref 7), some (Value.int (nI j)), some (Value.int x), some (Value.int (nI (k + 1)))] dX6_isApartFromAll_82 rfl rfl (nI_1 _) rfl (by decide) rfl ?_
          refine ac_goto 12 dX6_isApartFromAll_85 (by decide) ?_
          exact ih (all_suc.mpr ⟨hpr, by first | exact Or.inl c_33 | exact Or.inr (Or.inl c_55) | exact Or.inr (Or.inr c_77) | exact Or.inl (by rw [(nI_eq (by omega) (by omega)).mp c_22]; exact hd)⟩)
        · refine ac_aload_n 59 dX6_isApartFromAll_58 rfl rfl ?_
          refine ac_getO 62 12 dX6_isApartFromAll_59 rfl fl6_24 ob7 rfl ?_
          refine ac_iload_n 63 dX6_isApartFromAll_62 rfl rfl ?_
          refine ac_iald 64 dX6_isApartFromAll_63 rfl ar12 (ix_nI (by omega) (by decide)) ?_
          rw [show (M 12 k) = (w (64 + k)) from (hw.p4 hk)]
          refine ac_aload_n 65 dX6_isApartFromAll_64 rfl rfl ?_
          refine ac_getO 68 8 dX6_isApartFromAll_65 rfl fl6_9 ob7 rfl ?_
          refine ac_iload_n 69 dX6_isApartFromAll_68 rfl rfl ?_
          refine ac_iald 70 dX6_isApartFromAll_69 rfl ar8 (ix_nI (by omega) (by decide)) ?_
          rw [show (M 8 k) = (w (4 + 4 * k)) from (hw.p0 hk)]
          refine ac_iadd 71 dX6_isApartFromAll_70 rfl ?_
          refine ac_aload_n 72 dX6_isApartFromAll_71 rfl rfl ?_
          refine ac_getI 75 dX6_isApartFromAll_72 rfl fl6_49 ob7 ?_
          rw [show (M 7 2) = (w 2) from hw.s2]
          refine ac_iadd 76 dX6_isApartFromAll_75 rfl ?_
          refine ac_iload_n 77 dX6_isApartFromAll_76 rfl rfl ?_
          refine ac_icmp_le 82 80 dX6_isApartFromAll_77 (by decide) rfl (fun c_77 => ?_) (fun c_77 => ?_)
          · refine ac_iinc 85 (nI (k + 1)) [some (Value.ref 7), some (Value.int (nI j)), some (Value.int x), some (Value.int (nI (k + 1)))] dX6_isApartFromAll_82 rfl rfl (nI_1 _) rfl (by decide) rfl ?_
            refine ac_goto 12 dX6_isApartFromAll_85 (by decide) ?_
            exact ih (all_suc.mpr ⟨hpr, by first | exact Or.inl c_33 | exact Or.inr (Or.inl c_55) | exact Or.inr (Or.inr c_77) | exact Or.inl (by rw [(nI_eq (by omega) (by omega)).mp c_22]; exact hd)⟩)
          · refine ac_iconst 81 0 dX6_isApartFromAll_80 rfl (by decide) ?_
            refine ac_iret dX6_isApartFromAll_81 ⟨_, rfl, rfl⟩ ?_
            exact rv_mk (bi_f (fun h => (h k hk).elim c_33 (fun h1 => h1.elim c_55 c_77))).symm
set_option maxRecDepth 20000 in
theorem c6_free {M : am_I} {V : am_J} {f : Nat → Option Nat} {w : rN} {np nd nh j : Nat} (hw : CW M 7 w np nd nh) (hj : j < np) (hd : w (64 + j) = -9) (x : Int32) : CT m6_isFreeFor 3 [Value.ref 7, Value.int (nI j), Value.int x] M V f (RV (bi (fitN w nd j x ∧ apN w np j x)) M V f) := by
  have h9 := hw.n5
  refine CT.of m6_isFreeFor_V.1 _ (en_aii_3 7 (nI j) x) ?_
  refine ac_aload_n 1 dX6_isFreeFor_0 rfl rfl ?_
  refine ac_iload_n 2 dX6_isFreeFor_1 rfl rfl ?_
  refine ac_iload_n 3 dX6_isFreeFor_2 rfl rfl ?_
  refine ac_callV (μ' := m6_fits) 6 dX6_isFreeFor_3 rfl lk6_85 m6_fits_V ob7 (c6_fits hw hj _) rfl rfl (by decide) (Nat.le_of_ble_eq_true rfl) ?_
  refine ac_if_eq 22 9 dX6_isFreeFor_6 (by decide) rfl (fun c_6 => ?_) (fun c_6 => ?_)
  · refine ac_iconst 23 0 dX6_isFreeFor_22 rfl (by decide) ?_
    refine ac_iret dX6_isFreeFor_23 ⟨_, rfl, rfl⟩ ?_
    exact rv_mk (bi_f (by first | exact ⟨bi_ne0.mp c_6, bi_ne0.mp c_15⟩ | exact fun h => bi_eq0.mp c_6 h.1 | exact fun h => bi_eq0.mp c_15 h.2)).symm
  · refine ac_aload_n 10 dX6_isFreeFor_9 rfl rfl ?_
    refine ac_iload_n 11 dX6_isFreeFor_10 rfl rfl ?_
    refine ac_iload_n 12 dX6_isFreeFor_11 rfl rfl ?_
    refine ac_callV (μ' := m6_isApartFromAll) 15 dX6_isFreeFor_12 rfl lk6_89 m6_isApartFromAll_V ob7 (c6_apart hw hj hd _) rfl rfl (by decide) (Nat.le_of_ble_eq_true rfl) ?_
    refine ac_if_eq 22 18 dX6_isFreeFor_15 (by decide) rfl (fun c_15 => ?_) (fun c_15 => ?_)
    · refine ac_iconst 23 0 dX6_isFreeFor_22 rfl (by decide) ?_
      refine ac_iret dX6_isFreeFor_23 ⟨_, rfl, rfl⟩ ?_
      exact rv_mk (bi_f (by first | exact ⟨bi_ne0.mp c_6, bi_ne0.mp c_15⟩ | exact fun h => bi_eq0.mp c_6 h.1 | exact fun h => bi_eq0.mp c_15 h.2)).symm
    · refine ac_iconst 19 1 dX6_isFreeFor_18 rfl (by decide) ?_
      refine ac_goto 23 dX6_isFreeFor_19 (by decide) ?_
      refine ac_iret dX6_isFreeFor_23 ⟨_, rfl, rfl⟩ ?_
      exact rv_mk (bi_t (by first | exact ⟨bi_ne0.mp c_6, bi_ne0.mp c_15⟩ | exact fun h => bi_eq0.mp c_6 h.1 | exact fun h => bi_eq0.mp c_15 h.2)).symm
set_option maxRecDepth 20000 in
theorem c6_onF {M : am_I} {V : am_J} {f : Nat → Option Nat} {w : rN} {np nd nh : Nat} (hw : CW M 7 w np nd nh) {p : Int32} (hp : ¬ vI p nh) : CT m6_findPictureOn 3 [Value.ref 7, Value.int p] M V f (RV (-9) M V f) := by
  refine CT.of m6_findPictureOn_V.1 _ (en_ai_3 7 p) ?_
  refine ac_aload_n 1 dX6_findPictureOn_0 rfl rfl ?_
  refine ac_iload_n 2 dX6_findPictureOn_1 rfl rfl ?_
  refine ac_callV (μ' := m6_hasHole) 5 dX6_findPictureOn_2 rfl lk6_67 m6_hasHole_V ob7 (c6_hasHoleF hw hp) rfl rfl (by decide) (Nat.le_of_ble_eq_true rfl) ?_
  refine ac_if_ne 11 8 dX6_findPictureOn_5 (by decide) rfl (fun c_5 => absurd (by decide) c_5) (fun _ => ?_)
  refine ac_bipush 10 (-9) dX6_findPictureOn_8 rfl (by decide) ?_
  refine ac_iret dX6_findPictureOn_10 ⟨_, rfl, rfl⟩ ?_
  exact rv_mk rfl
set_option maxRecDepth 20000 in
theorem c6_on {M : am_I} {V : am_J} {f : Nat → Option Nat} {w : rN} {np nd nh j : Nat} (hw : CW M 7 w np nd nh) (hj : j < nh) : CT m6_findPictureOn 3 [Value.ref 7, Value.int (nI j)] M V f (RV (dlst (onN w j) np np) M V f) := by
  have h9 := hw.n16
  have h8 := hw.n5
  refine CT.of m6_findPictureOn_V.1 _ (en_ai_3 7 (nI j)) ?_
  refine ac_aload_n 1 dX6_findPictureOn_0 rfl rfl ?_
  refine ac_iload_n 2 dX6_findPictureOn_1 rfl rfl ?_
  refine ac_callV (μ' := m6_hasHole) 5 dX6_findPictureOn_2 rfl lk6_67 m6_hasHole_V ob7 (c6_hasHoleT hw hj) rfl rfl (by decide) (Nat.le_of_ble_eq_true rfl) ?_
  refine ac_if_ne 11 8 dX6_findPictureOn_5 (by decide) rfl (fun _ => ?_) (fun c_5 => absurd c_5 (by decide))
  refine ac_iconst 12 0 dX6_findPictureOn_11 rfl (by decide) ?_
  refine ac_istore_n 13 [some (Value.ref 7), some (Value.int (nI j)), some (Value.int 0)] dX6_findPictureOn_12 rfl rfl (Nat.le_of_ble_eq_true rfl) (by decide) rfl ?_
  refine ac_down (n := np) (P := fun k => (∀ q, q < k → ¬ onN w j q) → A0 m6_findPictureOn 3 13 [some (Value.ref 7), some (Value.int (nI j)), some (Value.int (nI k))] [] M V f (RV (dlst (onN w j) np np) M V f)) ?_ ?_ 0 (Nat.zero_le _) (fun i hi => absurd hi (Nat.not_lt_zero i))
  · intro hpr
    refine ac_iload_n 14 dX6_findPictureOn_13 rfl rfl ?_
    refine ac_aload_n 15 dX6_findPictureOn_14 rfl rfl ?_
    refine ac_getI 18 dX6_findPictureOn_15 rfl fl6_52 ob7 ?_
    rw [show (M 7 3) = (nI np) from hw.s3]
    refine ac_icmp_ge 74 21 dX6_findPictureOn_18 (by decide) rfl (fun _ => ?_) (fun c_18 => absurd (Int32.le_refl _) c_18)
    refine ac_bipush 76 (-9) dX6_findPictureOn_74 rfl (by decide) ?_
    refine ac_iret dX6_findPictureOn_76 ⟨_, rfl, rfl⟩ ?_
    exact rv_mk (dl_n hpr).symm
  · intro k hk ih hpr
    refine ac_iload_n 14 dX6_findPictureOn_13 rfl rfl ?_
    refine ac_aload_n 15 dX6_findPictureOn_14 rfl rfl ?_
    refine ac_getI 18 dX6_findPictureOn_15 rfl fl6_52 ob7 ?_
    rw [show (M 7 3) = (nI np) from hw.s3]
    refine ac_icmp_ge 74 21 dX6_findPictureOn_18 (by decide) rfl (fun c_18 => absurd c_18 (nI_ge hk (by omega))) (fun _ => ?_)
    refine ac_aload_n 22 dX6_findPictureOn_21 rfl rfl ?_
    refine ac_getO 25 12 dX6_findPictureOn_22 rfl fl6_24 ob7 rfl ?_
    refine ac_iload_n 26 dX6_findPictureOn_25 rfl rfl ?_
    refine ac_iald 27 dX6_findPictureOn_26 rfl ar12 (ix_nI (by omega) (by decide)) ?_
    rw [show (M 12 k) = (w (64 + k)) from (hw.p4 hk)]
    refine ac_bipush 29 (-9) dX6_findPictureOn_27 rfl (by decide) ?_
    refine ac_icmp_eq 68 32 dX6_findPictureOn_29 (by decide) rfl (fun c_29 => ?_) (fun c_29 => ?_)
    · refine ac_iinc 71 (nI (k + 1)) [some (Value.ref 7), some (Value.int (nI j)), some (Value.int (nI (k + 1)))] dX6_findPictureOn_68 rfl rfl (nI_1 _) rfl (by decide) rfl ?_
      refine ac_goto 13 dX6_findPictureOn_71 (by decide) ?_
      exact ih (all_suc.mpr ⟨hpr, by first | exact fun h => h.1 c_29 | exact fun h => c_49 h.2.1 | exact fun h => c_63 h.2.2⟩)
    · refine ac_aload_n 33 dX6_findPictureOn_32 rfl rfl ?_
      refine ac_iload_n 34 dX6_findPictureOn_33 rfl rfl ?_
      refine ac_aload_n 35 dX6_findPictureOn_34 rfl rfl ?_
      refine ac_getO 38 12 dX6_findPictureOn_35 rfl fl6_24 ob7 rfl ?_
      refine ac_iload_n 39 dX6_findPictureOn_38 rfl rfl ?_
      refine ac_iald 40 dX6_findPictureOn_39 rfl ar12 (ix_nI (by omega) (by decide)) ?_
      rw [show (M 12 k) = (w (64 + k)) from (hw.p4 hk)]
      refine ac_callV (μ' := m6_hookX) 43 dX6_findPictureOn_40 rfl lk6_74 m6_hookX_V ob7 (c6_hookX hw hk _) rfl rfl (by decide) (Nat.le_of_ble_eq_true rfl) ?_
      refine ac_aload_n 44 dX6_findPictureOn_43 rfl rfl ?_
      refine ac_getO 47 15 dX6_findPictureOn_44 rfl fl6_33 ob7 rfl ?_
      refine ac_iload_n 48 dX6_findPictureOn_47 rfl rfl ?_
      refine ac_iald 49 dX6_findPictureOn_48 rfl ar15 (ix_nI (by omega) (by decide)) ?_
      rw [show (M 15 j) = (w (32 + 2 * j)) from (hw.h0 hj)]
      refine ac_icmp_ne 68 52 dX6_findPictureOn_49 (by decide) rfl (fun c_49 => ?_) (fun c_49 => ?_)
      · refine ac_iinc 71 (nI (k + 1)) [some (Value.ref 7), some (Value.int (nI j)), some (Value.int (nI (k + 1)))] dX6_findPictureOn_68 rfl rfl (nI_1 _) rfl (by decide) rfl ?_
        refine ac_goto 13 dX6_findPictureOn_71 (by decide) ?_
        exact ih (all_suc.mpr ⟨hpr, by first | exact fun h => h.1 c_29 | exact fun h => c_49 h.2.1 | exact fun h => c_63 h.2.2⟩)
      · refine ac_aload_n 53 dX6_findPictureOn_52 rfl rfl ?_
        refine ac_iload_n 54 dX6_findPictureOn_53 rfl rfl ?_
        refine ac_callV (μ' := m6_hookY) 57 dX6_findPictureOn_54 rfl lk6_78 m6_hookY_V ob7 (c6_hookY hw hk) rfl rfl (by decide) (Nat.le_of_ble_eq_true rfl) ?_
        refine ac_aload_n 58 dX6_findPictureOn_57 rfl rfl ?_
        refine ac_getO 61 16 dX6_findPictureOn_58 rfl fl6_36 ob7 rfl ?_
        refine ac_iload_n 62 dX6_findPictureOn_61 rfl rfl ?_
        refine ac_iald 63 dX6_findPictureOn_62 rfl ar16 (ix_nI (by omega) (by decide)) ?_
        rw [show (M 16 j) = (w (32 + 2 * j + 1)) from (hw.h1 hj)]
        refine ac_icmp_ne 68 66 dX6_findPictureOn_63 (by decide) rfl (fun c_63 => ?_) (fun c_63 => ?_)
        · refine ac_iinc 71 (nI (k + 1)) [some (Value.ref 7), some (Value.int (nI j)), some (Value.int (nI (k + 1)))] dX6_findPictureOn_68 rfl rfl (nI_1 _) rfl (by decide) rfl ?_
          refine ac_goto 13 dX6_findPictureOn_71 (by decide) ?_
          exact ih (all_suc.mpr ⟨hpr, by first | exact fun h => h.1 c_29 | exact fun h => c_49 h.2.1 | exact fun h => c_63 h.2.2⟩)
        · refine ac_iload_n 67 dX6_findPictureOn_66 rfl rfl ?_
          refine ac_iret dX6_findPictureOn_67 ⟨_, rfl, rfl⟩ ?_
          exact rv_mk (dl_f (P := onN w j) ⟨c_29, c_49, c_63⟩ hk hpr).symm
set_option maxRecDepth 20000 in
theorem c6_momentAt {M : am_I} {V : am_J} {f : Nat → Option Nat} {w : rN} {np nd nh j : Nat} (hw : CW M 7 w np nd nh) (hj : j < np) (x : Int32) : CT m6_momentAt 3 [Value.ref 7, Value.int (nI j), Value.int x] M V f (RV (leN w j x) M V f) := by
  have h9 := hw.n5
  refine CT.of m6_momentAt_V.1 _ (en_aii_3 7 (nI j) x) ?_
  refine ac_aload_n 1 dX6_momentAt_0 rfl rfl ?_
  refine ac_iload_n 2 dX6_momentAt_1 rfl rfl ?_
  refine ac_callV (μ' := m6_hasPicture) 5 dX6_momentAt_2 rfl lk6_71 m6_hasPicture_V ob7 (c6_hasPictureT hw hj) rfl rfl (by decide) (Nat.le_of_ble_eq_true rfl) ?_
  refine ac_if_eq 29 8 dX6_momentAt_5 (by decide) rfl (fun c_5 => absurd c_5 (by decide)) (fun _ => ?_)
  refine ac_aload_n 9 dX6_momentAt_8 rfl rfl ?_
  refine ac_getO 12 11 dX6_momentAt_9 rfl fl6_21 ob7 rfl ?_
  refine ac_iload_n 13 dX6_momentAt_12 rfl rfl ?_
  refine ac_iald 14 dX6_momentAt_13 rfl ar11 (ix_nI (by omega) (by decide)) ?_
  rw [show (M 11 j) = (w (4 + 4 * j + 3)) from (hw.p3 hj)]
  refine ac_aload_n 15 dX6_momentAt_14 rfl rfl ?_
  refine ac_iload_n 16 dX6_momentAt_15 rfl rfl ?_
  refine ac_iload_n 17 dX6_momentAt_16 rfl rfl ?_
  refine ac_callV (μ' := m6_hookX) 20 dX6_momentAt_17 rfl lk6_74 m6_hookX_V ob7 (c6_hookX hw hj _) rfl rfl (by decide) (Nat.le_of_ble_eq_true rfl) ?_
  refine ac_aload_n 21 dX6_momentAt_20 rfl rfl ?_
  refine ac_getI 24 dX6_momentAt_21 rfl fl6_42 ob7 ?_
  rw [show (M 7 0) = (w 0) from hw.s0]
  refine ac_isub 25 dX6_momentAt_24 rfl ?_
  refine ac_imul 26 dX6_momentAt_25 rfl ?_
  refine ac_goto 30 dX6_momentAt_26 (by decide) ?_
  refine ac_iret dX6_momentAt_30 ⟨_, rfl, rfl⟩ ?_
  exact rv_mk rfl
set_option maxRecDepth 20000 in
theorem c6_countUp {M : am_I} {V : am_J} {f : Nat → Option Nat} {w : rN} {np nd nh : Nat} (hw : CW M 7 w np nd nh) : CT m6_countUp 1 [Value.ref 7] M V f (RV (upN w np) M V f) := by
  have h9 := hw.n5
  refine CT.of m6_countUp_V.1 _ (en_a_3 7) ?_
  refine ac_iconst 1 0 dX6_countUp_0 rfl (by decide) ?_
  refine ac_istore_n 2 [some (Value.ref 7), some (Value.int 0), none] dX6_countUp_1 rfl rfl (Nat.le_of_ble_eq_true rfl) (by decide) rfl ?_
  have hL : A0 m6_countUp 1 4 [some (Value.ref 7), some (Value.int (upN w 0)), some (Value.int (nI 0))] [] M V f (RV (upN w np) M V f) := by
    refine ac_down (n := np) (P := fun k => A0 m6_countUp 1 4 [some (Value.ref 7), some (Value.int (upN w k)), some (Value.int (nI k))] [] M V f (RV (upN w np) M V f)) ?_ ?_ 0 (Nat.zero_le _) 
    · refine ac_iload_n 5 dX6_countUp_4 rfl rfl ?_
      refine ac_aload_n 6 dX6_countUp_5 rfl rfl ?_
      refine ac_getI 9 dX6_countUp_6 rfl fl6_52 ob7 ?_
      rw [show (M 7 3) = (nI np) from hw.s3]
      refine ac_icmp_ge 32 12 dX6_countUp_9 (by decide) rfl (fun _ => ?_) (fun c_9 => absurd (Int32.le_refl _) c_9)
      refine ac_iload_n 33 dX6_countUp_32 rfl rfl ?_
      refine ac_iret dX6_countUp_33 ⟨_, rfl, rfl⟩ ?_
      exact rv_mk rfl
    · intro k hk ih
      refine ac_iload_n 5 dX6_countUp_4 rfl rfl ?_
      refine ac_aload_n 6 dX6_countUp_5 rfl rfl ?_
      refine ac_getI 9 dX6_countUp_6 rfl fl6_52 ob7 ?_
      rw [show (M 7 3) = (nI np) from hw.s3]
      refine ac_icmp_ge 32 12 dX6_countUp_9 (by decide) rfl (fun c_9 => absurd c_9 (nI_ge hk (by omega))) (fun _ => ?_)
      refine ac_aload_n 13 dX6_countUp_12 rfl rfl ?_
      refine ac_getO 16 12 dX6_countUp_13 rfl fl6_24 ob7 rfl ?_
      refine ac_iload_n 17 dX6_countUp_16 rfl rfl ?_
      refine ac_iald 18 dX6_countUp_17 rfl ar12 (ix_nI (by omega) (by decide)) ?_
      rw [show (M 12 k) = (w (64 + k)) from (hw.p4 hk)]
      refine ac_bipush 20 (-9) dX6_countUp_18 rfl (by decide) ?_
      refine ac_icmp_eq 26 23 dX6_countUp_20 (by decide) rfl (fun c_20 => ?_) (fun c_20 => ?_)
      · refine ac_iinc 29 (nI (k + 1)) [some (Value.ref 7), some (Value.int (upN w k)), some (Value.int (nI (k + 1)))] dX6_countUp_26 rfl rfl (nI_1 _) rfl (by decide) rfl ?_
        refine ac_goto 4 dX6_countUp_29 (by decide) ?_
        rw [show upN w (k + 1) = (upN w k) from by show _ + _ = _; first | rw [if_pos c_20, Int32.add_zero] | rw [if_neg c_20]] at ih
        exact ih
      · refine ac_iinc 26 ((upN w k) + 1) [some (Value.ref 7), some (Value.int ((upN w k) + 1)), some (Value.int (nI k))] dX6_countUp_23 rfl rfl rfl rfl (by decide) rfl ?_
        refine ac_iinc 29 (nI (k + 1)) [some (Value.ref 7), some (Value.int ((upN w k) + 1)), some (Value.int (nI (k + 1)))] dX6_countUp_26 rfl rfl (nI_1 _) rfl (by decide) rfl ?_
        refine ac_goto 4 dX6_countUp_29 (by decide) ?_
        rw [show upN w (k + 1) = ((upN w k) + 1) from by show _ + _ = _; first | rw [if_pos c_20, Int32.add_zero] | rw [if_neg c_20]] at ih
        exact ih
  refine ac_iconst 3 0 dX6_countUp_2 rfl (by decide) ?_
  refine ac_istore_n 4 [some (Value.ref 7), some (Value.int 0), some (Value.int 0)] dX6_countUp_3 rfl rfl (Nat.le_of_ble_eq_true rfl) (by decide) rfl ?_
  exact hL
set_option maxRecDepth 20000 in
theorem c6_momentNow {M : am_I} {V : am_J} {f : Nat → Option Nat} {w : rN} {np nd nh : Nat} (hw : CW M 7 w np nd nh) : CT m6_momentNow 4 [Value.ref 7] M V f (RV (moN w np) M V f) := by
  have h9 := hw.n5
  refine CT.of m6_momentNow_V.1 _ (en_a_3 7) ?_
  refine ac_iconst 1 0 dX6_momentNow_0 rfl (by decide) ?_
  refine ac_istore_n 2 [some (Value.ref 7), some (Value.int 0), none] dX6_momentNow_1 rfl rfl (Nat.le_of_ble_eq_true rfl) (by decide) rfl ?_
  have hL : A0 m6_momentNow 4 4 [some (Value.ref 7), some (Value.int (moN w 0)), some (Value.int (nI 0))] [] M V f (RV (moN w np) M V f) := by
    refine ac_down (n := np) (P := fun k => A0 m6_momentNow 4 4 [some (Value.ref 7), some (Value.int (moN w k)), some (Value.int (nI k))] [] M V f (RV (moN w np) M V f)) ?_ ?_ 0 (Nat.zero_le _) 
    · refine ac_iload_n 5 dX6_momentNow_4 rfl rfl ?_
      refine ac_aload_n 6 dX6_momentNow_5 rfl rfl ?_
      refine ac_getI 9 dX6_momentNow_6 rfl fl6_52 ob7 ?_
      rw [show (M 7 3) = (nI np) from hw.s3]
      refine ac_icmp_ge 43 12 dX6_momentNow_9 (by decide) rfl (fun _ => ?_) (fun c_9 => absurd (Int32.le_refl _) c_9)
      refine ac_iload_n 44 dX6_momentNow_43 rfl rfl ?_
      refine ac_iret dX6_momentNow_44 ⟨_, rfl, rfl⟩ ?_
      exact rv_mk rfl
    · intro k hk ih
      refine ac_iload_n 5 dX6_momentNow_4 rfl rfl ?_
      refine ac_aload_n 6 dX6_momentNow_5 rfl rfl ?_
      refine ac_getI 9 dX6_momentNow_6 rfl fl6_52 ob7 ?_
      rw [show (M 7 3) = (nI np) from hw.s3]
      refine ac_icmp_ge 43 12 dX6_momentNow_9 (by decide) rfl (fun c_9 => absurd c_9 (nI_ge hk (by omega))) (fun _ => ?_)
      refine ac_aload_n 13 dX6_momentNow_12 rfl rfl ?_
      refine ac_getO 16 12 dX6_momentNow_13 rfl fl6_24 ob7 rfl ?_
      refine ac_iload_n 17 dX6_momentNow_16 rfl rfl ?_
      refine ac_iald 18 dX6_momentNow_17 rfl ar12 (ix_nI (by omega) (by decide)) ?_
      rw [show (M 12 k) = (w (64 + k)) from (hw.p4 hk)]
      refine ac_bipush 20 (-9) dX6_momentNow_18 rfl (by decide) ?_
      refine ac_icmp_eq 37 23 dX6_momentNow_20 (by decide) rfl (fun c_20 => ?_) (fun c_20 => ?_)
      · refine ac_iinc 40 (nI (k + 1)) [some (Value.ref 7), some (Value.int (moN w k)), some (Value.int (nI (k + 1)))] dX6_momentNow_37 rfl rfl (nI_1 _) rfl (by decide) rfl ?_
        refine ac_goto 4 dX6_momentNow_40 (by decide) ?_
        rw [show moN w (k + 1) = (moN w k) from by show _ + _ = _; first | rw [if_pos c_20, Int32.add_zero] | rw [if_neg c_20]] at ih
        exact ih
      · refine ac_iload_n 24 dX6_momentNow_23 rfl rfl ?_
        refine ac_aload_n 25 dX6_momentNow_24 rfl rfl ?_
        refine ac_iload_n 26 dX6_momentNow_25 rfl rfl ?_
        refine ac_aload_n 27 dX6_momentNow_26 rfl rfl ?_
        refine ac_getO 30 12 dX6_momentNow_27 rfl fl6_24 ob7 rfl ?_
        refine ac_iload_n 31 dX6_momentNow_30 rfl rfl ?_
        refine ac_iald 32 dX6_momentNow_31 rfl ar12 (ix_nI (by omega) (by decide)) ?_
        rw [show (M 12 k) = (w (64 + k)) from (hw.p4 hk)]
        refine ac_callV (μ' := m6_momentAt) 35 dX6_momentNow_32 rfl lk6_99 m6_momentAt_V ob7 (c6_momentAt hw hk _) rfl rfl (by decide) (Nat.le_of_ble_eq_true rfl) ?_
        refine ac_iadd 36 dX6_momentNow_35 rfl ?_
        refine ac_istore_n 37 [some (Value.ref 7), some (Value.int ((moN w k) + (leN w k (w (64 + k))))), some (Value.int (nI k))] dX6_momentNow_36 rfl rfl (Nat.le_of_ble_eq_true rfl) (by decide) rfl ?_
        refine ac_iinc 40 (nI (k + 1)) [some (Value.ref 7), some (Value.int ((moN w k) + (leN w k (w (64 + k))))), some (Value.int (nI (k + 1)))] dX6_momentNow_37 rfl rfl (nI_1 _) rfl (by decide) rfl ?_
        refine ac_goto 4 dX6_momentNow_40 (by decide) ?_
        rw [show moN w (k + 1) = ((moN w k) + (leN w k (w (64 + k)))) from by show _ + _ = _; first | rw [if_pos c_20, Int32.add_zero] | rw [if_neg c_20]] at ih
        exact ih
  refine ac_iconst 3 0 dX6_momentNow_2 rfl (by decide) ?_
  refine ac_istore_n 4 [some (Value.ref 7), some (Value.int 0), some (Value.int 0)] dX6_momentNow_3 rfl rfl (Nat.le_of_ble_eq_true rfl) (by decide) rfl ?_
  exact hL
