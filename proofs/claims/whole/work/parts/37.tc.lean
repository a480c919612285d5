/-! Telling: the class cuts the text. -/
noncomputable def srP (tx : Nat → Nat) (p : Nat) : Int32 := cif (isW tx p) 5 (cif (isF tx p) 2 1)
theorem sr_W {tx : Nat → Nat} {p : Nat} (h : isW tx p) : srP tx p = 5 := cif_t h
theorem isWF {tx : Nat → Nat} {p : Nat} (h : isF tx p) : ¬ isW tx p := fun q => by unfold isW isF at *; omega
theorem sr_F {tx : Nat → Nat} {p : Nat} (h : isF tx p) : srP tx p = 2 := (cif_f (isWF h)).trans (cif_t h)
theorem sr_N {tx : Nat → Nat} {p : Nat} (h : ¬ isW tx p) (h2 : ¬ isF tx p) : srP tx p = 1 := (cif_f h).trans (cif_f h2)
/-- the class's text -/
def TX (M : am_I) (tx : Nat → Nat) (n : Nat) : Prop := n ≤ 120 ∧ ∀ y, y < n → M 1 y = nI (tx y) ∧ tx y ≤ 255
set_option maxRecDepth 20000 in
theorem c5_sort {M : am_I} {V : am_J} {f : Nat → Option Nat} {tx : Nat → Nat} {n p : Nat} (hX : TX M tx n) (hp : p < n) : CT m5_sortAt 1 [Value.ref 1, Value.int (nI p)] M V f (RV (srP tx p) M V f) := by
  have hn := hX.1
  have hT := hX.2 p hp
  have hT2 := hT.2
  refine CT.of m5_sortAt_S.1 _ (en_ai_3 1 (nI p)) ?_
  refine ac_iload_n 1 dX5_sortAt_0 rfl rfl ?_
  refine ac_if_lt 16 4 dX5_sortAt_1 (by decide) rfl (fun c_1 => absurd c_1 (nI_pos (by omega))) (fun _ => ?_)
  refine ac_iload_n 5 dX5_sortAt_4 rfl rfl ?_
  refine ac_aload_n 6 dX5_sortAt_5 rfl rfl ?_
  refine ac_alen 7 120 dX5_sortAt_6 rfl ar1 (by decide) ?_
  refine ac_icmp_ge 16 10 dX5_sortAt_7 (by decide) rfl (fun c_7 => absurd c_7 (nI_ge (b := 120) (by omega) (by decide))) (fun _ => ?_)
  refine ac_aload_n 11 dX5_sortAt_10 rfl rfl ?_
  refine ac_iload_n 12 dX5_sortAt_11 rfl rfl ?_
  refine ac_iald 13 dX5_sortAt_12 rfl ar1 (ix_nI (by omega) (by decide)) ?_
  rw [show (M 1 p) = (nI (tx p)) from hT.1]
  refine ac_goto 18 dX5_sortAt_13 (by decide) ?_
  refine ac_istore_n 19 [some (Value.ref 1), some (Value.int (nI p)), some (Value.int (nI (tx p)))] dX5_sortAt_18 rfl rfl (Nat.le_of_ble_eq_true rfl) (by decide) rfl ?_
  refine ac_iload_n 20 dX5_sortAt_19 rfl rfl ?_
  refine ac_bipush 22 97 dX5_sortAt_20 rfl (by decide) ?_
  refine ac_icmp_lt 33 25 dX5_sortAt_22 (by decide) rfl (fun c_22 => ?_) (fun c_22 => ?_)
  · have w97 : ¬ 97 ≤ tx p := fun q => absurd ((nI_ltI (b := 97) (by omega) (by decide)).mp c_22) (by omega)
    refine ac_iload_n 34 dX5_sortAt_33 rfl rfl ?_
    refine ac_bipush 36 48 dX5_sortAt_34 rfl (by decide) ?_
    refine ac_icmp_lt 49 39 dX5_sortAt_36 (by decide) rfl (fun c_36 => ?_) (fun c_36 => ?_)
    · have f48 : ¬ 48 ≤ tx p := fun q => absurd ((nI_ltI (b := 48) (by omega) (by decide)).mp c_36) (by omega)
      refine ac_iconst 50 1 dX5_sortAt_49 rfl (by decide) ?_
      refine ac_iret dX5_sortAt_50 ⟨_, rfl, rfl⟩ ?_
      exact rv_mk (by first | exact (sr_W ⟨w97, w122⟩).symm | exact (sr_F ⟨f48, f57⟩).symm | exact (sr_N (fun q => by unfold isW at q; omega) (fun q => by unfold isF at q; omega)).symm)
    · have f48 : 48 ≤ tx p := Nat.le_of_not_lt (fun q => c_36 (nI_lt (b := 48) q (by decide)))
      refine ac_iload_n 40 dX5_sortAt_39 rfl rfl ?_
      refine ac_bipush 42 57 dX5_sortAt_40 rfl (by decide) ?_
      refine ac_icmp_gt 49 45 dX5_sortAt_42 (by decide) rfl (fun c_42 => ?_) (fun c_42 => ?_)
      · have f57 : ¬ tx p ≤ 57 := fun q => absurd ((nI_ltI (a := 57) (by decide) (by omega)).mp c_42) (by omega)
        refine ac_iconst 50 1 dX5_sortAt_49 rfl (by decide) ?_
        refine ac_iret dX5_sortAt_50 ⟨_, rfl, rfl⟩ ?_
        exact rv_mk (by first | exact (sr_W ⟨w97, w122⟩).symm | exact (sr_F ⟨f48, f57⟩).symm | exact (sr_N (fun q => by unfold isW at q; omega) (fun q => by unfold isF at q; omega)).symm)
      · have f57 : tx p ≤ 57 := Nat.le_of_not_lt (fun q => c_42 (nI_lt (a := 57) q (by omega)))
        refine ac_iconst 46 2 dX5_sortAt_45 rfl (by decide) ?_
        refine ac_goto 50 dX5_sortAt_46 (by decide) ?_
        refine ac_iret dX5_sortAt_50 ⟨_, rfl, rfl⟩ ?_
        exact rv_mk (by first | exact (sr_W ⟨w97, w122⟩).symm | exact (sr_F ⟨f48, f57⟩).symm | exact (sr_N (fun q => by unfold isW at q; omega) (fun q => by unfold isF at q; omega)).symm)
  · have w97 : 97 ≤ tx p := Nat.le_of_not_lt (fun q => c_22 (nI_lt (b := 97) q (by decide)))
    refine ac_iload_n 26 dX5_sortAt_25 rfl rfl ?_
    refine ac_bipush 28 122 dX5_sortAt_26 rfl (by decide) ?_
    refine ac_icmp_gt 33 31 dX5_sortAt_28 (by decide) rfl (fun c_28 => ?_) (fun c_28 => ?_)
    · have w122 : ¬ tx p ≤ 122 := fun q => absurd ((nI_ltI (a := 122) (by decide) (by omega)).mp c_28) (by omega)
      refine ac_iload_n 34 dX5_sortAt_33 rfl rfl ?_
      refine ac_bipush 36 48 dX5_sortAt_34 rfl (by decide) ?_
      refine ac_icmp_lt 49 39 dX5_sortAt_36 (by decide) rfl (fun c_36 => ?_) (fun c_36 => ?_)
      · have f48 : ¬ 48 ≤ tx p := fun q => absurd ((nI_ltI (b := 48) (by omega) (by decide)).mp c_36) (by omega)
        refine ac_iconst 50 1 dX5_sortAt_49 rfl (by decide) ?_
        refine ac_iret dX5_sortAt_50 ⟨_, rfl, rfl⟩ ?_
        exact rv_mk (by first | exact (sr_W ⟨w97, w122⟩).symm | exact (sr_F ⟨f48, f57⟩).symm | exact (sr_N (fun q => by unfold isW at q; omega) (fun q => by unfold isF at q; omega)).symm)
      · have f48 : 48 ≤ tx p := Nat.le_of_not_lt (fun q => c_36 (nI_lt (b := 48) q (by decide)))
        refine ac_iload_n 40 dX5_sortAt_39 rfl rfl ?_
        refine ac_bipush 42 57 dX5_sortAt_40 rfl (by decide) ?_
        refine ac_icmp_gt 49 45 dX5_sortAt_42 (by decide) rfl (fun c_42 => ?_) (fun c_42 => ?_)
        · have f57 : ¬ tx p ≤ 57 := fun q => absurd ((nI_ltI (a := 57) (by decide) (by omega)).mp c_42) (by omega)
          refine ac_iconst 50 1 dX5_sortAt_49 rfl (by decide) ?_
          refine ac_iret dX5_sortAt_50 ⟨_, rfl, rfl⟩ ?_
          exact rv_mk (by first | exact (sr_W ⟨w97, w122⟩).symm | exact (sr_F ⟨f48, f57⟩).symm | exact (sr_N (fun q => by unfold isW at q; omega) (fun q => by unfold isF at q; omega)).symm)
        · have f57 : tx p ≤ 57 := Nat.le_of_not_lt (fun q => c_42 (nI_lt (a := 57) q (by omega)))
          refine ac_iconst 46 2 dX5_sortAt_45 rfl (by decide) ?_
          refine ac_goto 50 dX5_sortAt_46 (by decide) ?_
          refine ac_iret dX5_sortAt_50 ⟨_, rfl, rfl⟩ ?_
          exact rv_mk (by first | exact (sr_W ⟨w97, w122⟩).symm | exact (sr_F ⟨f48, f57⟩).symm | exact (sr_N (fun q => by unfold isW at q; omega) (fun q => by unfold isF at q; omega)).symm)
    · have w122 : tx p ≤ 122 := Nat.le_of_not_lt (fun q => c_28 (nI_lt (a := 122) q (by omega)))
      refine ac_iconst 32 5 dX5_sortAt_31 rfl (by decide) ?_
      refine ac_iret dX5_sortAt_32 ⟨_, rfl, rfl⟩ ?_
      exact rv_mk (by first | exact (sr_W ⟨w97, w122⟩).symm | exact (sr_F ⟨f48, f57⟩).symm | exact (sr_N (fun q => by unfold isW at q; omega) (fun q => by unfold isF at q; omega)).symm)
set_option maxRecDepth 20000 in
theorem c5_endW {M : am_I} {V : am_J} {f : Nat → Option Nat} {tx : Nat → Nat} {n s : Nat} (hX : TX M tx n) (hs : s < n) (hq : isW tx s) : CT m5_endOfToken 2 [Value.ref 1, Value.int (nI n), Value.int (nI s)] M V f (RV (nI (wlP tx n s)) M V f) := by
  have hn := hX.1
  obtain ⟨f1, f2, f3, f4⟩ := rnE_spec (isW tx) n s (by omega)
  have f1 : s ≤ (wlP tx n s) := f1
  have f2 : (wlP tx n s) ≤ n := f2
  have f3 : ∀ y, s ≤ y → y < (wlP tx n s) → isW tx y := f3
  have f4 : (wlP tx n s) < n → ¬ isW tx (wlP tx n s) := f4
  have f5 : s < (wlP tx n s) := Nat.lt_of_not_le (fun q => by
    have e : (wlP tx n s) = s := by omega
    rw [e] at f4
    exact f4 hs hq)
  refine CT.of m5_endOfToken_S.1 _ (en_aii_5 1 (nI n) (nI s)) ?_
  refine ac_aload_n 1 dX5_endOfToken_0 rfl rfl ?_
  refine ac_iload_n 2 dX5_endOfToken_1 rfl rfl ?_
  refine ac_callS (μ' := m5_sortAt) 5 dX5_endOfToken_2 rfl lk5_45 m5_sortAt_S (c5_sort hX hs) rfl rfl (by decide) (Nat.le_of_ble_eq_true rfl) ?_
  rw [show (srP tx s) = 5 from (sr_W hq)]
  refine ac_istore_n 6 [some (Value.ref 1), some (Value.int (nI n)), some (Value.int (nI s)), some (Value.int 5), none] dX5_endOfToken_5 rfl rfl (Nat.le_of_ble_eq_true rfl) (by decide) rfl ?_
  refine ac_iload_n 7 dX5_endOfToken_6 rfl rfl ?_
  refine ac_iconst 8 1 dX5_endOfToken_7 rfl (by decide) ?_
  refine ac_iadd 9 dX5_endOfToken_8 rfl ?_
  rw [show ((nI s) + 1) = (nI (s + 1)) from (nI_1 _)]
  refine ac_istore 11 [some (Value.ref 1), some (Value.int (nI n)), some (Value.int (nI s)), some (Value.int 5), some (Value.int (nI (s + 1)))] dX5_endOfToken_9 rfl rfl (Nat.le_of_ble_eq_true rfl) (by decide) rfl ?_
  refine ac_down (n := (wlP tx n s)) (P := fun k => (s < k) → A0 m5_endOfToken 2 11 [some (Value.ref 1), some (Value.int (nI n)), some (Value.int (nI s)), some (Value.int 5), some (Value.int (nI k))] [] M V f (RV (nI (wlP tx n s)) M V f)) ?_ ?_ (s + 1) f5 (Nat.lt_succ_self s)
  · intro hpr
    refine ac_iload_n 12 dX5_endOfToken_11 rfl rfl ?_
    refine ac_iconst 13 1 dX5_endOfToken_12 rfl (by decide) ?_
    refine ac_icmp_eq 38 16 dX5_endOfToken_13 (by decide) rfl (fun c_13 => absurd c_13 (by decide)) (fun _ => ?_)
    refine ac_iload 18 dX5_endOfToken_16 rfl rfl ?_
    refine ac_iload_n 19 dX5_endOfToken_18 rfl rfl ?_
    refine ac_icmp_ge 38 22 dX5_endOfToken_19 (by decide) rfl (fun c_19 => ?_) (fun c_19 => ?_)
    · refine ac_iload 40 dX5_endOfToken_38 rfl rfl ?_
      refine ac_iret dX5_endOfToken_40 ⟨_, rfl, rfl⟩ ?_
      exact rv_mk rfl
    · have h9 : (wlP tx n s) < n := Nat.lt_of_not_le (fun q => c_19 (nI_le q (by omega)))
      refine ac_aload_n 23 dX5_endOfToken_22 rfl rfl ?_
      refine ac_iload 25 dX5_endOfToken_23 rfl rfl ?_
      refine ac_callS (μ' := m5_sortAt) 28 dX5_endOfToken_25 rfl lk5_45 m5_sortAt_S (c5_sort hX h9) rfl rfl (by decide) (Nat.le_of_ble_eq_true rfl) ?_
      refine ac_iload_n 29 dX5_endOfToken_28 rfl rfl ?_
      refine ac_icmp_ne 38 32 dX5_endOfToken_29 (by decide) rfl (fun c_29 => ?_) (fun c_29 => ?_)
      · refine ac_iload 40 dX5_endOfToken_38 rfl rfl ?_
        refine ac_iret dX5_endOfToken_40 ⟨_, rfl, rfl⟩ ?_
        exact rv_mk rfl
      · exfalso
        refine f4 h9 ?_
        by_cases a1 : isW tx (wlP tx n s)
        · first | exact a1 | (rw [sr_W a1] at c_29; exact absurd c_29 (by decide))
        · by_cases a2 : isF tx (wlP tx n s)
          · first | exact a2 | (rw [sr_F a2] at c_29; exact absurd c_29 (by decide))
          · rw [sr_N a1 a2] at c_29; exact absurd c_29 (by decide)
  · intro k hk ih hpr
    refine ac_iload_n 12 dX5_endOfToken_11 rfl rfl ?_
    refine ac_iconst 13 1 dX5_endOfToken_12 rfl (by decide) ?_
    refine ac_icmp_eq 38 16 dX5_endOfToken_13 (by decide) rfl (fun c_13 => absurd c_13 (by decide)) (fun _ => ?_)
    refine ac_iload 18 dX5_endOfToken_16 rfl rfl ?_
    refine ac_iload_n 19 dX5_endOfToken_18 rfl rfl ?_
    refine ac_icmp_ge 38 22 dX5_endOfToken_19 (by decide) rfl (fun c_19 => absurd c_19 (nI_ge (by omega) (by omega))) (fun _ => ?_)
    refine ac_aload_n 23 dX5_endOfToken_22 rfl rfl ?_
    refine ac_iload 25 dX5_endOfToken_23 rfl rfl ?_
    refine ac_callS (μ' := m5_sortAt) 28 dX5_endOfToken_25 rfl lk5_45 m5_sortAt_S (c5_sort hX (p := k) (by omega)) rfl rfl (by decide) (Nat.le_of_ble_eq_true rfl) ?_
    rw [show (srP tx k) = 5 from (sr_W (f3 k (by omega) hk))]
    refine ac_iload_n 29 dX5_endOfToken_28 rfl rfl ?_
    refine ac_icmp_ne 38 32 dX5_endOfToken_29 (by decide) rfl (fun c_29 => absurd rfl c_29) (fun _ => ?_)
    refine ac_iinc 35 (nI (k + 1)) [some (Value.ref 1), some (Value.int (nI n)), some (Value.int (nI s)), some (Value.int 5), some (Value.int (nI (k + 1)))] dX5_endOfToken_32 rfl rfl (nI_1 _) rfl (by decide) rfl ?_
    refine ac_goto 11 dX5_endOfToken_35 (by decide) ?_
    exact ih (by omega)
set_option maxRecDepth 20000 in
theorem c5_endF {M : am_I} {V : am_J} {f : Nat → Option Nat} {tx : Nat → Nat} {n s : Nat} (hX : TX M tx n) (hs : s < n) (hq : isF tx s) : CT m5_endOfToken 2 [Value.ref 1, Value.int (nI n), Value.int (nI s)] M V f (RV (nI (fgP tx n s)) M V f) := by
  have hn := hX.1
  obtain ⟨f1, f2, f3, f4⟩ := rnE_spec (isF tx) n s (by omega)
  have f1 : s ≤ (fgP tx n s) := f1
  have f2 : (fgP tx n s) ≤ n := f2
  have f3 : ∀ y, s ≤ y → y < (fgP tx n s) → isF tx y := f3
  have f4 : (fgP tx n s) < n → ¬ isF tx (fgP tx n s) := f4
  have f5 : s < (fgP tx n s) := Nat.lt_of_not_le (fun q => by
    have e : (fgP tx n s) = s := by omega
    rw [e] at f4
    exact f4 hs hq)
  refine CT.of m5_endOfToken_S.1 _ (en_aii_5 1 (nI n) (nI s)) ?_
  refine ac_aload_n 1 dX5_endOfToken_0 rfl rfl ?_
  refine ac_iload_n 2 dX5_endOfToken_1 rfl rfl ?_
  refine ac_callS (μ' := m5_sortAt) 5 dX5_endOfToken_2 rfl lk5_45 m5_sortAt_S (c5_sort hX hs) rfl rfl (by decide) (Nat.le_of_ble_eq_true rfl) ?_
  rw [show (srP tx s) = 2 from (sr_F hq)]
  refine ac_istore_n 6 [some (Value.ref 1), some (Value.int (nI n)), some (Value.int (nI s)), some (Value.int 2), none] dX5_endOfToken_5 rfl rfl (Nat.le_of_ble_eq_true rfl) (by decide) rfl ?_
  refine ac_iload_n 7 dX5_endOfToken_6 rfl rfl ?_
  refine ac_iconst 8 1 dX5_endOfToken_7 rfl (by decide) ?_
  refine ac_iadd 9 dX5_endOfToken_8 rfl ?_
  rw [show ((nI s) + 1) = (nI (s + 1)) from (nI_1 _)]
  refine ac_istore 11 [some (Value.ref 1), some (Value.int (nI n)), some (Value.int (nI s)), some (Value.int 2), some (Value.int (nI (s + 1)))] dX5_endOfToken_9 rfl rfl (Nat.le_of_ble_eq_true rfl) (by decide) rfl ?_
  refine ac_down (n := (fgP tx n s)) (P := fun k => (s < k) → A0 m5_endOfToken 2 11 [some (Value.ref 1), some (Value.int (nI n)), some (Value.int (nI s)), some (Value.int 2), some (Value.int (nI k))] [] M V f (RV (nI (fgP tx n s)) M V f)) ?_ ?_ (s + 1) f5 (Nat.lt_succ_self s)
  · intro hpr
    refine ac_iload_n 12 dX5_endOfToken_11 rfl rfl ?_
    refine ac_iconst 13 1 dX5_endOfToken_12 rfl (by decide) ?_
    refine ac_icmp_eq 38 16 dX5_endOfToken_13 (by decide) rfl (fun c_13 => absurd c_13 (by decide)) (fun _ => ?_)
    refine ac_iload 18 dX5_endOfToken_16 rfl rfl ?_
    refine ac_iload_n 19 dX5_endOfToken_18 rfl rfl ?_
    refine ac_icmp_ge 38 22 dX5_endOfToken_19 (by decide) rfl (fun c_19 => ?_) (fun c_19 => ?_)
    · refine ac_iload 40 dX5_endOfToken_38 rfl rfl ?_
      refine ac_iret dX5_endOfToken_40 ⟨_, rfl, rfl⟩ ?_
      exact rv_mk rfl
    · have h9 : (fgP tx n s) < n := Nat.lt_of_not_le (fun q => c_19 (nI_le q (by omega)))
      refine ac_aload_n 23 dX5_endOfToken_22 rfl rfl ?_
      refine ac_iload 25 dX5_endOfToken_23 rfl rfl ?_
      refine ac_callS (μ' := m5_sortAt) 28 dX5_endOfToken_25 rfl lk5_45 m5_sortAt_S (c5_sort hX h9) rfl rfl (by decide) (Nat.le_of_ble_eq_true rfl) ?_
      refine ac_iload_n 29 dX5_endOfToken_28 rfl rfl ?_
      refine ac_icmp_ne 38 32 dX5_endOfToken_29 (by decide) rfl (fun c_29 => ?_) (fun c_29 => ?_)
      · refine ac_iload 40 dX5_endOfToken_38 rfl rfl ?_
        refine ac_iret dX5_endOfToken_40 ⟨_, rfl, rfl⟩ ?_
        exact rv_mk rfl
      · exfalso
        refine f4 h9 ?_
        by_cases a1 : isW tx (fgP tx n s)
        · first | exact a1 | (rw [sr_W a1] at c_29; exact absurd c_29 (by decide))
        · by_cases a2 : isF tx (fgP tx n s)
          · first | exact a2 | (rw [sr_F a2] at c_29; exact absurd c_29 (by decide))
          · rw [sr_N a1 a2] at c_29; exact absurd c_29 (by decide)
  · intro k hk ih hpr
    refine ac_iload_n 12 dX5_endOfToken_11 rfl rfl ?_
    refine ac_iconst 13 1 dX5_endOfToken_12 rfl (by decide) ?_
    refine ac_icmp_eq 38 16 dX5_endOfToken_13 (by decide) rfl (fun c_13 => absurd c_13 (by decide)) (fun _ => ?_)
    refine ac_iload 18 dX5_endOfToken_16 rfl rfl ?_
    refine ac_iload_n 19 dX5_endOfToken_18 rfl rfl ?_
    refine ac_icmp_ge 38 22 dX5_endOfToken_19 (by decide) rfl (fun c_19 => absurd c_19 (nI_ge (by omega) (by omega))) (fun _ => ?_)
    refine ac_aload_n 23 dX5_endOfToken_22 rfl rfl ?_
    refine ac_iload 25 dX5_endOfToken_23 rfl rfl ?_
    refine ac_callS (μ' := m5_sortAt) 28 dX5_endOfToken_25 rfl lk5_45 m5_sortAt_S (c5_sort hX (p := k) (by omega)) rfl rfl (by decide) (Nat.le_of_ble_eq_true rfl) ?_
    rw [show (srP tx k) = 2 from (sr_F (f3 k (by omega) hk))]
    refine ac_iload_n 29 dX5_endOfToken_28 rfl rfl ?_
    refine ac_icmp_ne 38 32 dX5_endOfToken_29 (by decide) rfl (fun c_29 => absurd rfl c_29) (fun _ => ?_)
    refine ac_iinc 35 (nI (k + 1)) [some (Value.ref 1), some (Value.int (nI n)), some (Value.int (nI s)), some (Value.int 2), some (Value.int (nI (k + 1)))] dX5_endOfToken_32 rfl rfl (nI_1 _) rfl (by decide) rfl ?_
    refine ac_goto 11 dX5_endOfToken_35 (by decide) ?_
    exact ih (by omega)
set_option maxRecDepth 20000 in
theorem c5_endN {M : am_I} {V : am_J} {f : Nat → Option Nat} {tx : Nat → Nat} {n s : Nat} (hX : TX M tx n) (hs : s < n) (h1 : ¬ isW tx s) (h2 : ¬ isF tx s) : CT m5_endOfToken 2 [Value.ref 1, Value.int (nI n), Value.int (nI s)] M V f (RV (nI (s + 1)) M V f) := by
  refine CT.of m5_endOfToken_S.1 _ (en_aii_5 1 (nI n) (nI s)) ?_
  refine ac_aload_n 1 dX5_endOfToken_0 rfl rfl ?_
  refine ac_iload_n 2 dX5_endOfToken_1 rfl rfl ?_
  refine ac_callS (μ' := m5_sortAt) 5 dX5_endOfToken_2 rfl lk5_45 m5_sortAt_S (c5_sort hX hs) rfl rfl (by decide) (Nat.le_of_ble_eq_true rfl) ?_
  rw [show (srP tx s) = 1 from (sr_N h1 h2)]
  refine ac_istore_n 6 [some (Value.ref 1), some (Value.int (nI n)), some (Value.int (nI s)), some (Value.int 1), none] dX5_endOfToken_5 rfl rfl (Nat.le_of_ble_eq_true rfl) (by decide) rfl ?_
  refine ac_iload_n 7 dX5_endOfToken_6 rfl rfl ?_
  refine ac_iconst 8 1 dX5_endOfToken_7 rfl (by decide) ?_
  refine ac_iadd 9 dX5_endOfToken_8 rfl ?_
  rw [show ((nI s) + 1) = (nI (s + 1)) from (nI_1 _)]
  refine ac_istore 11 [some (Value.ref 1), some (Value.int (nI n)), some (Value.int (nI s)), some (Value.int 1), some (Value.int (nI (s + 1)))] dX5_endOfToken_9 rfl rfl (Nat.le_of_ble_eq_true rfl) (by decide) rfl ?_
  refine ac_iload_n 12 dX5_endOfToken_11 rfl rfl ?_
  refine ac_iconst 13 1 dX5_endOfToken_12 rfl (by decide) ?_
  refine ac_icmp_eq 38 16 dX5_endOfToken_13 (by decide) rfl (fun _ => ?_) (fun c_13 => absurd rfl c_13)
  refine ac_iload 40 dX5_endOfToken_38 rfl rfl ?_
  refine ac_iret dX5_endOfToken_40 ⟨_, rfl, rfl⟩ ?_
  exact rv_mk rfl
