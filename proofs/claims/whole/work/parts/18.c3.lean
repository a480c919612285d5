/-! The class: its questions. -/
noncomputable def acnt (P : Nat → Prop) : Nat → Int32
  | 0 => 0
  | k + 1 => acnt P k + bi (P k)
def abN (x : Int32) : Int32 := if 0 ≤ x then x else 0 - x
noncomputable def acp (P : Nat → Prop) (D : Int32 → Int32) : Nat → Int32 × Int32
  | 0 => (-9, 0)
  | k + 1 => cif (P k ∧ ((acp P D k).1 = -9 ∨ D (nI k) < (acp P D k).2)) (nI k, D (nI k)) (acp P D k)
theorem acp_t {P : Nat → Prop} {D : Int32 → Int32} {k : Nat} (h : P k) (h2 : (acp P D k).1 = -9 ∨ D (nI k) < (acp P D k).2) : acp P D (k + 1) = (nI k, D (nI k)) := cif_t ⟨h, h2⟩
theorem acp_f {P : Nat → Prop} {D : Int32 → Int32} {k : Nat} (h : ¬ P k) : acp P D (k + 1) = acp P D k := cif_f (fun q => h q.1)
theorem acp_f2 {P : Nat → Prop} {D : Int32 → Int32} {k : Nat} (h1 : ¬ (acp P D k).1 = -9) (h : ¬ D (nI k) < (acp P D k).2) : acp P D (k + 1) = acp P D k := cif_f (fun q => q.2.elim h1 h)
theorem acnt_t {P : Nat → Prop} {k : Nat} (h : P k) : acnt P (k + 1) = acnt P k + 1 := by show _ + _ = _; rw [bi_t h]
theorem acnt_f {P : Nat → Prop} {k : Nat} (h : ¬ P k) : acnt P (k + 1) = acnt P k := by show _ + _ = _; rw [bi_f h, Int32.add_zero]
set_option maxRecDepth 20000 in
theorem c7_countPlaces {M : am_I} {V : am_J} {f : Nat → Option Nat} {w : rN} {np nd nh j : Nat} (hw : CW M 7 w np nd nh) (hj : j < np) (hd : w (64 + j) = -9) {W : Nat} (hW : w 0 = nI W) (hW9 : W ≤ 40) : CT m7_countPlaces 4 [Value.ref 0, Value.int (nI j)] M V f (RV (acnt (fun i => fitN w nd j (nI i) ∧ apN w np j (nI i)) W) M V f) := by
  have h5 := hw.n5
  have h3 := hw.n3
  have h16 := hw.n16
  refine CT.of m7_countPlaces_V.1 _ (en_ai_4 0 (nI j)) ?_
  refine ac_iconst 1 0 dX7_countPlaces_0 rfl (by decide) ?_
  refine ac_istore_n 2 [some (Value.ref 0), some (Value.int (nI j)), some (Value.int 0), none] dX7_countPlaces_1 rfl rfl (Nat.le_of_ble_eq_true rfl) (by decide) rfl ?_
  have hL : A0 m7_countPlaces 4 4 [some (Value.ref 0), some (Value.int (nI j)), some (Value.int (acnt (fun i => fitN w nd j (nI i) ∧ apN w np j (nI i)) 0)), some (Value.int (nI 0))] [] M V f (RV (acnt (fun i => fitN w nd j (nI i) ∧ apN w np j (nI i)) W) M V f) := by
    refine ac_down (n := W) (P := fun k => A0 m7_countPlaces 4 4 [some (Value.ref 0), some (Value.int (nI j)), some (Value.int (acnt (fun i => fitN w nd j (nI i) ∧ apN w np j (nI i)) k)), some (Value.int (nI k))] [] M V f (RV (acnt (fun i => fitN w nd j (nI i) ∧ apN w np j (nI i)) W) M V f)) ?_ ?_ 0 (Nat.zero_le _) 
    · refine ac_iload_n 5 dX7_countPlaces_4 rfl rfl ?_
      refine ac_aload_n 6 dX7_countPlaces_5 rfl rfl ?_
      refine ac_getO 9 7 dX7_countPlaces_6 rfl fl7_27 ob0 rfl ?_
      refine ac_getI 12 dX7_countPlaces_9 rfl fl7_208 ob7 ?_
      rw [show (M 7 0) = (nI W) from (hw.s0.trans hW)]
      refine ac_icmp_ge 36 15 dX7_countPlaces_12 (by decide) rfl (fun _ => ?_) (fun c_12 => absurd (Int32.le_refl _) c_12)
      refine ac_iload_n 37 dX7_countPlaces_36 rfl rfl ?_
      refine ac_iret dX7_countPlaces_37 ⟨_, rfl, rfl⟩ ?_
      exact rv_mk rfl
    · intro k hk ih
      refine ac_iload_n 5 dX7_countPlaces_4 rfl rfl ?_
      refine ac_aload_n 6 dX7_countPlaces_5 rfl rfl ?_
      refine ac_getO 9 7 dX7_countPlaces_6 rfl fl7_27 ob0 rfl ?_
      refine ac_getI 12 dX7_countPlaces_9 rfl fl7_208 ob7 ?_
      rw [show (M 7 0) = (nI W) from (hw.s0.trans hW)]
      refine ac_icmp_ge 36 15 dX7_countPlaces_12 (by decide) rfl (fun c_12 => absurd c_12 (nI_ge hk (by omega))) (fun _ => ?_)
      refine ac_aload_n 16 dX7_countPlaces_15 rfl rfl ?_
      refine ac_getO 19 7 dX7_countPlaces_16 rfl fl7_27 ob0 rfl ?_
      refine ac_iload_n 20 dX7_countPlaces_19 rfl rfl ?_
      refine ac_iload_n 21 dX7_countPlaces_20 rfl rfl ?_
      refine ac_callV (μ' := m6_isFreeFor) 24 dX7_countPlaces_21 rfl lk7_92 m6_isFreeFor_V ob7 (c6_free hw hj hd _) rfl rfl (by decide) (Nat.le_of_ble_eq_true rfl) ?_
      refine ac_if_eq 30 27 dX7_countPlaces_24 (by decide) rfl (fun c_24 => ?_) (fun c_24 => ?_)
      · refine ac_iinc 33 (nI (k + 1)) [some (Value.ref 0), some (Value.int (nI j)), some (Value.int (acnt (fun i => fitN w nd j (nI i) ∧ apN w np j (nI i)) k)), some (Value.int (nI (k + 1)))] dX7_countPlaces_30 rfl rfl (nI_1 _) rfl (by decide) rfl ?_
        refine ac_goto 4 dX7_countPlaces_33 (by decide) ?_
        rw [show acnt (fun i => fitN w nd j (nI i) ∧ apN w np j (nI i)) (k + 1) = (acnt (fun i => fitN w nd j (nI i) ∧ apN w np j (nI i)) k) from by first | exact acnt_t (P := (fun i => fitN w nd j (nI i) ∧ apN w np j (nI i))) (bi_ne0.mp c_24) | exact acnt_f (P := (fun i => fitN w nd j (nI i) ∧ apN w np j (nI i))) (bi_eq0.mp c_24)] at ih
        exact ih
      · refine ac_iinc 30 ((acnt (fun i => fitN w nd j (nI i) ∧ apN w np j (nI i)) k) + 1) [some (Value.ref 0), some (Value.int (nI j)), some (Value.int ((acnt (fun i => fitN w nd j (nI i) ∧ apN w np j (nI i)) k) + 1)), some (Value.int (nI k))] dX7_countPlaces_27 rfl rfl rfl rfl (by decide) rfl ?_
        refine ac_iinc 33 (nI (k + 1)) [some (Value.ref 0), some (Value.int (nI j)), some (Value.int ((acnt (fun i => fitN w nd j (nI i) ∧ apN w np j (nI i)) k) + 1)), some (Value.int (nI (k + 1)))] dX7_countPlaces_30 rfl rfl (nI_1 _) rfl (by decide) rfl ?_
        refine ac_goto 4 dX7_countPlaces_33 (by decide) ?_
        rw [show acnt (fun i => fitN w nd j (nI i) ∧ apN w np j (nI i)) (k + 1) = ((acnt (fun i => fitN w nd j (nI i) ∧ apN w np j (nI i)) k) + 1) from by first | exact acnt_t (P := (fun i => fitN w nd j (nI i) ∧ apN w np j (nI i))) (bi_ne0.mp c_24) | exact acnt_f (P := (fun i => fitN w nd j (nI i) ∧ apN w np j (nI i))) (bi_eq0.mp c_24)] at ih
        exact ih
  refine ac_iconst 3 0 dX7_countPlaces_2 rfl (by decide) ?_
  refine ac_istore_n 4 [some (Value.ref 0), some (Value.int (nI j)), some (Value.int 0), some (Value.int 0)] dX7_countPlaces_3 rfl rfl (Nat.le_of_ble_eq_true rfl) (by decide) rfl ?_
  exact hL
set_option maxRecDepth 20000 in
theorem c7_least0 {M : am_I} {V : am_J} {f : Nat → Option Nat} {w : rN} {np nd nh j : Nat} (hw : CW M 7 w np nd nh) (hj : j < np) (hd : w (64 + j) = -9) {W : Nat} (hW : w 0 = nI W) (hW9 : W ≤ 40) : CT m7_leastPlace 4 [Value.ref 0, Value.int (nI j), Value.int 0] M V f (RV (dlst (fun i => fitN w nd j (nI i) ∧ apN w np j (nI i)) W W) M V f) := by
  have h5 := hw.n5
  have h3 := hw.n3
  have h16 := hw.n16
  refine CT.of m7_leastPlace_V.1 _ (en_aii_4 0 (nI j) 0) ?_
  refine ac_iconst 1 0 dX7_leastPlace_0 rfl (by decide) ?_
  refine ac_istore_n 2 [some (Value.ref 0), some (Value.int (nI j)), some (Value.int 0), some (Value.int 0)] dX7_leastPlace_1 rfl rfl (Nat.le_of_ble_eq_true rfl) (by decide) rfl ?_
  refine ac_down (n := W) (P := fun k => (∀ q, q < k → ¬ (fun i => fitN w nd j (nI i) ∧ apN w np j (nI i)) q) → A0 m7_leastPlace 4 2 [some (Value.ref 0), some (Value.int (nI j)), some (Value.int 0), some (Value.int (nI k))] [] M V f (RV (dlst (fun i => fitN w nd j (nI i) ∧ apN w np j (nI i)) W W) M V f)) ?_ ?_ 0 (Nat.zero_le _) (fun i hi => absurd hi (Nat.not_lt_zero i))
  · intro hpr
    refine ac_iload_n 3 dX7_leastPlace_2 rfl rfl ?_
    refine ac_aload_n 4 dX7_leastPlace_3 rfl rfl ?_
    refine ac_getO 7 7 dX7_leastPlace_4 rfl fl7_27 ob0 rfl ?_
    refine ac_getI 10 dX7_leastPlace_7 rfl fl7_208 ob7 ?_
    rw [show (M 7 0) = (nI W) from (hw.s0.trans hW)]
    refine ac_icmp_ge 49 13 dX7_leastPlace_10 (by decide) rfl (fun _ => ?_) (fun c_10 => absurd (Int32.le_refl _) c_10)
    refine ac_bipush 51 (-9) dX7_leastPlace_49 rfl (by decide) ?_
    refine ac_iret dX7_leastPlace_51 ⟨_, rfl, rfl⟩ ?_
    exact rv_mk (dl_n (P := (fun i => fitN w nd j (nI i) ∧ apN w np j (nI i))) hpr).symm
  · intro k hk ih hpr
    refine ac_iload_n 3 dX7_leastPlace_2 rfl rfl ?_
    refine ac_aload_n 4 dX7_leastPlace_3 rfl rfl ?_
    refine ac_getO 7 7 dX7_leastPlace_4 rfl fl7_27 ob0 rfl ?_
    refine ac_getI 10 dX7_leastPlace_7 rfl fl7_208 ob7 ?_
    rw [show (M 7 0) = (nI W) from (hw.s0.trans hW)]
    refine ac_icmp_ge 49 13 dX7_leastPlace_10 (by decide) rfl (fun c_10 => absurd c_10 (nI_ge hk (by omega))) (fun _ => ?_)
    refine ac_aload_n 14 dX7_leastPlace_13 rfl rfl ?_
    refine ac_getO 17 7 dX7_leastPlace_14 rfl fl7_27 ob0 rfl ?_
    refine ac_iload_n 18 dX7_leastPlace_17 rfl rfl ?_
    refine ac_iload_n 19 dX7_leastPlace_18 rfl rfl ?_
    refine ac_callV (μ' := m6_isFreeFor) 22 dX7_leastPlace_19 rfl lk7_92 m6_isFreeFor_V ob7 (c6_free hw hj hd _) rfl rfl (by decide) (Nat.le_of_ble_eq_true rfl) ?_
    refine ac_if_eq 43 25 dX7_leastPlace_22 (by decide) rfl (fun c_22 => ?_) (fun c_22 => ?_)
    · refine ac_iinc 46 (nI (k + 1)) [some (Value.ref 0), some (Value.int (nI j)), some (Value.int 0), some (Value.int (nI (k + 1)))] dX7_leastPlace_43 rfl rfl (nI_1 _) rfl (by decide) rfl ?_
      refine ac_goto 2 dX7_leastPlace_46 (by decide) ?_
      exact ih (all_suc.mpr ⟨hpr, bi_eq0.mp c_22⟩)
    · refine ac_iload_n 26 dX7_leastPlace_25 rfl rfl ?_
      refine ac_if_eq 41 29 dX7_leastPlace_26 (by decide) rfl (fun _ => ?_) (fun c_26 => absurd (by decide) c_26)
      refine ac_iload_n 42 dX7_leastPlace_41 rfl rfl ?_
      refine ac_iret dX7_leastPlace_42 ⟨_, rfl, rfl⟩ ?_
      exact rv_mk (dl_f (P := (fun i => fitN w nd j (nI i) ∧ apN w np j (nI i))) (bi_ne0.mp c_22) hk hpr).symm
set_option maxRecDepth 20000 in
theorem c7_least1 {M : am_I} {V : am_J} {f : Nat → Option Nat} {w : rN} {np nd nh j : Nat} (hw : CW M 7 w np nd nh) (hj : j < np) (hd : w (64 + j) = -9) {W : Nat} (hW : w 0 = nI W) (hW9 : W ≤ 40) : CT m7_leastPlace 4 [Value.ref 0, Value.int (nI j), Value.int 1] M V f (RV (dlst (fun i => (fitN w nd j (nI i) ∧ apN w np j (nI i)) ∧ hoN w nh (hkX w j (nI i)) (hkY w j)) W W) M V f) := by
  have h5 := hw.n5
  have h3 := hw.n3
  have h16 := hw.n16
  refine CT.of m7_leastPlace_V.1 _ (en_aii_4 0 (nI j) 1) ?_
  refine ac_iconst 1 0 dX7_leastPlace_0 rfl (by decide) ?_
  refine ac_istore_n 2 [some (Value.ref 0), some (Value.int (nI j)), some (Value.int 1), some (Value.int 0)] dX7_leastPlace_1 rfl rfl (Nat.le_of_ble_eq_true rfl) (by decide) rfl ?_
  refine ac_down (n := W) (P := fun k => (∀ q, q < k → ¬ (fun i => (fitN w nd j (nI i) ∧ apN w np j (nI i)) ∧ hoN w nh (hkX w j (nI i)) (hkY w j)) q) → A0 m7_leastPlace 4 2 [some (Value.ref 0), some (Value.int (nI j)), some (Value.int 1), some (Value.int (nI k))] [] M V f (RV (dlst (fun i => (fitN w nd j (nI i) ∧ apN w np j (nI i)) ∧ hoN w nh (hkX w j (nI i)) (hkY w j)) W W) M V f)) ?_ ?_ 0 (Nat.zero_le _) (fun i hi => absurd hi (Nat.not_lt_zero i))
  · intro hpr
    refine ac_iload_n 3 dX7_leastPlace_2 rfl rfl ?_
    refine ac_aload_n 4 dX7_leastPlace_3 rfl rfl ?_
    refine ac_getO 7 7 dX7_leastPlace_4 rfl fl7_27 ob0 rfl ?_
    refine ac_getI 10 dX7_leastPlace_7 rfl fl7_208 ob7 ?_
    rw [show (M 7 0) = (nI W) from (hw.s0.trans hW)]
    refine ac_icmp_ge 49 13 dX7_leastPlace_10 (by decide) rfl (fun _ => ?_) (fun c_10 => absurd (Int32.le_refl _) c_10)
    refine ac_bipush 51 (-9) dX7_leastPlace_49 rfl (by decide) ?_
    refine ac_iret dX7_leastPlace_51 ⟨_, rfl, rfl⟩ ?_
    exact rv_mk (dl_n (P := (fun i => (fitN w nd j (nI i) ∧ apN w np j (nI i)) ∧ hoN w nh (hkX w j (nI i)) (hkY w j))) hpr).symm
  · intro k hk ih hpr
    refine ac_iload_n 3 dX7_leastPlace_2 rfl rfl ?_
    refine ac_aload_n 4 dX7_leastPlace_3 rfl rfl ?_
    refine ac_getO 7 7 dX7_leastPlace_4 rfl fl7_27 ob0 rfl ?_
    refine ac_getI 10 dX7_leastPlace_7 rfl fl7_208 ob7 ?_
    rw [show (M 7 0) = (nI W) from (hw.s0.trans hW)]
    refine ac_icmp_ge 49 13 dX7_leastPlace_10 (by decide) rfl (fun c_10 => absurd c_10 (nI_ge hk (by omega))) (fun _ => ?_)
    refine ac_aload_n 14 dX7_leastPlace_13 rfl rfl ?_
    refine ac_getO 17 7 dX7_leastPlace_14 rfl fl7_27 ob0 rfl ?_
    refine ac_iload_n 18 dX7_leastPlace_17 rfl rfl ?_
    refine ac_iload_n 19 dX7_leastPlace_18 rfl rfl ?_
    refine ac_callV (μ' := m6_isFreeFor) 22 dX7_leastPlace_19 rfl lk7_92 m6_isFreeFor_V ob7 (c6_free hw hj hd _) rfl rfl (by decide) (Nat.le_of_ble_eq_true rfl) ?_
    refine ac_if_eq 43 25 dX7_leastPlace_22 (by decide) rfl (fun c_22 => ?_) (fun c_22 => ?_)
    · refine ac_iinc 46 (nI (k + 1)) [some (Value.ref 0), some (Value.int (nI j)), some (Value.int 1), some (Value.int (nI (k + 1)))] dX7_leastPlace_43 rfl rfl (nI_1 _) rfl (by decide) rfl ?_
      refine ac_goto 2 dX7_leastPlace_46 (by decide) ?_
      exact ih (all_suc.mpr ⟨hpr, by first | exact fun h => bi_eq0.mp c_22 h.1 | exact fun h => bi_eq0.mp c_38 h.2⟩)
    · refine ac_iload_n 26 dX7_leastPlace_25 rfl rfl ?_
      refine ac_if_eq 41 29 dX7_leastPlace_26 (by decide) rfl (fun c_26 => absurd c_26 (by decide)) (fun _ => ?_)
      refine ac_aload_n 30 dX7_leastPlace_29 rfl rfl ?_
      refine ac_getO 33 7 dX7_leastPlace_30 rfl fl7_27 ob0 rfl ?_
      refine ac_iload_n 34 dX7_leastPlace_33 rfl rfl ?_
      refine ac_iload_n 35 dX7_leastPlace_34 rfl rfl ?_
      refine ac_callV (μ' := m6_hasHoleFor) 38 dX7_leastPlace_35 rfl lk7_96 m6_hasHoleFor_V ob7 (c6_hasHoleFor hw hj _) rfl rfl (by decide) (Nat.le_of_ble_eq_true rfl) ?_
      refine ac_if_eq 43 41 dX7_leastPlace_38 (by decide) rfl (fun c_38 => ?_) (fun c_38 => ?_)
      · refine ac_iinc 46 (nI (k + 1)) [some (Value.ref 0), some (Value.int (nI j)), some (Value.int 1), some (Value.int (nI (k + 1)))] dX7_leastPlace_43 rfl rfl (nI_1 _) rfl (by decide) rfl ?_
        refine ac_goto 2 dX7_leastPlace_46 (by decide) ?_
        exact ih (all_suc.mpr ⟨hpr, by first | exact fun h => bi_eq0.mp c_22 h.1 | exact fun h => bi_eq0.mp c_38 h.2⟩)
      · refine ac_iload_n 42 dX7_leastPlace_41 rfl rfl ?_
        refine ac_iret dX7_leastPlace_42 ⟨_, rfl, rfl⟩ ?_
        exact rv_mk (dl_f (P := (fun i => (fitN w nd j (nI i) ∧ apN w np j (nI i)) ∧ hoN w nh (hkX w j (nI i)) (hkY w j))) ⟨bi_ne0.mp c_22, bi_ne0.mp c_38⟩ hk hpr).symm
set_option maxRecDepth 20000 in
theorem c7_calmest {M : am_I} {V : am_J} {f : Nat → Option Nat} {w : rN} {np nd nh j : Nat} (hw : CW M 7 w np nd nh) (hj : j < np) (hd : w (64 + j) = -9) {W : Nat} (hW : w 0 = nI W) (hW9 : W ≤ 40) : CT m7_calmestPlace 5 [Value.ref 0, Value.int (nI j)] M V f (RV (acp (fun i => fitN w nd j (nI i) ∧ apN w np j (nI i)) (fun x => abN (moN w np + leN w j x)) W).1 M V f) := by
  have h5 := hw.n5
  have h3 := hw.n3
  have h16 := hw.n16
  refine CT.of m7_calmestPlace_V.1 _ (en_ai_7 0 (nI j)) ?_
  refine ac_aload_n 1 dX7_calmestPlace_0 rfl rfl ?_
  refine ac_getO 4 7 dX7_calmestPlace_1 rfl fl7_27 ob0 rfl ?_
  refine ac_callV (μ' := m6_momentNow) 7 dX7_calmestPlace_4 rfl lk7_164 m6_momentNow_V ob7 (c6_momentNow hw) rfl rfl (by decide) (Nat.le_of_ble_eq_true rfl) ?_
  refine ac_istore_n 8 [some (Value.ref 0), some (Value.int (nI j)), some (Value.int (moN w np)), none, none, none, none] dX7_calmestPlace_7 rfl rfl (Nat.le_of_ble_eq_true rfl) (by decide) rfl ?_
  refine ac_bipush 10 (-9) dX7_calmestPlace_8 rfl (by decide) ?_
  refine ac_istore_n 11 [some (Value.ref 0), some (Value.int (nI j)), some (Value.int (moN w np)), some (Value.int (-9)), none, none, none] dX7_calmestPlace_10 rfl rfl (Nat.le_of_ble_eq_true rfl) (by decide) rfl ?_
  refine ac_iconst 12 0 dX7_calmestPlace_11 rfl (by decide) ?_
  refine ac_istore 14 [some (Value.ref 0), some (Value.int (nI j)), some (Value.int (moN w np)), some (Value.int (-9)), some (Value.int 0), none, none] dX7_calmestPlace_12 rfl rfl (Nat.le_of_ble_eq_true rfl) (by decide) rfl ?_
  have hL : A0 m7_calmestPlace 5 17 [some (Value.ref 0), some (Value.int (nI j)), some (Value.int (moN w np)), some (Value.int ((acp (fun i => fitN w nd j (nI i) ∧ apN w np j (nI i)) (fun x => abN (moN w np + leN w j x)) 0).1)), some (Value.int ((acp (fun i => fitN w nd j (nI i) ∧ apN w np j (nI i)) (fun x => abN (moN w np + leN w j x)) 0).2)), some (Value.int (nI 0)), none] [] M V f (RV (acp (fun i => fitN w nd j (nI i) ∧ apN w np j (nI i)) (fun x => abN (moN w np + leN w j x)) W).1 M V f) := by
    refine ac_down (n := W) (P := fun k => A0 m7_calmestPlace 5 17 [some (Value.ref 0), some (Value.int (nI j)), some (Value.int (moN w np)), some (Value.int ((acp (fun i => fitN w nd j (nI i) ∧ apN w np j (nI i)) (fun x => abN (moN w np + leN w j x)) k).1)), some (Value.int ((acp (fun i => fitN w nd j (nI i) ∧ apN w np j (nI i)) (fun x => abN (moN w np + leN w j x)) k).2)), some (Value.int (nI k)), none] [] M V f (RV (acp (fun i => fitN w nd j (nI i) ∧ apN w np j (nI i)) (fun x => abN (moN w np + leN w j x)) W).1 M V f)) ?_ ?_ 0 (Nat.zero_le _) 
    · refine ac_iload 19 dX7_calmestPlace_17 rfl rfl ?_
      refine ac_aload_n 20 dX7_calmestPlace_19 rfl rfl ?_
      refine ac_getO 23 7 dX7_calmestPlace_20 rfl fl7_27 ob0 rfl ?_
      refine ac_getI 26 dX7_calmestPlace_23 rfl fl7_208 ob7 ?_
      rw [show (M 7 0) = (nI W) from (hw.s0.trans hW)]
      refine ac_icmp_ge 85 29 dX7_calmestPlace_26 (by decide) rfl (fun _ => ?_) (fun c_26 => absurd (Int32.le_refl _) c_26)
      refine ac_iload_n 86 dX7_calmestPlace_85 rfl rfl ?_
      refine ac_iret dX7_calmestPlace_86 ⟨_, rfl, rfl⟩ ?_
      exact rv_mk rfl
    · intro k hk ih
      refine ac_iload 19 dX7_calmestPlace_17 rfl rfl ?_
      refine ac_aload_n 20 dX7_calmestPlace_19 rfl rfl ?_
      refine ac_getO 23 7 dX7_calmestPlace_20 rfl fl7_27 ob0 rfl ?_
      refine ac_getI 26 dX7_calmestPlace_23 rfl fl7_208 ob7 ?_
      rw [show (M 7 0) = (nI W) from (hw.s0.trans hW)]
      refine ac_icmp_ge 85 29 dX7_calmestPlace_26 (by decide) rfl (fun c_26 => absurd c_26 (nI_ge hk (by omega))) (fun _ => ?_)
      refine ac_aload_n 30 dX7_calmestPlace_29 rfl rfl ?_
      refine ac_getO 33 7 dX7_calmestPlace_30 rfl fl7_27 ob0 rfl ?_
      refine ac_iload_n 34 dX7_calmestPlace_33 rfl rfl ?_
      refine ac_iload 36 dX7_calmestPlace_34 rfl rfl ?_
      refine ac_callV (μ' := m6_isFreeFor) 39 dX7_calmestPlace_36 rfl lk7_92 m6_isFreeFor_V ob7 (c6_free hw hj hd _) rfl rfl (by decide) (Nat.le_of_ble_eq_true rfl) ?_
      refine ac_if_eq 79 42 dX7_calmestPlace_39 (by decide) rfl (fun c_39 => ?_) (fun c_39 => ?_)
      · refine ac_iinc 82 (nI (k + 1)) [some (Value.ref 0), some (Value.int (nI j)), some (Value.int (moN w np)), some (Value.int ((acp (fun i => fitN w nd j (nI i) ∧ apN w np j (nI i)) (fun x => abN (moN w np + leN w j x)) k).1)), some (Value.int ((acp (fun i => fitN w nd j (nI i) ∧ apN w np j (nI i)) (fun x => abN (moN w np + leN w j x)) k).2)), some (Value.int (nI (k + 1))), none] dX7_calmestPlace_79 rfl rfl (nI_1 _) rfl (by decide) rfl ?_
        refine ac_goto 17 dX7_calmestPlace_82 (by decide) ?_
        rw [show acp (fun i => fitN w nd j (nI i) ∧ apN w np j (nI i)) (fun x => abN (moN w np + leN w j x)) (k + 1) = acp (fun i => fitN w nd j (nI i) ∧ apN w np j (nI i)) (fun x => abN (moN w np + leN w j x)) k from by first | exact acp_f (P := (fun i => fitN w nd j (nI i) ∧ apN w np j (nI i))) (bi_eq0.mp c_39) | exact acp_f2 (P := (fun i => fitN w nd j (nI i) ∧ apN w np j (nI i))) (D := (fun x => abN (moN w np + leN w j x))) c_62 (Int32.not_lt.mpr c_69)] at ih
        exact ih
      · refine ac_iload_n 43 dX7_calmestPlace_42 rfl rfl ?_
        refine ac_aload_n 44 dX7_calmestPlace_43 rfl rfl ?_
        refine ac_getO 47 7 dX7_calmestPlace_44 rfl fl7_27 ob0 rfl ?_
        refine ac_iload_n 48 dX7_calmestPlace_47 rfl rfl ?_
        refine ac_iload 50 dX7_calmestPlace_48 rfl rfl ?_
        refine ac_callV (μ' := m6_momentAt) 53 dX7_calmestPlace_50 rfl lk7_222 m6_momentAt_V ob7 (c6_momentAt hw hj _) rfl rfl (by decide) (Nat.le_of_ble_eq_true rfl) ?_
        refine ac_iadd 54 dX7_calmestPlace_53 rfl ?_
        refine ac_abs 57 dX7_calmestPlace_54 rfl lkj7_168 (by decide) (Nat.le_of_ble_eq_true rfl) ?_
        rw [show (if 0 ≤ ((moN w np) + (leN w j (nI k))) then ((moN w np) + (leN w j (nI k))) else 0 - ((moN w np) + (leN w j (nI k)))) = (abN (moN w np + leN w j (nI k))) from rfl]
        refine ac_istore 59 [some (Value.ref 0), some (Value.int (nI j)), some (Value.int (moN w np)), some (Value.int ((acp (fun i => fitN w nd j (nI i) ∧ apN w np j (nI i)) (fun x => abN (moN w np + leN w j x)) k).1)), some (Value.int ((acp (fun i => fitN w nd j (nI i) ∧ apN w np j (nI i)) (fun x => abN (moN w np + leN w j x)) k).2)), some (Value.int (nI k)), some (Value.int (abN (moN w np + leN w j (nI k))))] dX7_calmestPlace_57 rfl rfl (Nat.le_of_ble_eq_true rfl) (by decide) rfl ?_
        refine ac_iload_n 60 dX7_calmestPlace_59 rfl rfl ?_
        refine ac_bipush 62 (-9) dX7_calmestPlace_60 rfl (by decide) ?_
        refine ac_icmp_eq 72 65 dX7_calmestPlace_62 (by decide) rfl (fun c_62 => ?_) (fun c_62 => ?_)
        · refine ac_iload 74 dX7_calmestPlace_72 rfl rfl ?_
          refine ac_istore_n 75 [some (Value.ref 0), some (Value.int (nI j)), some (Value.int (moN w np)), some (Value.int (nI k)), some (Value.int ((acp (fun i => fitN w nd j (nI i) ∧ apN w np j (nI i)) (fun x => abN (moN w np + leN w j x)) k).2)), some (Value.int (nI k)), some (Value.int (abN (moN w np + leN w j (nI k))))] dX7_calmestPlace_74 rfl rfl (Nat.le_of_ble_eq_true rfl) (by decide) rfl ?_
          refine ac_iload 77 dX7_calmestPlace_75 rfl rfl ?_
          refine ac_istore 79 [some (Value.ref 0), some (Value.int (nI j)), some (Value.int (moN w np)), some (Value.int (nI k)), some (Value.int (abN (moN w np + leN w j (nI k)))), some (Value.int (nI k)), some (Value.int (abN (moN w np + leN w j (nI k))))] dX7_calmestPlace_77 rfl rfl (Nat.le_of_ble_eq_true rfl) (by decide) rfl ?_
          refine ac_iinc 82 (nI (k + 1)) [some (Value.ref 0), some (Value.int (nI j)), some (Value.int (moN w np)), some (Value.int (nI k)), some (Value.int (abN (moN w np + leN w j (nI k)))), some (Value.int (nI (k + 1))), some (Value.int (abN (moN w np + leN w j (nI k))))] dX7_calmestPlace_79 rfl rfl (nI_1 _) rfl (by decide) rfl ?_
          refine ac_goto 17 dX7_calmestPlace_82 (by decide) ?_
          refine ac_kill 6 [some (Value.ref 0), some (Value.int (nI j)), some (Value.int (moN w np)), some (Value.int (nI k)), some (Value.int (abN (moN w np + leN w j (nI k)))), some (Value.int (nI (k + 1))), none] rfl ?_
          rw [show acp (fun i => fitN w nd j (nI i) ∧ apN w np j (nI i)) (fun x => abN (moN w np + leN w j x)) (k + 1) = ((nI k), (abN (moN w np + leN w j (nI k)))) from by first | exact acp_t (P := (fun i => fitN w nd j (nI i) ∧ apN w np j (nI i))) (D := (fun x => abN (moN w np + leN w j x))) (bi_ne0.mp c_39) (Or.inl c_62) | exact acp_t (P := (fun i => fitN w nd j (nI i) ∧ apN w np j (nI i))) (D := (fun x => abN (moN w np + leN w j x))) (bi_ne0.mp c_39) (Or.inr (Int32.not_le.mp c_69))] at ih
          exact ih
        · refine ac_iload 67 dX7_calmestPlace_65 rfl rfl ?_
          refine ac_iload 69 dX7_calmestPlace_67 rfl rfl ?_
          refine ac_icmp_ge 79 72 dX7_calmestPlace_69 (by decide) rfl (fun c_69 => ?_) (fun c_69 => ?_)
          · refine ac_iinc 82 (nI (k + 1)) [some (Value.ref 0), some (Value.int (nI j)), some (Value.int (moN w np)), some (Value.int ((acp (fun i => fitN w nd j (nI i) ∧ apN w np j (nI i)) (fun x => abN (moN w np + leN w j x)) k).1)), some (Value.int ((acp (fun i => fitN w nd j (nI i) ∧ apN w np j (nI i)) (fun x => abN (moN w np + leN w j x)) k).2)), some (Value.int (nI (k + 1))), some (Value.int (abN (moN w np + leN w j (nI k))))] dX7_calmestPlace_79 rfl rfl (nI_1 _) rfl (by decide) rfl ?_
            refine ac_goto 17 dX7_calmestPlace_82 (by decide) ?_
            refine ac_kill 6 [some (Value.ref 0), some (Value.int (nI j)), some (Value.int (moN w np)), some (Value.int ((acp (fun i => fitN w nd j (nI i) ∧ apN w np j (nI i)) (fun x => abN (moN w np + leN w j x)) k).1)), some (Value.int ((acp (fun i => fitN w nd j (nI i) ∧ apN w np j (nI i)) (fun x => abN (moN w np + leN w j x)) k).2)), some (Value.int (nI (k + 1))), none] rfl ?_
            rw [show acp (fun i => fitN w nd j (nI i) ∧ apN w np j (nI i)) (fun x => abN (moN w np + leN w j x)) (k + 1) = acp (fun i => fitN w nd j (nI i) ∧ apN w np j (nI i)) (fun x => abN (moN w np + leN w j x)) k from by first | exact acp_f (P := (fun i => fitN w nd j (nI i) ∧ apN w np j (nI i))) (bi_eq0.mp c_39) | exact acp_f2 (P := (fun i => fitN w nd j (nI i) ∧ apN w np j (nI i))) (D := (fun x => abN (moN w np + leN w j x))) c_62 (Int32.not_lt.mpr c_69)] at ih
            exact ih
          · refine ac_iload 74 dX7_calmestPlace_72 rfl rfl ?_
            refine ac_istore_n 75 [some (Value.ref 0), some (Value.int (nI j)), some (Value.int (moN w np)), some (Value.int (nI k)), some (Value.int ((acp (fun i => fitN w nd j (nI i) ∧ apN w np j (nI i)) (fun x => abN (moN w np + leN w j x)) k).2)), some (Value.int (nI k)), some (Value.int (abN (moN w np + leN w j (nI k))))] dX7_calmestPlace_74 rfl rfl (Nat.le_of_ble_eq_true rfl) (by decide) rfl ?_
            refine ac_iload 77 dX7_calmestPlace_75 rfl rfl ?_
            refine ac_istore 79 [some (Value.ref 0), some (Value.int (nI j)), some (Value.int (moN w np)), some (Value.int (nI k)), some (Value.int (abN (moN w np + leN w j (nI k)))), some (Value.int (nI k)), some (Value.int (abN (moN w np + leN w j (nI k))))] dX7_calmestPlace_77 rfl rfl (Nat.le_of_ble_eq_true rfl) (by decide) rfl ?_
            refine ac_iinc 82 (nI (k + 1)) [some (Value.ref 0), some (Value.int (nI j)), some (Value.int (moN w np)), some (Value.int (nI k)), some (Value.int (abN (moN w np + leN w j (nI k)))), some (Value.int (nI (k + 1))), some (Value.int (abN (moN w np + leN w j (nI k))))] dX7_calmestPlace_79 rfl rfl (nI_1 _) rfl (by decide) rfl ?_
            refine ac_goto 17 dX7_calmestPlace_82 (by decide) ?_
            refine ac_kill 6 [some (Value.ref 0), some (Value.int (nI j)), some (Value.int (moN w np)), some (Value.int (nI k)), some (Value.int (abN (moN w np + leN w j (nI k)))), some (Value.int (nI (k + 1))), none] rfl ?_
            rw [show acp (fun i => fitN w nd j (nI i) ∧ apN w np j (nI i)) (fun x => abN (moN w np + leN w j x)) (k + 1) = ((nI k), (abN (moN w np + leN w j (nI k)))) from by first | exact acp_t (P := (fun i => fitN w nd j (nI i) ∧ apN w np j (nI i))) (D := (fun x => abN (moN w np + leN w j x))) (bi_ne0.mp c_39) (Or.inl c_62) | exact acp_t (P := (fun i => fitN w nd j (nI i) ∧ apN w np j (nI i))) (D := (fun x => abN (moN w np + leN w j x))) (bi_ne0.mp c_39) (Or.inr (Int32.not_le.mp c_69))] at ih
            exact ih
  refine ac_iconst 15 0 dX7_calmestPlace_14 rfl (by decide) ?_
  refine ac_istore 17 [some (Value.ref 0), some (Value.int (nI j)), some (Value.int (moN w np)), some (Value.int (-9)), some (Value.int 0), some (Value.int 0), none] dX7_calmestPlace_15 rfl rfl (Nat.le_of_ble_eq_true rfl) (by decide) rfl ?_
  exact hL
set_option maxRecDepth 20000 in
theorem q7_plaF {M : am_I} {V : am_J} {f : Nat → Option Nat} {w : rN} {np nd nh : Nat} (hw : CW M 7 w np nd nh) {p : Int32} (hp : ¬ vI p np) (what : Int32) : CT m7_places 6 [Value.ref 0, Value.int p, Value.int what] M V f (RV (-1) M V f) := by
  refine CT.of m7_places_V.1 _ (en_aii_3 0 p what) ?_
  refine ac_aload_n 1 dX7_places_0 rfl rfl ?_
  refine ac_getO 4 7 dX7_places_1 rfl fl7_27 ob0 rfl ?_
  refine ac_iload_n 5 dX7_places_4 rfl rfl ?_
  refine ac_callV (μ' := m6_hasPicture) 8 dX7_places_5 rfl lk7_85 m6_hasPicture_V ob7 (c6_hasPictureF hw hp) rfl rfl (by decide) (Nat.le_of_ble_eq_true rfl) ?_
  refine ac_if_eq 20 11 dX7_places_8 (by decide) rfl (fun _ => ?_) (fun c_8 => absurd (by decide) c_8)
  refine ac_iconst 21 (-1) dX7_places_20 rfl (by decide) ?_
  refine ac_iret dX7_places_21 ⟨_, rfl, rfl⟩ ?_
  exact rv_mk rfl
set_option maxRecDepth 20000 in
theorem q7_plaW {M : am_I} {V : am_J} {f : Nat → Option Nat} {w : rN} {np nd nh j : Nat} (hw : CW M 7 w np nd nh) (hj : j < np) {what : Int32} (hq : ¬ vI what 4) : CT m7_places 6 [Value.ref 0, Value.int (nI j), Value.int what] M V f (RV (-1) M V f) := by
  refine CT.of m7_places_V.1 _ (en_aii_3 0 (nI j) what) ?_
  refine ac_aload_n 1 dX7_places_0 rfl rfl ?_
  refine ac_getO 4 7 dX7_places_1 rfl fl7_27 ob0 rfl ?_
  refine ac_iload_n 5 dX7_places_4 rfl rfl ?_
  refine ac_callV (μ' := m6_hasPicture) 8 dX7_places_5 rfl lk7_85 m6_hasPicture_V ob7 (c6_hasPictureT hw hj) rfl rfl (by decide) (Nat.le_of_ble_eq_true rfl) ?_
  refine ac_if_eq 20 11 dX7_places_8 (by decide) rfl (fun c_8 => absurd c_8 (by decide)) (fun _ => ?_)
  refine ac_iload_n 12 dX7_places_11 rfl rfl ?_
  refine ac_if_lt 20 15 dX7_places_12 (by decide) rfl (fun c_12 => ?_) (fun c_12 => ?_)
  · refine ac_iconst 21 (-1) dX7_places_20 rfl (by decide) ?_
    refine ac_iret dX7_places_21 ⟨_, rfl, rfl⟩ ?_
    exact rv_mk rfl
  · refine ac_iload_n 16 dX7_places_15 rfl rfl ?_
    refine ac_iconst 17 3 dX7_places_16 rfl (by decide) ?_
    refine ac_icmp_le 22 20 dX7_places_17 (by decide) rfl (fun c_17 => ?_) (fun c_17 => ?_)
    · exact absurd (⟨Int32.not_lt.mp c_12, c_17⟩ : 0 ≤ what ∧ what ≤ 3) (wh_not (n := 4) (m := 3) (by decide) hq rfl)
    · refine ac_iconst 21 (-1) dX7_places_20 rfl (by decide) ?_
      refine ac_iret dX7_places_21 ⟨_, rfl, rfl⟩ ?_
      exact rv_mk rfl
set_option maxRecDepth 20000 in
theorem q7_plaU0 {M : am_I} {V : am_J} {f : Nat → Option Nat} {w : rN} {np nd nh j : Nat} (hw : CW M 7 w np nd nh) (hj : j < np) (ha : w (64 + j) ≠ -9) : CT m7_places 6 [Value.ref 0, Value.int (nI j), Value.int 0] M V f (RV (-2) M V f) := by
  refine CT.of m7_places_V.1 _ (en_aii_3 0 (nI j) 0) ?_
  refine ac_aload_n 1 dX7_places_0 rfl rfl ?_
  refine ac_getO 4 7 dX7_places_1 rfl fl7_27 ob0 rfl ?_
  refine ac_iload_n 5 dX7_places_4 rfl rfl ?_
  refine ac_callV (μ' := m6_hasPicture) 8 dX7_places_5 rfl lk7_85 m6_hasPicture_V ob7 (c6_hasPictureT hw hj) rfl rfl (by decide) (Nat.le_of_ble_eq_true rfl) ?_
  refine ac_if_eq 20 11 dX7_places_8 (by decide) rfl (fun c_8 => absurd c_8 (by decide)) (fun _ => ?_)
  refine ac_iload_n 12 dX7_places_11 rfl rfl ?_
  refine ac_if_lt 20 15 dX7_places_12 (by decide) rfl (fun c_12 => absurd c_12 (by decide)) (fun _ => ?_)
  refine ac_iload_n 16 dX7_places_15 rfl rfl ?_
  refine ac_iconst 17 3 dX7_places_16 rfl (by decide) ?_
  refine ac_icmp_le 22 20 dX7_places_17 (by decide) rfl (fun _ => ?_) (fun c_17 => absurd (by decide) c_17)
  refine ac_aload_n 23 dX7_places_22 rfl rfl ?_
  refine ac_getO 26 7 dX7_places_23 rfl fl7_27 ob0 rfl ?_
  refine ac_iload_n 27 dX7_places_26 rfl rfl ?_
  refine ac_callV (μ' := m6_isUp) 30 dX7_places_27 rfl lk7_89 m6_isUp_V ob7 (c6_isUpT hw hj ha) rfl rfl (by decide) (Nat.le_of_ble_eq_true rfl) ?_
  refine ac_if_eq 36 33 dX7_places_30 (by decide) rfl (fun c_30 => absurd c_30 (by decide)) (fun _ => ?_)
  refine ac_bipush 35 (-2) dX7_places_33 rfl (by decide) ?_
  refine ac_iret dX7_places_35 ⟨_, rfl, rfl⟩ ?_
  exact rv_mk rfl
set_option maxRecDepth 20000 in
theorem q7_pla0 {M : am_I} {V : am_J} {f : Nat → Option Nat} {w : rN} {np nd nh j : Nat} (hw : CW M 7 w np nd nh) (hj : j < np) (hd : w (64 + j) = -9) {W : Nat} (hW : w 0 = nI W) (hW9 : W ≤ 40) : CT m7_places 6 [Value.ref 0, Value.int (nI j), Value.int 0] M V f (RV (acnt (fun i => fitN w nd j (nI i) ∧ apN w np j (nI i)) W) M V f) := by
  refine CT.of m7_places_V.1 _ (en_aii_3 0 (nI j) 0) ?_
  refine ac_aload_n 1 dX7_places_0 rfl rfl ?_
  refine ac_getO 4 7 dX7_places_1 rfl fl7_27 ob0 rfl ?_
  refine ac_iload_n 5 dX7_places_4 rfl rfl ?_
  refine ac_callV (μ' := m6_hasPicture) 8 dX7_places_5 rfl lk7_85 m6_hasPicture_V ob7 (c6_hasPictureT hw hj) rfl rfl (by decide) (Nat.le_of_ble_eq_true rfl) ?_
  refine ac_if_eq 20 11 dX7_places_8 (by decide) rfl (fun c_8 => absurd c_8 (by decide)) (fun _ => ?_)
  refine ac_iload_n 12 dX7_places_11 rfl rfl ?_
  refine ac_if_lt 20 15 dX7_places_12 (by decide) rfl (fun c_12 => absurd c_12 (by decide)) (fun _ => ?_)
  refine ac_iload_n 16 dX7_places_15 rfl rfl ?_
  refine ac_iconst 17 3 dX7_places_16 rfl (by decide) ?_
  refine ac_icmp_le 22 20 dX7_places_17 (by decide) rfl (fun _ => ?_) (fun c_17 => absurd (by decide) c_17)
  refine ac_aload_n 23 dX7_places_22 rfl rfl ?_
  refine ac_getO 26 7 dX7_places_23 rfl fl7_27 ob0 rfl ?_
  refine ac_iload_n 27 dX7_places_26 rfl rfl ?_
  refine ac_callV (μ' := m6_isUp) 30 dX7_places_27 rfl lk7_89 m6_isUp_V ob7 (c6_isUpN hw hj hd) rfl rfl (by decide) (Nat.le_of_ble_eq_true rfl) ?_
  refine ac_if_eq 36 33 dX7_places_30 (by decide) rfl (fun _ => ?_) (fun c_30 => absurd (by decide) c_30)
  refine ac_iload_n 37 dX7_places_36 rfl rfl ?_
  refine ac_tableIn 64 0 27 dX7_places_37 (by decide) (by decide) (by decide) (by decide) ?_
  refine ac_aload_n 65 dX7_places_64 rfl rfl ?_
  refine ac_iload_n 66 dX7_places_65 rfl rfl ?_
  refine ac_callV (μ' := m7_countPlaces) 69 dX7_places_66 rfl lk7_179 m7_countPlaces_V ob0 (c7_countPlaces hw hj hd hW hW9) rfl rfl (by decide) (Nat.le_of_ble_eq_true rfl) ?_
  refine ac_iret dX7_places_69 ⟨_, rfl, rfl⟩ ?_
  exact rv_mk rfl
set_option maxRecDepth 20000 in
theorem q7_plaU1 {M : am_I} {V : am_J} {f : Nat → Option Nat} {w : rN} {np nd nh j : Nat} (hw : CW M 7 w np nd nh) (hj : j < np) (ha : w (64 + j) ≠ -9) : CT m7_places 6 [Value.ref 0, Value.int (nI j), Value.int 1] M V f (RV (-2) M V f) := by
  refine CT.of m7_places_V.1 _ (en_aii_3 0 (nI j) 1) ?_
  refine ac_aload_n 1 dX7_places_0 rfl rfl ?_
  refine ac_getO 4 7 dX7_places_1 rfl fl7_27 ob0 rfl ?_
  refine ac_iload_n 5 dX7_places_4 rfl rfl ?_
  refine ac_callV (μ' := m6_hasPicture) 8 dX7_places_5 rfl lk7_85 m6_hasPicture_V ob7 (c6_hasPictureT hw hj) rfl rfl (by decide) (Nat.le_of_ble_eq_true rfl) ?_
  refine ac_if_eq 20 11 dX7_places_8 (by decide) rfl (fun c_8 => absurd c_8 (by decide)) (fun _ => ?_)
  refine ac_iload_n 12 dX7_places_11 rfl rfl ?_
  refine ac_if_lt 20 15 dX7_places_12 (by decide) rfl (fun c_12 => absurd c_12 (by decide)) (fun _ => ?_)
  refine ac_iload_n 16 dX7_places_15 rfl rfl ?_
  refine ac_iconst 17 3 dX7_places_16 rfl (by decide) ?_
  refine ac_icmp_le 22 20 dX7_places_17 (by decide) rfl (fun _ => ?_) (fun c_17 => absurd (by decide) c_17)
  refine ac_aload_n 23 dX7_places_22 rfl rfl ?_
  refine ac_getO 26 7 dX7_places_23 rfl fl7_27 ob0 rfl ?_
  refine ac_iload_n 27 dX7_places_26 rfl rfl ?_
  refine ac_callV (μ' := m6_isUp) 30 dX7_places_27 rfl lk7_89 m6_isUp_V ob7 (c6_isUpT hw hj ha) rfl rfl (by decide) (Nat.le_of_ble_eq_true rfl) ?_
  refine ac_if_eq 36 33 dX7_places_30 (by decide) rfl (fun c_30 => absurd c_30 (by decide)) (fun _ => ?_)
  refine ac_bipush 35 (-2) dX7_places_33 rfl (by decide) ?_
  refine ac_iret dX7_places_35 ⟨_, rfl, rfl⟩ ?_
  exact rv_mk rfl
set_option maxRecDepth 20000 in
theorem q7_pla1 {M : am_I} {V : am_J} {f : Nat → Option Nat} {w : rN} {np nd nh j : Nat} (hw : CW M 7 w np nd nh) (hj : j < np) (hd : w (64 + j) = -9) {W : Nat} (hW : w 0 = nI W) (hW9 : W ≤ 40) : CT m7_places 6 [Value.ref 0, Value.int (nI j), Value.int 1] M V f (RV (dlst (fun i => fitN w nd j (nI i) ∧ apN w np j (nI i)) W W) M V f) := by
  refine CT.of m7_places_V.1 _ (en_aii_3 0 (nI j) 1) ?_
  refine ac_aload_n 1 dX7_places_0 rfl rfl ?_
  refine ac_getO 4 7 dX7_places_1 rfl fl7_27 ob0 rfl ?_
  refine ac_iload_n 5 dX7_places_4 rfl rfl ?_
  refine ac_callV (μ' := m6_hasPicture) 8 dX7_places_5 rfl lk7_85 m6_hasPicture_V ob7 (c6_hasPictureT hw hj) rfl rfl (by decide) (Nat.le_of_ble_eq_true rfl) ?_
  refine ac_if_eq 20 11 dX7_places_8 (by decide) rfl (fun c_8 => absurd c_8 (by decide)) (fun _ => ?_)
  refine ac_iload_n 12 dX7_places_11 rfl rfl ?_
  refine ac_if_lt 20 15 dX7_places_12 (by decide) rfl (fun c_12 => absurd c_12 (by decide)) (fun _ => ?_)
  refine ac_iload_n 16 dX7_places_15 rfl rfl ?_
  refine ac_iconst 17 3 dX7_places_16 rfl (by decide) ?_
  refine ac_icmp_le 22 20 dX7_places_17 (by decide) rfl (fun _ => ?_) (fun c_17 => absurd (by decide) c_17)
  refine ac_aload_n 23 dX7_places_22 rfl rfl ?_
  refine ac_getO 26 7 dX7_places_23 rfl fl7_27 ob0 rfl ?_
  refine ac_iload_n 27 dX7_places_26 rfl rfl ?_
  refine ac_callV (μ' := m6_isUp) 30 dX7_places_27 rfl lk7_89 m6_isUp_V ob7 (c6_isUpN hw hj hd) rfl rfl (by decide) (Nat.le_of_ble_eq_true rfl) ?_
  refine ac_if_eq 36 33 dX7_places_30 (by decide) rfl (fun _ => ?_) (fun c_30 => absurd (by decide) c_30)
  refine ac_iload_n 37 dX7_places_36 rfl rfl ?_
  refine ac_tableIn 70 1 33 dX7_places_37 (by decide) (by decide) (by decide) (by decide) ?_
  refine ac_aload_n 71 dX7_places_70 rfl rfl ?_
  refine ac_iload_n 72 dX7_places_71 rfl rfl ?_
  refine ac_iconst 73 0 dX7_places_72 rfl (by decide) ?_
  refine ac_callV (μ' := m7_leastPlace) 76 dX7_places_73 rfl lk7_182 m7_leastPlace_V ob0 (c7_least0 hw hj hd hW hW9) rfl rfl (by decide) (Nat.le_of_ble_eq_true rfl) ?_
  refine ac_iret dX7_places_76 ⟨_, rfl, rfl⟩ ?_
  exact rv_mk rfl
set_option maxRecDepth 20000 in
theorem q7_plaU2 {M : am_I} {V : am_J} {f : Nat → Option Nat} {w : rN} {np nd nh j : Nat} (hw : CW M 7 w np nd nh) (hj : j < np) (ha : w (64 + j) ≠ -9) : CT m7_places 6 [Value.ref 0, Value.int (nI j), Value.int 2] M V f (RV (-2) M V f) := by
  refine CT.of m7_places_V.1 _ (en_aii_3 0 (nI j) 2) ?_
  refine ac_aload_n 1 dX7_places_0 rfl rfl ?_
  refine ac_getO 4 7 dX7_places_1 rfl fl7_27 ob0 rfl ?_
  refine ac_iload_n 5 dX7_places_4 rfl rfl ?_
  refine ac_callV (μ' := m6_hasPicture) 8 dX7_places_5 rfl lk7_85 m6_hasPicture_V ob7 (c6_hasPictureT hw hj) rfl rfl (by decide) (Nat.le_of_ble_eq_true rfl) ?_
  refine ac_if_eq 20 11 dX7_places_8 (by decide) rfl (fun c_8 => absurd c_8 (by decide)) (fun _ => ?_)
  refine ac_iload_n 12 dX7_places_11 rfl rfl ?_
  refine ac_if_lt 20 15 dX7_places_12 (by decide) rfl (fun c_12 => absurd c_12 (by decide)) (fun _ => ?_)
  refine ac_iload_n 16 dX7_places_15 rfl rfl ?_
  refine ac_iconst 17 3 dX7_places_16 rfl (by decide) ?_
  refine ac_icmp_le 22 20 dX7_places_17 (by decide) rfl (fun _ => ?_) (fun c_17 => absurd (by decide) c_17)
  refine ac_aload_n 23 dX7_places_22 rfl rfl ?_
  refine ac_getO 26 7 dX7_places_23 rfl fl7_27 ob0 rfl ?_
  refine ac_iload_n 27 dX7_places_26 rfl rfl ?_
  refine ac_callV (μ' := m6_isUp) 30 dX7_places_27 rfl lk7_89 m6_isUp_V ob7 (c6_isUpT hw hj ha) rfl rfl (by decide) (Nat.le_of_ble_eq_true rfl) ?_
  refine ac_if_eq 36 33 dX7_places_30 (by decide) rfl (fun c_30 => absurd c_30 (by decide)) (fun _ => ?_)
  refine ac_bipush 35 (-2) dX7_places_33 rfl (by decide) ?_
  refine ac_iret dX7_places_35 ⟨_, rfl, rfl⟩ ?_
  exact rv_mk rfl
set_option maxRecDepth 20000 in
theorem q7_pla2 {M : am_I} {V : am_J} {f : Nat → Option Nat} {w : rN} {np nd nh j : Nat} (hw : CW M 7 w np nd nh) (hj : j < np) (hd : w (64 + j) = -9) {W : Nat} (hW : w 0 = nI W) (hW9 : W ≤ 40) : CT m7_places 6 [Value.ref 0, Value.int (nI j), Value.int 2] M V f (RV (dlst (fun i => (fitN w nd j (nI i) ∧ apN w np j (nI i)) ∧ hoN w nh (hkX w j (nI i)) (hkY w j)) W W) M V f) := by
  refine CT.of m7_places_V.1 _ (en_aii_3 0 (nI j) 2) ?_
  refine ac_aload_n 1 dX7_places_0 rfl rfl ?_
  refine ac_getO 4 7 dX7_places_1 rfl fl7_27 ob0 rfl ?_
  refine ac_iload_n 5 dX7_places_4 rfl rfl ?_
  refine ac_callV (μ' := m6_hasPicture) 8 dX7_places_5 rfl lk7_85 m6_hasPicture_V ob7 (c6_hasPictureT hw hj) rfl rfl (by decide) (Nat.le_of_ble_eq_true rfl) ?_
  refine ac_if_eq 20 11 dX7_places_8 (by decide) rfl (fun c_8 => absurd c_8 (by decide)) (fun _ => ?_)
  refine ac_iload_n 12 dX7_places_11 rfl rfl ?_
  refine ac_if_lt 20 15 dX7_places_12 (by decide) rfl (fun c_12 => absurd c_12 (by decide)) (fun _ => ?_)
  refine ac_iload_n 16 dX7_places_15 rfl rfl ?_
  refine ac_iconst 17 3 dX7_places_16 rfl (by decide) ?_
  refine ac_icmp_le 22 20 dX7_places_17 (by decide) rfl (fun _ => ?_) (fun c_17 => absurd (by decide) c_17)
  refine ac_aload_n 23 dX7_places_22 rfl rfl ?_
  refine ac_getO 26 7 dX7_places_23 rfl fl7_27 ob0 rfl ?_
  refine ac_iload_n 27 dX7_places_26 rfl rfl ?_
  refine ac_callV (μ' := m6_isUp) 30 dX7_places_27 rfl lk7_89 m6_isUp_V ob7 (c6_isUpN hw hj hd) rfl rfl (by decide) (Nat.le_of_ble_eq_true rfl) ?_
  refine ac_if_eq 36 33 dX7_places_30 (by decide) rfl (fun _ => ?_) (fun c_30 => absurd (by decide) c_30)
  refine ac_iload_n 37 dX7_places_36 rfl rfl ?_
  refine ac_tableIn 77 2 40 dX7_places_37 (by decide) (by decide) (by decide) (by decide) ?_
  refine ac_aload_n 78 dX7_places_77 rfl rfl ?_
  refine ac_iload_n 79 dX7_places_78 rfl rfl ?_
  refine ac_iconst 80 1 dX7_places_79 rfl (by decide) ?_
  refine ac_callV (μ' := m7_leastPlace) 83 dX7_places_80 rfl lk7_182 m7_leastPlace_V ob0 (c7_least1 hw hj hd hW hW9) rfl rfl (by decide) (Nat.le_of_ble_eq_true rfl) ?_
  refine ac_iret dX7_places_83 ⟨_, rfl, rfl⟩ ?_
  exact rv_mk rfl
set_option maxRecDepth 20000 in
theorem q7_plaU3 {M : am_I} {V : am_J} {f : Nat → Option Nat} {w : rN} {np nd nh j : Nat} (hw : CW M 7 w np nd nh) (hj : j < np) (ha : w (64 + j) ≠ -9) : CT m7_places 6 [Value.ref 0, Value.int (nI j), Value.int 3] M V f (RV (-2) M V f) := by
  refine CT.of m7_places_V.1 _ (en_aii_3 0 (nI j) 3) ?_
  refine ac_aload_n 1 dX7_places_0 rfl rfl ?_
  refine ac_getO 4 7 dX7_places_1 rfl fl7_27 ob0 rfl ?_
  refine ac_iload_n 5 dX7_places_4 rfl rfl ?_
  refine ac_callV (μ' := m6_hasPicture) 8 dX7_places_5 rfl lk7_85 m6_hasPicture_V ob7 (c6_hasPictureT hw hj) rfl rfl (by decide) (Nat.le_of_ble_eq_true rfl) ?_
  refine ac_if_eq 20 11 dX7_places_8 (by decide) rfl (fun c_8 => absurd c_8 (by decide)) (fun _ => ?_)
  refine ac_iload_n 12 dX7_places_11 rfl rfl ?_
  refine ac_if_lt 20 15 dX7_places_12 (by decide) rfl (fun c_12 => absurd c_12 (by decide)) (fun _ => ?_)
  refine ac_iload_n 16 dX7_places_15 rfl rfl ?_
  refine ac_iconst 17 3 dX7_places_16 rfl (by decide) ?_
  refine ac_icmp_le 22 20 dX7_places_17 (by decide) rfl (fun _ => ?_) (fun c_17 => absurd (by decide) c_17)
  refine ac_aload_n 23 dX7_places_22 rfl rfl ?_
  refine ac_getO 26 7 dX7_places_23 rfl fl7_27 ob0 rfl ?_
  refine ac_iload_n 27 dX7_places_26 rfl rfl ?_
  refine ac_callV (μ' := m6_isUp) 30 dX7_places_27 rfl lk7_89 m6_isUp_V ob7 (c6_isUpT hw hj ha) rfl rfl (by decide) (Nat.le_of_ble_eq_true rfl) ?_
  refine ac_if_eq 36 33 dX7_places_30 (by decide) rfl (fun c_30 => absurd c_30 (by decide)) (fun _ => ?_)
  refine ac_bipush 35 (-2) dX7_places_33 rfl (by decide) ?_
  refine ac_iret dX7_places_35 ⟨_, rfl, rfl⟩ ?_
  exact rv_mk rfl
set_option maxRecDepth 20000 in
theorem q7_pla3 {M : am_I} {V : am_J} {f : Nat → Option Nat} {w : rN} {np nd nh j : Nat} (hw : CW M 7 w np nd nh) (hj : j < np) (hd : w (64 + j) = -9) {W : Nat} (hW : w 0 = nI W) (hW9 : W ≤ 40) : CT m7_places 6 [Value.ref 0, Value.int (nI j), Value.int 3] M V f (RV ((acp (fun i => fitN w nd j (nI i) ∧ apN w np j (nI i)) (fun x => abN (moN w np + leN w j x)) W).1) M V f) := by
  refine CT.of m7_places_V.1 _ (en_aii_3 0 (nI j) 3) ?_
  refine ac_aload_n 1 dX7_places_0 rfl rfl ?_
  refine ac_getO 4 7 dX7_places_1 rfl fl7_27 ob0 rfl ?_
  refine ac_iload_n 5 dX7_places_4 rfl rfl ?_
  refine ac_callV (μ' := m6_hasPicture) 8 dX7_places_5 rfl lk7_85 m6_hasPicture_V ob7 (c6_hasPictureT hw hj) rfl rfl (by decide) (Nat.le_of_ble_eq_true rfl) ?_
  refine ac_if_eq 20 11 dX7_places_8 (by decide) rfl (fun c_8 => absurd c_8 (by decide)) (fun _ => ?_)
  refine ac_iload_n 12 dX7_places_11 rfl rfl ?_
  refine ac_if_lt 20 15 dX7_places_12 (by decide) rfl (fun c_12 => absurd c_12 (by decide)) (fun _ => ?_)
  refine ac_iload_n 16 dX7_places_15 rfl rfl ?_
  refine ac_iconst 17 3 dX7_places_16 rfl (by decide) ?_
  refine ac_icmp_le 22 20 dX7_places_17 (by decide) rfl (fun _ => ?_) (fun c_17 => absurd (by decide) c_17)
  refine ac_aload_n 23 dX7_places_22 rfl rfl ?_
  refine ac_getO 26 7 dX7_places_23 rfl fl7_27 ob0 rfl ?_
  refine ac_iload_n 27 dX7_places_26 rfl rfl ?_
  refine ac_callV (μ' := m6_isUp) 30 dX7_places_27 rfl lk7_89 m6_isUp_V ob7 (c6_isUpN hw hj hd) rfl rfl (by decide) (Nat.le_of_ble_eq_true rfl) ?_
  refine ac_if_eq 36 33 dX7_places_30 (by decide) rfl (fun _ => ?_) (fun c_30 => absurd (by decide) c_30)
  refine ac_iload_n 37 dX7_places_36 rfl rfl ?_
  refine ac_tableOut 84 dX7_places_37 (by decide) (by decide) ?_
  refine ac_aload_n 85 dX7_places_84 rfl rfl ?_
  refine ac_iload_n 86 dX7_places_85 rfl rfl ?_
  refine ac_callV (μ' := m7_calmestPlace) 89 dX7_places_86 rfl lk7_186 m7_calmestPlace_V ob0 (c7_calmest hw hj hd hW hW9) rfl rfl (by decide) (Nat.le_of_ble_eq_true rfl) ?_
  refine ac_iret dX7_places_89 ⟨_, rfl, rfl⟩ ?_
  exact rv_mk rfl
set_option maxRecDepth 20000 in
theorem q7_picF {M : am_I} {V : am_J} {f : Nat → Option Nat} {w : rN} {np nd nh : Nat} (hw : CW M 7 w np nd nh) {p : Int32} (hp : ¬ vI p np) (what : Int32) : CT m7_picture 3 [Value.ref 0, Value.int p, Value.int what] M V f (RV (-1000000) M V f) := by
  refine CT.of m7_picture_V.1 _ (en_aii_3 0 p what) ?_
  refine ac_aload_n 1 dX7_picture_0 rfl rfl ?_
  refine ac_getO 4 7 dX7_picture_1 rfl fl7_27 ob0 rfl ?_
  refine ac_iload_n 5 dX7_picture_4 rfl rfl ?_
  refine ac_callV (μ' := m6_hasPicture) 8 dX7_picture_5 rfl lk7_85 m6_hasPicture_V ob7 (c6_hasPictureF hw hp) rfl rfl (by decide) (Nat.le_of_ble_eq_true rfl) ?_
  refine ac_if_ne 14 11 dX7_picture_8 (by decide) rfl (fun c_8 => absurd (by decide) c_8) (fun _ => ?_)
  refine ac_ldc 13 dX7_picture_11 rfl kc7_133 ?_
  refine ac_iret dX7_picture_13 ⟨_, rfl, rfl⟩ ?_
  exact rv_mk rfl
set_option maxRecDepth 20000 in
theorem q7_picW {M : am_I} {V : am_J} {f : Nat → Option Nat} {w : rN} {np nd nh j : Nat} (hw : CW M 7 w np nd nh) (hj : j < np) {what : Int32} (hq : ¬ vI what 6) : CT m7_picture 3 [Value.ref 0, Value.int (nI j), Value.int what] M V f (RV (-1000000) M V f) := by
  refine CT.of m7_picture_V.1 _ (en_aii_3 0 (nI j) what) ?_
  refine ac_aload_n 1 dX7_picture_0 rfl rfl ?_
  refine ac_getO 4 7 dX7_picture_1 rfl fl7_27 ob0 rfl ?_
  refine ac_iload_n 5 dX7_picture_4 rfl rfl ?_
  refine ac_callV (μ' := m6_hasPicture) 8 dX7_picture_5 rfl lk7_85 m6_hasPicture_V ob7 (c6_hasPictureT hw hj) rfl rfl (by decide) (Nat.le_of_ble_eq_true rfl) ?_
  refine ac_if_ne 14 11 dX7_picture_8 (by decide) rfl (fun _ => ?_) (fun c_8 => absurd c_8 (by decide))
  refine ac_iload_n 15 dX7_picture_14 rfl rfl ?_
  refine ac_tableOut 111 dX7_picture_15 (wh_out (n := 6) (by decide) hq) (by decide) ?_
  refine ac_ldc 113 dX7_picture_111 rfl kc7_133 ?_
  refine ac_iret dX7_picture_113 ⟨_, rfl, rfl⟩ ?_
  exact rv_mk rfl
set_option maxRecDepth 20000 in
theorem q7_pic0 {M : am_I} {V : am_J} {f : Nat → Option Nat} {w : rN} {np nd nh j : Nat} (hw : CW M 7 w np nd nh) (hj : j < np) : CT m7_picture 3 [Value.ref 0, Value.int (nI j), Value.int 0] M V f (RV (w (4 + 4 * j)) M V f) := by
  have h5 := hw.n5
  have h3 := hw.n3
  have h16 := hw.n16
  refine CT.of m7_picture_V.1 _ (en_aii_3 0 (nI j) 0) ?_
  refine ac_aload_n 1 dX7_picture_0 rfl rfl ?_
  refine ac_getO 4 7 dX7_picture_1 rfl fl7_27 ob0 rfl ?_
  refine ac_iload_n 5 dX7_picture_4 rfl rfl ?_
  refine ac_callV (μ' := m6_hasPicture) 8 dX7_picture_5 rfl lk7_85 m6_hasPicture_V ob7 (c6_hasPictureT hw hj) rfl rfl (by decide) (Nat.le_of_ble_eq_true rfl) ?_
  refine ac_if_ne 14 11 dX7_picture_8 (by decide) rfl (fun _ => ?_) (fun c_8 => absurd c_8 (by decide))
  refine ac_iload_n 15 dX7_picture_14 rfl rfl ?_
  refine ac_tableIn 52 0 37 dX7_picture_15 (by decide) (by decide) (by decide) (by decide) ?_
  refine ac_aload_n 53 dX7_picture_52 rfl rfl ?_
  refine ac_getO 56 7 dX7_picture_53 rfl fl7_27 ob0 rfl ?_
  refine ac_getO 59 8 dX7_picture_56 rfl fl7_134 ob7 rfl ?_
  refine ac_iload_n 60 dX7_picture_59 rfl rfl ?_
  refine ac_iald 61 dX7_picture_60 rfl ar8 (ix_nI (by omega) (by decide)) ?_
  rw [show (M 8 j) = (w (4 + 4 * j)) from (hw.p0 hj)]
  refine ac_iret dX7_picture_61 ⟨_, rfl, rfl⟩ ?_
  exact rv_mk rfl
set_option maxRecDepth 20000 in
theorem q7_pic1 {M : am_I} {V : am_J} {f : Nat → Option Nat} {w : rN} {np nd nh j : Nat} (hw : CW M 7 w np nd nh) (hj : j < np) : CT m7_picture 3 [Value.ref 0, Value.int (nI j), Value.int 1] M V f (RV (w (4 + 4 * j + 1)) M V f) := by
  have h5 := hw.n5
  have h3 := hw.n3
  have h16 := hw.n16
  refine CT.of m7_picture_V.1 _ (en_aii_3 0 (nI j) 1) ?_
  refine ac_aload_n 1 dX7_picture_0 rfl rfl ?_
  refine ac_getO 4 7 dX7_picture_1 rfl fl7_27 ob0 rfl ?_
  refine ac_iload_n 5 dX7_picture_4 rfl rfl ?_
  refine ac_callV (μ' := m6_hasPicture) 8 dX7_picture_5 rfl lk7_85 m6_hasPicture_V ob7 (c6_hasPictureT hw hj) rfl rfl (by decide) (Nat.le_of_ble_eq_true rfl) ?_
  refine ac_if_ne 14 11 dX7_picture_8 (by decide) rfl (fun _ => ?_) (fun c_8 => absurd c_8 (by decide))
  refine ac_iload_n 15 dX7_picture_14 rfl rfl ?_
  refine ac_tableIn 62 1 47 dX7_picture_15 (by decide) (by decide) (by decide) (by decide) ?_
  refine ac_aload_n 63 dX7_picture_62 rfl rfl ?_
  refine ac_getO 66 7 dX7_picture_63 rfl fl7_27 ob0 rfl ?_
  refine ac_getO 69 9 dX7_picture_66 rfl fl7_137 ob7 rfl ?_
  refine ac_iload_n 70 dX7_picture_69 rfl rfl ?_
  refine ac_iald 71 dX7_picture_70 rfl ar9 (ix_nI (by omega) (by decide)) ?_
  rw [show (M 9 j) = (w (4 + 4 * j + 1)) from (hw.p1 hj)]
  refine ac_iret dX7_picture_71 ⟨_, rfl, rfl⟩ ?_
  exact rv_mk rfl
set_option maxRecDepth 20000 in
theorem q7_pic2 {M : am_I} {V : am_J} {f : Nat → Option Nat} {w : rN} {np nd nh j : Nat} (hw : CW M 7 w np nd nh) (hj : j < np) : CT m7_picture 3 [Value.ref 0, Value.int (nI j), Value.int 2] M V f (RV (w (4 + 4 * j + 2)) M V f) := by
  have h5 := hw.n5
  have h3 := hw.n3
  have h16 := hw.n16
  refine CT.of m7_picture_V.1 _ (en_aii_3 0 (nI j) 2) ?_
  refine ac_aload_n 1 dX7_picture_0 rfl rfl ?_
  refine ac_getO 4 7 dX7_picture_1 rfl fl7_27 ob0 rfl ?_
  refine ac_iload_n 5 dX7_picture_4 rfl rfl ?_
  refine ac_callV (μ' := m6_hasPicture) 8 dX7_picture_5 rfl lk7_85 m6_hasPicture_V ob7 (c6_hasPictureT hw hj) rfl rfl (by decide) (Nat.le_of_ble_eq_true rfl) ?_
  refine ac_if_ne 14 11 dX7_picture_8 (by decide) rfl (fun _ => ?_) (fun c_8 => absurd c_8 (by decide))
  refine ac_iload_n 15 dX7_picture_14 rfl rfl ?_
  refine ac_tableIn 72 2 57 dX7_picture_15 (by decide) (by decide) (by decide) (by decide) ?_
  refine ac_aload_n 73 dX7_picture_72 rfl rfl ?_
  refine ac_getO 76 7 dX7_picture_73 rfl fl7_27 ob0 rfl ?_
  refine ac_getO 79 10 dX7_picture_76 rfl fl7_140 ob7 rfl ?_
  refine ac_iload_n 80 dX7_picture_79 rfl rfl ?_
  refine ac_iald 81 dX7_picture_80 rfl ar10 (ix_nI (by omega) (by decide)) ?_
  rw [show (M 10 j) = (w (4 + 4 * j + 2)) from (hw.p2 hj)]
  refine ac_iret dX7_picture_81 ⟨_, rfl, rfl⟩ ?_
  exact rv_mk rfl
set_option maxRecDepth 20000 in
theorem q7_pic3 {M : am_I} {V : am_J} {f : Nat → Option Nat} {w : rN} {np nd nh j : Nat} (hw : CW M 7 w np nd nh) (hj : j < np) : CT m7_picture 3 [Value.ref 0, Value.int (nI j), Value.int 3] M V f (RV (w (4 + 4 * j + 3)) M V f) := by
  have h5 := hw.n5
  have h3 := hw.n3
  have h16 := hw.n16
  refine CT.of m7_picture_V.1 _ (en_aii_3 0 (nI j) 3) ?_
  refine ac_aload_n 1 dX7_picture_0 rfl rfl ?_
  refine ac_getO 4 7 dX7_picture_1 rfl fl7_27 ob0 rfl ?_
  refine ac_iload_n 5 dX7_picture_4 rfl rfl ?_
  refine ac_callV (μ' := m6_hasPicture) 8 dX7_picture_5 rfl lk7_85 m6_hasPicture_V ob7 (c6_hasPictureT hw hj) rfl rfl (by decide) (Nat.le_of_ble_eq_true rfl) ?_
  refine ac_if_ne 14 11 dX7_picture_8 (by decide) rfl (fun _ => ?_) (fun c_8 => absurd c_8 (by decide))
  refine ac_iload_n 15 dX7_picture_14 rfl rfl ?_
  refine ac_tableIn 82 3 67 dX7_picture_15 (by decide) (by decide) (by decide) (by decide) ?_
  refine ac_aload_n 83 dX7_picture_82 rfl rfl ?_
  refine ac_getO 86 7 dX7_picture_83 rfl fl7_27 ob0 rfl ?_
  refine ac_getO 89 11 dX7_picture_86 rfl fl7_143 ob7 rfl ?_
  refine ac_iload_n 90 dX7_picture_89 rfl rfl ?_
  refine ac_iald 91 dX7_picture_90 rfl ar11 (ix_nI (by omega) (by decide)) ?_
  rw [show (M 11 j) = (w (4 + 4 * j + 3)) from (hw.p3 hj)]
  refine ac_iret dX7_picture_91 ⟨_, rfl, rfl⟩ ?_
  exact rv_mk rfl
set_option maxRecDepth 20000 in
theorem q7_pic4 {M : am_I} {V : am_J} {f : Nat → Option Nat} {w : rN} {np nd nh j : Nat} (hw : CW M 7 w np nd nh) (hj : j < np) : CT m7_picture 3 [Value.ref 0, Value.int (nI j), Value.int 4] M V f (RV (w (64 + j)) M V f) := by
  have h5 := hw.n5
  have h3 := hw.n3
  have h16 := hw.n16
  refine CT.of m7_picture_V.1 _ (en_aii_3 0 (nI j) 4) ?_
  refine ac_aload_n 1 dX7_picture_0 rfl rfl ?_
  refine ac_getO 4 7 dX7_picture_1 rfl fl7_27 ob0 rfl ?_
  refine ac_iload_n 5 dX7_picture_4 rfl rfl ?_
  refine ac_callV (μ' := m6_hasPicture) 8 dX7_picture_5 rfl lk7_85 m6_hasPicture_V ob7 (c6_hasPictureT hw hj) rfl rfl (by decide) (Nat.le_of_ble_eq_true rfl) ?_
  refine ac_if_ne 14 11 dX7_picture_8 (by decide) rfl (fun _ => ?_) (fun c_8 => absurd c_8 (by decide))
  refine ac_iload_n 15 dX7_picture_14 rfl rfl ?_
  refine ac_tableIn 92 4 77 dX7_picture_15 (by decide) (by decide) (by decide) (by decide) ?_
  refine ac_aload_n 93 dX7_picture_92 rfl rfl ?_
  refine ac_getO 96 7 dX7_picture_93 rfl fl7_27 ob0 rfl ?_
  refine ac_getO 99 12 dX7_picture_96 rfl fl7_106 ob7 rfl ?_
  refine ac_iload_n 100 dX7_picture_99 rfl rfl ?_
  refine ac_iald 101 dX7_picture_100 rfl ar12 (ix_nI (by omega) (by decide)) ?_
  rw [show (M 12 j) = (w (64 + j)) from (hw.p4 hj)]
  refine ac_iret dX7_picture_101 ⟨_, rfl, rfl⟩ ?_
  exact rv_mk rfl
set_option maxRecDepth 20000 in
theorem q7_pic5 {M : am_I} {V : am_J} {f : Nat → Option Nat} {w : rN} {np nd nh j : Nat} (hw : CW M 7 w np nd nh) (hj : j < np) : CT m7_picture 3 [Value.ref 0, Value.int (nI j), Value.int 5] M V f (RV (hkY w j) M V f) := by
  have h5 := hw.n5
  have h3 := hw.n3
  have h16 := hw.n16
  refine CT.of m7_picture_V.1 _ (en_aii_3 0 (nI j) 5) ?_
  refine ac_aload_n 1 dX7_picture_0 rfl rfl ?_
  refine ac_getO 4 7 dX7_picture_1 rfl fl7_27 ob0 rfl ?_
  refine ac_iload_n 5 dX7_picture_4 rfl rfl ?_
  refine ac_callV (μ' := m6_hasPicture) 8 dX7_picture_5 rfl lk7_85 m6_hasPicture_V ob7 (c6_hasPictureT hw hj) rfl rfl (by decide) (Nat.le_of_ble_eq_true rfl) ?_
  refine ac_if_ne 14 11 dX7_picture_8 (by decide) rfl (fun _ => ?_) (fun c_8 => absurd c_8 (by decide))
  refine ac_iload_n 15 dX7_picture_14 rfl rfl ?_
  refine ac_tableIn 102 5 87 dX7_picture_15 (by decide) (by decide) (by decide) (by decide) ?_
  refine ac_aload_n 103 dX7_picture_102 rfl rfl ?_
  refine ac_getO 106 7 dX7_picture_103 rfl fl7_27 ob0 rfl ?_
  refine ac_iload_n 107 dX7_picture_106 rfl rfl ?_
  refine ac_callV (μ' := m6_hookY) 110 dX7_picture_107 rfl lk7_146 m6_hookY_V ob7 (c6_hookY hw hj) rfl rfl (by decide) (Nat.le_of_ble_eq_true rfl) ?_
  refine ac_iret dX7_picture_110 ⟨_, rfl, rfl⟩ ?_
  exact rv_mk rfl
set_option maxRecDepth 20000 in
theorem q7_holF {M : am_I} {V : am_J} {f : Nat → Option Nat} {w : rN} {np nd nh : Nat} (hw : CW M 7 w np nd nh) {p : Int32} (hp : ¬ vI p nh) (what : Int32) : CT m7_hole 4 [Value.ref 0, Value.int p, Value.int what] M V f (RV (-1000000) M V f) := by
  refine CT.of m7_hole_V.1 _ (en_aii_3 0 p what) ?_
  refine ac_aload_n 1 dX7_hole_0 rfl rfl ?_
  refine ac_getO 4 7 dX7_hole_1 rfl fl7_27 ob0 rfl ?_
  refine ac_iload_n 5 dX7_hole_4 rfl rfl ?_
  refine ac_callV (μ' := m6_hasHole) 8 dX7_hole_5 rfl lk7_109 m6_hasHole_V ob7 (c6_hasHoleF hw hp) rfl rfl (by decide) (Nat.le_of_ble_eq_true rfl) ?_
  refine ac_if_ne 14 11 dX7_hole_8 (by decide) rfl (fun c_8 => absurd (by decide) c_8) (fun _ => ?_)
  refine ac_ldc 13 dX7_hole_11 rfl kc7_133 ?_
  refine ac_iret dX7_hole_13 ⟨_, rfl, rfl⟩ ?_
  exact rv_mk rfl
set_option maxRecDepth 20000 in
theorem q7_holW {M : am_I} {V : am_J} {f : Nat → Option Nat} {w : rN} {np nd nh j : Nat} (hw : CW M 7 w np nd nh) (hj : j < nh) {what : Int32} (hq : ¬ vI what 3) : CT m7_hole 4 [Value.ref 0, Value.int (nI j), Value.int what] M V f (RV (-1000000) M V f) := by
  refine CT.of m7_hole_V.1 _ (en_aii_3 0 (nI j) what) ?_
  refine ac_aload_n 1 dX7_hole_0 rfl rfl ?_
  refine ac_getO 4 7 dX7_hole_1 rfl fl7_27 ob0 rfl ?_
  refine ac_iload_n 5 dX7_hole_4 rfl rfl ?_
  refine ac_callV (μ' := m6_hasHole) 8 dX7_hole_5 rfl lk7_109 m6_hasHole_V ob7 (c6_hasHoleT hw hj) rfl rfl (by decide) (Nat.le_of_ble_eq_true rfl) ?_
  refine ac_if_ne 14 11 dX7_hole_8 (by decide) rfl (fun _ => ?_) (fun c_8 => absurd c_8 (by decide))
  refine ac_iload_n 15 dX7_hole_14 rfl rfl ?_
  refine ac_tableOut 69 dX7_hole_15 (wh_out (n := 3) (by decide) hq) (by decide) ?_
  refine ac_ldc 71 dX7_hole_69 rfl kc7_133 ?_
  refine ac_iret dX7_hole_71 ⟨_, rfl, rfl⟩ ?_
  exact rv_mk rfl
set_option maxRecDepth 20000 in
theorem q7_hol0 {M : am_I} {V : am_J} {f : Nat → Option Nat} {w : rN} {np nd nh j : Nat} (hw : CW M 7 w np nd nh) (hj : j < nh) : CT m7_hole 4 [Value.ref 0, Value.int (nI j), Value.int 0] M V f (RV (w (32 + 2 * j)) M V f) := by
  have h5 := hw.n5
  have h3 := hw.n3
  have h16 := hw.n16
  refine CT.of m7_hole_V.1 _ (en_aii_3 0 (nI j) 0) ?_
  refine ac_aload_n 1 dX7_hole_0 rfl rfl ?_
  refine ac_getO 4 7 dX7_hole_1 rfl fl7_27 ob0 rfl ?_
  refine ac_iload_n 5 dX7_hole_4 rfl rfl ?_
  refine ac_callV (μ' := m6_hasHole) 8 dX7_hole_5 rfl lk7_109 m6_hasHole_V ob7 (c6_hasHoleT hw hj) rfl rfl (by decide) (Nat.le_of_ble_eq_true rfl) ?_
  refine ac_if_ne 14 11 dX7_hole_8 (by decide) rfl (fun _ => ?_) (fun c_8 => absurd c_8 (by decide))
  refine ac_iload_n 15 dX7_hole_14 rfl rfl ?_
  refine ac_tableIn 40 0 25 dX7_hole_15 (by decide) (by decide) (by decide) (by decide) ?_
  refine ac_aload_n 41 dX7_hole_40 rfl rfl ?_
  refine ac_getO 44 7 dX7_hole_41 rfl fl7_27 ob0 rfl ?_
  refine ac_getO 47 15 dX7_hole_44 rfl fl7_149 ob7 rfl ?_
  refine ac_iload_n 48 dX7_hole_47 rfl rfl ?_
  refine ac_iald 49 dX7_hole_48 rfl ar15 (ix_nI (by omega) (by decide)) ?_
  rw [show (M 15 j) = (w (32 + 2 * j)) from (hw.h0 hj)]
  refine ac_iret dX7_hole_49 ⟨_, rfl, rfl⟩ ?_
  exact rv_mk rfl
set_option maxRecDepth 20000 in
theorem q7_hol1 {M : am_I} {V : am_J} {f : Nat → Option Nat} {w : rN} {np nd nh j : Nat} (hw : CW M 7 w np nd nh) (hj : j < nh) : CT m7_hole 4 [Value.ref 0, Value.int (nI j), Value.int 1] M V f (RV (w (32 + 2 * j + 1)) M V f) := by
  have h5 := hw.n5
  have h3 := hw.n3
  have h16 := hw.n16
  refine CT.of m7_hole_V.1 _ (en_aii_3 0 (nI j) 1) ?_
  refine ac_aload_n 1 dX7_hole_0 rfl rfl ?_
  refine ac_getO 4 7 dX7_hole_1 rfl fl7_27 ob0 rfl ?_
  refine ac_iload_n 5 dX7_hole_4 rfl rfl ?_
  refine ac_callV (μ' := m6_hasHole) 8 dX7_hole_5 rfl lk7_109 m6_hasHole_V ob7 (c6_hasHoleT hw hj) rfl rfl (by decide) (Nat.le_of_ble_eq_true rfl) ?_
  refine ac_if_ne 14 11 dX7_hole_8 (by decide) rfl (fun _ => ?_) (fun c_8 => absurd c_8 (by decide))
  refine ac_iload_n 15 dX7_hole_14 rfl rfl ?_
  refine ac_tableIn 50 1 35 dX7_hole_15 (by decide) (by decide) (by decide) (by decide) ?_
  refine ac_aload_n 51 dX7_hole_50 rfl rfl ?_
  refine ac_getO 54 7 dX7_hole_51 rfl fl7_27 ob0 rfl ?_
  refine ac_getO 57 16 dX7_hole_54 rfl fl7_152 ob7 rfl ?_
  refine ac_iload_n 58 dX7_hole_57 rfl rfl ?_
  refine ac_iald 59 dX7_hole_58 rfl ar16 (ix_nI (by omega) (by decide)) ?_
  rw [show (M 16 j) = (w (32 + 2 * j + 1)) from (hw.h1 hj)]
  refine ac_iret dX7_hole_59 ⟨_, rfl, rfl⟩ ?_
  exact rv_mk rfl
set_option maxRecDepth 20000 in
theorem q7_hol2 {M : am_I} {V : am_J} {f : Nat → Option Nat} {w : rN} {np nd nh j : Nat} (hw : CW M 7 w np nd nh) (hj : j < nh) : CT m7_hole 4 [Value.ref 0, Value.int (nI j), Value.int 2] M V f (RV (dlst (onN w j) np np) M V f) := by
  have h5 := hw.n5
  have h3 := hw.n3
  have h16 := hw.n16
  refine CT.of m7_hole_V.1 _ (en_aii_3 0 (nI j) 2) ?_
  refine ac_aload_n 1 dX7_hole_0 rfl rfl ?_
  refine ac_getO 4 7 dX7_hole_1 rfl fl7_27 ob0 rfl ?_
  refine ac_iload_n 5 dX7_hole_4 rfl rfl ?_
  refine ac_callV (μ' := m6_hasHole) 8 dX7_hole_5 rfl lk7_109 m6_hasHole_V ob7 (c6_hasHoleT hw hj) rfl rfl (by decide) (Nat.le_of_ble_eq_true rfl) ?_
  refine ac_if_ne 14 11 dX7_hole_8 (by decide) rfl (fun _ => ?_) (fun c_8 => absurd c_8 (by decide))
  refine ac_iload_n 15 dX7_hole_14 rfl rfl ?_
  refine ac_tableIn 60 2 45 dX7_hole_15 (by decide) (by decide) (by decide) (by decide) ?_
  refine ac_aload_n 61 dX7_hole_60 rfl rfl ?_
  refine ac_getO 64 7 dX7_hole_61 rfl fl7_27 ob0 rfl ?_
  refine ac_iload_n 65 dX7_hole_64 rfl rfl ?_
  refine ac_callV (μ' := m6_findPictureOn) 68 dX7_hole_65 rfl lk7_112 m6_findPictureOn_V ob7 (c6_on hw hj) rfl rfl (by decide) (Nat.le_of_ble_eq_true rfl) ?_
  refine ac_iret dX7_hole_68 ⟨_, rfl, rfl⟩ ?_
  exact rv_mk rfl
set_option maxRecDepth 20000 in
theorem q7_dooF {M : am_I} {V : am_J} {f : Nat → Option Nat} {w : rN} {np nd nh : Nat} (hw : CW M 7 w np nd nh) {p : Int32} (hp : ¬ vI p nd) (what : Int32) : CT m7_door 2 [Value.ref 0, Value.int p, Value.int what] M V f (RV (-1) M V f) := by
  refine CT.of m7_door_V.1 _ (en_aii_3 0 p what) ?_
  refine ac_aload_n 1 dX7_door_0 rfl rfl ?_
  refine ac_getO 4 7 dX7_door_1 rfl fl7_27 ob0 rfl ?_
  refine ac_iload_n 5 dX7_door_4 rfl rfl ?_
  refine ac_callV (μ' := m6_hasDoor) 8 dX7_door_5 rfl lk7_155 m6_hasDoor_V ob7 (c6_hasDoorF hw hp) rfl rfl (by decide) (Nat.le_of_ble_eq_true rfl) ?_
  refine ac_if_ne 13 11 dX7_door_8 (by decide) rfl (fun c_8 => absurd (by decide) c_8) (fun _ => ?_)
  refine ac_iconst 12 (-1) dX7_door_11 rfl (by decide) ?_
  refine ac_iret dX7_door_12 ⟨_, rfl, rfl⟩ ?_
  exact rv_mk rfl
set_option maxRecDepth 20000 in
theorem q7_dooW {M : am_I} {V : am_J} {f : Nat → Option Nat} {w : rN} {np nd nh j : Nat} (hw : CW M 7 w np nd nh) (hj : j < nd) {what : Int32} (hq : ¬ vI what 2) : CT m7_door 2 [Value.ref 0, Value.int (nI j), Value.int what] M V f (RV (-1) M V f) := by
  refine CT.of m7_door_V.1 _ (en_aii_3 0 (nI j) what) ?_
  refine ac_aload_n 1 dX7_door_0 rfl rfl ?_
  refine ac_getO 4 7 dX7_door_1 rfl fl7_27 ob0 rfl ?_
  refine ac_iload_n 5 dX7_door_4 rfl rfl ?_
  refine ac_callV (μ' := m6_hasDoor) 8 dX7_door_5 rfl lk7_155 m6_hasDoor_V ob7 (c6_hasDoorT hw hj) rfl rfl (by decide) (Nat.le_of_ble_eq_true rfl) ?_
  refine ac_if_ne 13 11 dX7_door_8 (by decide) rfl (fun _ => ?_) (fun c_8 => absurd c_8 (by decide))
  refine ac_iload_n 14 dX7_door_13 rfl rfl ?_
  refine ac_lookup 60 46 dX7_door_14 (by decide) ((lv_osw (k := 0) (fun e => hq ⟨0, by decide, e⟩) (by decide)).trans ((lv_osw (k := 1) (fun e => hq ⟨1, by decide, e⟩) (by decide)).trans rfl)) (by decide) ?_
  refine ac_iconst 61 (-1) dX7_door_60 rfl (by decide) ?_
  refine ac_iret dX7_door_61 ⟨_, rfl, rfl⟩ ?_
  exact rv_mk rfl
set_option maxRecDepth 20000 in
theorem q7_doo0 {M : am_I} {V : am_J} {f : Nat → Option Nat} {w : rN} {np nd nh j : Nat} (hw : CW M 7 w np nd nh) (hj : j < nd) : CT m7_door 2 [Value.ref 0, Value.int (nI j), Value.int 0] M V f (RV (w (25 + 2 * j)) M V f) := by
  have h5 := hw.n5
  have h3 := hw.n3
  have h16 := hw.n16
  refine CT.of m7_door_V.1 _ (en_aii_3 0 (nI j) 0) ?_
  refine ac_aload_n 1 dX7_door_0 rfl rfl ?_
  refine ac_getO 4 7 dX7_door_1 rfl fl7_27 ob0 rfl ?_
  refine ac_iload_n 5 dX7_door_4 rfl rfl ?_
  refine ac_callV (μ' := m6_hasDoor) 8 dX7_door_5 rfl lk7_155 m6_hasDoor_V ob7 (c6_hasDoorT hw hj) rfl rfl (by decide) (Nat.le_of_ble_eq_true rfl) ?_
  refine ac_if_ne 13 11 dX7_door_8 (by decide) rfl (fun _ => ?_) (fun c_8 => absurd c_8 (by decide))
  refine ac_iload_n 14 dX7_door_13 rfl rfl ?_
  refine ac_lookup 40 26 dX7_door_14 (by decide) (by decide) (by decide) ?_
  refine ac_aload_n 41 dX7_door_40 rfl rfl ?_
  refine ac_getO 44 7 dX7_door_41 rfl fl7_27 ob0 rfl ?_
  refine ac_getO 47 13 dX7_door_44 rfl fl7_158 ob7 rfl ?_
  refine ac_iload_n 48 dX7_door_47 rfl rfl ?_
  refine ac_iald 49 dX7_door_48 rfl ar13 (ix_nI (by omega) (by decide)) ?_
  rw [show (M 13 j) = (w (25 + 2 * j)) from (hw.d0 hj)]
  refine ac_iret dX7_door_49 ⟨_, rfl, rfl⟩ ?_
  exact rv_mk rfl
set_option maxRecDepth 20000 in
theorem q7_doo1 {M : am_I} {V : am_J} {f : Nat → Option Nat} {w : rN} {np nd nh j : Nat} (hw : CW M 7 w np nd nh) (hj : j < nd) : CT m7_door 2 [Value.ref 0, Value.int (nI j), Value.int 1] M V f (RV (w (25 + 2 * j + 1)) M V f) := by
  have h5 := hw.n5
  have h3 := hw.n3
  have h16 := hw.n16
  refine CT.of m7_door_V.1 _ (en_aii_3 0 (nI j) 1) ?_
  refine ac_aload_n 1 dX7_door_0 rfl rfl ?_
  refine ac_getO 4 7 dX7_door_1 rfl fl7_27 ob0 rfl ?_
  refine ac_iload_n 5 dX7_door_4 rfl rfl ?_
  refine ac_callV (μ' := m6_hasDoor) 8 dX7_door_5 rfl lk7_155 m6_hasDoor_V ob7 (c6_hasDoorT hw hj) rfl rfl (by decide) (Nat.le_of_ble_eq_true rfl) ?_
  refine ac_if_ne 13 11 dX7_door_8 (by decide) rfl (fun _ => ?_) (fun c_8 => absurd c_8 (by decide))
  refine ac_iload_n 14 dX7_door_13 rfl rfl ?_
  refine ac_lookup 50 36 dX7_door_14 (by decide) (by decide) (by decide) ?_
  refine ac_aload_n 51 dX7_door_50 rfl rfl ?_
  refine ac_getO 54 7 dX7_door_51 rfl fl7_27 ob0 rfl ?_
  refine ac_getO 57 14 dX7_door_54 rfl fl7_161 ob7 rfl ?_
  refine ac_iload_n 58 dX7_door_57 rfl rfl ?_
  refine ac_iald 59 dX7_door_58 rfl ar14 (ix_nI (by omega) (by decide)) ?_
  rw [show (M 14 j) = (w (25 + 2 * j + 1)) from (hw.d1 hj)]
  refine ac_iret dX7_door_59 ⟨_, rfl, rfl⟩ ?_
  exact rv_mk rfl
set_option maxRecDepth 20000 in
theorem q7_mom0 {M : am_I} {V : am_J} {f : Nat → Option Nat} {w : rN} {np nd nh : Nat} (hw : CW M 7 w np nd nh) : CT m7_moment 5 [Value.ref 0, Value.int 0] M V f (RV (moN w np) M V f) := by
  refine CT.of m7_moment_V.1 _ (en_ai_2 0 0) ?_
  refine ac_iload_n 1 dX7_moment_0 rfl rfl ?_
  refine ac_lookup 28 27 dX7_moment_1 (by decide) (by decide) (by decide) ?_
  refine ac_aload_n 29 dX7_moment_28 rfl rfl ?_
  refine ac_getO 32 7 dX7_moment_29 rfl fl7_27 ob0 rfl ?_
  refine ac_callV (μ' := m6_momentNow) 35 dX7_moment_32 rfl lk7_164 m6_momentNow_V ob7 (c6_momentNow hw) rfl rfl (by decide) (Nat.le_of_ble_eq_true rfl) ?_
  refine ac_iret dX7_moment_35 ⟨_, rfl, rfl⟩ ?_
  exact rv_mk rfl
set_option maxRecDepth 20000 in
theorem q7_mom1 {M : am_I} {V : am_J} {f : Nat → Option Nat} {w : rN} {np nd nh : Nat} (hw : CW M 7 w np nd nh) : CT m7_moment 5 [Value.ref 0, Value.int 1] M V f (RV (abN (moN w np)) M V f) := by
  refine CT.of m7_moment_V.1 _ (en_ai_2 0 1) ?_
  refine ac_iload_n 1 dX7_moment_0 rfl rfl ?_
  refine ac_lookup 36 35 dX7_moment_1 (by decide) (by decide) (by decide) ?_
  refine ac_aload_n 37 dX7_moment_36 rfl rfl ?_
  refine ac_getO 40 7 dX7_moment_37 rfl fl7_27 ob0 rfl ?_
  refine ac_callV (μ' := m6_momentNow) 43 dX7_moment_40 rfl lk7_164 m6_momentNow_V ob7 (c6_momentNow hw) rfl rfl (by decide) (Nat.le_of_ble_eq_true rfl) ?_
  refine ac_abs 46 dX7_moment_43 rfl lkj7_168 (by decide) (Nat.le_of_ble_eq_true rfl) ?_
  refine ac_iret dX7_moment_46 ⟨_, rfl, rfl⟩ ?_
  exact rv_mk rfl
set_option maxRecDepth 20000 in
theorem q7_momW {M : am_I} {V : am_J} {f : Nat → Option Nat} {what : Int32} (hq : ¬ vI what 2) : CT m7_moment 5 [Value.ref 0, Value.int what] M V f (RV (-1000000) M V f) := by
  refine CT.of m7_moment_V.1 _ (en_ai_2 0 what) ?_
  refine ac_iload_n 1 dX7_moment_0 rfl rfl ?_
  refine ac_lookup 47 46 dX7_moment_1 (by decide) ((lv_osw (k := 0) (fun e => hq ⟨0, by decide, e⟩) (by decide)).trans ((lv_osw (k := 1) (fun e => hq ⟨1, by decide, e⟩) (by decide)).trans rfl)) (by decide) ?_
  refine ac_ldc 49 dX7_moment_47 rfl kc7_133 ?_
  refine ac_iret dX7_moment_49 ⟨_, rfl, rfl⟩ ?_
  exact rv_mk rfl
set_option maxRecDepth 20000 in
theorem q7_cnt0 {M : am_I} {V : am_J} {f : Nat → Option Nat} {w : rN} {np nd nh : Nat} (hw : CW M 7 w np nd nh) : CT m7_count 2 [Value.ref 0, Value.int 0] M V f (RV (w 0) M V f) := by
  refine CT.of m7_count_V.1 _ (en_ai_2 0 0) ?_
  refine ac_iload_n 1 dX7_count_0 rfl rfl ?_
  refine ac_tableIn 56 0 55 dX7_count_1 (by decide) (by decide) (by decide) (by decide) ?_
  refine ac_aload_n 57 dX7_count_56 rfl rfl ?_
  refine ac_getO 60 7 dX7_count_57 rfl fl7_27 ob0 rfl ?_
  refine ac_getI 63 dX7_count_60 rfl fl7_208 ob7 ?_
  rw [show (M 7 0) = (w 0) from hw.s0]
  refine ac_iret dX7_count_63 ⟨_, rfl, rfl⟩ ?_
  exact rv_mk rfl
set_option maxRecDepth 20000 in
theorem q7_cnt1 {M : am_I} {V : am_J} {f : Nat → Option Nat} {w : rN} {np nd nh : Nat} (hw : CW M 7 w np nd nh) : CT m7_count 2 [Value.ref 0, Value.int 1] M V f (RV (w 1) M V f) := by
  refine CT.of m7_count_V.1 _ (en_ai_2 0 1) ?_
  refine ac_iload_n 1 dX7_count_0 rfl rfl ?_
  refine ac_tableIn 64 1 63 dX7_count_1 (by decide) (by decide) (by decide) (by decide) ?_
  refine ac_aload_n 65 dX7_count_64 rfl rfl ?_
  refine ac_getO 68 7 dX7_count_65 rfl fl7_27 ob0 rfl ?_
  refine ac_getI 71 dX7_count_68 rfl fl7_120 ob7 ?_
  rw [show (M 7 1) = (w 1) from hw.s1]
  refine ac_iret dX7_count_71 ⟨_, rfl, rfl⟩ ?_
  exact rv_mk rfl
set_option maxRecDepth 20000 in
theorem q7_cnt2 {M : am_I} {V : am_J} {f : Nat → Option Nat} {w : rN} {np nd nh : Nat} (hw : CW M 7 w np nd nh) : CT m7_count 2 [Value.ref 0, Value.int 2] M V f (RV (w 2) M V f) := by
  refine CT.of m7_count_V.1 _ (en_ai_2 0 2) ?_
  refine ac_iload_n 1 dX7_count_0 rfl rfl ?_
  refine ac_tableIn 72 2 71 dX7_count_1 (by decide) (by decide) (by decide) (by decide) ?_
  refine ac_aload_n 73 dX7_count_72 rfl rfl ?_
  refine ac_getO 76 7 dX7_count_73 rfl fl7_27 ob0 rfl ?_
  refine ac_getI 79 dX7_count_76 rfl fl7_211 ob7 ?_
  rw [show (M 7 2) = (w 2) from hw.s2]
  refine ac_iret dX7_count_79 ⟨_, rfl, rfl⟩ ?_
  exact rv_mk rfl
set_option maxRecDepth 20000 in
theorem q7_cnt3 {M : am_I} {V : am_J} {f : Nat → Option Nat} {w : rN} {np nd nh : Nat} (hw : CW M 7 w np nd nh) : CT m7_count 2 [Value.ref 0, Value.int 3] M V f (RV (nI np) M V f) := by
  refine CT.of m7_count_V.1 _ (en_ai_2 0 3) ?_
  refine ac_iload_n 1 dX7_count_0 rfl rfl ?_
  refine ac_tableIn 80 3 79 dX7_count_1 (by decide) (by decide) (by decide) (by decide) ?_
  refine ac_aload_n 81 dX7_count_80 rfl rfl ?_
  refine ac_getO 84 7 dX7_count_81 rfl fl7_27 ob0 rfl ?_
  refine ac_getI 87 dX7_count_84 rfl fl7_214 ob7 ?_
  rw [show (M 7 3) = (nI np) from hw.s3]
  refine ac_iret dX7_count_87 ⟨_, rfl, rfl⟩ ?_
  exact rv_mk rfl
set_option maxRecDepth 20000 in
theorem q7_cnt4 {M : am_I} {V : am_J} {f : Nat → Option Nat} {w : rN} {np nd nh : Nat} (hw : CW M 7 w np nd nh) : CT m7_count 2 [Value.ref 0, Value.int 4] M V f (RV (nI nd) M V f) := by
  refine CT.of m7_count_V.1 _ (en_ai_2 0 4) ?_
  refine ac_iload_n 1 dX7_count_0 rfl rfl ?_
  refine ac_tableIn 88 4 87 dX7_count_1 (by decide) (by decide) (by decide) (by decide) ?_
  refine ac_aload_n 89 dX7_count_88 rfl rfl ?_
  refine ac_getO 92 7 dX7_count_89 rfl fl7_27 ob0 rfl ?_
  refine ac_getI 95 dX7_count_92 rfl fl7_217 ob7 ?_
  rw [show (M 7 4) = (nI nd) from hw.s4]
  refine ac_iret dX7_count_95 ⟨_, rfl, rfl⟩ ?_
  exact rv_mk rfl
set_option maxRecDepth 20000 in
theorem q7_cnt5 {M : am_I} {V : am_J} {f : Nat → Option Nat} {w : rN} {np nd nh : Nat} (hw : CW M 7 w np nd nh) : CT m7_count 2 [Value.ref 0, Value.int 5] M V f (RV (nI nh) M V f) := by
  refine CT.of m7_count_V.1 _ (en_ai_2 0 5) ?_
  refine ac_iload_n 1 dX7_count_0 rfl rfl ?_
  refine ac_tableIn 96 5 95 dX7_count_1 (by decide) (by decide) (by decide) (by decide) ?_
  refine ac_aload_n 97 dX7_count_96 rfl rfl ?_
  refine ac_getO 100 7 dX7_count_97 rfl fl7_27 ob0 rfl ?_
  refine ac_getI 103 dX7_count_100 rfl fl7_99 ob7 ?_
  rw [show (M 7 5) = (nI nh) from hw.s5]
  refine ac_iret dX7_count_103 ⟨_, rfl, rfl⟩ ?_
  exact rv_mk rfl
set_option maxRecDepth 20000 in
theorem q7_cnt6 {M : am_I} {V : am_J} {f : Nat → Option Nat} {w : rN} {np nd nh : Nat} (hw : CW M 7 w np nd nh) : CT m7_count 2 [Value.ref 0, Value.int 6] M V f (RV (upN w np) M V f) := by
  refine CT.of m7_count_V.1 _ (en_ai_2 0 6) ?_
  refine ac_iload_n 1 dX7_count_0 rfl rfl ?_
  refine ac_tableIn 104 6 103 dX7_count_1 (by decide) (by decide) (by decide) (by decide) ?_
  refine ac_aload_n 105 dX7_count_104 rfl rfl ?_
  refine ac_getO 108 7 dX7_count_105 rfl fl7_27 ob0 rfl ?_
  refine ac_callV (μ' := m6_countUp) 111 dX7_count_108 rfl lk7_205 m6_countUp_V ob7 (c6_countUp hw) rfl rfl (by decide) (Nat.le_of_ble_eq_true rfl) ?_
  refine ac_iret dX7_count_111 ⟨_, rfl, rfl⟩ ?_
  exact rv_mk rfl
set_option maxRecDepth 20000 in
theorem q7_cnt7 {M : am_I} {V : am_J} {f : Nat → Option Nat} {w : rN} {np nd nh : Nat} (hw : CW M 7 w np nd nh) : CT m7_count 2 [Value.ref 0, Value.int 7] M V f (RV (M 96 2) M V f) := by
  refine CT.of m7_count_V.1 _ (en_ai_2 0 7) ?_
  refine ac_iload_n 1 dX7_count_0 rfl rfl ?_
  refine ac_tableIn 112 7 111 dX7_count_1 (by decide) (by decide) (by decide) (by decide) ?_
  refine ac_aload_n 113 dX7_count_112 rfl rfl ?_
  refine ac_getO 116 96 dX7_count_113 rfl fl7_62 ob0 rfl ?_
  refine ac_getI 119 dX7_count_116 rfl fl7_193 ob96 ?_
  refine ac_iret dX7_count_119 ⟨_, rfl, rfl⟩ ?_
  exact rv_mk rfl
set_option maxRecDepth 20000 in
theorem q7_cnt8 {M : am_I} {V : am_J} {f : Nat → Option Nat} {w : rN} {np nd nh : Nat} (hw : CW M 7 w np nd nh) : CT m7_count 2 [Value.ref 0, Value.int 8] M V f (RV (M 0 1) M V f) := by
  refine CT.of m7_count_V.1 _ (en_ai_2 0 8) ?_
  refine ac_iload_n 1 dX7_count_0 rfl rfl ?_
  refine ac_tableIn 120 8 119 dX7_count_1 (by decide) (by decide) (by decide) (by decide) ?_
  refine ac_aload_n 121 dX7_count_120 rfl rfl ?_
  refine ac_getI 124 dX7_count_121 rfl fl7_13 ob0 ?_
  refine ac_iret dX7_count_124 ⟨_, rfl, rfl⟩ ?_
  exact rv_mk rfl
set_option maxRecDepth 20000 in
theorem q7_cnt9 {M : am_I} {V : am_J} {f : Nat → Option Nat} {w : rN} {np nd nh : Nat} (hw : CW M 7 w np nd nh) : CT m7_count 2 [Value.ref 0, Value.int 9] M V f (RV (M 27 1) M V f) := by
  refine CT.of m7_count_V.1 _ (en_ai_2 0 9) ?_
  refine ac_iload_n 1 dX7_count_0 rfl rfl ?_
  refine ac_tableIn 125 9 124 dX7_count_1 (by decide) (by decide) (by decide) (by decide) ?_
  refine ac_aload_n 126 dX7_count_125 rfl rfl ?_
  refine ac_getO 129 27 dX7_count_126 rfl fl7_37 ob0 rfl ?_
  refine ac_getI 132 dX7_count_129 rfl fl7_130 ob27 ?_
  refine ac_iret dX7_count_132 ⟨_, rfl, rfl⟩ ?_
  exact rv_mk rfl
set_option maxRecDepth 20000 in
theorem q7_cntW {M : am_I} {V : am_J} {f : Nat → Option Nat} {what : Int32} (hq : ¬ vI what 10) : CT m7_count 2 [Value.ref 0, Value.int what] M V f (RV (-1) M V f) := by
  refine CT.of m7_count_V.1 _ (en_ai_2 0 what) ?_
  refine ac_iload_n 1 dX7_count_0 rfl rfl ?_
  refine ac_tableOut 133 dX7_count_1 (wh_out (n := 10) (by decide) hq) (by decide) ?_
  refine ac_iconst 134 (-1) dX7_count_133 rfl (by decide) ?_
  refine ac_iret dX7_count_134 ⟨_, rfl, rfl⟩ ?_
  exact rv_mk rfl
set_option maxRecDepth 20000 in
theorem c4_me0 {M : am_I} {V : am_J} {f : Nat → Option Nat} {w : rN} {np nd nh j : Nat} (hw : CW M 7 w np nd nh) (hj : j < np) : CT m4_measured 3 [Value.ref 7, Value.int (nI j), Value.int 0] M V f (RV (meN w j 0) M V f) := by
  have h5 := hw.n5
  have h3 := hw.n3
  have h16 := hw.n16
  refine CT.of m4_measured_S.1 _ (en_aii_3 7 (nI j) 0) ?_
  refine ac_aload_n 1 dX4_measured_0 rfl rfl ?_
  refine ac_iload_n 2 dX4_measured_1 rfl rfl ?_
  refine ac_callV (μ' := m6_hasPicture) 5 dX4_measured_2 rfl lk4_35 m6_hasPicture_V ob7 (c6_hasPictureT hw hj) rfl rfl (by decide) (Nat.le_of_ble_eq_true rfl) ?_
  refine ac_if_ne 11 8 dX4_measured_5 (by decide) rfl (fun _ => ?_) (fun c_5 => absurd c_5 (by decide))
  refine ac_iload_n 12 dX4_measured_11 rfl rfl ?_
  refine ac_tableIn 40 0 28 dX4_measured_12 (by decide) (by decide) (by decide) (by decide) ?_
  refine ac_aload_n 41 dX4_measured_40 rfl rfl ?_
  refine ac_getO 44 8 dX4_measured_41 rfl fl4_40 ob7 rfl ?_
  refine ac_iload_n 45 dX4_measured_44 rfl rfl ?_
  refine ac_iald 46 dX4_measured_45 rfl ar8 (ix_nI (by omega) (by decide)) ?_
  rw [show (M 8 j) = (w (4 + 4 * j)) from (hw.p0 hj)]
  refine ac_iret dX4_measured_46 ⟨_, rfl, rfl⟩ ?_
  exact rv_mk rfl
set_option maxRecDepth 20000 in
theorem c4_me1 {M : am_I} {V : am_J} {f : Nat → Option Nat} {w : rN} {np nd nh j : Nat} (hw : CW M 7 w np nd nh) (hj : j < np) : CT m4_measured 3 [Value.ref 7, Value.int (nI j), Value.int 1] M V f (RV (meN w j 1) M V f) := by
  have h5 := hw.n5
  have h3 := hw.n3
  have h16 := hw.n16
  refine CT.of m4_measured_S.1 _ (en_aii_3 7 (nI j) 1) ?_
  refine ac_aload_n 1 dX4_measured_0 rfl rfl ?_
  refine ac_iload_n 2 dX4_measured_1 rfl rfl ?_
  refine ac_callV (μ' := m6_hasPicture) 5 dX4_measured_2 rfl lk4_35 m6_hasPicture_V ob7 (c6_hasPictureT hw hj) rfl rfl (by decide) (Nat.le_of_ble_eq_true rfl) ?_
  refine ac_if_ne 11 8 dX4_measured_5 (by decide) rfl (fun _ => ?_) (fun c_5 => absurd c_5 (by decide))
  refine ac_iload_n 12 dX4_measured_11 rfl rfl ?_
  refine ac_tableIn 47 1 35 dX4_measured_12 (by decide) (by decide) (by decide) (by decide) ?_
  refine ac_aload_n 48 dX4_measured_47 rfl rfl ?_
  refine ac_getO 51 9 dX4_measured_48 rfl fl4_43 ob7 rfl ?_
  refine ac_iload_n 52 dX4_measured_51 rfl rfl ?_
  refine ac_iald 53 dX4_measured_52 rfl ar9 (ix_nI (by omega) (by decide)) ?_
  rw [show (M 9 j) = (w (4 + 4 * j + 1)) from (hw.p1 hj)]
  refine ac_iret dX4_measured_53 ⟨_, rfl, rfl⟩ ?_
  exact rv_mk rfl
set_option maxRecDepth 20000 in
theorem c4_me2 {M : am_I} {V : am_J} {f : Nat → Option Nat} {w : rN} {np nd nh j : Nat} (hw : CW M 7 w np nd nh) (hj : j < np) : CT m4_measured 3 [Value.ref 7, Value.int (nI j), Value.int 2] M V f (RV (meN w j 2) M V f) := by
  have h5 := hw.n5
  have h3 := hw.n3
  have h16 := hw.n16
  refine CT.of m4_measured_S.1 _ (en_aii_3 7 (nI j) 2) ?_
  refine ac_aload_n 1 dX4_measured_0 rfl rfl ?_
  refine ac_iload_n 2 dX4_measured_1 rfl rfl ?_
  refine ac_callV (μ' := m6_hasPicture) 5 dX4_measured_2 rfl lk4_35 m6_hasPicture_V ob7 (c6_hasPictureT hw hj) rfl rfl (by decide) (Nat.le_of_ble_eq_true rfl) ?_
  refine ac_if_ne 11 8 dX4_measured_5 (by decide) rfl (fun _ => ?_) (fun c_5 => absurd c_5 (by decide))
  refine ac_iload_n 12 dX4_measured_11 rfl rfl ?_
  refine ac_tableIn 54 2 42 dX4_measured_12 (by decide) (by decide) (by decide) (by decide) ?_
  refine ac_aload_n 55 dX4_measured_54 rfl rfl ?_
  refine ac_getO 58 11 dX4_measured_55 rfl fl4_46 ob7 rfl ?_
  refine ac_iload_n 59 dX4_measured_58 rfl rfl ?_
  refine ac_iald 60 dX4_measured_59 rfl ar11 (ix_nI (by omega) (by decide)) ?_
  rw [show (M 11 j) = (w (4 + 4 * j + 3)) from (hw.p3 hj)]
  refine ac_iret dX4_measured_60 ⟨_, rfl, rfl⟩ ?_
  exact rv_mk rfl
set_option maxRecDepth 20000 in
theorem c4_me3 {M : am_I} {V : am_J} {f : Nat → Option Nat} {w : rN} {np nd nh j : Nat} (hw : CW M 7 w np nd nh) (hj : j < np) : CT m4_measured 3 [Value.ref 7, Value.int (nI j), Value.int 3] M V f (RV (meN w j 3) M V f) := by
  have h5 := hw.n5
  have h3 := hw.n3
  have h16 := hw.n16
  refine CT.of m4_measured_S.1 _ (en_aii_3 7 (nI j) 3) ?_
  refine ac_aload_n 1 dX4_measured_0 rfl rfl ?_
  refine ac_iload_n 2 dX4_measured_1 rfl rfl ?_
  refine ac_callV (μ' := m6_hasPicture) 5 dX4_measured_2 rfl lk4_35 m6_hasPicture_V ob7 (c6_hasPictureT hw hj) rfl rfl (by decide) (Nat.le_of_ble_eq_true rfl) ?_
  refine ac_if_ne 11 8 dX4_measured_5 (by decide) rfl (fun _ => ?_) (fun c_5 => absurd c_5 (by decide))
  refine ac_iload_n 12 dX4_measured_11 rfl rfl ?_
  refine ac_tableOut 61 dX4_measured_12 (by decide) (by decide) ?_
  refine ac_aload_n 62 dX4_measured_61 rfl rfl ?_
  refine ac_iload_n 63 dX4_measured_62 rfl rfl ?_
  refine ac_callV (μ' := m6_hookY) 66 dX4_measured_63 rfl lk4_49 m6_hookY_V ob7 (c6_hookY hw hj) rfl rfl (by decide) (Nat.le_of_ble_eq_true rfl) ?_
  refine ac_iret dX4_measured_66 ⟨_, rfl, rfl⟩ ?_
  exact rv_mk rfl
theorem c4_me {M : am_I} {V : am_J} {f : Nat → Option Nat} {w : rN} {np nd nh j : Nat} (hw : CW M 7 w np nd nh) (hj : j < np) : ∀ {a : Nat}, a < 4 → CT m4_measured 3 [.ref 7, .int (nI j), .int (nI a)] M V f (RV (meN w j (nI a)) M V f)
  | 0, _ => c4_me0 hw hj
  | 1, _ => c4_me1 hw hj
  | 2, _ => c4_me2 hw hj
  | 3, _ => c4_me3 hw hj
  | a + 4, h => absurd h (by omega)
/-- what the class saw -/
def CS (M : am_I) (ns : Nat) : Prop := M 96 2 = nI ns ∧ ns ≤ 6 ∧ ∀ k, k < ns → ∃ a, a < 4 ∧ M 97 k = nI a
set_option maxRecDepth 20000 in
theorem c4_matches {M : am_I} {V : am_J} {f : Nat → Option Nat} {w : rN} {np nd nh j : Nat} (hw : CW M 7 w np nd nh) (hj : j < np) {ns : Nat} (hs : CS M ns) : CT m4_matches 4 [Value.ref 96, Value.ref 7, Value.int (nI j)] M V f (RV (bi ((seN w (M 97) (M 98) ns) j)) M V f) := by
  have h5 := hw.n5
  have h3 := hw.n3
  have h16 := hw.n16
  have h6 := hs.2.1
  refine CT.of m4_matches_V.1 _ (en_aai_4 96 7 (nI j)) ?_
  refine ac_iconst 1 0 dX4_matches_0 rfl (by decide) ?_
  refine ac_istore_n 2 [some (Value.ref 96), some (Value.ref 7), some (Value.int (nI j)), some (Value.int 0)] dX4_matches_1 rfl rfl (Nat.le_of_ble_eq_true rfl) (by decide) rfl ?_
  refine ac_down (n := ns) (P := fun k => (∀ i, i < k → meN w j (M 97 i) = M 98 i) → A0 m4_matches 4 2 [some (Value.ref 96), some (Value.ref 7), some (Value.int (nI j)), some (Value.int (nI k))] [] M V f (RV (bi ((seN w (M 97) (M 98) ns) j)) M V f)) ?_ ?_ 0 (Nat.zero_le _) (fun i hi => absurd hi (Nat.not_lt_zero i))
  · intro hpr
    refine ac_iload_n 3 dX4_matches_2 rfl rfl ?_
    refine ac_aload_n 4 dX4_matches_3 rfl rfl ?_
    refine ac_getI 7 dX4_matches_4 rfl fl4_18 ob96 ?_
    rw [show (M 96 2) = (nI ns) from hs.1]
    refine ac_icmp_ge 38 10 dX4_matches_7 (by decide) rfl (fun _ => ?_) (fun c_7 => absurd (Int32.le_refl _) c_7)
    refine ac_iconst 39 1 dX4_matches_38 rfl (by decide) ?_
    refine ac_iret dX4_matches_39 ⟨_, rfl, rfl⟩ ?_
    exact rv_mk (bi_t hpr).symm
  · intro k hk ih hpr
    obtain ⟨a, ha, ea⟩ := hs.2.2 k hk
    refine ac_iload_n 3 dX4_matches_2 rfl rfl ?_
    refine ac_aload_n 4 dX4_matches_3 rfl rfl ?_
    refine ac_getI 7 dX4_matches_4 rfl fl4_18 ob96 ?_
    rw [show (M 96 2) = (nI ns) from hs.1]
    refine ac_icmp_ge 38 10 dX4_matches_7 (by decide) rfl (fun c_7 => absurd c_7 (nI_ge hk (by omega))) (fun _ => ?_)
    refine ac_aload_n 11 dX4_matches_10 rfl rfl ?_
    refine ac_iload_n 12 dX4_matches_11 rfl rfl ?_
    refine ac_aload_n 13 dX4_matches_12 rfl rfl ?_
    refine ac_getO 16 97 dX4_matches_13 rfl fl4_9 ob96 rfl ?_
    refine ac_iload_n 17 dX4_matches_16 rfl rfl ?_
    refine ac_iald 18 dX4_matches_17 rfl ar97 (ix_nI (by omega) (by decide)) ?_
    rw [show (M 97 k) = (nI a) from ea]
    refine ac_callS (μ' := m4_measured) 21 dX4_matches_18 rfl lk4_31 m4_measured_S (c4_me hw hj ha) rfl rfl (by decide) (Nat.le_of_ble_eq_true rfl) ?_
    refine ac_aload_n 22 dX4_matches_21 rfl rfl ?_
    refine ac_getO 25 98 dX4_matches_22 rfl fl4_15 ob96 rfl ?_
    refine ac_iload_n 26 dX4_matches_25 rfl rfl ?_
    refine ac_iald 27 dX4_matches_26 rfl ar98 (ix_nI (by omega) (by decide)) ?_
    refine ac_icmp_eq 32 30 dX4_matches_27 (by decide) rfl (fun c_27 => ?_) (fun c_27 => ?_)
    · refine ac_iinc 35 (nI (k + 1)) [some (Value.ref 96), some (Value.ref 7), some (Value.int (nI j)), some (Value.int (nI (k + 1)))] dX4_matches_32 rfl rfl (nI_1 _) rfl (by decide) rfl ?_
      refine ac_goto 2 dX4_matches_35 (by decide) ?_
      exact ih (all_suc.mpr ⟨hpr, by rw [ea]; exact c_27⟩)
    · refine ac_iconst 31 0 dX4_matches_30 rfl (by decide) ?_
      refine ac_iret dX4_matches_31 ⟨_, rfl, rfl⟩ ?_
      exact rv_mk (bi_f (fun h => c_27 (by rw [← ea]; exact h k hk))).symm
set_option maxRecDepth 20000 in
theorem c4_count {M : am_I} {V : am_J} {f : Nat → Option Nat} {w : rN} {np nd nh : Nat} (hw : CW M 7 w np nd nh) {ns : Nat} (hs : CS M ns) : CT m4_countMatches 5 [Value.ref 96, Value.ref 7] M V f (RV (acnt (seN w (M 97) (M 98) ns) np) M V f) := by
  have h5 := hw.n5
  have h3 := hw.n3
  have h16 := hw.n16
  refine CT.of m4_countMatches_V.1 _ (en_aa_4 96 7) ?_
  refine ac_iconst 1 0 dX4_countMatches_0 rfl (by decide) ?_
  refine ac_istore_n 2 [some (Value.ref 96), some (Value.ref 7), some (Value.int 0), none] dX4_countMatches_1 rfl rfl (Nat.le_of_ble_eq_true rfl) (by decide) rfl ?_
  have hL : A0 m4_countMatches 5 4 [some (Value.ref 96), some (Value.ref 7), some (Value.int (acnt (seN w (M 97) (M 98) ns) 0)), some (Value.int (nI 0))] [] M V f (RV (acnt (seN w (M 97) (M 98) ns) np) M V f) := by
    refine ac_down (n := np) (P := fun k => A0 m4_countMatches 5 4 [some (Value.ref 96), some (Value.ref 7), some (Value.int (acnt (seN w (M 97) (M 98) ns) k)), some (Value.int (nI k))] [] M V f (RV (acnt (seN w (M 97) (M 98) ns) np) M V f)) ?_ ?_ 0 (Nat.zero_le _) 
    · refine ac_iload_n 5 dX4_countMatches_4 rfl rfl ?_
      refine ac_aload_n 6 dX4_countMatches_5 rfl rfl ?_
      refine ac_getI 9 dX4_countMatches_6 rfl fl4_22 ob7 ?_
      rw [show (M 7 3) = (nI np) from hw.s3]
      refine ac_icmp_ge 30 12 dX4_countMatches_9 (by decide) rfl (fun _ => ?_) (fun c_9 => absurd (Int32.le_refl _) c_9)
      refine ac_iload_n 31 dX4_countMatches_30 rfl rfl ?_
      refine ac_iret dX4_countMatches_31 ⟨_, rfl, rfl⟩ ?_
      exact rv_mk rfl
    · intro k hk ih
      refine ac_iload_n 5 dX4_countMatches_4 rfl rfl ?_
      refine ac_aload_n 6 dX4_countMatches_5 rfl rfl ?_
      refine ac_getI 9 dX4_countMatches_6 rfl fl4_22 ob7 ?_
      rw [show (M 7 3) = (nI np) from hw.s3]
      refine ac_icmp_ge 30 12 dX4_countMatches_9 (by decide) rfl (fun c_9 => absurd c_9 (nI_ge hk (by omega))) (fun _ => ?_)
      refine ac_aload_n 13 dX4_countMatches_12 rfl rfl ?_
      refine ac_aload_n 14 dX4_countMatches_13 rfl rfl ?_
      refine ac_iload_n 15 dX4_countMatches_14 rfl rfl ?_
      refine ac_callV (μ' := m4_matches) 18 dX4_countMatches_15 rfl lk4_27 m4_matches_V ob96 (c4_matches hw hk hs) rfl rfl (by decide) (Nat.le_of_ble_eq_true rfl) ?_
      refine ac_if_eq 24 21 dX4_countMatches_18 (by decide) rfl (fun c_18 => ?_) (fun c_18 => ?_)
      · refine ac_iinc 27 (nI (k + 1)) [some (Value.ref 96), some (Value.ref 7), some (Value.int (acnt (seN w (M 97) (M 98) ns) k)), some (Value.int (nI (k + 1)))] dX4_countMatches_24 rfl rfl (nI_1 _) rfl (by decide) rfl ?_
        refine ac_goto 4 dX4_countMatches_27 (by decide) ?_
        rw [show acnt (seN w (M 97) (M 98) ns) (k + 1) = (acnt (seN w (M 97) (M 98) ns) k) from by first | exact acnt_t (bi_ne0.mp c_18) | exact acnt_f (bi_eq0.mp c_18)] at ih
        exact ih
      · refine ac_iinc 24 ((acnt (seN w (M 97) (M 98) ns) k) + 1) [some (Value.ref 96), some (Value.ref 7), some (Value.int ((acnt (seN w (M 97) (M 98) ns) k) + 1)), some (Value.int (nI k))] dX4_countMatches_21 rfl rfl rfl rfl (by decide) rfl ?_
        refine ac_iinc 27 (nI (k + 1)) [some (Value.ref 96), some (Value.ref 7), some (Value.int ((acnt (seN w (M 97) (M 98) ns) k) + 1)), some (Value.int (nI (k + 1)))] dX4_countMatches_24 rfl rfl (nI_1 _) rfl (by decide) rfl ?_
        refine ac_goto 4 dX4_countMatches_27 (by decide) ?_
        rw [show acnt (seN w (M 97) (M 98) ns) (k + 1) = ((acnt (seN w (M 97) (M 98) ns) k) + 1) from by first | exact acnt_t (bi_ne0.mp c_18) | exact acnt_f (bi_eq0.mp c_18)] at ih
        exact ih
  refine ac_iconst 3 0 dX4_countMatches_2 rfl (by decide) ?_
  refine ac_istore_n 4 [some (Value.ref 96), some (Value.ref 7), some (Value.int 0), some (Value.int 0)] dX4_countMatches_3 rfl rfl (Nat.le_of_ble_eq_true rfl) (by decide) rfl ?_
  exact hL
set_option maxRecDepth 20000 in
theorem c4_least {M : am_I} {V : am_J} {f : Nat → Option Nat} {w : rN} {np nd nh : Nat} (hw : CW M 7 w np nd nh) {ns : Nat} (hs : CS M ns) : CT m4_leastMatch 5 [Value.ref 96, Value.ref 7] M V f (RV (dlst (seN w (M 97) (M 98) ns) np np) M V f) := by
  have h5 := hw.n5
  have h3 := hw.n3
  have h16 := hw.n16
  refine CT.of m4_leastMatch_V.1 _ (en_aa_3 96 7) ?_
  refine ac_iconst 1 0 dX4_leastMatch_0 rfl (by decide) ?_
  refine ac_istore_n 2 [some (Value.ref 96), some (Value.ref 7), some (Value.int 0)] dX4_leastMatch_1 rfl rfl (Nat.le_of_ble_eq_true rfl) (by decide) rfl ?_
  refine ac_down (n := np) (P := fun k => (∀ q, q < k → ¬ (seN w (M 97) (M 98) ns) q) → A0 m4_leastMatch 5 2 [some (Value.ref 96), some (Value.ref 7), some (Value.int (nI k))] [] M V f (RV (dlst (seN w (M 97) (M 98) ns) np np) M V f)) ?_ ?_ 0 (Nat.zero_le _) (fun i hi => absurd hi (Nat.not_lt_zero i))
  · intro hpr
    refine ac_iload_n 3 dX4_leastMatch_2 rfl rfl ?_
    refine ac_aload_n 4 dX4_leastMatch_3 rfl rfl ?_
    refine ac_getI 7 dX4_leastMatch_4 rfl fl4_22 ob7 ?_
    rw [show (M 7 3) = (nI np) from hw.s3]
    refine ac_icmp_ge 27 10 dX4_leastMatch_7 (by decide) rfl (fun _ => ?_) (fun c_7 => absurd (Int32.le_refl _) c_7)
    refine ac_bipush 29 (-9) dX4_leastMatch_27 rfl (by decide) ?_
    refine ac_iret dX4_leastMatch_29 ⟨_, rfl, rfl⟩ ?_
    exact rv_mk (dl_n hpr).symm
  · intro k hk ih hpr
    refine ac_iload_n 3 dX4_leastMatch_2 rfl rfl ?_
    refine ac_aload_n 4 dX4_leastMatch_3 rfl rfl ?_
    refine ac_getI 7 dX4_leastMatch_4 rfl fl4_22 ob7 ?_
    rw [show (M 7 3) = (nI np) from hw.s3]
    refine ac_icmp_ge 27 10 dX4_leastMatch_7 (by decide) rfl (fun c_7 => absurd c_7 (nI_ge hk (by omega))) (fun _ => ?_)
    refine ac_aload_n 11 dX4_leastMatch_10 rfl rfl ?_
    refine ac_aload_n 12 dX4_leastMatch_11 rfl rfl ?_
    refine ac_iload_n 13 dX4_leastMatch_12 rfl rfl ?_
    refine ac_callV (μ' := m4_matches) 16 dX4_leastMatch_13 rfl lk4_27 m4_matches_V ob96 (c4_matches hw hk hs) rfl rfl (by decide) (Nat.le_of_ble_eq_true rfl) ?_
    refine ac_if_eq 21 19 dX4_leastMatch_16 (by decide) rfl (fun c_16 => ?_) (fun c_16 => ?_)
    · refine ac_iinc 24 (nI (k + 1)) [some (Value.ref 96), some (Value.ref 7), some (Value.int (nI (k + 1)))] dX4_leastMatch_21 rfl rfl (nI_1 _) rfl (by decide) rfl ?_
      refine ac_goto 2 dX4_leastMatch_24 (by decide) ?_
      exact ih (all_suc.mpr ⟨hpr, bi_eq0.mp c_16⟩)
    · refine ac_iload_n 20 dX4_leastMatch_19 rfl rfl ?_
      refine ac_iret dX4_leastMatch_20 ⟨_, rfl, rfl⟩ ?_
      exact rv_mk (dl_f (P := (seN w (M 97) (M 98) ns)) (bi_ne0.mp c_16) hk hpr).symm
set_option maxRecDepth 20000 in
theorem q7_whi0 {M : am_I} {V : am_J} {f : Nat → Option Nat} {w : rN} {np nd nh : Nat} (hw : CW M 7 w np nd nh) {ns : Nat} (hs : CS M ns) : CT m7_which 6 [Value.ref 0, Value.int 0] M V f (RV (acnt (seN w (M 97) (M 98) ns) np) M V f) := by
  refine CT.of m7_which_V.1 _ (en_ai_2 0 0) ?_
  refine ac_iload_n 1 dX7_which_0 rfl rfl ?_
  refine ac_lookup 28 27 dX7_which_1 (by decide) (by decide) (by decide) ?_
  refine ac_aload_n 29 dX7_which_28 rfl rfl ?_
  refine ac_getO 32 96 dX7_which_29 rfl fl7_62 ob0 rfl ?_
  refine ac_aload_n 33 dX7_which_32 rfl rfl ?_
  refine ac_getO 36 7 dX7_which_33 rfl fl7_27 ob0 rfl ?_
  refine ac_callV (μ' := m4_countMatches) 39 dX7_which_36 rfl lk7_199 m4_countMatches_V ob96 (c4_count hw hs) rfl rfl (by decide) (Nat.le_of_ble_eq_true rfl) ?_
  refine ac_iret dX7_which_39 ⟨_, rfl, rfl⟩ ?_
  exact rv_mk rfl
set_option maxRecDepth 20000 in
theorem q7_whi1 {M : am_I} {V : am_J} {f : Nat → Option Nat} {w : rN} {np nd nh : Nat} (hw : CW M 7 w np nd nh) {ns : Nat} (hs : CS M ns) : CT m7_which 6 [Value.ref 0, Value.int 1] M V f (RV (dlst (seN w (M 97) (M 98) ns) np np) M V f) := by
  refine CT.of m7_which_V.1 _ (en_ai_2 0 1) ?_
  refine ac_iload_n 1 dX7_which_0 rfl rfl ?_
  refine ac_lookup 40 39 dX7_which_1 (by decide) (by decide) (by decide) ?_
  refine ac_aload_n 41 dX7_which_40 rfl rfl ?_
  refine ac_getO 44 96 dX7_which_41 rfl fl7_62 ob0 rfl ?_
  refine ac_aload_n 45 dX7_which_44 rfl rfl ?_
  refine ac_getO 48 7 dX7_which_45 rfl fl7_27 ob0 rfl ?_
  refine ac_callV (μ' := m4_leastMatch) 51 dX7_which_48 rfl lk7_202 m4_leastMatch_V ob96 (c4_least hw hs) rfl rfl (by decide) (Nat.le_of_ble_eq_true rfl) ?_
  refine ac_iret dX7_which_51 ⟨_, rfl, rfl⟩ ?_
  exact rv_mk rfl
set_option maxRecDepth 20000 in
theorem q7_whiW {M : am_I} {V : am_J} {f : Nat → Option Nat} {what : Int32} (hq : ¬ vI what 2) : CT m7_which 6 [Value.ref 0, Value.int what] M V f (RV (-1) M V f) := by
  refine CT.of m7_which_V.1 _ (en_ai_2 0 what) ?_
  refine ac_iload_n 1 dX7_which_0 rfl rfl ?_
  refine ac_lookup 52 51 dX7_which_1 (by decide) ((lv_osw (k := 0) (fun e => hq ⟨0, by decide, e⟩) (by decide)).trans ((lv_osw (k := 1) (fun e => hq ⟨1, by decide, e⟩) (by decide)).trans rfl)) (by decide) ?_
  refine ac_iconst 53 (-1) dX7_which_52 rfl (by decide) ?_
  refine ac_iret dX7_which_53 ⟨_, rfl, rfl⟩ ?_
  exact rv_mk rfl
