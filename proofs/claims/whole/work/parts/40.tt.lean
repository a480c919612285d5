/-! The text cut into tokens: token i starts at tsP i. -/
noncomputable def tsP (tx : Nat → Nat) (n : Nat) : Nat → Nat
  | 0 => skP tx n 0
  | i + 1 => skP tx n (teP tx n (tsP tx n i))
theorem skP_blank {tx : Nat → Nat} {n p : Nat} (h : p < n) (hb : tx p = 32) : skP tx n p = skP tx n (p + 1) := by
  obtain ⟨f1, f2, f3, f4⟩ := rnE_spec (fun y => tx y = 32) n (p + 1) h
  refine rnE_un (by omega) (by unfold skP; omega) f2 (fun y h1 h2 => ?_) f4
  by_cases hy : y = p
  · subst hy; exact hb
  · exact f3 y (by omega) h2
theorem skP_self {tx : Nat → Nat} {n p : Nat} (h : p ≤ n) (hb : p < n → tx p ≠ 32) : skP tx n p = p := rnE_un h (Nat.le_refl _) h (fun y h1 h2 => absurd h2 (by omega)) hb
theorem skP_at {tx : Nat → Nat} {n a : Nat} (h : a ≤ n) (h2 : skP tx n a < n) : tx (skP tx n a) ≠ 32 := (rnE_spec (fun y => tx y = 32) n a h).2.2.2 h2
theorem skP_sk {tx : Nat → Nat} {n a : Nat} (h : a ≤ n) : skP tx n (skP tx n a) = skP tx n a := skP_self (skP_le h).2 (fun q => skP_at h q)
theorem te_blank {tx : Nat → Nat} {n p : Nat} (hb : tx p = 32) : teP tx n p = p + 1 := (cif_f (by unfold isF; omega)).trans (cif_f (by unfold isW; omega))
/-- token i as it was laid -/
def TKE (M : am_I) (tx : Nat → Nat) (n i : Nat) : Prop := tsP tx n i < n ∧ M 4 i = nI (kdP tx n (tsP tx n i)) ∧ M 5 i = nI (tsP tx n i) ∧ M 6 i = nI (vtP tx n (tsP tx n i))
def TK (M : am_I) (tx : Nat → Nat) (n m : Nat) : Prop := M 3 3 = nI (m + 1) ∧ m ≤ 120 ∧ tsP tx n m = n ∧ (∀ i, i < m → TKE M tx n i) ∧ M 4 m = 0 ∧ M 5 m = nI n
def KCu (M M' : am_I) : Prop := ∀ i, i ≠ 3 → i ≠ 4 → i ≠ 5 → i ≠ 6 → M' i = M i
theorem TX.keep {M M' : am_I} {tx : Nat → Nat} {n : Nat} (h : TX M tx n) (e : M' 1 = M 1) : TX M' tx n := ⟨h.1, fun y hy => by rw [e]; exact h.2 y hy⟩
def CI4 (M : am_I) (tx : Nat → Nat) (n p j : Nat) : Prop := p ≤ n ∧ j ≤ p ∧ skP tx n p = tsP tx n j ∧ M 3 3 = nI j ∧ ∀ i, i < j → TKE M tx n i
set_option maxRecDepth 20000 in
theorem c5_add {M : am_I} {V : am_J} {f : Nat → Option Nat} {j : Nat} (hj : M 3 3 = nI j) (h9 : j < 121) (K P X : Int32) : CT m5_add 1 [Value.ref 3, Value.int K, Value.int P, Value.int X] M V f (RM none (am_up (am_up (am_up (am_up M 4 j K) 5 j P) 6 j X) 3 3 (nI (j + 1))) V f) := by
  refine CT.of m5_add_V.1 _ (en_aiii_4 3 K P X) ?_
  refine ac_aload_n 1 dX5_add_0 rfl rfl ?_
  refine ac_getI 4 dX5_add_1 rfl fl5_21 ob3 ?_
  rw [show (M 3 3) = (nI j) from hj]
  refine ac_bipush 6 121 dX5_add_4 rfl (by decide) ?_
  refine ac_icmp_ge 49 9 dX5_add_6 (by decide) rfl (fun c_6 => absurd c_6 (nI_ge (b := 121) h9 (by decide))) (fun _ => ?_)
  refine ac_aload_n 10 dX5_add_9 rfl rfl ?_
  refine ac_getO 13 4 dX5_add_10 rfl fl5_11 ob3 rfl ?_
  refine ac_aload_n 14 dX5_add_13 rfl rfl ?_
  refine ac_getI 17 dX5_add_14 rfl fl5_21 ob3 ?_
  rw [show (M 3 3) = (nI j) from hj]
  refine ac_iload_n 18 dX5_add_17 rfl rfl ?_
  refine ac_iast 19 dX5_add_18 rfl ar4 (ix_nI (by omega) (by decide)) ?_
  refine ac_aload_n 20 dX5_add_19 rfl rfl ?_
  refine ac_getO 23 5 dX5_add_20 rfl fl5_15 ob3 rfl ?_
  refine ac_aload_n 24 dX5_add_23 rfl rfl ?_
  refine ac_getI 27 dX5_add_24 rfl fl5_21 ob3 ?_
  rw [show ((am_up M 4 j K) 3 3) = (M 3 3) from rfl]
  rw [show (M 3 3) = (nI j) from hj]
  refine ac_iload_n 28 dX5_add_27 rfl rfl ?_
  refine ac_iast 29 dX5_add_28 rfl ar5 (ix_nI (by omega) (by decide)) ?_
  refine ac_aload_n 30 dX5_add_29 rfl rfl ?_
  refine ac_getO 33 6 dX5_add_30 rfl fl5_18 ob3 rfl ?_
  refine ac_aload_n 34 dX5_add_33 rfl rfl ?_
  refine ac_getI 37 dX5_add_34 rfl fl5_21 ob3 ?_
  rw [show ((am_up (am_up M 4 j K) 5 j P) 3 3) = (M 3 3) from rfl]
  rw [show (M 3 3) = (nI j) from hj]
  refine ac_iload_n 38 dX5_add_37 rfl rfl ?_
  refine ac_iast 39 dX5_add_38 rfl ar6 (ix_nI (by omega) (by decide)) ?_
  refine ac_aload_n 40 dX5_add_39 rfl rfl ?_
  refine ac_dup 41 dX5_add_40 rfl rfl ?_
  refine ac_getI 44 dX5_add_41 rfl fl5_21 ob3 ?_
  rw [show ((am_up (am_up (am_up M 4 j K) 5 j P) 6 j X) 3 3) = (M 3 3) from rfl]
  rw [show (M 3 3) = (nI j) from hj]
  refine ac_iconst 45 1 dX5_add_44 rfl (by decide) ?_
  refine ac_iadd 46 dX5_add_45 rfl ?_
  rw [show ((nI j) + 1) = (nI (j + 1)) from (nI_1 j)]
  refine ac_putI 49 dX5_add_46 rfl fl5_21 rfl rfl ob3 ?_
  refine ac_vret dX5_add_49 rfl ?_
  exact rm_mk rfl
theorem ad_M {M : am_I} {j : Nat} {K P X : Int32} : KCu M (am_up (am_up (am_up (am_up M 4 j K) 5 j P) 6 j X) 3 3 (nI (j + 1))) := fun i h3 h4 h5 h6 => by rw [am_up_ne h3, am_up_ne h6, am_up_ne h5, am_up_ne h4]
theorem ad_e {M : am_I} {j i : Nat} {K P X : Int32} (h : i < j) : (am_up (am_up (am_up (am_up M 4 j K) 5 j P) 6 j X) 3 3 (nI (j + 1))) 4 i = M 4 i ∧ (am_up (am_up (am_up (am_up M 4 j K) 5 j P) 6 j X) 3 3 (nI (j + 1))) 5 i = M 5 i ∧ (am_up (am_up (am_up (am_up M 4 j K) 5 j P) 6 j X) 3 3 (nI (j + 1))) 6 i = M 6 i := by
  refine ⟨?_, ?_, ?_⟩
  · rw [am_up_ne (by decide), am_up_ne (by decide), am_up_ne (by decide), up_ne (by omega)]
  · rw [am_up_ne (by decide), am_up_ne (by decide), up_ne (by omega), am_up_ne (by decide)]
  · rw [am_up_ne (by decide), up_ne (by omega), am_up_ne (by decide), am_up_ne (by decide)]
theorem ad_j {M : am_I} {j : Nat} {K P X : Int32} : (am_up (am_up (am_up (am_up M 4 j K) 5 j P) 6 j X) 3 3 (nI (j + 1))) 4 j = K ∧ (am_up (am_up (am_up (am_up M 4 j K) 5 j P) 6 j X) 3 3 (nI (j + 1))) 5 j = P ∧ (am_up (am_up (am_up (am_up M 4 j K) 5 j P) 6 j X) 3 3 (nI (j + 1))) 6 j = X := by
  refine ⟨?_, ?_, ?_⟩
  · rw [am_up_ne (by decide), am_up_ne (by decide), am_up_ne (by decide), up_eq]
  · rw [am_up_ne (by decide), am_up_ne (by decide), up_eq]
  · rw [am_up_ne (by decide), up_eq]
set_option maxRecDepth 20000 in
theorem c5_cutL {V : am_J} {f : Nat → Option Nat} {tx : Nat → Nat} {n : Nat} {M0 : am_I} : ∀ (k : Nat) (M : am_I) (p j : Nat), TX M tx n → CI4 M tx n p j → KCu M0 M → n - p < k → A0 m5_cut 8 7 [some (Value.ref 3), some (Value.ref 1), some (Value.int (nI n)), some (Value.int (nI p)), none] [] M V f (fun v M' V' f' => v = none ∧ V' = V ∧ f' = f ∧ KCu M0 M' ∧ ∃ m, TK M' tx n m)
  | 0, M, p, j, hX, hI, hk, hf => absurd hf (Nat.not_lt_zero _)
  | k + 1, M, p, j, hX, hI, hk, hf => by
    have hn := hX.1
    have hp := hI.1
    refine ac_iload_n 8 dX5_cut_7 rfl rfl ?_
    refine ac_iload_n 9 dX5_cut_8 rfl rfl ?_
    refine ac_icmp_ge 65 12 dX5_cut_9 (by decide) rfl (fun c_9 => ?_) (fun c_9 => ?_)
    · have hge : ¬ p < n := fun q => absurd ((nI_leI (by omega) (by omega)).mp c_9) (by omega)
      have hpn : p = n := by omega
      subst hpn
      refine ac_aload_n 66 dX5_cut_65 rfl rfl ?_
      refine ac_iconst 67 0 dX5_cut_66 rfl (by decide) ?_
      refine ac_iload_n 68 dX5_cut_67 rfl rfl ?_
      refine ac_iconst 69 0 dX5_cut_68 rfl (by decide) ?_
      refine ac_callVm (μ' := m5_add) 72 dX5_cut_69 rfl lk5_35 m5_add_V ob3 (c5_add hI.2.2.2.1 (by have := hI.2.1; omega) _ _ _) rfl rfl (by decide) (Nat.le_of_ble_eq_true rfl) ?_
      refine ac_vret dX5_cut_72 rfl ?_
      refine ⟨rfl, rfl, rfl, fun i h3 h4 h5 h6 => (ad_M i h3 h4 h5 h6).trans (hk i h3 h4 h5 h6), j, rfl, by have := hI.2.1; omega, hI.2.2.1.symm.trans (skP_self (Nat.le_refl _) (fun q => absurd q (by omega))), fun i hi => ?_, ad_j.1, ad_j.2.1⟩
      obtain ⟨e1, e2, e3, e4⟩ := hI.2.2.2.2 i hi
      obtain ⟨g1, g2, g3⟩ := ad_e (M := M) (j := j) (i := i) (K := 0) (P := (nI p)) (X := 0) hi
      exact ⟨e1, g1.trans e2, g2.trans e3, g3.trans e4⟩
    · have hlt : p < n := Nat.lt_of_not_le (fun q => c_9 (nI_le q (by omega)))
      have ht := teP_le (tx := tx) hlt
      have hT := hX.2 p hlt
      refine ac_iload_n 13 dX5_cut_12 rfl rfl ?_
      refine ac_aload_n 14 dX5_cut_13 rfl rfl ?_
      refine ac_alen 15 120 dX5_cut_14 rfl ar1 (by decide) ?_
      refine ac_icmp_ge 65 18 dX5_cut_15 (by decide) rfl (fun c_15 => absurd c_15 (nI_ge (b := 120) (by omega) (by decide))) (fun _ => ?_)
      refine ac_aload_n 19 dX5_cut_18 rfl rfl ?_
      refine ac_iload_n 20 dX5_cut_19 rfl rfl ?_
      refine ac_iload_n 21 dX5_cut_20 rfl rfl ?_
      refine ac_callS (μ' := m5_endOfToken) 24 dX5_cut_21 rfl lk5_25 m5_endOfToken_S (c5_end hX hlt) rfl rfl (by decide) (Nat.le_of_ble_eq_true rfl) ?_
      refine ac_istore 26 [some (Value.ref 3), some (Value.ref 1), some (Value.int (nI n)), some (Value.int (nI p)), some (Value.int (nI (teP tx n p)))] dX5_cut_24 rfl rfl (Nat.le_of_ble_eq_true rfl) (by decide) rfl ?_
      refine ac_aload_n 27 dX5_cut_26 rfl rfl ?_
      refine ac_iload_n 28 dX5_cut_27 rfl rfl ?_
      refine ac_iald 29 dX5_cut_28 rfl ar1 (ix_nI (by omega) (by decide)) ?_
      rw [show (M 1 p) = (nI (tx p)) from hT.1]
      refine ac_bipush 31 32 dX5_cut_29 rfl (by decide) ?_
      refine ac_icmp_eq 53 34 dX5_cut_31 (by decide) rfl (fun c_31 => ?_) (fun c_31 => ?_)
      · have hbl : tx p = 32 := (nI_eq (b := 32) (by have := hT.2; omega) (by decide)).mp c_31
        refine ac_iload 55 dX5_cut_53 rfl rfl ?_
        refine ac_iload_n 56 dX5_cut_55 rfl rfl ?_
        refine ac_iconst 57 1 dX5_cut_56 rfl (by decide) ?_
        refine ac_iadd 58 dX5_cut_57 rfl ?_
        rw [show ((nI p) + 1) = (nI (p + 1)) from (nI_1 _)]
        refine ac_max 61 dX5_cut_58 rfl lkj5_39 (by decide) (Nat.le_of_ble_eq_true rfl) ?_
        rw [show (if (nI (teP tx n p)) < (nI (p + 1)) then (nI (p + 1)) else (nI (teP tx n p))) = (nI (teP tx n p)) from (if_neg (nI_nlt (by omega) (by omega)))]
        refine ac_istore_n 62 [some (Value.ref 3), some (Value.ref 1), some (Value.int (nI n)), some (Value.int (nI (teP tx n p))), some (Value.int (nI (teP tx n p)))] dX5_cut_61 rfl rfl (Nat.le_of_ble_eq_true rfl) (by decide) rfl ?_
        refine ac_goto 7 dX5_cut_62 (by decide) ?_
        refine ac_kill 4 [some (Value.ref 3), some (Value.ref 1), some (Value.int (nI n)), some (Value.int (nI (teP tx n p))), none] rfl ?_
        exact c5_cutL k M (teP tx n p) j (hX) ⟨ht.2, by have := hI.2.1; rw [te_blank hbl]; omega, by rw [te_blank hbl, ← skP_blank hlt hbl]; exact hI.2.2.1, hI.2.2.2.1, hI.2.2.2.2⟩ hk (by omega)
      · have hbl : tx p ≠ 32 := fun q => c_31 (by rw [q]; rfl)
        refine ac_aload_n 35 dX5_cut_34 rfl rfl ?_
        refine ac_aload_n 36 dX5_cut_35 rfl rfl ?_
        refine ac_iload_n 37 dX5_cut_36 rfl rfl ?_
        refine ac_iload 39 dX5_cut_37 rfl rfl ?_
        refine ac_callS (μ' := m5_kindOf) 42 dX5_cut_39 rfl lk5_29 m5_kindOf_S (c5_kind hX hlt) rfl rfl (by decide) (Nat.le_of_ble_eq_true rfl) ?_
        refine ac_iload_n 43 dX5_cut_42 rfl rfl ?_
        refine ac_aload_n 44 dX5_cut_43 rfl rfl ?_
        refine ac_iload_n 45 dX5_cut_44 rfl rfl ?_
        refine ac_iload 47 dX5_cut_45 rfl rfl ?_
        refine ac_callS (μ' := m5_valueOf) 50 dX5_cut_47 rfl lk5_32 m5_valueOf_S (c5_val hX hlt) rfl rfl (by decide) (Nat.le_of_ble_eq_true rfl) ?_
        refine ac_callVm (μ' := m5_add) 53 dX5_cut_50 rfl lk5_35 m5_add_V ob3 (c5_add hI.2.2.2.1 (by have := hI.2.1; omega) _ _ _) rfl rfl (by decide) (Nat.le_of_ble_eq_true rfl) ?_
        refine ac_iload 55 dX5_cut_53 rfl rfl ?_
        refine ac_iload_n 56 dX5_cut_55 rfl rfl ?_
        refine ac_iconst 57 1 dX5_cut_56 rfl (by decide) ?_
        refine ac_iadd 58 dX5_cut_57 rfl ?_
        rw [show ((nI p) + 1) = (nI (p + 1)) from (nI_1 _)]
        refine ac_max 61 dX5_cut_58 rfl lkj5_39 (by decide) (Nat.le_of_ble_eq_true rfl) ?_
        rw [show (if (nI (teP tx n p)) < (nI (p + 1)) then (nI (p + 1)) else (nI (teP tx n p))) = (nI (teP tx n p)) from (if_neg (nI_nlt (by omega) (by omega)))]
        refine ac_istore_n 62 [some (Value.ref 3), some (Value.ref 1), some (Value.int (nI n)), some (Value.int (nI (teP tx n p))), some (Value.int (nI (teP tx n p)))] dX5_cut_61 rfl rfl (Nat.le_of_ble_eq_true rfl) (by decide) rfl ?_
        refine ac_goto 7 dX5_cut_62 (by decide) ?_
        refine ac_kill 4 [some (Value.ref 3), some (Value.ref 1), some (Value.int (nI n)), some (Value.int (nI (teP tx n p))), none] rfl ?_
        have es : tsP tx n j = p := hI.2.2.1.symm.trans (skP_self hI.1 (fun _ => hbl))
        exact c5_cutL k _ (teP tx n p) (j + 1) (hX.keep (ad_M 1 (by decide) (by decide) (by decide) (by decide))) ⟨ht.2, by have := hI.2.1; omega, by show _ = skP tx n (teP tx n (tsP tx n j)); rw [es], rfl, fun i hi => by
          by_cases hij : i = j
          · subst hij
            exact ⟨by omega, by rw [ad_j.1, es], by rw [ad_j.2.1, es], by rw [ad_j.2.2, es]⟩
          · obtain ⟨e1, e2, e3, e4⟩ := hI.2.2.2.2 i (by omega)
            obtain ⟨g1, g2, g3⟩ := ad_e (M := M) (j := j) (i := i) (K := (nI (kdP tx n p))) (P := (nI p)) (X := (nI (vtP tx n p))) (by omega)
            exact ⟨e1, g1.trans e2, g2.trans e3, g3.trans e4⟩⟩ (fun i h3 h4 h5 h6 => (ad_M i h3 h4 h5 h6).trans (hk i h3 h4 h5 h6)) (by omega)
set_option maxRecDepth 20000 in
theorem c5_cut {M : am_I} {V : am_J} {f : Nat → Option Nat} {tx : Nat → Nat} {n : Nat} (hX : TX M tx n) : CT m5_cut 8 [Value.ref 3, Value.ref 1, Value.int (nI n)] M V f (fun v M' V' f' => v = none ∧ V' = V ∧ f' = f ∧ KCu M M' ∧ ∃ m, TK M' tx n m) := by
  refine CT.of m5_cut_V.1 _ (en_aai_5 3 1 (nI n)) ?_
  refine ac_aload_n 1 dX5_cut_0 rfl rfl ?_
  refine ac_iconst 2 0 dX5_cut_1 rfl (by decide) ?_
  refine ac_putI 5 dX5_cut_2 rfl fl5_21 rfl rfl ob3 ?_
  refine ac_iconst 6 0 dX5_cut_5 rfl (by decide) ?_
  refine ac_istore_n 7 [some (Value.ref 3), some (Value.ref 1), some (Value.int (nI n)), some (Value.int 0), none] dX5_cut_6 rfl rfl (Nat.le_of_ble_eq_true rfl) (by decide) rfl ?_
  exact c5_cutL (n + 1) (am_up M 3 3 0) 0 0 (hX.keep rfl) ⟨Nat.zero_le _, Nat.le_refl _, rfl, rfl, fun i hi => absurd hi (Nat.not_lt_zero i)⟩ (fun i h3 _ _ _ => am_up_ne h3) (by omega)
