/-! Telling, the class: what a token spells, its value, its kind. -/
theorem ac_callTv {μ : am_M} {d : Nat} {pc : Nat} {ls : List (Option Value)} {st : List Value} {M : am_I} {V : am_J} {f : Nat → Option Nat} {Q : a0_Po} (q : Nat) {μ' : am_M} {idx n d' i : Nat} {As rest : List Value} {x : Int32} (hd : decode μ.2.1 pc = .ok (.invokevirtual idx, 3)) (hp : pc + 3 = q) (hlk : Cond.methodLink μ.1.cls idx μ'.1 ∈ am_g) (hm : am_mT μ' n) (hi : i < 6) (hC : CT μ' d' (.ref (1000 + i) :: As) M V f (RV x M V f)) (hn : As.length = n) (hst : st = As.reverse ++ .ref (1000 + i) :: rest) (hd9 : d' + 1 ≤ d) (hct : (rest.map fun v => v.category).sum ≤ 8)
    (k : A0 μ d q ls (.int x :: rest) M V f Q) : A0 μ d pc ls st M V f Q :=
  ac_callT q hd hp hlk hm hi hC hn hst hd9 hct (fun v M' V' f' ⟨h1, h2, h3, h4⟩ => by subst h1; subst h2; subst h3; subst h4; exact k)
def sbN (i k : Nat) : Nat := ((am_sb.getD i []).getD k 0).toNatClampNeg
theorem sbN_ok : ∀ i, i < 6 → ∀ k, k < 5 → (am_sb.getD i []).getD k 0 = nI (sbN i k) ∧ sbN i k ≤ 255 := by decide
def spP (tx : Nat → Nat) (s e i : Nat) : Prop := e = s + am_sl.getD i 0 ∧ ∀ k, k < am_sl.getD i 0 → tx (s + k) = sbN i k
theorem nI_vl {v t : Nat} (h : 48 ≤ t) : 10 * nI v + nI t - 48 = nI (10 * v + (t - 48)) := by
  rw [show (10 : Int32) = nI 10 from rfl, pk_mul, nI_add, show (48 : Int32) = nI 48 from rfl, nI_subN (by omega)]
  congr 1
  omega
theorem nI_mn {x : Nat} (h : x < 2 ^ 31) : (if (100 : Int32) < nI x then (100 : Int32) else nI x) = nI (if 99 < x then 100 else x) := by
  by_cases hx : 99 < x
  · rw [if_pos hx]
    by_cases h2 : (100 : Int32) < nI x
    · rw [if_pos h2]; rfl
    · rw [if_neg h2]
      have h3 : x = 100 := by
        have h4 : ¬ 100 < x := fun q => h2 (nI_lt (a := 100) q h)
        omega
      rw [h3]
  · have h5 : ¬ (100 : Int32) < nI x := fun q => absurd ((nI_ltI (a := 100) (by decide) h).mp q) (by omega)
    rw [if_neg hx, if_neg h5]
set_option maxRecDepth 20000 in
theorem c5_spells {M : am_I} {V : am_J} {f : Nat → Option Nat} {tx : Nat → Nat} {n s e i : Nat} (hX : TX M tx n) (hse : s ≤ e) (hen : e ≤ n) (hi : i < 6) : CT m5_spells 5 [Value.ref 1, Value.int (nI s), Value.int (nI e), Value.ref (1000 + i)] M V f (RV (bi (spP tx s e i)) M V f) := by
  have hn := hX.1
  have hL5 := (am_sl_all i hi).1
  refine CT.of m5_spells_S.1 _ (en_aiia_5 1 (nI s) (nI e) (1000 + i)) ?_
  refine ac_iload_n 1 dX5_spells_0 rfl rfl ?_
  refine ac_iload_n 2 dX5_spells_1 rfl rfl ?_
  refine ac_isub 3 dX5_spells_2 rfl ?_
  rw [show ((nI e) - (nI s)) = (nI (e - s)) from (nI_subN hse)]
  refine ac_aload_n 4 dX5_spells_3 rfl rfl ?_
  refine ac_callTv (μ' := j0_length_8abf5) 7 dX5_spells_4 rfl (am_gi 331 (by decide +kernel) rfl) j0_length_8abf5_T hi (t0_length hi) rfl rfl (by decide) (Nat.le_of_ble_eq_true rfl) ?_
  refine ac_icmp_ne 20 10 dX5_spells_7 (by decide) rfl (fun c_7 => ?_) (fun c_7 => ?_)
  · have hno : ¬ spP tx s e i := fun q => c_7 (by rw [show e - s = am_sl.getD i 0 from by have := q.1; omega])
    refine ac_iconst 21 0 dX5_spells_20 rfl (by decide) ?_
    refine ac_iret dX5_spells_21 ⟨_, rfl, rfl⟩ ?_
    exact rv_mk (bi_f hno).symm
  · have hLe : e - s = am_sl.getD i 0 := (nI_eq (by omega) (by omega)).mp c_7
    have hse2 : e = s + am_sl.getD i 0 := by omega
    refine ac_iload_n 11 dX5_spells_10 rfl rfl ?_
    refine ac_if_lt 20 14 dX5_spells_11 (by decide) rfl (fun c_11 => absurd c_11 (nI_pos (by omega))) (fun _ => ?_)
    refine ac_iload_n 15 dX5_spells_14 rfl rfl ?_
    refine ac_aload_n 16 dX5_spells_15 rfl rfl ?_
    refine ac_alen 17 120 dX5_spells_16 rfl ar1 (by decide) ?_
    refine ac_icmp_le 22 20 dX5_spells_17 (by decide) rfl (fun _ => ?_) (fun c_17 => absurd (nI_le (b := 120) (by omega) (by decide)) c_17)
    refine ac_iconst 23 0 dX5_spells_22 rfl (by decide) ?_
    refine ac_istore 25 [some (Value.ref 1), some (Value.int (nI s)), some (Value.int (nI e)), some (Value.ref (1000 + i)), some (Value.int 0)] dX5_spells_23 rfl rfl (Nat.le_of_ble_eq_true rfl) (by decide) rfl ?_
    refine ac_down (n := (am_sl.getD i 0)) (P := fun k => (∀ j, j < k → tx (s + j) = sbN i j) → A0 m5_spells 5 25 [some (Value.ref 1), some (Value.int (nI s)), some (Value.int (nI e)), some (Value.ref (1000 + i)), some (Value.int (nI k))] [] M V f (RV (bi (spP tx s e i)) M V f)) ?_ ?_ 0 (Nat.zero_le _) (fun j hj => absurd hj (Nat.not_lt_zero j))
    · intro hpr
      have hyes : spP tx s e i := ⟨hse2, hpr⟩
      refine ac_iload 27 dX5_spells_25 rfl rfl ?_
      refine ac_aload_n 28 dX5_spells_27 rfl rfl ?_
      refine ac_callTv (μ' := j0_length_8abf5) 31 dX5_spells_28 rfl (am_gi 331 (by decide +kernel) rfl) j0_length_8abf5_T hi (t0_length hi) rfl rfl (by decide) (Nat.le_of_ble_eq_true rfl) ?_
      refine ac_icmp_ge 57 34 dX5_spells_31 (by decide) rfl (fun _ => ?_) (fun c_31 => absurd (nI_le (Nat.le_refl _) (by omega)) c_31)
      refine ac_iconst 58 1 dX5_spells_57 rfl (by decide) ?_
      refine ac_iret dX5_spells_58 ⟨_, rfl, rfl⟩ ?_
      exact rv_mk (bi_t hyes).symm
    · intro k hk ih hpr
      have hb := sbN_ok i hi k (by omega)
      have hT := hX.2 (s + k) (by omega)
      refine ac_iload 27 dX5_spells_25 rfl rfl ?_
      refine ac_aload_n 28 dX5_spells_27 rfl rfl ?_
      refine ac_callTv (μ' := j0_length_8abf5) 31 dX5_spells_28 rfl (am_gi 331 (by decide +kernel) rfl) j0_length_8abf5_T hi (t0_length hi) rfl rfl (by decide) (Nat.le_of_ble_eq_true rfl) ?_
      refine ac_icmp_ge 57 34 dX5_spells_31 (by decide) rfl (fun c_31 => absurd c_31 (nI_ge (by omega) (by omega))) (fun _ => ?_)
      refine ac_aload_n 35 dX5_spells_34 rfl rfl ?_
      refine ac_iload_n 36 dX5_spells_35 rfl rfl ?_
      refine ac_iload 38 dX5_spells_36 rfl rfl ?_
      refine ac_iadd 39 dX5_spells_38 rfl ?_
      refine ac_iald 40 dX5_spells_39 rfl ar1 (ix_of (k := s + k) (by rw [nI_add]) (by omega) (by decide)) ?_
      rw [show (M 1 (s + k)) = (nI (tx (s + k))) from hT.1]
      refine ac_aload_n 41 dX5_spells_40 rfl rfl ?_
      refine ac_iload 43 dX5_spells_41 rfl rfl ?_
      refine ac_callTv (μ' := j0_charAt_5068e) 46 dX5_spells_43 rfl (am_gi 341 (by decide +kernel) rfl) j0_charAt_5068e_T hi (t0_charAt hi hk) rfl rfl (by decide) (Nat.le_of_ble_eq_true rfl) ?_
      rw [show ((am_sb.getD i []).getD k 0) = (nI (sbN i k)) from hb.1]
      refine ac_icmp_eq 51 49 dX5_spells_46 (by decide) rfl (fun c_46 => ?_) (fun c_46 => ?_)
      · refine ac_iinc 54 (nI (k + 1)) [some (Value.ref 1), some (Value.int (nI s)), some (Value.int (nI e)), some (Value.ref (1000 + i)), some (Value.int (nI (k + 1)))] dX5_spells_51 rfl rfl (nI_1 _) rfl (by decide) rfl ?_
        refine ac_goto 25 dX5_spells_54 (by decide) ?_
        exact ih (fun j hj => by
          by_cases hjk : j = k
          · subst hjk; exact (nI_eq (by have := hT.2; omega) (by have := hb.2; omega)).mp c_46
          · exact hpr j (by omega))
      · have hno : ¬ spP tx s e i := fun q => c_46 (by rw [q.2 k hk])
        refine ac_iconst 50 0 dX5_spells_49 rfl (by decide) ?_
        refine ac_iret dX5_spells_50 ⟨_, rfl, rfl⟩ ?_
        exact rv_mk (bi_f hno).symm
set_option maxRecDepth 20000 in
theorem c5_value {M : am_I} {V : am_J} {f : Nat → Option Nat} {tx : Nat → Nat} {n s : Nat} (hX : TX M tx n) (hs : s < n) : CT m5_valueOf 2 [Value.ref 1, Value.int (nI s), Value.int (nI (fgP tx n s))] M V f (RV (nI (vlP tx s ((fgP tx n s) - s))) M V f) := by
  have hn := hX.1
  obtain ⟨f1, f2, f3, f4⟩ := rnE_spec (isF tx) n s (by omega)
  have f1 : s ≤ (fgP tx n s) := f1
  have f2 : (fgP tx n s) ≤ n := f2
  have f3 : ∀ y, s ≤ y → y < (fgP tx n s) → isF tx y := f3
  refine CT.of m5_valueOf_S.1 _ (en_aii_5 1 (nI s) (nI (fgP tx n s))) ?_
  refine ac_iconst 1 0 dX5_valueOf_0 rfl (by decide) ?_
  refine ac_istore_n 2 [some (Value.ref 1), some (Value.int (nI s)), some (Value.int (nI (fgP tx n s))), some (Value.int 0), none] dX5_valueOf_1 rfl rfl (Nat.le_of_ble_eq_true rfl) (by decide) rfl ?_
  refine ac_iload_n 3 dX5_valueOf_2 rfl rfl ?_
  refine ac_istore 5 [some (Value.ref 1), some (Value.int (nI s)), some (Value.int (nI (fgP tx n s))), some (Value.int 0), some (Value.int (nI s))] dX5_valueOf_3 rfl rfl (Nat.le_of_ble_eq_true rfl) (by decide) rfl ?_
  refine ac_down (n := ((fgP tx n s) - s)) (P := fun k => A0 m5_valueOf 2 5 [some (Value.ref 1), some (Value.int (nI s)), some (Value.int (nI (fgP tx n s))), some (Value.int (nI (vlP tx s k))), some (Value.int (nI (s + k)))] [] M V f (RV (nI (vlP tx s ((fgP tx n s) - s))) M V f)) ?_ ?_ 0 (Nat.zero_le _) 
  · refine ac_iload 7 dX5_valueOf_5 rfl rfl ?_
    refine ac_iload_n 8 dX5_valueOf_7 rfl rfl ?_
    refine ac_icmp_ge 45 11 dX5_valueOf_8 (by decide) rfl (fun _ => ?_) (fun c_8 => absurd (nI_le (by omega) (by omega)) c_8)
    refine ac_iload_n 46 dX5_valueOf_45 rfl rfl ?_
    refine ac_iret dX5_valueOf_46 ⟨_, rfl, rfl⟩ ?_
    exact rv_mk rfl
  · intro k hk ih
    have hF := f3 (s + k) (by omega) (by omega)
    have hT := hX.2 (s + k) (by omega)
    have hv9 := vlP_le tx s k
    refine ac_iload 7 dX5_valueOf_5 rfl rfl ?_
    refine ac_iload_n 8 dX5_valueOf_7 rfl rfl ?_
    refine ac_icmp_ge 45 11 dX5_valueOf_8 (by decide) rfl (fun c_8 => absurd c_8 (nI_ge (by omega) (by omega))) (fun _ => ?_)
    refine ac_aload_n 12 dX5_valueOf_11 rfl rfl ?_
    refine ac_iload 14 dX5_valueOf_12 rfl rfl ?_
    refine ac_callS (μ' := m5_sortAt) 17 dX5_valueOf_14 rfl lk5_45 m5_sortAt_S (c5_sort hX (p := s + k) (by omega)) rfl rfl (by decide) (Nat.le_of_ble_eq_true rfl) ?_
    rw [show (srP tx (s + k)) = 2 from (sr_F hF)]
    refine ac_iconst 18 2 dX5_valueOf_17 rfl (by decide) ?_
    refine ac_icmp_ne 45 21 dX5_valueOf_18 (by decide) rfl (fun c_18 => absurd rfl c_18) (fun _ => ?_)
    refine ac_bipush 23 10 dX5_valueOf_21 rfl (by decide) ?_
    refine ac_iload_n 24 dX5_valueOf_23 rfl rfl ?_
    refine ac_imul 25 dX5_valueOf_24 rfl ?_
    refine ac_aload_n 26 dX5_valueOf_25 rfl rfl ?_
    refine ac_iload 28 dX5_valueOf_26 rfl rfl ?_
    refine ac_iald 29 dX5_valueOf_28 rfl ar1 (ix_of (k := s + k) rfl (by omega) (by decide)) ?_
    rw [show (M 1 (s + k)) = (nI (tx (s + k))) from hT.1]
    refine ac_iadd 30 dX5_valueOf_29 rfl ?_
    refine ac_bipush 32 48 dX5_valueOf_30 rfl (by decide) ?_
    refine ac_isub 33 dX5_valueOf_32 rfl ?_
    rw [show (((10 * (nI (vlP tx s k))) + (nI (tx (s + k)))) - 48) = (nI (10 * vlP tx s k + (tx (s + k) - 48))) from (nI_vl hF.1)]
    refine ac_bipush 35 100 dX5_valueOf_33 rfl (by decide) ?_
    refine ac_min 38 dX5_valueOf_35 rfl lkj5_81 (by decide) (Nat.le_of_ble_eq_true rfl) ?_
    rw [show (if 100 < (nI (10 * vlP tx s k + (tx (s + k) - 48))) then 100 else (nI (10 * vlP tx s k + (tx (s + k) - 48)))) = (nI (vlP tx s (k + 1))) from (nI_mn (by have := hT.2; omega))]
    refine ac_istore_n 39 [some (Value.ref 1), some (Value.int (nI s)), some (Value.int (nI (fgP tx n s))), some (Value.int (nI (vlP tx s (k + 1)))), some (Value.int (nI (s + k)))] dX5_valueOf_38 rfl rfl (Nat.le_of_ble_eq_true rfl) (by decide) rfl ?_
    refine ac_iinc 42 (nI (s + (k + 1))) [some (Value.ref 1), some (Value.int (nI s)), some (Value.int (nI (fgP tx n s))), some (Value.int (nI (vlP tx s (k + 1)))), some (Value.int (nI (s + (k + 1))))] dX5_valueOf_39 rfl rfl (nI_1 _) rfl (by decide) rfl ?_
    refine ac_goto 5 dX5_valueOf_42 (by decide) ?_
    exact ih
set_option maxRecDepth 20000 in
theorem c5_value0 {M : am_I} {V : am_J} {f : Nat → Option Nat} {tx : Nat → Nat} {n s e : Nat} (hX : TX M tx n) (hs : s < n) (hse : s < e) (hen : e ≤ n) (hq : ¬ isF tx s) : CT m5_valueOf 2 [Value.ref 1, Value.int (nI s), Value.int (nI e)] M V f (RV 0 M V f) := by
  have hn := hX.1
  have c2 : ¬ srP tx s = 2 := by
    by_cases a1 : isW tx s
    · rw [sr_W a1]; decide
    · rw [sr_N a1 hq]; decide
  refine CT.of m5_valueOf_S.1 _ (en_aii_5 1 (nI s) (nI e)) ?_
  refine ac_iconst 1 0 dX5_valueOf_0 rfl (by decide) ?_
  refine ac_istore_n 2 [some (Value.ref 1), some (Value.int (nI s)), some (Value.int (nI e)), some (Value.int 0), none] dX5_valueOf_1 rfl rfl (Nat.le_of_ble_eq_true rfl) (by decide) rfl ?_
  refine ac_iload_n 3 dX5_valueOf_2 rfl rfl ?_
  refine ac_istore 5 [some (Value.ref 1), some (Value.int (nI s)), some (Value.int (nI e)), some (Value.int 0), some (Value.int (nI s))] dX5_valueOf_3 rfl rfl (Nat.le_of_ble_eq_true rfl) (by decide) rfl ?_
  refine ac_iload 7 dX5_valueOf_5 rfl rfl ?_
  refine ac_iload_n 8 dX5_valueOf_7 rfl rfl ?_
  refine ac_icmp_ge 45 11 dX5_valueOf_8 (by decide) rfl (fun c_8 => absurd c_8 (nI_ge hse (by omega))) (fun _ => ?_)
  refine ac_aload_n 12 dX5_valueOf_11 rfl rfl ?_
  refine ac_iload 14 dX5_valueOf_12 rfl rfl ?_
  refine ac_callS (μ' := m5_sortAt) 17 dX5_valueOf_14 rfl lk5_45 m5_sortAt_S (c5_sort hX hs) rfl rfl (by decide) (Nat.le_of_ble_eq_true rfl) ?_
  refine ac_iconst 18 2 dX5_valueOf_17 rfl (by decide) ?_
  refine ac_icmp_ne 45 21 dX5_valueOf_18 (by decide) rfl (fun _ => ?_) (fun c_18 => absurd c_18 c2)
  refine ac_iload_n 46 dX5_valueOf_45 rfl rfl ?_
  refine ac_iret dX5_valueOf_46 ⟨_, rfl, rfl⟩ ?_
  exact rv_mk rfl
noncomputable def kdF (tx : Nat → Nat) (n s : Nat) : Nat := cif (fgP tx n s ≠ s + 1 ∧ tx s = 48 ∨ 99 < vlP tx s (fgP tx n s - s)) 1 2
noncomputable def kdW (tx : Nat → Nat) (s e : Nat) : Nat := cif (wW tx s e) 4 (cif (wP tx s e) 5 (cif (wD tx s e) 6 (cif (wH tx s e) 7 1)))
noncomputable def kdP (tx : Nat → Nat) (n s : Nat) : Nat := cif (isF tx s) (kdF tx n s) (cif (isW tx s) (kdW tx s (wlP tx n s)) (cif (tx s = 59) 3 1))
noncomputable def teP (tx : Nat → Nat) (n s : Nat) : Nat := cif (isF tx s) (fgP tx n s) (cif (isW tx s) (wlP tx n s) (s + 1))
theorem sp_0 {tx : Nat → Nat} {s : Nat} : spP tx s (s + 1) 0 ↔ tx s = 48 := ⟨fun h => h.2 0 (by decide), fun h => ⟨rfl, fun k hk => match k, hk with | 0, _ => h⟩⟩
theorem sp_5 {tx : Nat → Nat} {s : Nat} : spP tx s (s + 1) 5 ↔ tx s = 59 := ⟨fun h => h.2 0 (by decide), fun h => ⟨rfl, fun k hk => match k, hk with | 0, _ => h⟩⟩
theorem sp_1 {tx : Nat → Nat} {s e : Nat} : spP tx s e 1 ↔ wW tx s e := ⟨fun h => ⟨h.1, h.2 0 (by decide), h.2 1 (by decide), h.2 2 (by decide), h.2 3 (by decide)⟩, fun h => ⟨h.1, fun k hk => match k, hk with
  | 0, _ => h.2.1
  | 1, _ => h.2.2.1
  | 2, _ => h.2.2.2.1
  | 3, _ => h.2.2.2.2⟩⟩
theorem sp_2 {tx : Nat → Nat} {s e : Nat} : spP tx s e 2 ↔ wP tx s e := ⟨fun h => ⟨h.1, h.2 0 (by decide), h.2 1 (by decide), h.2 2 (by decide)⟩, fun h => ⟨h.1, fun k hk => match k, hk with
  | 0, _ => h.2.1
  | 1, _ => h.2.2.1
  | 2, _ => h.2.2.2⟩⟩
theorem sp_3 {tx : Nat → Nat} {s e : Nat} : spP tx s e 3 ↔ wD tx s e := ⟨fun h => ⟨h.1, h.2 0 (by decide), h.2 1 (by decide), h.2 2 (by decide), h.2 3 (by decide)⟩, fun h => ⟨h.1, fun k hk => match k, hk with
  | 0, _ => h.2.1
  | 1, _ => h.2.2.1
  | 2, _ => h.2.2.2.1
  | 3, _ => h.2.2.2.2⟩⟩
theorem sp_4 {tx : Nat → Nat} {s e : Nat} : spP tx s e 4 ↔ wH tx s e := ⟨fun h => ⟨h.1, h.2 0 (by decide), h.2 1 (by decide), h.2 2 (by decide), h.2 3 (by decide)⟩, fun h => ⟨h.1, fun k hk => match k, hk with
  | 0, _ => h.2.1
  | 1, _ => h.2.2.1
  | 2, _ => h.2.2.2.1
  | 3, _ => h.2.2.2.2⟩⟩
set_option maxRecDepth 20000 in
theorem c5_kindF {M : am_I} {V : am_J} {f : Nat → Option Nat} {tx : Nat → Nat} {n s : Nat} (hX : TX M tx n) (hs : s < n) (hq : isF tx s) : CT m5_kindOfFigures 6 [Value.ref 1, Value.int (nI s), Value.int (nI (fgP tx n s))] M V f (RV (nI (kdF tx n s)) M V f) := by
  have hn := hX.1
  obtain ⟨f1, f2, f3, f4⟩ := rnE_spec (isF tx) n s (by omega)
  have f1 : s ≤ (fgP tx n s) := f1
  have f2 : (fgP tx n s) ≤ n := f2
  have f3 : ∀ y, s ≤ y → y < (fgP tx n s) → isF tx y := f3
  have f5 : s < (fgP tx n s) := Nat.lt_of_not_le (fun q => by
    have e : (fgP tx n s) = s := by omega
    have f4 : (fgP tx n s) < n → ¬ isF tx (fgP tx n s) := f4
    rw [e] at f4
    exact f4 hs hq)
  have hv9 := vlP_le tx s ((fgP tx n s) - s)
  refine CT.of m5_kindOfFigures_S.1 _ (en_aii_4 1 (nI s) (nI (fgP tx n s))) ?_
  refine ac_iload_n 1 dX5_kindOfFigures_0 rfl rfl ?_
  refine ac_iload_n 2 dX5_kindOfFigures_1 rfl rfl ?_
  refine ac_isub 3 dX5_kindOfFigures_2 rfl ?_
  rw [show ((nI (fgP tx n s)) - (nI s)) = (nI ((fgP tx n s) - s)) from (nI_subN f1)]
  refine ac_iconst 4 1 dX5_kindOfFigures_3 rfl (by decide) ?_
  refine ac_icmp_le 24 7 dX5_kindOfFigures_4 (by decide) rfl (fun c_4 => ?_) (fun c_4 => ?_)
  · have g1 : ¬ 1 < (fgP tx n s) - s := fun q => absurd ((nI_leI (b := 1) (by omega) (by decide)).mp c_4) (by omega)
    refine ac_iconst 25 0 dX5_kindOfFigures_24 rfl (by decide) ?_
    refine ac_istore_n 26 [some (Value.ref 1), some (Value.int (nI s)), some (Value.int (nI (fgP tx n s))), some (Value.int 0)] dX5_kindOfFigures_25 rfl rfl (Nat.le_of_ble_eq_true rfl) (by decide) rfl ?_
    refine ac_iload_n 27 dX5_kindOfFigures_26 rfl rfl ?_
    refine ac_if_ne 41 30 dX5_kindOfFigures_27 (by decide) rfl (fun c_27 => absurd (by decide) c_27) (fun _ => ?_)
    refine ac_aload_n 31 dX5_kindOfFigures_30 rfl rfl ?_
    refine ac_iload_n 32 dX5_kindOfFigures_31 rfl rfl ?_
    refine ac_iload_n 33 dX5_kindOfFigures_32 rfl rfl ?_
    refine ac_callS (μ' := m5_valueOf) 36 dX5_kindOfFigures_33 rfl lk5_32 m5_valueOf_S (c5_value hX hs) rfl rfl (by decide) (Nat.le_of_ble_eq_true rfl) ?_
    refine ac_bipush 38 99 dX5_kindOfFigures_36 rfl (by decide) ?_
    refine ac_icmp_le 45 41 dX5_kindOfFigures_38 (by decide) rfl (fun c_38 => ?_) (fun c_38 => ?_)
    · have g3 : vlP tx s ((fgP tx n s) - s) ≤ 99 := (nI_leI (b := 99) (by omega) (by decide)).mp c_38
      have hno : ¬ ((fgP tx n s) ≠ s + 1 ∧ tx s = 48 ∨ 99 < vlP tx s ((fgP tx n s) - s)) := by
        rintro (⟨q1, q2⟩ | q)
        · first | exact g2 q2 | (have := f5; omega)
        · omega
      refine ac_iconst 46 2 dX5_kindOfFigures_45 rfl (by decide) ?_
      refine ac_iret dX5_kindOfFigures_46 ⟨_, rfl, rfl⟩ ?_
      exact rv_mk (by unfold kdF; first | exact (congrArg nI (cif_t hyes)).symm | exact (congrArg nI (cif_f hno)).symm)
    · have hyes : (fgP tx n s) ≠ s + 1 ∧ tx s = 48 ∨ 99 < vlP tx s ((fgP tx n s) - s) := Or.inr (Nat.lt_of_not_le (fun q => c_38 (nI_le (b := 99) q (by decide))))
      refine ac_iconst 42 1 dX5_kindOfFigures_41 rfl (by decide) ?_
      refine ac_goto 46 dX5_kindOfFigures_42 (by decide) ?_
      refine ac_iret dX5_kindOfFigures_46 ⟨_, rfl, rfl⟩ ?_
      exact rv_mk (by unfold kdF; first | exact (congrArg nI (cif_t hyes)).symm | exact (congrArg nI (cif_f hno)).symm)
  · have g1 : 1 < (fgP tx n s) - s := Nat.lt_of_not_le (fun q => c_4 (nI_le (b := 1) q (by decide)))
    refine ac_aload_n 8 dX5_kindOfFigures_7 rfl rfl ?_
    refine ac_iload_n 9 dX5_kindOfFigures_8 rfl rfl ?_
    refine ac_iload_n 10 dX5_kindOfFigures_9 rfl rfl ?_
    refine ac_iconst 11 1 dX5_kindOfFigures_10 rfl (by decide) ?_
    refine ac_iadd 12 dX5_kindOfFigures_11 rfl ?_
    rw [show ((nI s) + 1) = (nI (s + 1)) from (nI_1 _)]
    refine ac_ldcS 14 0 dX5_kindOfFigures_12 rfl rfl (by decide) rfl ?_
    refine ac_callS (μ' := m5_spells) 17 dX5_kindOfFigures_14 rfl lk5_57 m5_spells_S (c5_spells hX (e := s + 1) (i := 0) (by omega) (by omega) (by decide)) rfl rfl (by decide) (Nat.le_of_ble_eq_true rfl) ?_
    refine ac_if_eq 24 20 dX5_kindOfFigures_17 (by decide) rfl (fun c_17 => ?_) (fun c_17 => ?_)
    · have g2 : ¬ tx s = 48 := fun q => (bi_eq0.mp c_17) (sp_0.mpr q)
      refine ac_iconst 25 0 dX5_kindOfFigures_24 rfl (by decide) ?_
      refine ac_istore_n 26 [some (Value.ref 1), some (Value.int (nI s)), some (Value.int (nI (fgP tx n s))), some (Value.int 0)] dX5_kindOfFigures_25 rfl rfl (Nat.le_of_ble_eq_true rfl) (by decide) rfl ?_
      refine ac_iload_n 27 dX5_kindOfFigures_26 rfl rfl ?_
      refine ac_if_ne 41 30 dX5_kindOfFigures_27 (by decide) rfl (fun c_27 => absurd (by decide) c_27) (fun _ => ?_)
      refine ac_aload_n 31 dX5_kindOfFigures_30 rfl rfl ?_
      refine ac_iload_n 32 dX5_kindOfFigures_31 rfl rfl ?_
      refine ac_iload_n 33 dX5_kindOfFigures_32 rfl rfl ?_
      refine ac_callS (μ' := m5_valueOf) 36 dX5_kindOfFigures_33 rfl lk5_32 m5_valueOf_S (c5_value hX hs) rfl rfl (by decide) (Nat.le_of_ble_eq_true rfl) ?_
      refine ac_bipush 38 99 dX5_kindOfFigures_36 rfl (by decide) ?_
      refine ac_icmp_le 45 41 dX5_kindOfFigures_38 (by decide) rfl (fun c_38 => ?_) (fun c_38 => ?_)
      · have g3 : vlP tx s ((fgP tx n s) - s) ≤ 99 := (nI_leI (b := 99) (by omega) (by decide)).mp c_38
        have hno : ¬ ((fgP tx n s) ≠ s + 1 ∧ tx s = 48 ∨ 99 < vlP tx s ((fgP tx n s) - s)) := by
          rintro (⟨q1, q2⟩ | q)
          · first | exact g2 q2 | (have := f5; omega)
          · omega
        refine ac_iconst 46 2 dX5_kindOfFigures_45 rfl (by decide) ?_
        refine ac_iret dX5_kindOfFigures_46 ⟨_, rfl, rfl⟩ ?_
        exact rv_mk (by unfold kdF; first | exact (congrArg nI (cif_t hyes)).symm | exact (congrArg nI (cif_f hno)).symm)
      · have hyes : (fgP tx n s) ≠ s + 1 ∧ tx s = 48 ∨ 99 < vlP tx s ((fgP tx n s) - s) := Or.inr (Nat.lt_of_not_le (fun q => c_38 (nI_le (b := 99) q (by decide))))
        refine ac_iconst 42 1 dX5_kindOfFigures_41 rfl (by decide) ?_
        refine ac_goto 46 dX5_kindOfFigures_42 (by decide) ?_
        refine ac_iret dX5_kindOfFigures_46 ⟨_, rfl, rfl⟩ ?_
        exact rv_mk (by unfold kdF; first | exact (congrArg nI (cif_t hyes)).symm | exact (congrArg nI (cif_f hno)).symm)
    · have g2 : tx s = 48 := sp_0.mp (bi_ne0.mp c_17)
      have hyes : (fgP tx n s) ≠ s + 1 ∧ tx s = 48 ∨ 99 < vlP tx s ((fgP tx n s) - s) := Or.inl ⟨by omega, g2⟩
      refine ac_iconst 21 1 dX5_kindOfFigures_20 rfl (by decide) ?_
      refine ac_goto 25 dX5_kindOfFigures_21 (by decide) ?_
      refine ac_istore_n 26 [some (Value.ref 1), some (Value.int (nI s)), some (Value.int (nI (fgP tx n s))), some (Value.int 1)] dX5_kindOfFigures_25 rfl rfl (Nat.le_of_ble_eq_true rfl) (by decide) rfl ?_
      refine ac_iload_n 27 dX5_kindOfFigures_26 rfl rfl ?_
      refine ac_if_ne 41 30 dX5_kindOfFigures_27 (by decide) rfl (fun _ => ?_) (fun c_27 => absurd c_27 (by decide))
      refine ac_iconst 42 1 dX5_kindOfFigures_41 rfl (by decide) ?_
      refine ac_goto 46 dX5_kindOfFigures_42 (by decide) ?_
      refine ac_iret dX5_kindOfFigures_46 ⟨_, rfl, rfl⟩ ?_
      exact rv_mk (by unfold kdF; first | exact (congrArg nI (cif_t hyes)).symm | exact (congrArg nI (cif_f hno)).symm)
set_option maxRecDepth 20000 in
theorem c5_kindW {M : am_I} {V : am_J} {f : Nat → Option Nat} {tx : Nat → Nat} {n s : Nat} (hX : TX M tx n) (hs : s < n) : CT m5_kindOfWord 6 [Value.ref 1, Value.int (nI s), Value.int (nI (wlP tx n s))] M V f (RV (nI (kdW tx s (wlP tx n s))) M V f) := by
  have hn := hX.1
  obtain ⟨hse, hen, -, -⟩ := rnE_spec (isW tx) n s (by omega)
  have hse : s ≤ (wlP tx n s) := hse
  have hen : (wlP tx n s) ≤ n := hen
  refine CT.of m5_kindOfWord_S.1 _ (en_aii_3 1 (nI s) (nI (wlP tx n s))) ?_
  refine ac_aload_n 1 dX5_kindOfWord_0 rfl rfl ?_
  refine ac_iload_n 2 dX5_kindOfWord_1 rfl rfl ?_
  refine ac_iload_n 3 dX5_kindOfWord_2 rfl rfl ?_
  refine ac_ldcS 5 1 dX5_kindOfWord_3 rfl rfl (by decide) rfl ?_
  refine ac_callS (μ' := m5_spells) 8 dX5_kindOfWord_5 rfl lk5_57 m5_spells_S (c5_spells hX (e := (wlP tx n s)) (i := 1) hse hen (by decide)) rfl rfl (by decide) (Nat.le_of_ble_eq_true rfl) ?_
  refine ac_if_eq 13 11 dX5_kindOfWord_8 (by decide) rfl (fun c_8 => ?_) (fun c_8 => ?_)
  · have g1 := fun q => (bi_eq0.mp c_8) (sp_1.mpr q)
    refine ac_aload_n 14 dX5_kindOfWord_13 rfl rfl ?_
    refine ac_iload_n 15 dX5_kindOfWord_14 rfl rfl ?_
    refine ac_iload_n 16 dX5_kindOfWord_15 rfl rfl ?_
    refine ac_ldcS 18 2 dX5_kindOfWord_16 rfl rfl (by decide) rfl ?_
    refine ac_callS (μ' := m5_spells) 21 dX5_kindOfWord_18 rfl lk5_57 m5_spells_S (c5_spells hX (e := (wlP tx n s)) (i := 2) hse hen (by decide)) rfl rfl (by decide) (Nat.le_of_ble_eq_true rfl) ?_
    refine ac_if_eq 26 24 dX5_kindOfWord_21 (by decide) rfl (fun c_21 => ?_) (fun c_21 => ?_)
    · have g2 := fun q => (bi_eq0.mp c_21) (sp_2.mpr q)
      refine ac_aload_n 27 dX5_kindOfWord_26 rfl rfl ?_
      refine ac_iload_n 28 dX5_kindOfWord_27 rfl rfl ?_
      refine ac_iload_n 29 dX5_kindOfWord_28 rfl rfl ?_
      refine ac_ldcS 31 3 dX5_kindOfWord_29 rfl rfl (by decide) rfl ?_
      refine ac_callS (μ' := m5_spells) 34 dX5_kindOfWord_31 rfl lk5_57 m5_spells_S (c5_spells hX (e := (wlP tx n s)) (i := 3) hse hen (by decide)) rfl rfl (by decide) (Nat.le_of_ble_eq_true rfl) ?_
      refine ac_if_eq 40 37 dX5_kindOfWord_34 (by decide) rfl (fun c_34 => ?_) (fun c_34 => ?_)
      · have g3 := fun q => (bi_eq0.mp c_34) (sp_3.mpr q)
        refine ac_aload_n 41 dX5_kindOfWord_40 rfl rfl ?_
        refine ac_iload_n 42 dX5_kindOfWord_41 rfl rfl ?_
        refine ac_iload_n 43 dX5_kindOfWord_42 rfl rfl ?_
        refine ac_ldcS 45 4 dX5_kindOfWord_43 rfl rfl (by decide) rfl ?_
        refine ac_callS (μ' := m5_spells) 48 dX5_kindOfWord_45 rfl lk5_57 m5_spells_S (c5_spells hX (e := (wlP tx n s)) (i := 4) hse hen (by decide)) rfl rfl (by decide) (Nat.le_of_ble_eq_true rfl) ?_
        refine ac_if_eq 56 51 dX5_kindOfWord_48 (by decide) rfl (fun c_48 => ?_) (fun c_48 => ?_)
        · have g4 := fun q => (bi_eq0.mp c_48) (sp_4.mpr q)
          refine ac_iconst 57 1 dX5_kindOfWord_56 rfl (by decide) ?_
          refine ac_iret dX5_kindOfWord_57 ⟨_, rfl, rfl⟩ ?_
          exact rv_mk (congrArg nI (show kdW tx s (wlP tx n s) = 1 from (cif_f g1).trans ((cif_f g2).trans ((cif_f g3).trans (cif_f g4))))).symm
        · have g4 := sp_4.mp (bi_ne0.mp c_48)
          refine ac_bipush 53 7 dX5_kindOfWord_51 rfl (by decide) ?_
          refine ac_goto 57 dX5_kindOfWord_53 (by decide) ?_
          refine ac_iret dX5_kindOfWord_57 ⟨_, rfl, rfl⟩ ?_
          exact rv_mk (congrArg nI (show kdW tx s (wlP tx n s) = 7 from (cif_f g1).trans ((cif_f g2).trans ((cif_f g3).trans (cif_t g4))))).symm
      · have g3 := sp_3.mp (bi_ne0.mp c_34)
        refine ac_bipush 39 6 dX5_kindOfWord_37 rfl (by decide) ?_
        refine ac_iret dX5_kindOfWord_39 ⟨_, rfl, rfl⟩ ?_
        exact rv_mk (congrArg nI (show kdW tx s (wlP tx n s) = 6 from (cif_f g1).trans ((cif_f g2).trans (cif_t g3)))).symm
    · have g2 := sp_2.mp (bi_ne0.mp c_21)
      refine ac_iconst 25 5 dX5_kindOfWord_24 rfl (by decide) ?_
      refine ac_iret dX5_kindOfWord_25 ⟨_, rfl, rfl⟩ ?_
      exact rv_mk (congrArg nI (show kdW tx s (wlP tx n s) = 5 from (cif_f g1).trans (cif_t g2))).symm
  · have g1 := sp_1.mp (bi_ne0.mp c_8)
    refine ac_iconst 12 4 dX5_kindOfWord_11 rfl (by decide) ?_
    refine ac_iret dX5_kindOfWord_12 ⟨_, rfl, rfl⟩ ?_
    exact rv_mk (congrArg nI (show kdW tx s (wlP tx n s) = 4 from cif_t g1)).symm
set_option maxRecDepth 20000 in
theorem c5_kind1 {M : am_I} {V : am_J} {f : Nat → Option Nat} {tx : Nat → Nat} {n s : Nat} (hX : TX M tx n) (hs : s < n) (hq : isF tx s) : CT m5_kindOf 7 [Value.ref 1, Value.int (nI s), Value.int (nI (fgP tx n s))] M V f (RV (nI (kdF tx n s)) M V f) := by
  refine CT.of m5_kindOf_S.1 _ (en_aii_3 1 (nI s) (nI (fgP tx n s))) ?_
  refine ac_aload_n 1 dX5_kindOf_0 rfl rfl ?_
  refine ac_iload_n 2 dX5_kindOf_1 rfl rfl ?_
  refine ac_callS (μ' := m5_sortAt) 5 dX5_kindOf_2 rfl lk5_45 m5_sortAt_S (c5_sort hX hs) rfl rfl (by decide) (Nat.le_of_ble_eq_true rfl) ?_
  rw [show (srP tx s) = 2 from (sr_F hq)]
  refine ac_lookup 32 27 dX5_kindOf_5 (by decide) (by decide) (by decide) ?_
  refine ac_aload_n 33 dX5_kindOf_32 rfl rfl ?_
  refine ac_iload_n 34 dX5_kindOf_33 rfl rfl ?_
  refine ac_iload_n 35 dX5_kindOf_34 rfl rfl ?_
  refine ac_callS (μ' := m5_kindOfFigures) 38 dX5_kindOf_35 rfl lk5_49 m5_kindOfFigures_S (c5_kindF hX hs hq) rfl rfl (by decide) (Nat.le_of_ble_eq_true rfl) ?_
  refine ac_iret dX5_kindOf_38 ⟨_, rfl, rfl⟩ ?_
  exact rv_mk rfl
set_option maxRecDepth 20000 in
theorem c5_kind2 {M : am_I} {V : am_J} {f : Nat → Option Nat} {tx : Nat → Nat} {n s : Nat} (hX : TX M tx n) (hs : s < n) (hq : isW tx s) : CT m5_kindOf 7 [Value.ref 1, Value.int (nI s), Value.int (nI (wlP tx n s))] M V f (RV (nI (kdW tx s (wlP tx n s))) M V f) := by
  refine CT.of m5_kindOf_S.1 _ (en_aii_3 1 (nI s) (nI (wlP tx n s))) ?_
  refine ac_aload_n 1 dX5_kindOf_0 rfl rfl ?_
  refine ac_iload_n 2 dX5_kindOf_1 rfl rfl ?_
  refine ac_callS (μ' := m5_sortAt) 5 dX5_kindOf_2 rfl lk5_45 m5_sortAt_S (c5_sort hX hs) rfl rfl (by decide) (Nat.le_of_ble_eq_true rfl) ?_
  rw [show (srP tx s) = 5 from (sr_W hq)]
  refine ac_lookup 39 34 dX5_kindOf_5 (by decide) (by decide) (by decide) ?_
  refine ac_aload_n 40 dX5_kindOf_39 rfl rfl ?_
  refine ac_iload_n 41 dX5_kindOf_40 rfl rfl ?_
  refine ac_iload_n 42 dX5_kindOf_41 rfl rfl ?_
  refine ac_callS (μ' := m5_kindOfWord) 45 dX5_kindOf_42 rfl lk5_52 m5_kindOfWord_S (c5_kindW hX hs) rfl rfl (by decide) (Nat.le_of_ble_eq_true rfl) ?_
  refine ac_iret dX5_kindOf_45 ⟨_, rfl, rfl⟩ ?_
  exact rv_mk rfl
set_option maxRecDepth 20000 in
theorem c5_kind3 {M : am_I} {V : am_J} {f : Nat → Option Nat} {tx : Nat → Nat} {n s : Nat} (hX : TX M tx n) (hs : s < n) (hf : ¬ isF tx s) (hw : ¬ isW tx s) : CT m5_kindOf 7 [Value.ref 1, Value.int (nI s), Value.int (nI (s + 1))] M V f (RV (nI (cif (tx s = 59) 3 1)) M V f) := by
  refine CT.of m5_kindOf_S.1 _ (en_aii_3 1 (nI s) (nI (s + 1))) ?_
  refine ac_aload_n 1 dX5_kindOf_0 rfl rfl ?_
  refine ac_iload_n 2 dX5_kindOf_1 rfl rfl ?_
  refine ac_callS (μ' := m5_sortAt) 5 dX5_kindOf_2 rfl lk5_45 m5_sortAt_S (c5_sort hX hs) rfl rfl (by decide) (Nat.le_of_ble_eq_true rfl) ?_
  rw [show (srP tx s) = 1 from (sr_N hw hf)]
  refine ac_lookup 46 41 dX5_kindOf_5 (by decide) (by decide) (by decide) ?_
  refine ac_aload_n 47 dX5_kindOf_46 rfl rfl ?_
  refine ac_iload_n 48 dX5_kindOf_47 rfl rfl ?_
  refine ac_iload_n 49 dX5_kindOf_48 rfl rfl ?_
  refine ac_ldcS 51 5 dX5_kindOf_49 rfl rfl (by decide) rfl ?_
  refine ac_callS (μ' := m5_spells) 54 dX5_kindOf_51 rfl lk5_57 m5_spells_S (c5_spells hX (e := s + 1) (i := 5) (by omega) (by omega) (by decide)) rfl rfl (by decide) (Nat.le_of_ble_eq_true rfl) ?_
  refine ac_if_eq 61 57 dX5_kindOf_54 (by decide) rfl (fun c_54 => ?_) (fun c_54 => ?_)
  · have g : ¬ tx s = 59 := fun q => (bi_eq0.mp c_54) (sp_5.mpr q)
    refine ac_iconst 62 1 dX5_kindOf_61 rfl (by decide) ?_
    refine ac_iret dX5_kindOf_62 ⟨_, rfl, rfl⟩ ?_
    exact rv_mk (by first | exact (congrArg nI (cif_t g)).symm | exact (congrArg nI (cif_f g)).symm)
  · have g := sp_5.mp (bi_ne0.mp c_54)
    refine ac_iconst 58 3 dX5_kindOf_57 rfl (by decide) ?_
    refine ac_goto 62 dX5_kindOf_58 (by decide) ?_
    refine ac_iret dX5_kindOf_62 ⟨_, rfl, rfl⟩ ?_
    exact rv_mk (by first | exact (congrArg nI (cif_t g)).symm | exact (congrArg nI (cif_f g)).symm)
theorem c5_kind {M : am_I} {V : am_J} {f : Nat → Option Nat} {tx : Nat → Nat} {n s : Nat} (hX : TX M tx n) (hs : s < n) : CT m5_kindOf 7 [.ref 1, .int (nI s), .int (nI (teP tx n s))] M V f (RV (nI (kdP tx n s)) M V f) := by
  unfold teP kdP
  by_cases hf : isF tx s
  · rw [cif_t hf, cif_t hf]; exact c5_kind1 hX hs hf
  · rw [cif_f hf, cif_f hf]
    by_cases hw : isW tx s
    · rw [cif_t hw, cif_t hw]; exact c5_kind2 hX hs hw
    · rw [cif_f hw, cif_f hw]; exact c5_kind3 hX hs hf hw
theorem c5_end {M : am_I} {V : am_J} {f : Nat → Option Nat} {tx : Nat → Nat} {n s : Nat} (hX : TX M tx n) (hs : s < n) : CT m5_endOfToken 2 [.ref 1, .int (nI n), .int (nI s)] M V f (RV (nI (teP tx n s)) M V f) := by
  unfold teP
  by_cases hf : isF tx s
  · rw [cif_t hf]; exact c5_endF hX hs hf
  · rw [cif_f hf]
    by_cases hw : isW tx s
    · rw [cif_t hw]; exact c5_endW hX hs hw
    · rw [cif_f hw]; exact c5_endN hX hs hw hf
theorem teP_le {tx : Nat → Nat} {n s : Nat} (hs : s < n) : s < teP tx n s ∧ teP tx n s ≤ n := by
  have key : ∀ P : Nat → Prop, P s → s < rnE P n s ∧ rnE P n s ≤ n := fun P hP => by
    obtain ⟨f1, f2, -, f4⟩ := rnE_spec P n s (by omega)
    refine ⟨Nat.lt_of_not_le (fun q => ?_), f2⟩
    have e : rnE P n s = s := by omega
    rw [e] at f4
    exact f4 hs hP
  unfold teP
  by_cases hf : isF tx s
  · rw [cif_t hf]; exact key _ hf
  · rw [cif_f hf]
    by_cases hw : isW tx s
    · rw [cif_t hw]; exact key _ hw
    · rw [cif_f hw]; omega
noncomputable def vtP (tx : Nat → Nat) (n s : Nat) : Nat := cif (isF tx s) (vlP tx s (fgP tx n s - s)) 0
theorem c5_val {M : am_I} {V : am_J} {f : Nat → Option Nat} {tx : Nat → Nat} {n s : Nat} (hX : TX M tx n) (hs : s < n) : CT m5_valueOf 2 [.ref 1, .int (nI s), .int (nI (teP tx n s))] M V f (RV (nI (vtP tx n s)) M V f) := by
  have ht := teP_le (tx := tx) hs
  unfold vtP
  by_cases hf : isF tx s
  · rw [cif_t hf, show teP tx n s = fgP tx n s from cif_t hf]; exact c5_value hX hs
  · rw [cif_f hf]; exact c5_value0 hX hs ht.1 ht.2 hf
