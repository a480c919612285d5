/-! The reference: where one more can go; which picture. Both count down. -/
noncomputable def dcnt (P : Nat → Prop) (n : Nat) : Nat → Int32
  | 0 => 0
  | k + 1 => dcnt P n k + bi (P (n - 1 - k))
noncomputable def dlst (P : Nat → Prop) (n : Nat) : Nat → Int32
  | 0 => -9
  | k + 1 => cif (P (n - 1 - k)) (nI (n - 1 - k)) (dlst P n k)
noncomputable def dbal (P : Nat → Prop) (D : Int32 → Int32) (n : Nat) : Nat → Int32
  | 0 => -9
  | k + 1 => cif (P (n - 1 - k) ∧ (dbal P D n k = -9 ∨ D (nI (n - 1 - k)) ≤ D (dbal P D n k))) (nI (n - 1 - k)) (dbal P D n k)
theorem dcnt_t {P : Nat → Prop} {n k : Nat} (h : P (n - 1 - k)) : dcnt P n (k + 1) = dcnt P n k + 1 := by show _ + _ = _; rw [bi_t h]
theorem dcnt_f {P : Nat → Prop} {n k : Nat} (h : ¬ P (n - 1 - k)) : dcnt P n (k + 1) = dcnt P n k + 0 := by show _ + _ = _; rw [bi_f h]
theorem dcnt_f' {P : Nat → Prop} {n k : Nat} (h : ¬ P (n - 1 - k)) : dcnt P n (k + 1) = dcnt P n k := by rw [dcnt_f h, Int32.add_zero]
theorem dlst_t {P : Nat → Prop} {n k : Nat} (h : P (n - 1 - k)) : dlst P n (k + 1) = nI (n - 1 - k) := cif_t h
theorem dlst_f {P : Nat → Prop} {n k : Nat} (h : ¬ P (n - 1 - k)) : dlst P n (k + 1) = dlst P n k := cif_f h
theorem dbal_t {P : Nat → Prop} {D : Int32 → Int32} {n k : Nat} (h : P (n - 1 - k)) (h2 : dbal P D n k = -9 ∨ D (nI (n - 1 - k)) ≤ D (dbal P D n k)) : dbal P D n (k + 1) = nI (n - 1 - k) := cif_t ⟨h, h2⟩
theorem dbal_f {P : Nat → Prop} {D : Int32 → Int32} {n k : Nat} (h : ¬ P (n - 1 - k)) : dbal P D n (k + 1) = dbal P D n k := cif_f (fun q => h q.1)
theorem dbal_f2 {P : Nat → Prop} {D : Int32 → Int32} {n k : Nat} (h1 : ¬ dbal P D n k = -9) (h : ¬ D (nI (n - 1 - k)) ≤ D (dbal P D n k)) : dbal P D n (k + 1) = dbal P D n k := cif_f (fun q => q.2.elim h1 h)
theorem dn_eq {n k : Nat} (h : k < n) : nI (n - k) - 1 = nI (n - 1 - k) := by
  rw [show n - k = (n - 1 - k) + 1 by omega, nI_pred]
theorem dn_nx {n k : Nat} (h : k < n) : nI (n - 1 - k) + Int32.ofInt (-1) = nI (n - (k + 1)) - 1 := by
  rw [show n - 1 - k = n - (k + 1) by omega]
  show nI (n - (k + 1)) + (-1) = _
  exact (Int32.sub_eq_add_neg _ _).symm
theorem dn_0 (n : Nat) : nI (n - n) - 1 = -1 := by rw [Nat.sub_self]; decide
/-- what is measured of picture j -/
def meN (N : rN) (j : Nat) (x : Int32) : Int32 := if x = 3 then hkY N j else if x = 2 then N (4 + 4 * j + 3) else N (4 + 4 * j + x.toNatClampNeg)
theorem meN_3 {N : rN} {j a : Nat} (h : nI a = 3) : meN N j (nI a) = hkY N j := if_pos h
theorem meN_2 {N : rN} {j a : Nat} (h3 : ¬ nI a = 3) (h : nI a = 2) : meN N j (nI a) = N (4 + 4 * j + 3) := by unfold meN; rw [if_neg h3, if_pos h]
theorem meN_0 {N : rN} {j a : Nat} (h3 : ¬ nI a = 3) (h : ¬ nI a = 2) (ha : a < 4) : meN N j (nI a) = N (4 + 4 * j + a) := by unfold meN; rw [if_neg h3, if_neg h, nI_clamp (by omega)]
/-- what was seen: how many, and that each is a question 0 .. 3 -/
def SC (M : am_I) (ns : Nat) : Prop := M 121 6 = nI ns ∧ ns ≤ 6 ∧ ∀ k, k < ns → ∃ a, a < 4 ∧ M 127 k = nI a
def seN (N : rN) (q n : Nat → Int32) (ns j : Nat) : Prop := ∀ k, k < ns → meN N j (q k) = n k
set_option maxRecDepth 20000 in
theorem c8_isSeen {M : am_I} {V : am_J} {f : Nat → Option Nat} {ns j : Nat} (hs : SC M ns) (hj : j < 5) : CT m8_isSeen 3 [Value.ref 121, Value.int (nI j)] M V f (RV (bi (seN (M 122) (M 127) (M 128) ns j)) M V f) := by
  have hns := hs.2.1
  unfold seN
  refine CT.of m8_isSeen_V.1 _ (en_ai_6 121 (nI j)) ?_
  refine ac_iconst 1 1 dX8_isSeen_0 rfl (by decide) ?_
  refine ac_istore_n 2 [some (Value.ref 121), some (Value.int (nI j)), some (Value.int 1), none, none, none] dX8_isSeen_1 rfl rfl (Nat.le_of_ble_eq_true rfl) (by decide) rfl ?_
  have hL : A0 m8_isSeen 3 4 [some (Value.ref 121), some (Value.int (nI j)), some (Value.int (bi (∀ i, i < 0 → meN (M 122) j (M 127 i) = M 128 i))), some (Value.int (nI 0)), none, none] [] M V f (RV (bi (seN (M 122) (M 127) (M 128) ns j)) M V f) := by
    refine ac_down (n := ns) (P := fun k => A0 m8_isSeen 3 4 [some (Value.ref 121), some (Value.int (nI j)), some (Value.int (bi (∀ i, i < k → meN (M 122) j (M 127 i) = M 128 i))), some (Value.int (nI k)), none, none] [] M V f (RV (bi (seN (M 122) (M 127) (M 128) ns j)) M V f)) ?_ ?_ 0 (Nat.zero_le _) 
    · refine ac_iload_n 5 dX8_isSeen_4 rfl rfl ?_
      refine ac_aload_n 6 dX8_isSeen_5 rfl rfl ?_
      refine ac_getI 9 dX8_isSeen_6 rfl fl8_189 ob121 ?_
      refine ac_icmp_ge 80 12 dX8_isSeen_9 (by decide) rfl (fun _ => ?_) (fun c_9 => absurd (by rw [hs.1]; exact Int32.le_refl _) c_9)
      refine ac_iload_n 81 dX8_isSeen_80 rfl rfl ?_
      refine ac_iret dX8_isSeen_81 (bi_nr rfl _) ?_
      exact rv_mk rfl
    · intro k hk ih
      obtain ⟨a, ha, ea⟩ := hs.2.2 k hk
      refine ac_iload_n 5 dX8_isSeen_4 rfl rfl ?_
      refine ac_aload_n 6 dX8_isSeen_5 rfl rfl ?_
      refine ac_getI 9 dX8_isSeen_6 rfl fl8_189 ob121 ?_
      refine ac_icmp_ge 80 12 dX8_isSeen_9 (by decide) rfl (fun c_9 => absurd c_9 (by rw [hs.1]; exact nI_ge hk (by omega))) (fun _ => ?_)
      refine ac_aload_n 13 dX8_isSeen_12 rfl rfl ?_
      refine ac_getO 16 127 dX8_isSeen_13 rfl fl8_26 ob121 rfl ?_
      refine ac_iload_n 17 dX8_isSeen_16 rfl rfl ?_
      refine ac_iald 18 dX8_isSeen_17 rfl ar127 (ix_nI (by omega) (by decide)) ?_
      rw [show (M 127 k) = (nI a) from ea]
      refine ac_istore 20 [some (Value.ref 121), some (Value.int (nI j)), some (Value.int (bi (∀ i, i < k → meN (M 122) j (M 127 i) = M 128 i))), some (Value.int (nI k)), some (Value.int (nI a)), none] dX8_isSeen_18 rfl rfl (Nat.le_of_ble_eq_true rfl) (by decide) rfl ?_
      refine ac_iload 22 dX8_isSeen_20 rfl rfl ?_
      refine ac_iconst 23 3 dX8_isSeen_22 rfl (by decide) ?_
      refine ac_icmp_ne 34 26 dX8_isSeen_23 (by decide) rfl (fun c_23 => ?_) (fun c_23 => ?_)
      · refine ac_aload_n 35 dX8_isSeen_34 rfl rfl ?_
        refine ac_iload_n 36 dX8_isSeen_35 rfl rfl ?_
        refine ac_iload 38 dX8_isSeen_36 rfl rfl ?_
        refine ac_iconst 39 2 dX8_isSeen_38 rfl (by decide) ?_
        refine ac_icmp_ne 46 42 dX8_isSeen_39 (by decide) rfl (fun c_39 => ?_) (fun c_39 => ?_)
        · refine ac_iload 48 dX8_isSeen_46 rfl rfl ?_
          refine ac_callV (μ' := m8_ofPicture) 51 dX8_isSeen_48 rfl lk8_118 m8_ofPicture_V ob121 (c8_ofPicture (w := (a)) hj (by omega)) rfl rfl (by decide) (Nat.le_of_ble_eq_true rfl) ?_
          refine ac_istore 53 [some (Value.ref 121), some (Value.int (nI j)), some (Value.int (bi (∀ i, i < k → meN (M 122) j (M 127 i) = M 128 i))), some (Value.int (nI k)), some (Value.int (nI a)), some (Value.int (M 122 (4 + 4 * j + (a))))] dX8_isSeen_51 rfl rfl (Nat.le_of_ble_eq_true rfl) (by decide) rfl ?_
          refine ac_iload_n 54 dX8_isSeen_53 rfl rfl ?_
          refine ac_if_eq 72 57 dX8_isSeen_54 (by decide) rfl (fun c_54 => ?_) (fun c_54 => ?_)
          · have hb := bi_eq0.mp c_54
            refine ac_iconst 73 0 dX8_isSeen_72 rfl (by decide) ?_
            refine ac_istore_n 74 [some (Value.ref 121), some (Value.int (nI j)), some (Value.int 0), some (Value.int (nI k)), some (Value.int (nI a)), some (Value.int (M 122 (4 + 4 * j + (a))))] dX8_isSeen_73 rfl rfl (Nat.le_of_ble_eq_true rfl) (by decide) rfl ?_
            refine ac_iinc 77 (nI (k + 1)) [some (Value.ref 121), some (Value.int (nI j)), some (Value.int 0), some (Value.int (nI (k + 1))), some (Value.int (nI a)), some (Value.int (M 122 (4 + 4 * j + (a))))] dX8_isSeen_74 rfl rfl (nI_1 _) rfl (by decide) rfl ?_
            refine ac_goto 4 dX8_isSeen_77 (by decide) ?_
            refine ac_kill 4 [some (Value.ref 121), some (Value.int (nI j)), some (Value.int 0), some (Value.int (nI (k + 1))), none, some (Value.int (M 122 (4 + 4 * j + (a))))] rfl ?_
            refine ac_kill 5 [some (Value.ref 121), some (Value.int (nI j)), some (Value.int 0), some (Value.int (nI (k + 1))), none, none] rfl ?_
            rw [show bi (∀ i, i < k + 1 → meN (M 122) j (M 127 i) = M 128 i) = 0 from (bi_f (by first | exact fun h => hb (all_suc.mp h).1 | (intro h; have h9 := (all_suc.mp h).2; rw [ea] at h9; first | (rw [meN_3 c_23] at h9; exact c_65 h9) | (rw [meN_2 c_23 c_39] at h9; exact c_65 h9) | (rw [meN_0 c_23 c_39 ha] at h9; exact c_65 h9))))] at ih
            exact ih
          · have hb := bi_ne0.mp c_54
            refine ac_iload 59 dX8_isSeen_57 rfl rfl ?_
            refine ac_aload_n 60 dX8_isSeen_59 rfl rfl ?_
            refine ac_getO 63 128 dX8_isSeen_60 rfl fl8_29 ob121 rfl ?_
            refine ac_iload_n 64 dX8_isSeen_63 rfl rfl ?_
            refine ac_iald 65 dX8_isSeen_64 rfl ar128 (ix_nI (by omega) (by decide)) ?_
            refine ac_icmp_ne 72 68 dX8_isSeen_65 (by decide) rfl (fun c_65 => ?_) (fun c_65 => ?_)
            · refine ac_iconst 73 0 dX8_isSeen_72 rfl (by decide) ?_
              refine ac_istore_n 74 [some (Value.ref 121), some (Value.int (nI j)), some (Value.int 0), some (Value.int (nI k)), some (Value.int (nI a)), some (Value.int (M 122 (4 + 4 * j + (a))))] dX8_isSeen_73 rfl rfl (Nat.le_of_ble_eq_true rfl) (by decide) rfl ?_
              refine ac_iinc 77 (nI (k + 1)) [some (Value.ref 121), some (Value.int (nI j)), some (Value.int 0), some (Value.int (nI (k + 1))), some (Value.int (nI a)), some (Value.int (M 122 (4 + 4 * j + (a))))] dX8_isSeen_74 rfl rfl (nI_1 _) rfl (by decide) rfl ?_
              refine ac_goto 4 dX8_isSeen_77 (by decide) ?_
              refine ac_kill 4 [some (Value.ref 121), some (Value.int (nI j)), some (Value.int 0), some (Value.int (nI (k + 1))), none, some (Value.int (M 122 (4 + 4 * j + (a))))] rfl ?_
              refine ac_kill 5 [some (Value.ref 121), some (Value.int (nI j)), some (Value.int 0), some (Value.int (nI (k + 1))), none, none] rfl ?_
              rw [show bi (∀ i, i < k + 1 → meN (M 122) j (M 127 i) = M 128 i) = 0 from (bi_f (by first | exact fun h => hb (all_suc.mp h).1 | (intro h; have h9 := (all_suc.mp h).2; rw [ea] at h9; first | (rw [meN_3 c_23] at h9; exact c_65 h9) | (rw [meN_2 c_23 c_39] at h9; exact c_65 h9) | (rw [meN_0 c_23 c_39 ha] at h9; exact c_65 h9))))] at ih
              exact ih
            · refine ac_iconst 69 1 dX8_isSeen_68 rfl (by decide) ?_
              refine ac_goto 73 dX8_isSeen_69 (by decide) ?_
              refine ac_istore_n 74 [some (Value.ref 121), some (Value.int (nI j)), some (Value.int 1), some (Value.int (nI k)), some (Value.int (nI a)), some (Value.int (M 122 (4 + 4 * j + (a))))] dX8_isSeen_73 rfl rfl (Nat.le_of_ble_eq_true rfl) (by decide) rfl ?_
              refine ac_iinc 77 (nI (k + 1)) [some (Value.ref 121), some (Value.int (nI j)), some (Value.int 1), some (Value.int (nI (k + 1))), some (Value.int (nI a)), some (Value.int (M 122 (4 + 4 * j + (a))))] dX8_isSeen_74 rfl rfl (nI_1 _) rfl (by decide) rfl ?_
              refine ac_goto 4 dX8_isSeen_77 (by decide) ?_
              refine ac_kill 4 [some (Value.ref 121), some (Value.int (nI j)), some (Value.int 1), some (Value.int (nI (k + 1))), none, some (Value.int (M 122 (4 + 4 * j + (a))))] rfl ?_
              refine ac_kill 5 [some (Value.ref 121), some (Value.int (nI j)), some (Value.int 1), some (Value.int (nI (k + 1))), none, none] rfl ?_
              rw [show bi (∀ i, i < k + 1 → meN (M 122) j (M 127 i) = M 128 i) = 1 from (bi_t (all_suc.mpr ⟨hb, (by rw [ea]; first | (rw [meN_3 c_23]; exact c_65) | (rw [meN_2 c_23 c_39]; exact c_65) | (rw [meN_0 c_23 c_39 ha]; exact c_65))⟩))] at ih
              exact ih
        · refine ac_iconst 43 3 dX8_isSeen_42 rfl (by decide) ?_
          refine ac_goto 48 dX8_isSeen_43 (by decide) ?_
          refine ac_callV (μ' := m8_ofPicture) 51 dX8_isSeen_48 rfl lk8_118 m8_ofPicture_V ob121 (c8_ofPicture (w := 3) hj (by omega)) rfl rfl (by decide) (Nat.le_of_ble_eq_true rfl) ?_
          refine ac_istore 53 [some (Value.ref 121), some (Value.int (nI j)), some (Value.int (bi (∀ i, i < k → meN (M 122) j (M 127 i) = M 128 i))), some (Value.int (nI k)), some (Value.int (nI a)), some (Value.int (M 122 (4 + 4 * j + 3)))] dX8_isSeen_51 rfl rfl (Nat.le_of_ble_eq_true rfl) (by decide) rfl ?_
          refine ac_iload_n 54 dX8_isSeen_53 rfl rfl ?_
          refine ac_if_eq 72 57 dX8_isSeen_54 (by decide) rfl (fun c_54 => ?_) (fun c_54 => ?_)
          · have hb := bi_eq0.mp c_54
            refine ac_iconst 73 0 dX8_isSeen_72 rfl (by decide) ?_
            refine ac_istore_n 74 [some (Value.ref 121), some (Value.int (nI j)), some (Value.int 0), some (Value.int (nI k)), some (Value.int (nI a)), some (Value.int (M 122 (4 + 4 * j + 3)))] dX8_isSeen_73 rfl rfl (Nat.le_of_ble_eq_true rfl) (by decide) rfl ?_
            refine ac_iinc 77 (nI (k + 1)) [some (Value.ref 121), some (Value.int (nI j)), some (Value.int 0), some (Value.int (nI (k + 1))), some (Value.int (nI a)), some (Value.int (M 122 (4 + 4 * j + 3)))] dX8_isSeen_74 rfl rfl (nI_1 _) rfl (by decide) rfl ?_
            refine ac_goto 4 dX8_isSeen_77 (by decide) ?_
            refine ac_kill 4 [some (Value.ref 121), some (Value.int (nI j)), some (Value.int 0), some (Value.int (nI (k + 1))), none, some (Value.int (M 122 (4 + 4 * j + 3)))] rfl ?_
            refine ac_kill 5 [some (Value.ref 121), some (Value.int (nI j)), some (Value.int 0), some (Value.int (nI (k + 1))), none, none] rfl ?_
            rw [show bi (∀ i, i < k + 1 → meN (M 122) j (M 127 i) = M 128 i) = 0 from (bi_f (by first | exact fun h => hb (all_suc.mp h).1 | (intro h; have h9 := (all_suc.mp h).2; rw [ea] at h9; first | (rw [meN_3 c_23] at h9; exact c_65 h9) | (rw [meN_2 c_23 c_39] at h9; exact c_65 h9) | (rw [meN_0 c_23 c_39 ha] at h9; exact c_65 h9))))] at ih
            exact ih
          · have hb := bi_ne0.mp c_54
            refine ac_iload 59 dX8_isSeen_57 rfl rfl ?_
            refine ac_aload_n 60 dX8_isSeen_59 rfl rfl ?_
            refine ac_getO 63 128 dX8_isSeen_60 rfl fl8_29 ob121 rfl ?_
            refine ac_iload_n 64 dX8_isSeen_63 rfl rfl ?_
            refine ac_iald 65 dX8_isSeen_64 rfl ar128 (ix_nI (by omega) (by decide)) ?_
            refine ac_icmp_ne 72 68 dX8_isSeen_65 (by decide) rfl (fun c_65 => ?_) (fun c_65 => ?_)
            · refine ac_iconst 73 0 dX8_isSeen_72 rfl (by decide) ?_
              refine ac_istore_n 74 [some (Value.ref 121), some (Value.int (nI j)), some (Value.int 0), some (Value.int (nI k)), some (Value.int (nI a)), some (Value.int (M 122 (4 + 4 * j + 3)))] dX8_isSeen_73 rfl rfl (Nat.le_of_ble_eq_true rfl) (by decide) rfl ?_
              refine ac_iinc 77 (nI (k + 1)) [some (Value.ref 121), some (Value.int (nI j)), some (Value.int 0), some (Value.int (nI (k + 1))), some (Value.int (nI a)), some (Value.int (M 122 (4 + 4 * j + 3)))] dX8_isSeen_74 rfl rfl (nI_1 _) rfl (by decide) rfl ?_
              refine ac_goto 4 dX8_isSeen_77 (by decide) ?_
              refine ac_kill 4 [some (Value.ref 121), some (Value.int (nI j)), some (Value.int 0), some (Value.int (nI (k + 1))), none, some (Value.int (M 122 (4 + 4 * j + 3)))] rfl ?_
              refine ac_kill 5 [some (Value.ref 121), some (Value.int (nI j)), some (Value.int 0), some (Value.int (nI (k + 1))), none, none] rfl ?_
              rw [show bi (∀ i, i < k + 1 → meN (M 122) j (M 127 i) = M 128 i) = 0 from (bi_f (by first | exact fun h => hb (all_suc.mp h).1 | (intro h; have h9 := (all_suc.mp h).2; rw [ea] at h9; first | (rw [meN_3 c_23] at h9; exact c_65 h9) | (rw [meN_2 c_23 c_39] at h9; exact c_65 h9) | (rw [meN_0 c_23 c_39 ha] at h9; exact c_65 h9))))] at ih
              exact ih
            · refine ac_iconst 69 1 dX8_isSeen_68 rfl (by decide) ?_
              refine ac_goto 73 dX8_isSeen_69 (by decide) ?_
              refine ac_istore_n 74 [some (Value.ref 121), some (Value.int (nI j)), some (Value.int 1), some (Value.int (nI k)), some (Value.int (nI a)), some (Value.int (M 122 (4 + 4 * j + 3)))] dX8_isSeen_73 rfl rfl (Nat.le_of_ble_eq_true rfl) (by decide) rfl ?_
              refine ac_iinc 77 (nI (k + 1)) [some (Value.ref 121), some (Value.int (nI j)), some (Value.int 1), some (Value.int (nI (k + 1))), some (Value.int (nI a)), some (Value.int (M 122 (4 + 4 * j + 3)))] dX8_isSeen_74 rfl rfl (nI_1 _) rfl (by decide) rfl ?_
              refine ac_goto 4 dX8_isSeen_77 (by decide) ?_
              refine ac_kill 4 [some (Value.ref 121), some (Value.int (nI j)), some (Value.int 1), some (Value.int (nI (k + 1))), none, some (Value.int (M 122 (4 + 4 * j + 3)))] rfl ?_
              refine ac_kill 5 [some (Value.ref 121), some (Value.int (nI j)), some (Value.int 1), some (Value.int (nI (k + 1))), none, none] rfl ?_
              rw [show bi (∀ i, i < k + 1 → meN (M 122) j (M 127 i) = M 128 i) = 1 from (bi_t (all_suc.mpr ⟨hb, (by rw [ea]; first | (rw [meN_3 c_23]; exact c_65) | (rw [meN_2 c_23 c_39]; exact c_65) | (rw [meN_0 c_23 c_39 ha]; exact c_65))⟩))] at ih
              exact ih
      · refine ac_aload_n 27 dX8_isSeen_26 rfl rfl ?_
        refine ac_iload_n 28 dX8_isSeen_27 rfl rfl ?_
        refine ac_callV (μ' := m8_hookY) 31 dX8_isSeen_28 rfl lk8_129 m8_hookY_V ob121 (c8_hookY (by omega)) rfl rfl (by decide) (Nat.le_of_ble_eq_true rfl) ?_
        refine ac_goto 51 dX8_isSeen_31 (by decide) ?_
        refine ac_istore 53 [some (Value.ref 121), some (Value.int (nI j)), some (Value.int (bi (∀ i, i < k → meN (M 122) j (M 127 i) = M 128 i))), some (Value.int (nI k)), some (Value.int (nI a)), some (Value.int (hkY (M 122) (j)))] dX8_isSeen_51 rfl rfl (Nat.le_of_ble_eq_true rfl) (by decide) rfl ?_
        refine ac_iload_n 54 dX8_isSeen_53 rfl rfl ?_
        refine ac_if_eq 72 57 dX8_isSeen_54 (by decide) rfl (fun c_54 => ?_) (fun c_54 => ?_)
        · have hb := bi_eq0.mp c_54
          refine ac_iconst 73 0 dX8_isSeen_72 rfl (by decide) ?_
          refine ac_istore_n 74 [some (Value.ref 121), some (Value.int (nI j)), some (Value.int 0), some (Value.int (nI k)), some (Value.int (nI a)), some (Value.int (hkY (M 122) (j)))] dX8_isSeen_73 rfl rfl (Nat.le_of_ble_eq_true rfl) (by decide) rfl ?_
          refine ac_iinc 77 (nI (k + 1)) [some (Value.ref 121), some (Value.int (nI j)), some (Value.int 0), some (Value.int (nI (k + 1))), some (Value.int (nI a)), some (Value.int (hkY (M 122) (j)))] dX8_isSeen_74 rfl rfl (nI_1 _) rfl (by decide) rfl ?_
          refine ac_goto 4 dX8_isSeen_77 (by decide) ?_
          refine ac_kill 4 [some (Value.ref 121), some (Value.int (nI j)), some (Value.int 0), some (Value.int (nI (k + 1))), none, some (Value.int (hkY (M 122) (j)))] rfl ?_
          refine ac_kill 5 [some (Value.ref 121), some (Value.int (nI j)), some (Value.int 0), some (Value.int (nI (k + 1))), none, none] rfl ?_
          rw [show bi (∀ i, i < k + 1 → meN (M 122) j (M 127 i) = M 128 i) = 0 from (bi_f (by first | exact fun h => hb (all_suc.mp h).1 | (intro h; have h9 := (all_suc.mp h).2; rw [ea] at h9; first | (rw [meN_3 c_23] at h9; exact c_65 h9) | (rw [meN_2 c_23 c_39] at h9; exact c_65 h9) | (rw [meN_0 c_23 c_39 ha] at h9; exact c_65 h9))))] at ih
          exact ih
        · have hb := bi_ne0.mp c_54
          refine ac_iload 59 dX8_isSeen_57 rfl rfl ?_
          refine ac_aload_n 60 dX8_isSeen_59 rfl rfl ?_
          refine ac_getO 63 128 dX8_isSeen_60 rfl fl8_29 ob121 rfl ?_
          refine ac_iload_n 64 dX8_isSeen_63 rfl rfl ?_
          refine ac_iald 65 dX8_isSeen_64 rfl ar128 (ix_nI (by omega) (by decide)) ?_
          refine ac_icmp_ne 72 68 dX8_isSeen_65 (by decide) rfl (fun c_65 => ?_) (fun c_65 => ?_)
          · refine ac_iconst 73 0 dX8_isSeen_72 rfl (by decide) ?_
            refine ac_istore_n 74 [some (Value.ref 121), some (Value.int (nI j)), some (Value.int 0), some (Value.int (nI k)), some (Value.int (nI a)), some (Value.int (hkY (M 122) (j)))] dX8_isSeen_73 rfl rfl (Nat.le_of_ble_eq_true rfl) (by decide) rfl ?_
            refine ac_iinc 77 (nI (k + 1)) [some (Value.ref 121), some (Value.int (nI j)), some (Value.int 0), some (Value.int (nI (k + 1))), some (Value.int (nI a)), some (Value.int (hkY (M 122) (j)))] dX8_isSeen_74 rfl rfl (nI_1 _) rfl (by decide) rfl ?_
            refine ac_goto 4 dX8_isSeen_77 (by decide) ?_
            refine ac_kill 4 [some (Value.ref 121), some (Value.int (nI j)), some (Value.int 0), some (Value.int (nI (k + 1))), none, some (Value.int (hkY (M 122) (j)))] rfl ?_
            refine ac_kill 5 [some (Value.ref 121), some (Value.int (nI j)), some (Value.int 0), some (Value.int (nI (k + 1))), none, none] rfl ?_
            rw [show bi (∀ i, i < k + 1 → meN (M 122) j (M 127 i) = M 128 i) = 0 from (bi_f (by first | exact fun h => hb (all_suc.mp h).1 | (intro h; have h9 := (all_suc.mp h).2; rw [ea] at h9; first | (rw [meN_3 c_23] at h9; exact c_65 h9) | (rw [meN_2 c_23 c_39] at h9; exact c_65 h9) | (rw [meN_0 c_23 c_39 ha] at h9; exact c_65 h9))))] at ih
            exact ih
          · refine ac_iconst 69 1 dX8_isSeen_68 rfl (by decide) ?_
            refine ac_goto 73 dX8_isSeen_69 (by decide) ?_
            refine ac_istore_n 74 [some (Value.ref 121), some (Value.int (nI j)), some (Value.int 1), some (Value.int (nI k)), some (Value.int (nI a)), some (Value.int (hkY (M 122) (j)))] dX8_isSeen_73 rfl rfl (Nat.le_of_ble_eq_true rfl) (by decide) rfl ?_
            refine ac_iinc 77 (nI (k + 1)) [some (Value.ref 121), some (Value.int (nI j)), some (Value.int 1), some (Value.int (nI (k + 1))), some (Value.int (nI a)), some (Value.int (hkY (M 122) (j)))] dX8_isSeen_74 rfl rfl (nI_1 _) rfl (by decide) rfl ?_
            refine ac_goto 4 dX8_isSeen_77 (by decide) ?_
            refine ac_kill 4 [some (Value.ref 121), some (Value.int (nI j)), some (Value.int 1), some (Value.int (nI (k + 1))), none, some (Value.int (hkY (M 122) (j)))] rfl ?_
            refine ac_kill 5 [some (Value.ref 121), some (Value.int (nI j)), some (Value.int 1), some (Value.int (nI (k + 1))), none, none] rfl ?_
            rw [show bi (∀ i, i < k + 1 → meN (M 122) j (M 127 i) = M 128 i) = 1 from (bi_t (all_suc.mpr ⟨hb, (by rw [ea]; first | (rw [meN_3 c_23]; exact c_65) | (rw [meN_2 c_23 c_39]; exact c_65) | (rw [meN_0 c_23 c_39 ha]; exact c_65))⟩))] at ih
            exact ih
  refine ac_iconst 3 0 dX8_isSeen_2 rfl (by decide) ?_
  refine ac_istore_n 4 [some (Value.ref 121), some (Value.int (nI j)), some (Value.int 1), some (Value.int 0), none, none] dX8_isSeen_3 rfl rfl (Nat.le_of_ble_eq_true rfl) (by decide) rfl ?_
  rw [show bi (∀ i, i < 0 → meN (M 122) j (M 127 i) = M 128 i) = 1 from bi_t (fun q hq => absurd hq (Nat.not_lt_zero q))] at hL
  exact hL
set_option maxRecDepth 20000 in
theorem c8_which {M : am_I} {V : am_J} {f : Nat → Option Nat} {np nd nh ns : Nat} (hn : NC (M 122) np nd nh) (hs : SC M ns) (what : Int32) : CT m8_which 4 [Value.ref 121, Value.int what] M V f (RV (if what = 0 then dcnt (seN (M 122) (M 127) (M 128) ns) np np else if what = 1 then dlst (seN (M 122) (M 127) (M 128) ns) np np else -1) M V f) := by
  have hnp := hn.2.1
  refine CT.of m8_which_V.1 _ (en_ai_5 121 what) ?_
  refine ac_iconst 1 0 dX8_which_0 rfl (by decide) ?_
  refine ac_istore_n 2 [some (Value.ref 121), some (Value.int what), some (Value.int 0), none, none] dX8_which_1 rfl rfl (Nat.le_of_ble_eq_true rfl) (by decide) rfl ?_
  refine ac_bipush 4 (-9) dX8_which_2 rfl (by decide) ?_
  refine ac_istore_n 5 [some (Value.ref 121), some (Value.int what), some (Value.int 0), some (Value.int (-9)), none] dX8_which_4 rfl rfl (Nat.le_of_ble_eq_true rfl) (by decide) rfl ?_
  refine ac_aload_n 6 dX8_which_5 rfl rfl ?_
  refine ac_getO 9 122 dX8_which_6 rfl fl8_7 ob121 rfl ?_
  refine ac_iconst 10 3 dX8_which_9 rfl (by decide) ?_
  refine ac_iald 11 dX8_which_10 rfl ar122 (ix_nI (k := 3) (by decide) (by decide)) ?_
  rw [show (M 122 3) = (nI np) from hn.1]
  refine ac_iconst 12 1 dX8_which_11 rfl (by decide) ?_
  refine ac_isub 13 dX8_which_12 rfl ?_
  refine ac_istore 15 [some (Value.ref 121), some (Value.int what), some (Value.int 0), some (Value.int (-9)), some (Value.int ((nI np) - 1))] dX8_which_13 rfl rfl (Nat.le_of_ble_eq_true rfl) (by decide) rfl ?_
  refine ac_down (n := np) (P := fun k => A0 m8_which 4 15 [some (Value.ref 121), some (Value.int what), some (Value.int (dcnt (seN (M 122) (M 127) (M 128) ns) np k)), some (Value.int (dlst (seN (M 122) (M 127) (M 128) ns) np k)), some (Value.int (nI (np - k) - 1))] [] M V f (RV (if what = 0 then dcnt (seN (M 122) (M 127) (M 128) ns) np np else if what = 1 then dlst (seN (M 122) (M 127) (M 128) ns) np np else -1) M V f)) ?_ ?_ 0 (Nat.zero_le _) 
  · rw [dn_0]
    refine ac_iload 17 dX8_which_15 rfl rfl ?_
    refine ac_if_lt 59 20 dX8_which_17 (by decide) rfl (fun _ => ?_) (fun c_17 => absurd (by decide) c_17)
    refine ac_iload_n 60 dX8_which_59 rfl rfl ?_
    refine ac_if_ne 67 63 dX8_which_60 (by decide) rfl (fun c_60 => ?_) (fun c_60 => ?_)
    · refine ac_iload_n 68 dX8_which_67 rfl rfl ?_
      refine ac_iconst 69 1 dX8_which_68 rfl (by decide) ?_
      refine ac_icmp_ne 76 72 dX8_which_69 (by decide) rfl (fun c_69 => ?_) (fun c_69 => ?_)
      · refine ac_iconst 77 (-1) dX8_which_76 rfl (by decide) ?_
        refine ac_iret dX8_which_77 ⟨_, rfl, rfl⟩ ?_
        exact rv_mk (by first | rw [if_pos c_60] | rw [if_neg c_60, if_pos c_69] | rw [if_neg c_60, if_neg c_69])
      · refine ac_iload_n 73 dX8_which_72 rfl rfl ?_
        refine ac_goto 77 dX8_which_73 (by decide) ?_
        refine ac_iret dX8_which_77 ⟨_, rfl, rfl⟩ ?_
        exact rv_mk (by first | rw [if_pos c_60] | rw [if_neg c_60, if_pos c_69] | rw [if_neg c_60, if_neg c_69])
    · refine ac_iload_n 64 dX8_which_63 rfl rfl ?_
      refine ac_goto 77 dX8_which_64 (by decide) ?_
      refine ac_iret dX8_which_77 ⟨_, rfl, rfl⟩ ?_
      exact rv_mk (by first | rw [if_pos c_60] | rw [if_neg c_60, if_pos c_69] | rw [if_neg c_60, if_neg c_69])
  · intro k hk ih
    rw [dn_eq hk]
    refine ac_iload 17 dX8_which_15 rfl rfl ?_
    refine ac_if_lt 59 20 dX8_which_17 (by decide) rfl (fun c_17 => absurd c_17 (nI_pos (by omega))) (fun _ => ?_)
    refine ac_iload_n 21 dX8_which_20 rfl rfl ?_
    refine ac_aload_n 22 dX8_which_21 rfl rfl ?_
    refine ac_iload 24 dX8_which_22 rfl rfl ?_
    refine ac_callV (μ' := m8_isSeen) 27 dX8_which_24 rfl lk8_192 m8_isSeen_V ob121 (c8_isSeen hs (by omega)) rfl rfl (by decide) (Nat.le_of_ble_eq_true rfl) ?_
    refine ac_if_eq 34 30 dX8_which_27 (by decide) rfl (fun c_27 => ?_) (fun c_27 => ?_)
    · have hq := bi_eq0.mp c_27
      refine ac_iconst 35 0 dX8_which_34 rfl (by decide) ?_
      refine ac_iadd 36 dX8_which_35 rfl ?_
      refine ac_istore_n 37 [some (Value.ref 121), some (Value.int what), some (Value.int ((dcnt (seN (M 122) (M 127) (M 128) ns) np k) + 0)), some (Value.int (dlst (seN (M 122) (M 127) (M 128) ns) np k)), some (Value.int (nI (np - 1 - k)))] dX8_which_36 rfl rfl (Nat.le_of_ble_eq_true rfl) (by decide) rfl ?_
      refine ac_aload_n 38 dX8_which_37 rfl rfl ?_
      refine ac_iload 40 dX8_which_38 rfl rfl ?_
      refine ac_callV (μ' := m8_isSeen) 43 dX8_which_40 rfl lk8_192 m8_isSeen_V ob121 (c8_isSeen hs (by omega)) rfl rfl (by decide) (Nat.le_of_ble_eq_true rfl) ?_
      refine ac_if_eq 51 46 dX8_which_43 (by decide) rfl (fun _ => ?_) (fun c_43 => absurd (bi_f hq) c_43)
      refine ac_iload_n 52 dX8_which_51 rfl rfl ?_
      refine ac_istore_n 53 [some (Value.ref 121), some (Value.int what), some (Value.int ((dcnt (seN (M 122) (M 127) (M 128) ns) np k) + 0)), some (Value.int (dlst (seN (M 122) (M 127) (M 128) ns) np k)), some (Value.int (nI (np - 1 - k)))] dX8_which_52 rfl rfl (Nat.le_of_ble_eq_true rfl) (by decide) rfl ?_
      refine ac_iinc 56 (nI (np - (k + 1)) - 1) [some (Value.ref 121), some (Value.int what), some (Value.int ((dcnt (seN (M 122) (M 127) (M 128) ns) np k) + 0)), some (Value.int (dlst (seN (M 122) (M 127) (M 128) ns) np k)), some (Value.int (nI (np - (k + 1)) - 1))] dX8_which_53 rfl rfl (dn_nx hk) rfl (by decide) rfl ?_
      refine ac_goto 15 dX8_which_56 (by decide) ?_
      rw [show dcnt (seN (M 122) (M 127) (M 128) ns) np (k + 1) = ((dcnt (seN (M 122) (M 127) (M 128) ns) np k) + 0) from dcnt_f hq, show dlst (seN (M 122) (M 127) (M 128) ns) np (k + 1) = (dlst (seN (M 122) (M 127) (M 128) ns) np k) from dlst_f hq] at ih
      exact ih
    · have hq := bi_ne0.mp c_27
      refine ac_iconst 31 1 dX8_which_30 rfl (by decide) ?_
      refine ac_goto 35 dX8_which_31 (by decide) ?_
      refine ac_iadd 36 dX8_which_35 rfl ?_
      refine ac_istore_n 37 [some (Value.ref 121), some (Value.int what), some (Value.int ((dcnt (seN (M 122) (M 127) (M 128) ns) np k) + 1)), some (Value.int (dlst (seN (M 122) (M 127) (M 128) ns) np k)), some (Value.int (nI (np - 1 - k)))] dX8_which_36 rfl rfl (Nat.le_of_ble_eq_true rfl) (by decide) rfl ?_
      refine ac_aload_n 38 dX8_which_37 rfl rfl ?_
      refine ac_iload 40 dX8_which_38 rfl rfl ?_
      refine ac_callV (μ' := m8_isSeen) 43 dX8_which_40 rfl lk8_192 m8_isSeen_V ob121 (c8_isSeen hs (by omega)) rfl rfl (by decide) (Nat.le_of_ble_eq_true rfl) ?_
      refine ac_if_eq 51 46 dX8_which_43 (by decide) rfl (fun c_43 => absurd c_43 (by rw [bi_eq0]; exact fun h => h hq)) (fun _ => ?_)
      refine ac_iload 48 dX8_which_46 rfl rfl ?_
      refine ac_goto 52 dX8_which_48 (by decide) ?_
      refine ac_istore_n 53 [some (Value.ref 121), some (Value.int what), some (Value.int ((dcnt (seN (M 122) (M 127) (M 128) ns) np k) + 1)), some (Value.int (nI (np - 1 - k))), some (Value.int (nI (np - 1 - k)))] dX8_which_52 rfl rfl (Nat.le_of_ble_eq_true rfl) (by decide) rfl ?_
      refine ac_iinc 56 (nI (np - (k + 1)) - 1) [some (Value.ref 121), some (Value.int what), some (Value.int ((dcnt (seN (M 122) (M 127) (M 128) ns) np k) + 1)), some (Value.int (nI (np - 1 - k))), some (Value.int (nI (np - (k + 1)) - 1))] dX8_which_53 rfl rfl (dn_nx hk) rfl (by decide) rfl ?_
      refine ac_goto 15 dX8_which_56 (by decide) ?_
      rw [show dcnt (seN (M 122) (M 127) (M 128) ns) np (k + 1) = ((dcnt (seN (M 122) (M 127) (M 128) ns) np k) + 1) from dcnt_t hq, show dlst (seN (M 122) (M 127) (M 128) ns) np (k + 1) = (nI (np - 1 - k)) from dlst_t hq] at ih
      exact ih
/-- how far from balance -/
def ofN (x : Int32) : Int32 := if x < 0 then -x else x
set_option maxRecDepth 20000 in
theorem c8_tellPlaces {M : am_I} {V : am_J} {f : Nat → Option Nat} {np nd nh j : Nat} (hn : NC (M 122) np nd nh) (hj : j < 5) (what : Int32) : CT m8_tellPlaces 5 [Value.ref 121, Value.int (nI j), Value.int what] M V f (RV (if what = 0 then dcnt (fun i => fitN (M 122) nd j (nI i) ∧ apN (M 122) np j (nI i)) 40 40 else if what = 1 then dlst (fun i => fitN (M 122) nd j (nI i) ∧ apN (M 122) np j (nI i)) 40 40 else if what = 2 then dlst (fun i => (fitN (M 122) nd j (nI i) ∧ apN (M 122) np j (nI i)) ∧ hoN (M 122) nh (hkX (M 122) j (nI i)) (hkY (M 122) j)) 40 40 else dbal (fun i => fitN (M 122) nd j (nI i) ∧ apN (M 122) np j (nI i)) (fun x => ofN (moN (M 122) np + leN (M 122) j x)) 40 40) M V f) := by
  refine CT.of m8_tellPlaces_V.1 _ (en_aii_10 121 (nI j) what) ?_
  refine ac_iconst 1 0 dX8_tellPlaces_0 rfl (by decide) ?_
  refine ac_istore_n 2 [some (Value.ref 121), some (Value.int (nI j)), some (Value.int what), some (Value.int 0), none, none, none, none, none, none] dX8_tellPlaces_1 rfl rfl (Nat.le_of_ble_eq_true rfl) (by decide) rfl ?_
  refine ac_bipush 4 (-9) dX8_tellPlaces_2 rfl (by decide) ?_
  refine ac_istore 6 [some (Value.ref 121), some (Value.int (nI j)), some (Value.int what), some (Value.int 0), some (Value.int (-9)), none, none, none, none, none] dX8_tellPlaces_4 rfl rfl (Nat.le_of_ble_eq_true rfl) (by decide) rfl ?_
  refine ac_bipush 8 (-9) dX8_tellPlaces_6 rfl (by decide) ?_
  refine ac_istore 10 [some (Value.ref 121), some (Value.int (nI j)), some (Value.int what), some (Value.int 0), some (Value.int (-9)), some (Value.int (-9)), none, none, none, none] dX8_tellPlaces_8 rfl rfl (Nat.le_of_ble_eq_true rfl) (by decide) rfl ?_
  refine ac_bipush 12 (-9) dX8_tellPlaces_10 rfl (by decide) ?_
  refine ac_istore 14 [some (Value.ref 121), some (Value.int (nI j)), some (Value.int what), some (Value.int 0), some (Value.int (-9)), some (Value.int (-9)), some (Value.int (-9)), none, none, none] dX8_tellPlaces_12 rfl rfl (Nat.le_of_ble_eq_true rfl) (by decide) rfl ?_
  refine ac_aload_n 15 dX8_tellPlaces_14 rfl rfl ?_
  refine ac_callV (μ' := m8_momentNow) 18 dX8_tellPlaces_15 rfl lk8_158 m8_momentNow_V ob121 (c8_momentNow hn) rfl rfl (by decide) (Nat.le_of_ble_eq_true rfl) ?_
  refine ac_istore 20 [some (Value.ref 121), some (Value.int (nI j)), some (Value.int what), some (Value.int 0), some (Value.int (-9)), some (Value.int (-9)), some (Value.int (-9)), some (Value.int (moN (M 122) np)), none, none] dX8_tellPlaces_18 rfl rfl (Nat.le_of_ble_eq_true rfl) (by decide) rfl ?_
  refine ac_bipush 22 39 dX8_tellPlaces_20 rfl (by decide) ?_
  refine ac_istore 24 [some (Value.ref 121), some (Value.int (nI j)), some (Value.int what), some (Value.int 0), some (Value.int (-9)), some (Value.int (-9)), some (Value.int (-9)), some (Value.int (moN (M 122) np)), some (Value.int 39), none] dX8_tellPlaces_22 rfl rfl (Nat.le_of_ble_eq_true rfl) (by decide) rfl ?_
  refine ac_down (n := 40) (P := fun k => A0 m8_tellPlaces 5 24 [some (Value.ref 121), some (Value.int (nI j)), some (Value.int what), some (Value.int (dcnt (fun i => fitN (M 122) nd j (nI i) ∧ apN (M 122) np j (nI i)) 40 k)), some (Value.int (dlst (fun i => fitN (M 122) nd j (nI i) ∧ apN (M 122) np j (nI i)) 40 k)), some (Value.int (dlst (fun i => (fitN (M 122) nd j (nI i) ∧ apN (M 122) np j (nI i)) ∧ hoN (M 122) nh (hkX (M 122) j (nI i)) (hkY (M 122) j)) 40 k)), some (Value.int (dbal (fun i => fitN (M 122) nd j (nI i) ∧ apN (M 122) np j (nI i)) (fun x => ofN (moN (M 122) np + leN (M 122) j x)) 40 k)), some (Value.int (moN (M 122) np)), some (Value.int (nI (40 - k) - 1)), none] [] M V f (RV (if what = 0 then dcnt (fun i => fitN (M 122) nd j (nI i) ∧ apN (M 122) np j (nI i)) 40 40 else if what = 1 then dlst (fun i => fitN (M 122) nd j (nI i) ∧ apN (M 122) np j (nI i)) 40 40 else if what = 2 then dlst (fun i => (fitN (M 122) nd j (nI i) ∧ apN (M 122) np j (nI i)) ∧ hoN (M 122) nh (hkX (M 122) j (nI i)) (hkY (M 122) j)) 40 40 else dbal (fun i => fitN (M 122) nd j (nI i) ∧ apN (M 122) np j (nI i)) (fun x => ofN (moN (M 122) np + leN (M 122) j x)) 40 40) M V f)) ?_ ?_ 0 (Nat.zero_le _) 
  · rw [dn_0]
    refine ac_iload 26 dX8_tellPlaces_24 rfl rfl ?_
    refine ac_if_lt 138 29 dX8_tellPlaces_26 (by decide) rfl (fun _ => ?_) (fun c_26 => absurd (by decide) c_26)
    refine ac_iload_n 139 dX8_tellPlaces_138 rfl rfl ?_
    refine ac_if_ne 146 142 dX8_tellPlaces_139 (by decide) rfl (fun c_139 => ?_) (fun c_139 => ?_)
    · refine ac_iload_n 147 dX8_tellPlaces_146 rfl rfl ?_
      refine ac_iconst 148 1 dX8_tellPlaces_147 rfl (by decide) ?_
      refine ac_icmp_ne 156 151 dX8_tellPlaces_148 (by decide) rfl (fun c_148 => ?_) (fun c_148 => ?_)
      · refine ac_iload_n 157 dX8_tellPlaces_156 rfl rfl ?_
        refine ac_iconst 158 2 dX8_tellPlaces_157 rfl (by decide) ?_
        refine ac_icmp_ne 166 161 dX8_tellPlaces_158 (by decide) rfl (fun c_158 => ?_) (fun c_158 => ?_)
        · refine ac_iload 168 dX8_tellPlaces_166 rfl rfl ?_
          refine ac_iret dX8_tellPlaces_168 ⟨_, rfl, rfl⟩ ?_
          exact rv_mk (by first | rw [if_pos c_139] | rw [if_neg c_139, if_pos c_148] | rw [if_neg c_139, if_neg c_148, if_pos c_158] | rw [if_neg c_139, if_neg c_148, if_neg c_158])
        · refine ac_iload 163 dX8_tellPlaces_161 rfl rfl ?_
          refine ac_goto 168 dX8_tellPlaces_163 (by decide) ?_
          refine ac_iret dX8_tellPlaces_168 ⟨_, rfl, rfl⟩ ?_
          exact rv_mk (by first | rw [if_pos c_139] | rw [if_neg c_139, if_pos c_148] | rw [if_neg c_139, if_neg c_148, if_pos c_158] | rw [if_neg c_139, if_neg c_148, if_neg c_158])
      · refine ac_iload 153 dX8_tellPlaces_151 rfl rfl ?_
        refine ac_goto 168 dX8_tellPlaces_153 (by decide) ?_
        refine ac_iret dX8_tellPlaces_168 ⟨_, rfl, rfl⟩ ?_
        exact rv_mk (by first | rw [if_pos c_139] | rw [if_neg c_139, if_pos c_148] | rw [if_neg c_139, if_neg c_148, if_pos c_158] | rw [if_neg c_139, if_neg c_148, if_neg c_158])
    · refine ac_iload_n 143 dX8_tellPlaces_142 rfl rfl ?_
      refine ac_goto 168 dX8_tellPlaces_143 (by decide) ?_
      refine ac_iret dX8_tellPlaces_168 ⟨_, rfl, rfl⟩ ?_
      exact rv_mk (by first | rw [if_pos c_139] | rw [if_neg c_139, if_pos c_148] | rw [if_neg c_139, if_neg c_148, if_pos c_158] | rw [if_neg c_139, if_neg c_148, if_neg c_158])
  · intro k hk ih
    rw [dn_eq hk]
    refine ac_iload 26 dX8_tellPlaces_24 rfl rfl ?_
    refine ac_if_lt 138 29 dX8_tellPlaces_26 (by decide) rfl (fun c_26 => absurd c_26 (nI_pos (by omega))) (fun _ => ?_)
    refine ac_aload_n 30 dX8_tellPlaces_29 rfl rfl ?_
    refine ac_iload_n 31 dX8_tellPlaces_30 rfl rfl ?_
    refine ac_iload 33 dX8_tellPlaces_31 rfl rfl ?_
    refine ac_callV (μ' := m8_doesFit) 36 dX8_tellPlaces_33 rfl lk8_139 m8_doesFit_V ob121 (c8_doesFit hn hj _) rfl rfl (by decide) (Nat.le_of_ble_eq_true rfl) ?_
    refine ac_if_eq 132 39 dX8_tellPlaces_36 (by decide) rfl (fun c_36 => ?_) (fun c_36 => ?_)
    · have hf := bi_eq0.mp c_36
      refine ac_iinc 135 (nI (40 - (k + 1)) - 1) [some (Value.ref 121), some (Value.int (nI j)), some (Value.int what), some (Value.int (dcnt (fun i => fitN (M 122) nd j (nI i) ∧ apN (M 122) np j (nI i)) 40 k)), some (Value.int (dlst (fun i => fitN (M 122) nd j (nI i) ∧ apN (M 122) np j (nI i)) 40 k)), some (Value.int (dlst (fun i => (fitN (M 122) nd j (nI i) ∧ apN (M 122) np j (nI i)) ∧ hoN (M 122) nh (hkX (M 122) j (nI i)) (hkY (M 122) j)) 40 k)), some (Value.int (dbal (fun i => fitN (M 122) nd j (nI i) ∧ apN (M 122) np j (nI i)) (fun x => ofN (moN (M 122) np + leN (M 122) j x)) 40 k)), some (Value.int (moN (M 122) np)), some (Value.int (nI (40 - (k + 1)) - 1)), none] dX8_tellPlaces_132 rfl rfl (dn_nx hk) rfl (by decide) rfl ?_
      refine ac_goto 24 dX8_tellPlaces_135 (by decide) ?_
      rw [show dcnt (fun i => fitN (M 122) nd j (nI i) ∧ apN (M 122) np j (nI i)) 40 (k + 1) = (dcnt (fun i => fitN (M 122) nd j (nI i) ∧ apN (M 122) np j (nI i)) 40 k) from dcnt_f' (P := (fun i => fitN (M 122) nd j (nI i) ∧ apN (M 122) np j (nI i))) (by first | exact fun q => hf q.1 | exact fun q => hap q.2), show dlst (fun i => fitN (M 122) nd j (nI i) ∧ apN (M 122) np j (nI i)) 40 (k + 1) = (dlst (fun i => fitN (M 122) nd j (nI i) ∧ apN (M 122) np j (nI i)) 40 k) from dlst_f (P := (fun i => fitN (M 122) nd j (nI i) ∧ apN (M 122) np j (nI i))) (by first | exact fun q => hf q.1 | exact fun q => hap q.2), show dlst (fun i => (fitN (M 122) nd j (nI i) ∧ apN (M 122) np j (nI i)) ∧ hoN (M 122) nh (hkX (M 122) j (nI i)) (hkY (M 122) j)) 40 (k + 1) = (dlst (fun i => (fitN (M 122) nd j (nI i) ∧ apN (M 122) np j (nI i)) ∧ hoN (M 122) nh (hkX (M 122) j (nI i)) (hkY (M 122) j)) 40 k) from dlst_f (P := (fun i => (fitN (M 122) nd j (nI i) ∧ apN (M 122) np j (nI i)) ∧ hoN (M 122) nh (hkX (M 122) j (nI i)) (hkY (M 122) j))) (by first | exact fun q => hf q.1.1 | exact fun q => hap q.1.2), show dbal (fun i => fitN (M 122) nd j (nI i) ∧ apN (M 122) np j (nI i)) (fun x => ofN (moN (M 122) np + leN (M 122) j x)) 40 (k + 1) = (dbal (fun i => fitN (M 122) nd j (nI i) ∧ apN (M 122) np j (nI i)) (fun x => ofN (moN (M 122) np + leN (M 122) j x)) 40 k) from dbal_f (P := (fun i => fitN (M 122) nd j (nI i) ∧ apN (M 122) np j (nI i))) (by first | exact fun q => hf q.1 | exact fun q => hap q.2)] at ih
      exact ih
    · have hf := bi_ne0.mp c_36
      refine ac_aload_n 40 dX8_tellPlaces_39 rfl rfl ?_
      refine ac_iload_n 41 dX8_tellPlaces_40 rfl rfl ?_
      refine ac_iload 43 dX8_tellPlaces_41 rfl rfl ?_
      refine ac_callV (μ' := m8_isApart) 46 dX8_tellPlaces_43 rfl lk8_142 m8_isApart_V ob121 (c8_isApart hn hj _) rfl rfl (by decide) (Nat.le_of_ble_eq_true rfl) ?_
      refine ac_if_eq 132 49 dX8_tellPlaces_46 (by decide) rfl (fun c_46 => ?_) (fun c_46 => ?_)
      · have hap := bi_eq0.mp c_46
        refine ac_iinc 135 (nI (40 - (k + 1)) - 1) [some (Value.ref 121), some (Value.int (nI j)), some (Value.int what), some (Value.int (dcnt (fun i => fitN (M 122) nd j (nI i) ∧ apN (M 122) np j (nI i)) 40 k)), some (Value.int (dlst (fun i => fitN (M 122) nd j (nI i) ∧ apN (M 122) np j (nI i)) 40 k)), some (Value.int (dlst (fun i => (fitN (M 122) nd j (nI i) ∧ apN (M 122) np j (nI i)) ∧ hoN (M 122) nh (hkX (M 122) j (nI i)) (hkY (M 122) j)) 40 k)), some (Value.int (dbal (fun i => fitN (M 122) nd j (nI i) ∧ apN (M 122) np j (nI i)) (fun x => ofN (moN (M 122) np + leN (M 122) j x)) 40 k)), some (Value.int (moN (M 122) np)), some (Value.int (nI (40 - (k + 1)) - 1)), none] dX8_tellPlaces_132 rfl rfl (dn_nx hk) rfl (by decide) rfl ?_
        refine ac_goto 24 dX8_tellPlaces_135 (by decide) ?_
        rw [show dcnt (fun i => fitN (M 122) nd j (nI i) ∧ apN (M 122) np j (nI i)) 40 (k + 1) = (dcnt (fun i => fitN (M 122) nd j (nI i) ∧ apN (M 122) np j (nI i)) 40 k) from dcnt_f' (P := (fun i => fitN (M 122) nd j (nI i) ∧ apN (M 122) np j (nI i))) (by first | exact fun q => hf q.1 | exact fun q => hap q.2), show dlst (fun i => fitN (M 122) nd j (nI i) ∧ apN (M 122) np j (nI i)) 40 (k + 1) = (dlst (fun i => fitN (M 122) nd j (nI i) ∧ apN (M 122) np j (nI i)) 40 k) from dlst_f (P := (fun i => fitN (M 122) nd j (nI i) ∧ apN (M 122) np j (nI i))) (by first | exact fun q => hf q.1 | exact fun q => hap q.2), show dlst (fun i => (fitN (M 122) nd j (nI i) ∧ apN (M 122) np j (nI i)) ∧ hoN (M 122) nh (hkX (M 122) j (nI i)) (hkY (M 122) j)) 40 (k + 1) = (dlst (fun i => (fitN (M 122) nd j (nI i) ∧ apN (M 122) np j (nI i)) ∧ hoN (M 122) nh (hkX (M 122) j (nI i)) (hkY (M 122) j)) 40 k) from dlst_f (P := (fun i => (fitN (M 122) nd j (nI i) ∧ apN (M 122) np j (nI i)) ∧ hoN (M 122) nh (hkX (M 122) j (nI i)) (hkY (M 122) j))) (by first | exact fun q => hf q.1.1 | exact fun q => hap q.1.2), show dbal (fun i => fitN (M 122) nd j (nI i) ∧ apN (M 122) np j (nI i)) (fun x => ofN (moN (M 122) np + leN (M 122) j x)) 40 (k + 1) = (dbal (fun i => fitN (M 122) nd j (nI i) ∧ apN (M 122) np j (nI i)) (fun x => ofN (moN (M 122) np + leN (M 122) j x)) 40 k) from dbal_f (P := (fun i => fitN (M 122) nd j (nI i) ∧ apN (M 122) np j (nI i))) (by first | exact fun q => hf q.1 | exact fun q => hap q.2)] at ih
        exact ih
      · have hap := bi_ne0.mp c_46
        refine ac_iinc 52 ((dcnt (fun i => fitN (M 122) nd j (nI i) ∧ apN (M 122) np j (nI i)) 40 k) + 1) [some (Value.ref 121), some (Value.int (nI j)), some (Value.int what), some (Value.int ((dcnt (fun i => fitN (M 122) nd j (nI i) ∧ apN (M 122) np j (nI i)) 40 k) + 1)), some (Value.int (dlst (fun i => fitN (M 122) nd j (nI i) ∧ apN (M 122) np j (nI i)) 40 k)), some (Value.int (dlst (fun i => (fitN (M 122) nd j (nI i) ∧ apN (M 122) np j (nI i)) ∧ hoN (M 122) nh (hkX (M 122) j (nI i)) (hkY (M 122) j)) 40 k)), some (Value.int (dbal (fun i => fitN (M 122) nd j (nI i) ∧ apN (M 122) np j (nI i)) (fun x => ofN (moN (M 122) np + leN (M 122) j x)) 40 k)), some (Value.int (moN (M 122) np)), some (Value.int (nI (40 - 1 - k))), none] dX8_tellPlaces_49 rfl rfl rfl rfl (by decide) rfl ?_
        refine ac_iload 54 dX8_tellPlaces_52 rfl rfl ?_
        refine ac_istore 56 [some (Value.ref 121), some (Value.int (nI j)), some (Value.int what), some (Value.int ((dcnt (fun i => fitN (M 122) nd j (nI i) ∧ apN (M 122) np j (nI i)) 40 k) + 1)), some (Value.int (nI (40 - 1 - k))), some (Value.int (dlst (fun i => (fitN (M 122) nd j (nI i) ∧ apN (M 122) np j (nI i)) ∧ hoN (M 122) nh (hkX (M 122) j (nI i)) (hkY (M 122) j)) 40 k)), some (Value.int (dbal (fun i => fitN (M 122) nd j (nI i) ∧ apN (M 122) np j (nI i)) (fun x => ofN (moN (M 122) np + leN (M 122) j x)) 40 k)), some (Value.int (moN (M 122) np)), some (Value.int (nI (40 - 1 - k))), none] dX8_tellPlaces_54 rfl rfl (Nat.le_of_ble_eq_true rfl) (by decide) rfl ?_
        refine ac_aload_n 57 dX8_tellPlaces_56 rfl rfl ?_
        refine ac_iload_n 58 dX8_tellPlaces_57 rfl rfl ?_
        refine ac_iload 60 dX8_tellPlaces_58 rfl rfl ?_
        refine ac_callV (μ' := m8_hasHole) 63 dX8_tellPlaces_60 rfl lk8_145 m8_hasHole_V ob121 (c8_hasHole hn hj _) rfl rfl (by decide) (Nat.le_of_ble_eq_true rfl) ?_
        refine ac_if_eq 71 66 dX8_tellPlaces_63 (by decide) rfl (fun c_63 => ?_) (fun c_63 => ?_)
        · have hh := bi_eq0.mp c_63
          refine ac_iload 73 dX8_tellPlaces_71 rfl rfl ?_
          refine ac_istore 75 [some (Value.ref 121), some (Value.int (nI j)), some (Value.int what), some (Value.int ((dcnt (fun i => fitN (M 122) nd j (nI i) ∧ apN (M 122) np j (nI i)) 40 k) + 1)), some (Value.int (nI (40 - 1 - k))), some (Value.int (dlst (fun i => (fitN (M 122) nd j (nI i) ∧ apN (M 122) np j (nI i)) ∧ hoN (M 122) nh (hkX (M 122) j (nI i)) (hkY (M 122) j)) 40 k)), some (Value.int (dbal (fun i => fitN (M 122) nd j (nI i) ∧ apN (M 122) np j (nI i)) (fun x => ofN (moN (M 122) np + leN (M 122) j x)) 40 k)), some (Value.int (moN (M 122) np)), some (Value.int (nI (40 - 1 - k))), none] dX8_tellPlaces_73 rfl rfl (Nat.le_of_ble_eq_true rfl) (by decide) rfl ?_
          refine ac_iload 77 dX8_tellPlaces_75 rfl rfl ?_
          refine ac_bipush 79 (-9) dX8_tellPlaces_77 rfl (by decide) ?_
          refine ac_icmp_eq 111 82 dX8_tellPlaces_79 (by decide) rfl (fun c_79 => ?_) (fun c_79 => ?_)
          · refine ac_iconst 112 1 dX8_tellPlaces_111 rfl (by decide) ?_
            refine ac_goto 116 dX8_tellPlaces_112 (by decide) ?_
            refine ac_istore 118 [some (Value.ref 121), some (Value.int (nI j)), some (Value.int what), some (Value.int ((dcnt (fun i => fitN (M 122) nd j (nI i) ∧ apN (M 122) np j (nI i)) 40 k) + 1)), some (Value.int (nI (40 - 1 - k))), some (Value.int (dlst (fun i => (fitN (M 122) nd j (nI i) ∧ apN (M 122) np j (nI i)) ∧ hoN (M 122) nh (hkX (M 122) j (nI i)) (hkY (M 122) j)) 40 k)), some (Value.int (dbal (fun i => fitN (M 122) nd j (nI i) ∧ apN (M 122) np j (nI i)) (fun x => ofN (moN (M 122) np + leN (M 122) j x)) 40 k)), some (Value.int (moN (M 122) np)), some (Value.int (nI (40 - 1 - k))), some (Value.int 1)] dX8_tellPlaces_116 rfl rfl (Nat.le_of_ble_eq_true rfl) (by decide) rfl ?_
            refine ac_iload 120 dX8_tellPlaces_118 rfl rfl ?_
            refine ac_if_eq 128 123 dX8_tellPlaces_120 (by decide) rfl (fun c_120 => absurd c_120 (by decide)) (fun _ => ?_)
            refine ac_iload 125 dX8_tellPlaces_123 rfl rfl ?_
            refine ac_goto 130 dX8_tellPlaces_125 (by decide) ?_
            refine ac_istore 132 [some (Value.ref 121), some (Value.int (nI j)), some (Value.int what), some (Value.int ((dcnt (fun i => fitN (M 122) nd j (nI i) ∧ apN (M 122) np j (nI i)) 40 k) + 1)), some (Value.int (nI (40 - 1 - k))), some (Value.int (dlst (fun i => (fitN (M 122) nd j (nI i) ∧ apN (M 122) np j (nI i)) ∧ hoN (M 122) nh (hkX (M 122) j (nI i)) (hkY (M 122) j)) 40 k)), some (Value.int (nI (40 - 1 - k))), some (Value.int (moN (M 122) np)), some (Value.int (nI (40 - 1 - k))), some (Value.int 1)] dX8_tellPlaces_130 rfl rfl (Nat.le_of_ble_eq_true rfl) (by decide) rfl ?_
            refine ac_iinc 135 (nI (40 - (k + 1)) - 1) [some (Value.ref 121), some (Value.int (nI j)), some (Value.int what), some (Value.int ((dcnt (fun i => fitN (M 122) nd j (nI i) ∧ apN (M 122) np j (nI i)) 40 k) + 1)), some (Value.int (nI (40 - 1 - k))), some (Value.int (dlst (fun i => (fitN (M 122) nd j (nI i) ∧ apN (M 122) np j (nI i)) ∧ hoN (M 122) nh (hkX (M 122) j (nI i)) (hkY (M 122) j)) 40 k)), some (Value.int (nI (40 - 1 - k))), some (Value.int (moN (M 122) np)), some (Value.int (nI (40 - (k + 1)) - 1)), some (Value.int 1)] dX8_tellPlaces_132 rfl rfl (dn_nx hk) rfl (by decide) rfl ?_
            refine ac_goto 24 dX8_tellPlaces_135 (by decide) ?_
            refine ac_kill 9 [some (Value.ref 121), some (Value.int (nI j)), some (Value.int what), some (Value.int ((dcnt (fun i => fitN (M 122) nd j (nI i) ∧ apN (M 122) np j (nI i)) 40 k) + 1)), some (Value.int (nI (40 - 1 - k))), some (Value.int (dlst (fun i => (fitN (M 122) nd j (nI i) ∧ apN (M 122) np j (nI i)) ∧ hoN (M 122) nh (hkX (M 122) j (nI i)) (hkY (M 122) j)) 40 k)), some (Value.int (nI (40 - 1 - k))), some (Value.int (moN (M 122) np)), some (Value.int (nI (40 - (k + 1)) - 1)), none] rfl ?_
            rw [show dcnt (fun i => fitN (M 122) nd j (nI i) ∧ apN (M 122) np j (nI i)) 40 (k + 1) = ((dcnt (fun i => fitN (M 122) nd j (nI i) ∧ apN (M 122) np j (nI i)) 40 k) + 1) from dcnt_t (P := (fun i => fitN (M 122) nd j (nI i) ∧ apN (M 122) np j (nI i))) ⟨hf, hap⟩, show dlst (fun i => fitN (M 122) nd j (nI i) ∧ apN (M 122) np j (nI i)) 40 (k + 1) = (nI (40 - 1 - k)) from dlst_t (P := (fun i => fitN (M 122) nd j (nI i) ∧ apN (M 122) np j (nI i))) ⟨hf, hap⟩, show dlst (fun i => (fitN (M 122) nd j (nI i) ∧ apN (M 122) np j (nI i)) ∧ hoN (M 122) nh (hkX (M 122) j (nI i)) (hkY (M 122) j)) 40 (k + 1) = (dlst (fun i => (fitN (M 122) nd j (nI i) ∧ apN (M 122) np j (nI i)) ∧ hoN (M 122) nh (hkX (M 122) j (nI i)) (hkY (M 122) j)) 40 k) from dlst_f (P := (fun i => (fitN (M 122) nd j (nI i) ∧ apN (M 122) np j (nI i)) ∧ hoN (M 122) nh (hkX (M 122) j (nI i)) (hkY (M 122) j))) (fun q => hh q.2), show dbal (fun i => fitN (M 122) nd j (nI i) ∧ apN (M 122) np j (nI i)) (fun x => ofN (moN (M 122) np + leN (M 122) j x)) 40 (k + 1) = (nI (40 - 1 - k)) from (by first | exact dbal_t (P := (fun i => fitN (M 122) nd j (nI i) ∧ apN (M 122) np j (nI i))) ⟨hf, hap⟩ (Or.inl c_79) | exact dbal_t (P := (fun i => fitN (M 122) nd j (nI i) ∧ apN (M 122) np j (nI i))) ⟨hf, hap⟩ (Or.inr (Int32.not_lt.mp c_108)))] at ih
            exact ih
          · refine ac_iload 84 dX8_tellPlaces_82 rfl rfl ?_
            refine ac_aload_n 85 dX8_tellPlaces_84 rfl rfl ?_
            refine ac_iload_n 86 dX8_tellPlaces_85 rfl rfl ?_
            refine ac_iload 88 dX8_tellPlaces_86 rfl rfl ?_
            refine ac_callV (μ' := m8_leanOf) 91 dX8_tellPlaces_88 rfl lk8_155 m8_leanOf_V ob121 (c8_leanOf hj _) rfl rfl (by decide) (Nat.le_of_ble_eq_true rfl) ?_
            refine ac_iadd 92 dX8_tellPlaces_91 rfl ?_
            refine ac_callS (μ' := m8_off) 95 dX8_tellPlaces_92 rfl lk8_161 m8_off_S (c8_off _) rfl rfl (by decide) (Nat.le_of_ble_eq_true rfl) ?_
            refine ac_iload 97 dX8_tellPlaces_95 rfl rfl ?_
            refine ac_aload_n 98 dX8_tellPlaces_97 rfl rfl ?_
            refine ac_iload_n 99 dX8_tellPlaces_98 rfl rfl ?_
            refine ac_iload 101 dX8_tellPlaces_99 rfl rfl ?_
            refine ac_callV (μ' := m8_leanOf) 104 dX8_tellPlaces_101 rfl lk8_155 m8_leanOf_V ob121 (c8_leanOf hj _) rfl rfl (by decide) (Nat.le_of_ble_eq_true rfl) ?_
            refine ac_iadd 105 dX8_tellPlaces_104 rfl ?_
            refine ac_callS (μ' := m8_off) 108 dX8_tellPlaces_105 rfl lk8_161 m8_off_S (c8_off _) rfl rfl (by decide) (Nat.le_of_ble_eq_true rfl) ?_
            refine ac_icmp_gt 115 111 dX8_tellPlaces_108 (by decide) rfl (fun c_108 => ?_) (fun c_108 => ?_)
            · refine ac_iconst 116 0 dX8_tellPlaces_115 rfl (by decide) ?_
              refine ac_istore 118 [some (Value.ref 121), some (Value.int (nI j)), some (Value.int what), some (Value.int ((dcnt (fun i => fitN (M 122) nd j (nI i) ∧ apN (M 122) np j (nI i)) 40 k) + 1)), some (Value.int (nI (40 - 1 - k))), some (Value.int (dlst (fun i => (fitN (M 122) nd j (nI i) ∧ apN (M 122) np j (nI i)) ∧ hoN (M 122) nh (hkX (M 122) j (nI i)) (hkY (M 122) j)) 40 k)), some (Value.int (dbal (fun i => fitN (M 122) nd j (nI i) ∧ apN (M 122) np j (nI i)) (fun x => ofN (moN (M 122) np + leN (M 122) j x)) 40 k)), some (Value.int (moN (M 122) np)), some (Value.int (nI (40 - 1 - k))), some (Value.int 0)] dX8_tellPlaces_116 rfl rfl (Nat.le_of_ble_eq_true rfl) (by decide) rfl ?_
              refine ac_iload 120 dX8_tellPlaces_118 rfl rfl ?_
              refine ac_if_eq 128 123 dX8_tellPlaces_120 (by decide) rfl (fun _ => ?_) (fun c_120 => absurd (by decide) c_120)
              refine ac_iload 130 dX8_tellPlaces_128 rfl rfl ?_
              refine ac_istore 132 [some (Value.ref 121), some (Value.int (nI j)), some (Value.int what), some (Value.int ((dcnt (fun i => fitN (M 122) nd j (nI i) ∧ apN (M 122) np j (nI i)) 40 k) + 1)), some (Value.int (nI (40 - 1 - k))), some (Value.int (dlst (fun i => (fitN (M 122) nd j (nI i) ∧ apN (M 122) np j (nI i)) ∧ hoN (M 122) nh (hkX (M 122) j (nI i)) (hkY (M 122) j)) 40 k)), some (Value.int (dbal (fun i => fitN (M 122) nd j (nI i) ∧ apN (M 122) np j (nI i)) (fun x => ofN (moN (M 122) np + leN (M 122) j x)) 40 k)), some (Value.int (moN (M 122) np)), some (Value.int (nI (40 - 1 - k))), some (Value.int 0)] dX8_tellPlaces_130 rfl rfl (Nat.le_of_ble_eq_true rfl) (by decide) rfl ?_
              refine ac_iinc 135 (nI (40 - (k + 1)) - 1) [some (Value.ref 121), some (Value.int (nI j)), some (Value.int what), some (Value.int ((dcnt (fun i => fitN (M 122) nd j (nI i) ∧ apN (M 122) np j (nI i)) 40 k) + 1)), some (Value.int (nI (40 - 1 - k))), some (Value.int (dlst (fun i => (fitN (M 122) nd j (nI i) ∧ apN (M 122) np j (nI i)) ∧ hoN (M 122) nh (hkX (M 122) j (nI i)) (hkY (M 122) j)) 40 k)), some (Value.int (dbal (fun i => fitN (M 122) nd j (nI i) ∧ apN (M 122) np j (nI i)) (fun x => ofN (moN (M 122) np + leN (M 122) j x)) 40 k)), some (Value.int (moN (M 122) np)), some (Value.int (nI (40 - (k + 1)) - 1)), some (Value.int 0)] dX8_tellPlaces_132 rfl rfl (dn_nx hk) rfl (by decide) rfl ?_
              refine ac_goto 24 dX8_tellPlaces_135 (by decide) ?_
              refine ac_kill 9 [some (Value.ref 121), some (Value.int (nI j)), some (Value.int what), some (Value.int ((dcnt (fun i => fitN (M 122) nd j (nI i) ∧ apN (M 122) np j (nI i)) 40 k) + 1)), some (Value.int (nI (40 - 1 - k))), some (Value.int (dlst (fun i => (fitN (M 122) nd j (nI i) ∧ apN (M 122) np j (nI i)) ∧ hoN (M 122) nh (hkX (M 122) j (nI i)) (hkY (M 122) j)) 40 k)), some (Value.int (dbal (fun i => fitN (M 122) nd j (nI i) ∧ apN (M 122) np j (nI i)) (fun x => ofN (moN (M 122) np + leN (M 122) j x)) 40 k)), some (Value.int (moN (M 122) np)), some (Value.int (nI (40 - (k + 1)) - 1)), none] rfl ?_
              rw [show dcnt (fun i => fitN (M 122) nd j (nI i) ∧ apN (M 122) np j (nI i)) 40 (k + 1) = ((dcnt (fun i => fitN (M 122) nd j (nI i) ∧ apN (M 122) np j (nI i)) 40 k) + 1) from dcnt_t (P := (fun i => fitN (M 122) nd j (nI i) ∧ apN (M 122) np j (nI i))) ⟨hf, hap⟩, show dlst (fun i => fitN (M 122) nd j (nI i) ∧ apN (M 122) np j (nI i)) 40 (k + 1) = (nI (40 - 1 - k)) from dlst_t (P := (fun i => fitN (M 122) nd j (nI i) ∧ apN (M 122) np j (nI i))) ⟨hf, hap⟩, show dlst (fun i => (fitN (M 122) nd j (nI i) ∧ apN (M 122) np j (nI i)) ∧ hoN (M 122) nh (hkX (M 122) j (nI i)) (hkY (M 122) j)) 40 (k + 1) = (dlst (fun i => (fitN (M 122) nd j (nI i) ∧ apN (M 122) np j (nI i)) ∧ hoN (M 122) nh (hkX (M 122) j (nI i)) (hkY (M 122) j)) 40 k) from dlst_f (P := (fun i => (fitN (M 122) nd j (nI i) ∧ apN (M 122) np j (nI i)) ∧ hoN (M 122) nh (hkX (M 122) j (nI i)) (hkY (M 122) j))) (fun q => hh q.2), show dbal (fun i => fitN (M 122) nd j (nI i) ∧ apN (M 122) np j (nI i)) (fun x => ofN (moN (M 122) np + leN (M 122) j x)) 40 (k + 1) = (dbal (fun i => fitN (M 122) nd j (nI i) ∧ apN (M 122) np j (nI i)) (fun x => ofN (moN (M 122) np + leN (M 122) j x)) 40 k) from dbal_f2 (P := (fun i => fitN (M 122) nd j (nI i) ∧ apN (M 122) np j (nI i))) c_79 (Int32.not_le.mpr c_108)] at ih
              exact ih
            · refine ac_iconst 112 1 dX8_tellPlaces_111 rfl (by decide) ?_
              refine ac_goto 116 dX8_tellPlaces_112 (by decide) ?_
              refine ac_istore 118 [some (Value.ref 121), some (Value.int (nI j)), some (Value.int what), some (Value.int ((dcnt (fun i => fitN (M 122) nd j (nI i) ∧ apN (M 122) np j (nI i)) 40 k) + 1)), some (Value.int (nI (40 - 1 - k))), some (Value.int (dlst (fun i => (fitN (M 122) nd j (nI i) ∧ apN (M 122) np j (nI i)) ∧ hoN (M 122) nh (hkX (M 122) j (nI i)) (hkY (M 122) j)) 40 k)), some (Value.int (dbal (fun i => fitN (M 122) nd j (nI i) ∧ apN (M 122) np j (nI i)) (fun x => ofN (moN (M 122) np + leN (M 122) j x)) 40 k)), some (Value.int (moN (M 122) np)), some (Value.int (nI (40 - 1 - k))), some (Value.int 1)] dX8_tellPlaces_116 rfl rfl (Nat.le_of_ble_eq_true rfl) (by decide) rfl ?_
              refine ac_iload 120 dX8_tellPlaces_118 rfl rfl ?_
              refine ac_if_eq 128 123 dX8_tellPlaces_120 (by decide) rfl (fun c_120 => absurd c_120 (by decide)) (fun _ => ?_)
              refine ac_iload 125 dX8_tellPlaces_123 rfl rfl ?_
              refine ac_goto 130 dX8_tellPlaces_125 (by decide) ?_
              refine ac_istore 132 [some (Value.ref 121), some (Value.int (nI j)), some (Value.int what), some (Value.int ((dcnt (fun i => fitN (M 122) nd j (nI i) ∧ apN (M 122) np j (nI i)) 40 k) + 1)), some (Value.int (nI (40 - 1 - k))), some (Value.int (dlst (fun i => (fitN (M 122) nd j (nI i) ∧ apN (M 122) np j (nI i)) ∧ hoN (M 122) nh (hkX (M 122) j (nI i)) (hkY (M 122) j)) 40 k)), some (Value.int (nI (40 - 1 - k))), some (Value.int (moN (M 122) np)), some (Value.int (nI (40 - 1 - k))), some (Value.int 1)] dX8_tellPlaces_130 rfl rfl (Nat.le_of_ble_eq_true rfl) (by decide) rfl ?_
              refine ac_iinc 135 (nI (40 - (k + 1)) - 1) [some (Value.ref 121), some (Value.int (nI j)), some (Value.int what), some (Value.int ((dcnt (fun i => fitN (M 122) nd j (nI i) ∧ apN (M 122) np j (nI i)) 40 k) + 1)), some (Value.int (nI (40 - 1 - k))), some (Value.int (dlst (fun i => (fitN (M 122) nd j (nI i) ∧ apN (M 122) np j (nI i)) ∧ hoN (M 122) nh (hkX (M 122) j (nI i)) (hkY (M 122) j)) 40 k)), some (Value.int (nI (40 - 1 - k))), some (Value.int (moN (M 122) np)), some (Value.int (nI (40 - (k + 1)) - 1)), some (Value.int 1)] dX8_tellPlaces_132 rfl rfl (dn_nx hk) rfl (by decide) rfl ?_
              refine ac_goto 24 dX8_tellPlaces_135 (by decide) ?_
              refine ac_kill 9 [some (Value.ref 121), some (Value.int (nI j)), some (Value.int what), some (Value.int ((dcnt (fun i => fitN (M 122) nd j (nI i) ∧ apN (M 122) np j (nI i)) 40 k) + 1)), some (Value.int (nI (40 - 1 - k))), some (Value.int (dlst (fun i => (fitN (M 122) nd j (nI i) ∧ apN (M 122) np j (nI i)) ∧ hoN (M 122) nh (hkX (M 122) j (nI i)) (hkY (M 122) j)) 40 k)), some (Value.int (nI (40 - 1 - k))), some (Value.int (moN (M 122) np)), some (Value.int (nI (40 - (k + 1)) - 1)), none] rfl ?_
              rw [show dcnt (fun i => fitN (M 122) nd j (nI i) ∧ apN (M 122) np j (nI i)) 40 (k + 1) = ((dcnt (fun i => fitN (M 122) nd j (nI i) ∧ apN (M 122) np j (nI i)) 40 k) + 1) from dcnt_t (P := (fun i => fitN (M 122) nd j (nI i) ∧ apN (M 122) np j (nI i))) ⟨hf, hap⟩, show dlst (fun i => fitN (M 122) nd j (nI i) ∧ apN (M 122) np j (nI i)) 40 (k + 1) = (nI (40 - 1 - k)) from dlst_t (P := (fun i => fitN (M 122) nd j (nI i) ∧ apN (M 122) np j (nI i))) ⟨hf, hap⟩, show dlst (fun i => (fitN (M 122) nd j (nI i) ∧ apN (M 122) np j (nI i)) ∧ hoN (M 122) nh (hkX (M 122) j (nI i)) (hkY (M 122) j)) 40 (k + 1) = (dlst (fun i => (fitN (M 122) nd j (nI i) ∧ apN (M 122) np j (nI i)) ∧ hoN (M 122) nh (hkX (M 122) j (nI i)) (hkY (M 122) j)) 40 k) from dlst_f (P := (fun i => (fitN (M 122) nd j (nI i) ∧ apN (M 122) np j (nI i)) ∧ hoN (M 122) nh (hkX (M 122) j (nI i)) (hkY (M 122) j))) (fun q => hh q.2), show dbal (fun i => fitN (M 122) nd j (nI i) ∧ apN (M 122) np j (nI i)) (fun x => ofN (moN (M 122) np + leN (M 122) j x)) 40 (k + 1) = (nI (40 - 1 - k)) from (by first | exact dbal_t (P := (fun i => fitN (M 122) nd j (nI i) ∧ apN (M 122) np j (nI i))) ⟨hf, hap⟩ (Or.inl c_79) | exact dbal_t (P := (fun i => fitN (M 122) nd j (nI i) ∧ apN (M 122) np j (nI i))) ⟨hf, hap⟩ (Or.inr (Int32.not_lt.mp c_108)))] at ih
              exact ih
        · have hh := bi_ne0.mp c_63
          refine ac_iload 68 dX8_tellPlaces_66 rfl rfl ?_
          refine ac_goto 73 dX8_tellPlaces_68 (by decide) ?_
          refine ac_istore 75 [some (Value.ref 121), some (Value.int (nI j)), some (Value.int what), some (Value.int ((dcnt (fun i => fitN (M 122) nd j (nI i) ∧ apN (M 122) np j (nI i)) 40 k) + 1)), some (Value.int (nI (40 - 1 - k))), some (Value.int (nI (40 - 1 - k))), some (Value.int (dbal (fun i => fitN (M 122) nd j (nI i) ∧ apN (M 122) np j (nI i)) (fun x => ofN (moN (M 122) np + leN (M 122) j x)) 40 k)), some (Value.int (moN (M 122) np)), some (Value.int (nI (40 - 1 - k))), none] dX8_tellPlaces_73 rfl rfl (Nat.le_of_ble_eq_true rfl) (by decide) rfl ?_
          refine ac_iload 77 dX8_tellPlaces_75 rfl rfl ?_
          refine ac_bipush 79 (-9) dX8_tellPlaces_77 rfl (by decide) ?_
          refine ac_icmp_eq 111 82 dX8_tellPlaces_79 (by decide) rfl (fun c_79 => ?_) (fun c_79 => ?_)
          · refine ac_iconst 112 1 dX8_tellPlaces_111 rfl (by decide) ?_
            refine ac_goto 116 dX8_tellPlaces_112 (by decide) ?_
            refine ac_istore 118 [some (Value.ref 121), some (Value.int (nI j)), some (Value.int what), some (Value.int ((dcnt (fun i => fitN (M 122) nd j (nI i) ∧ apN (M 122) np j (nI i)) 40 k) + 1)), some (Value.int (nI (40 - 1 - k))), some (Value.int (nI (40 - 1 - k))), some (Value.int (dbal (fun i => fitN (M 122) nd j (nI i) ∧ apN (M 122) np j (nI i)) (fun x => ofN (moN (M 122) np + leN (M 122) j x)) 40 k)), some (Value.int (moN (M 122) np)), some (Value.int (nI (40 - 1 - k))), some (Value.int 1)] dX8_tellPlaces_116 rfl rfl (Nat.le_of_ble_eq_true rfl) (by decide) rfl ?_
            refine ac_iload 120 dX8_tellPlaces_118 rfl rfl ?_
            refine ac_if_eq 128 123 dX8_tellPlaces_120 (by decide) rfl (fun c_120 => absurd c_120 (by decide)) (fun _ => ?_)
            refine ac_iload 125 dX8_tellPlaces_123 rfl rfl ?_
            refine ac_goto 130 dX8_tellPlaces_125 (by decide) ?_
            refine ac_istore 132 [some (Value.ref 121), some (Value.int (nI j)), some (Value.int what), some (Value.int ((dcnt (fun i => fitN (M 122) nd j (nI i) ∧ apN (M 122) np j (nI i)) 40 k) + 1)), some (Value.int (nI (40 - 1 - k))), some (Value.int (nI (40 - 1 - k))), some (Value.int (nI (40 - 1 - k))), some (Value.int (moN (M 122) np)), some (Value.int (nI (40 - 1 - k))), some (Value.int 1)] dX8_tellPlaces_130 rfl rfl (Nat.le_of_ble_eq_true rfl) (by decide) rfl ?_
            refine ac_iinc 135 (nI (40 - (k + 1)) - 1) [some (Value.ref 121), some (Value.int (nI j)), some (Value.int what), some (Value.int ((dcnt (fun i => fitN (M 122) nd j (nI i) ∧ apN (M 122) np j (nI i)) 40 k) + 1)), some (Value.int (nI (40 - 1 - k))), some (Value.int (nI (40 - 1 - k))), some (Value.int (nI (40 - 1 - k))), some (Value.int (moN (M 122) np)), some (Value.int (nI (40 - (k + 1)) - 1)), some (Value.int 1)] dX8_tellPlaces_132 rfl rfl (dn_nx hk) rfl (by decide) rfl ?_
            refine ac_goto 24 dX8_tellPlaces_135 (by decide) ?_
            refine ac_kill 9 [some (Value.ref 121), some (Value.int (nI j)), some (Value.int what), some (Value.int ((dcnt (fun i => fitN (M 122) nd j (nI i) ∧ apN (M 122) np j (nI i)) 40 k) + 1)), some (Value.int (nI (40 - 1 - k))), some (Value.int (nI (40 - 1 - k))), some (Value.int (nI (40 - 1 - k))), some (Value.int (moN (M 122) np)), some (Value.int (nI (40 - (k + 1)) - 1)), none] rfl ?_
            rw [show dcnt (fun i => fitN (M 122) nd j (nI i) ∧ apN (M 122) np j (nI i)) 40 (k + 1) = ((dcnt (fun i => fitN (M 122) nd j (nI i) ∧ apN (M 122) np j (nI i)) 40 k) + 1) from dcnt_t (P := (fun i => fitN (M 122) nd j (nI i) ∧ apN (M 122) np j (nI i))) ⟨hf, hap⟩, show dlst (fun i => fitN (M 122) nd j (nI i) ∧ apN (M 122) np j (nI i)) 40 (k + 1) = (nI (40 - 1 - k)) from dlst_t (P := (fun i => fitN (M 122) nd j (nI i) ∧ apN (M 122) np j (nI i))) ⟨hf, hap⟩, show dlst (fun i => (fitN (M 122) nd j (nI i) ∧ apN (M 122) np j (nI i)) ∧ hoN (M 122) nh (hkX (M 122) j (nI i)) (hkY (M 122) j)) 40 (k + 1) = (nI (40 - 1 - k)) from dlst_t (P := (fun i => (fitN (M 122) nd j (nI i) ∧ apN (M 122) np j (nI i)) ∧ hoN (M 122) nh (hkX (M 122) j (nI i)) (hkY (M 122) j))) ⟨⟨hf, hap⟩, hh⟩, show dbal (fun i => fitN (M 122) nd j (nI i) ∧ apN (M 122) np j (nI i)) (fun x => ofN (moN (M 122) np + leN (M 122) j x)) 40 (k + 1) = (nI (40 - 1 - k)) from (by first | exact dbal_t (P := (fun i => fitN (M 122) nd j (nI i) ∧ apN (M 122) np j (nI i))) ⟨hf, hap⟩ (Or.inl c_79) | exact dbal_t (P := (fun i => fitN (M 122) nd j (nI i) ∧ apN (M 122) np j (nI i))) ⟨hf, hap⟩ (Or.inr (Int32.not_lt.mp c_108)))] at ih
            exact ih
          · refine ac_iload 84 dX8_tellPlaces_82 rfl rfl ?_
            refine ac_aload_n 85 dX8_tellPlaces_84 rfl rfl ?_
            refine ac_iload_n 86 dX8_tellPlaces_85 rfl rfl ?_
            refine ac_iload 88 dX8_tellPlaces_86 rfl rfl ?_
            refine ac_callV (μ' := m8_leanOf) 91 dX8_tellPlaces_88 rfl lk8_155 m8_leanOf_V ob121 (c8_leanOf hj _) rfl rfl (by decide) (Nat.le_of_ble_eq_true rfl) ?_
            refine ac_iadd 92 dX8_tellPlaces_91 rfl ?_
            refine ac_callS (μ' := m8_off) 95 dX8_tellPlaces_92 rfl lk8_161 m8_off_S (c8_off _) rfl rfl (by decide) (Nat.le_of_ble_eq_true rfl) ?_
            refine ac_iload 97 dX8_tellPlaces_95 rfl rfl ?_
            refine ac_aload_n 98 dX8_tellPlaces_97 rfl rfl ?_
            refine ac_iload_n 99 dX8_tellPlaces_98 rfl rfl ?_
            refine ac_iload 101 dX8_tellPlaces_99 rfl rfl ?_
            refine ac_callV (μ' := m8_leanOf) 104 dX8_tellPlaces_101 rfl lk8_155 m8_leanOf_V ob121 (c8_leanOf hj _) rfl rfl (by decide) (Nat.le_of_ble_eq_true rfl) ?_
            refine ac_iadd 105 dX8_tellPlaces_104 rfl ?_
            refine ac_callS (μ' := m8_off) 108 dX8_tellPlaces_105 rfl lk8_161 m8_off_S (c8_off _) rfl rfl (by decide) (Nat.le_of_ble_eq_true rfl) ?_
            refine ac_icmp_gt 115 111 dX8_tellPlaces_108 (by decide) rfl (fun c_108 => ?_) (fun c_108 => ?_)
            · refine ac_iconst 116 0 dX8_tellPlaces_115 rfl (by decide) ?_
              refine ac_istore 118 [some (Value.ref 121), some (Value.int (nI j)), some (Value.int what), some (Value.int ((dcnt (fun i => fitN (M 122) nd j (nI i) ∧ apN (M 122) np j (nI i)) 40 k) + 1)), some (Value.int (nI (40 - 1 - k))), some (Value.int (nI (40 - 1 - k))), some (Value.int (dbal (fun i => fitN (M 122) nd j (nI i) ∧ apN (M 122) np j (nI i)) (fun x => ofN (moN (M 122) np + leN (M 122) j x)) 40 k)), some (Value.int (moN (M 122) np)), some (Value.int (nI (40 - 1 - k))), some (Value.int 0)] dX8_tellPlaces_116 rfl rfl (Nat.le_of_ble_eq_true rfl) (by decide) rfl ?_
              refine ac_iload 120 dX8_tellPlaces_118 rfl rfl ?_
              refine ac_if_eq 128 123 dX8_tellPlaces_120 (by decide) rfl (fun _ => ?_) (fun c_120 => absurd (by decide) c_120)
              refine ac_iload 130 dX8_tellPlaces_128 rfl rfl ?_
              refine ac_istore 132 [some (Value.ref 121), some (Value.int (nI j)), some (Value.int what), some (Value.int ((dcnt (fun i => fitN (M 122) nd j (nI i) ∧ apN (M 122) np j (nI i)) 40 k) + 1)), some (Value.int (nI (40 - 1 - k))), some (Value.int (nI (40 - 1 - k))), some (Value.int (dbal (fun i => fitN (M 122) nd j (nI i) ∧ apN (M 122) np j (nI i)) (fun x => ofN (moN (M 122) np + leN (M 122) j x)) 40 k)), some (Value.int (moN (M 122) np)), some (Value.int (nI (40 - 1 - k))), some (Value.int 0)] dX8_tellPlaces_130 rfl rfl (Nat.le_of_ble_eq_true rfl) (by decide) rfl ?_
              refine ac_iinc 135 (nI (40 - (k + 1)) - 1) [some (Value.ref 121), some (Value.int (nI j)), some (Value.int what), some (Value.int ((dcnt (fun i => fitN (M 122) nd j (nI i) ∧ apN (M 122) np j (nI i)) 40 k) + 1)), some (Value.int (nI (40 - 1 - k))), some (Value.int (nI (40 - 1 - k))), some (Value.int (dbal (fun i => fitN (M 122) nd j (nI i) ∧ apN (M 122) np j (nI i)) (fun x => ofN (moN (M 122) np + leN (M 122) j x)) 40 k)), some (Value.int (moN (M 122) np)), some (Value.int (nI (40 - (k + 1)) - 1)), some (Value.int 0)] dX8_tellPlaces_132 rfl rfl (dn_nx hk) rfl (by decide) rfl ?_
              refine ac_goto 24 dX8_tellPlaces_135 (by decide) ?_
              refine ac_kill 9 [some (Value.ref 121), some (Value.int (nI j)), some (Value.int what), some (Value.int ((dcnt (fun i => fitN (M 122) nd j (nI i) ∧ apN (M 122) np j (nI i)) 40 k) + 1)), some (Value.int (nI (40 - 1 - k))), some (Value.int (nI (40 - 1 - k))), some (Value.int (dbal (fun i => fitN (M 122) nd j (nI i) ∧ apN (M 122) np j (nI i)) (fun x => ofN (moN (M 122) np + leN (M 122) j x)) 40 k)), some (Value.int (moN (M 122) np)), some (Value.int (nI (40 - (k + 1)) - 1)), none] rfl ?_
              rw [show dcnt (fun i => fitN (M 122) nd j (nI i) ∧ apN (M 122) np j (nI i)) 40 (k + 1) = ((dcnt (fun i => fitN (M 122) nd j (nI i) ∧ apN (M 122) np j (nI i)) 40 k) + 1) from dcnt_t (P := (fun i => fitN (M 122) nd j (nI i) ∧ apN (M 122) np j (nI i))) ⟨hf, hap⟩, show dlst (fun i => fitN (M 122) nd j (nI i) ∧ apN (M 122) np j (nI i)) 40 (k + 1) = (nI (40 - 1 - k)) from dlst_t (P := (fun i => fitN (M 122) nd j (nI i) ∧ apN (M 122) np j (nI i))) ⟨hf, hap⟩, show dlst (fun i => (fitN (M 122) nd j (nI i) ∧ apN (M 122) np j (nI i)) ∧ hoN (M 122) nh (hkX (M 122) j (nI i)) (hkY (M 122) j)) 40 (k + 1) = (nI (40 - 1 - k)) from dlst_t (P := (fun i => (fitN (M 122) nd j (nI i) ∧ apN (M 122) np j (nI i)) ∧ hoN (M 122) nh (hkX (M 122) j (nI i)) (hkY (M 122) j))) ⟨⟨hf, hap⟩, hh⟩, show dbal (fun i => fitN (M 122) nd j (nI i) ∧ apN (M 122) np j (nI i)) (fun x => ofN (moN (M 122) np + leN (M 122) j x)) 40 (k + 1) = (dbal (fun i => fitN (M 122) nd j (nI i) ∧ apN (M 122) np j (nI i)) (fun x => ofN (moN (M 122) np + leN (M 122) j x)) 40 k) from dbal_f2 (P := (fun i => fitN (M 122) nd j (nI i) ∧ apN (M 122) np j (nI i))) c_79 (Int32.not_le.mpr c_108)] at ih
              exact ih
            · refine ac_iconst 112 1 dX8_tellPlaces_111 rfl (by decide) ?_
              refine ac_goto 116 dX8_tellPlaces_112 (by decide) ?_
              refine ac_istore 118 [some (Value.ref 121), some (Value.int (nI j)), some (Value.int what), some (Value.int ((dcnt (fun i => fitN (M 122) nd j (nI i) ∧ apN (M 122) np j (nI i)) 40 k) + 1)), some (Value.int (nI (40 - 1 - k))), some (Value.int (nI (40 - 1 - k))), some (Value.int (dbal (fun i => fitN (M 122) nd j (nI i) ∧ apN (M 122) np j (nI i)) (fun x => ofN (moN (M 122) np + leN (M 122) j x)) 40 k)), some (Value.int (moN (M 122) np)), some (Value.int (nI (40 - 1 - k))), some (Value.int 1)] dX8_tellPlaces_116 rfl rfl (Nat.le_of_ble_eq_true rfl) (by decide) rfl ?_
              refine ac_iload 120 dX8_tellPlaces_118 rfl rfl ?_
              refine ac_if_eq 128 123 dX8_tellPlaces_120 (by decide) rfl (fun c_120 => absurd c_120 (by decide)) (fun _ => ?_)
              refine ac_iload 125 dX8_tellPlaces_123 rfl rfl ?_
              refine ac_goto 130 dX8_tellPlaces_125 (by decide) ?_
              refine ac_istore 132 [some (Value.ref 121), some (Value.int (nI j)), some (Value.int what), some (Value.int ((dcnt (fun i => fitN (M 122) nd j (nI i) ∧ apN (M 122) np j (nI i)) 40 k) + 1)), some (Value.int (nI (40 - 1 - k))), some (Value.int (nI (40 - 1 - k))), some (Value.int (nI (40 - 1 - k))), some (Value.int (moN (M 122) np)), some (Value.int (nI (40 - 1 - k))), some (Value.int 1)] dX8_tellPlaces_130 rfl rfl (Nat.le_of_ble_eq_true rfl) (by decide) rfl ?_
              refine ac_iinc 135 (nI (40 - (k + 1)) - 1) [some (Value.ref 121), some (Value.int (nI j)), some (Value.int what), some (Value.int ((dcnt (fun i => fitN (M 122) nd j (nI i) ∧ apN (M 122) np j (nI i)) 40 k) + 1)), some (Value.int (nI (40 - 1 - k))), some (Value.int (nI (40 - 1 - k))), some (Value.int (nI (40 - 1 - k))), some (Value.int (moN (M 122) np)), some (Value.int (nI (40 - (k + 1)) - 1)), some (Value.int 1)] dX8_tellPlaces_132 rfl rfl (dn_nx hk) rfl (by decide) rfl ?_
              refine ac_goto 24 dX8_tellPlaces_135 (by decide) ?_
              refine ac_kill 9 [some (Value.ref 121), some (Value.int (nI j)), some (Value.int what), some (Value.int ((dcnt (fun i => fitN (M 122) nd j (nI i) ∧ apN (M 122) np j (nI i)) 40 k) + 1)), some (Value.int (nI (40 - 1 - k))), some (Value.int (nI (40 - 1 - k))), some (Value.int (nI (40 - 1 - k))), some (Value.int (moN (M 122) np)), some (Value.int (nI (40 - (k + 1)) - 1)), none] rfl ?_
              rw [show dcnt (fun i => fitN (M 122) nd j (nI i) ∧ apN (M 122) np j (nI i)) 40 (k + 1) = ((dcnt (fun i => fitN (M 122) nd j (nI i) ∧ apN (M 122) np j (nI i)) 40 k) + 1) from dcnt_t (P := (fun i => fitN (M 122) nd j (nI i) ∧ apN (M 122) np j (nI i))) ⟨hf, hap⟩, show dlst (fun i => fitN (M 122) nd j (nI i) ∧ apN (M 122) np j (nI i)) 40 (k + 1) = (nI (40 - 1 - k)) from dlst_t (P := (fun i => fitN (M 122) nd j (nI i) ∧ apN (M 122) np j (nI i))) ⟨hf, hap⟩, show dlst (fun i => (fitN (M 122) nd j (nI i) ∧ apN (M 122) np j (nI i)) ∧ hoN (M 122) nh (hkX (M 122) j (nI i)) (hkY (M 122) j)) 40 (k + 1) = (nI (40 - 1 - k)) from dlst_t (P := (fun i => (fitN (M 122) nd j (nI i) ∧ apN (M 122) np j (nI i)) ∧ hoN (M 122) nh (hkX (M 122) j (nI i)) (hkY (M 122) j))) ⟨⟨hf, hap⟩, hh⟩, show dbal (fun i => fitN (M 122) nd j (nI i) ∧ apN (M 122) np j (nI i)) (fun x => ofN (moN (M 122) np + leN (M 122) j x)) 40 (k + 1) = (nI (40 - 1 - k)) from (by first | exact dbal_t (P := (fun i => fitN (M 122) nd j (nI i) ∧ apN (M 122) np j (nI i))) ⟨hf, hap⟩ (Or.inl c_79) | exact dbal_t (P := (fun i => fitN (M 122) nd j (nI i) ∧ apN (M 122) np j (nI i))) ⟨hf, hap⟩ (Or.inr (Int32.not_lt.mp c_108)))] at ih
              exact ih
set_option maxRecDepth 20000 in
theorem q8_plaF {M : am_I} {V : am_J} {f : Nat → Option Nat} {np nd nh : Nat} (hn : NC (M 122) np nd nh) {p : Int32} (hp : ¬ vI p np) (what : Int32) : CT m8_places 6 [Value.ref 121, Value.int p, Value.int what] M V f (RV (-1) M V f) := by
  refine CT.of m8_places_V.1 _ (en_aii_3 121 p what) ?_
  refine ac_aload_n 1 dX8_places_0 rfl rfl ?_
  refine ac_iload_n 2 dX8_places_1 rfl rfl ?_
  refine ac_callV (μ' := m8_isPicture) 5 dX8_places_2 rfl lk8_136 m8_isPicture_V ob121 (c8_isPF hn hp) rfl rfl (by decide) (Nat.le_of_ble_eq_true rfl) ?_
  refine ac_if_eq 17 8 dX8_places_5 (by decide) rfl (fun _ => ?_) (fun c_5 => absurd (by decide) c_5)
  refine ac_iconst 18 (-1) dX8_places_17 rfl (by decide) ?_
  refine ac_iret dX8_places_18 ⟨_, rfl, rfl⟩ ?_
  exact rv_mk rfl
set_option maxRecDepth 20000 in
theorem q8_plaW {M : am_I} {V : am_J} {f : Nat → Option Nat} {np nd nh j : Nat} (hn : NC (M 122) np nd nh) (hj : j < np) {what : Int32} (hw : ¬ vI what 4) : CT m8_places 6 [Value.ref 121, Value.int (nI j), Value.int what] M V f (RV (-1) M V f) := by
  have hnp := hn.2.1
  refine CT.of m8_places_V.1 _ (en_aii_3 121 (nI j) what) ?_
  refine ac_aload_n 1 dX8_places_0 rfl rfl ?_
  refine ac_iload_n 2 dX8_places_1 rfl rfl ?_
  refine ac_callV (μ' := m8_isPicture) 5 dX8_places_2 rfl lk8_136 m8_isPicture_V ob121 (c8_isPT hn hj) rfl rfl (by decide) (Nat.le_of_ble_eq_true rfl) ?_
  refine ac_if_eq 17 8 dX8_places_5 (by decide) rfl (fun c_5 => absurd c_5 (by decide)) (fun _ => ?_)
  refine ac_iload_n 9 dX8_places_8 rfl rfl ?_
  refine ac_iconst 10 0 dX8_places_9 rfl (by decide) ?_
  refine ac_iconst 11 3 dX8_places_10 rfl (by decide) ?_
  refine ac_callS (μ' := m8_within) 14 dX8_places_11 rfl lk8_67 m8_within_S (c8_wF (wh_not (n := 4) (by decide) hw rfl)) rfl rfl (by decide) (Nat.le_of_ble_eq_true rfl) ?_
  refine ac_if_ne 19 17 dX8_places_14 (by decide) rfl (fun c_14 => absurd (by decide) c_14) (fun _ => ?_)
  refine ac_iconst 18 (-1) dX8_places_17 rfl (by decide) ?_
  refine ac_iret dX8_places_18 ⟨_, rfl, rfl⟩ ?_
  exact rv_mk rfl
set_option maxRecDepth 20000 in
theorem q8_plaU {M : am_I} {V : am_J} {f : Nat → Option Nat} {np nd nh j : Nat} (hn : NC (M 122) np nd nh) (hj : j < np) {a : Nat} (ha : a < 4) (hu : M 122 (64 + j) ≠ -9) : CT m8_places 6 [Value.ref 121, Value.int (nI j), Value.int (nI a)] M V f (RV (-2) M V f) := by
  have hnp := hn.2.1
  refine CT.of m8_places_V.1 _ (en_aii_3 121 (nI j) (nI a)) ?_
  refine ac_aload_n 1 dX8_places_0 rfl rfl ?_
  refine ac_iload_n 2 dX8_places_1 rfl rfl ?_
  refine ac_callV (μ' := m8_isPicture) 5 dX8_places_2 rfl lk8_136 m8_isPicture_V ob121 (c8_isPT hn hj) rfl rfl (by decide) (Nat.le_of_ble_eq_true rfl) ?_
  refine ac_if_eq 17 8 dX8_places_5 (by decide) rfl (fun c_5 => absurd c_5 (by decide)) (fun _ => ?_)
  refine ac_iload_n 9 dX8_places_8 rfl rfl ?_
  refine ac_iconst 10 0 dX8_places_9 rfl (by decide) ?_
  refine ac_iconst 11 3 dX8_places_10 rfl (by decide) ?_
  refine ac_callS (μ' := m8_within) 14 dX8_places_11 rfl lk8_67 m8_within_S (c8_wT ⟨nI_pos0 (by omega), nI_le (b := 3) (by omega) (by decide)⟩) rfl rfl (by decide) (Nat.le_of_ble_eq_true rfl) ?_
  refine ac_if_ne 19 17 dX8_places_14 (by decide) rfl (fun _ => ?_) (fun c_14 => absurd c_14 (by decide))
  refine ac_aload_n 20 dX8_places_19 rfl rfl ?_
  refine ac_iload_n 21 dX8_places_20 rfl rfl ?_
  refine ac_callV (μ' := m8_hangsNow) 24 dX8_places_21 rfl lk8_122 m8_hangsNow_V ob121 (c8_hangsNow (j := (j)) (by omega)) rfl rfl (by decide) (Nat.le_of_ble_eq_true rfl) ?_
  refine ac_if_eq 32 27 dX8_places_24 (by decide) rfl (fun c_24 => absurd c_24 (by rw [bi_eq0]; exact fun h => h hu)) (fun _ => ?_)
  refine ac_bipush 29 (-2) dX8_places_27 rfl (by decide) ?_
  refine ac_goto 38 dX8_places_29 (by decide) ?_
  refine ac_iret dX8_places_38 ⟨_, rfl, rfl⟩ ?_
  exact rv_mk rfl
set_option maxRecDepth 20000 in
theorem q8_pla {M : am_I} {V : am_J} {f : Nat → Option Nat} {np nd nh j : Nat} (hn : NC (M 122) np nd nh) (hj : j < np) {a : Nat} (ha : a < 4) (hu : M 122 (64 + j) = -9) : CT m8_places 6 [Value.ref 121, Value.int (nI j), Value.int (nI a)] M V f (RV (if nI a = 0 then dcnt (fun i => fitN (M 122) nd j (nI i) ∧ apN (M 122) np j (nI i)) 40 40 else if nI a = 1 then dlst (fun i => fitN (M 122) nd j (nI i) ∧ apN (M 122) np j (nI i)) 40 40 else if nI a = 2 then dlst (fun i => (fitN (M 122) nd j (nI i) ∧ apN (M 122) np j (nI i)) ∧ hoN (M 122) nh (hkX (M 122) j (nI i)) (hkY (M 122) j)) 40 40 else dbal (fun i => fitN (M 122) nd j (nI i) ∧ apN (M 122) np j (nI i)) (fun x => ofN (moN (M 122) np + leN (M 122) j x)) 40 40) M V f) := by
  have hnp := hn.2.1
  refine CT.of m8_places_V.1 _ (en_aii_3 121 (nI j) (nI a)) ?_
  refine ac_aload_n 1 dX8_places_0 rfl rfl ?_
  refine ac_iload_n 2 dX8_places_1 rfl rfl ?_
  refine ac_callV (μ' := m8_isPicture) 5 dX8_places_2 rfl lk8_136 m8_isPicture_V ob121 (c8_isPT hn hj) rfl rfl (by decide) (Nat.le_of_ble_eq_true rfl) ?_
  refine ac_if_eq 17 8 dX8_places_5 (by decide) rfl (fun c_5 => absurd c_5 (by decide)) (fun _ => ?_)
  refine ac_iload_n 9 dX8_places_8 rfl rfl ?_
  refine ac_iconst 10 0 dX8_places_9 rfl (by decide) ?_
  refine ac_iconst 11 3 dX8_places_10 rfl (by decide) ?_
  refine ac_callS (μ' := m8_within) 14 dX8_places_11 rfl lk8_67 m8_within_S (c8_wT ⟨nI_pos0 (by omega), nI_le (b := 3) (by omega) (by decide)⟩) rfl rfl (by decide) (Nat.le_of_ble_eq_true rfl) ?_
  refine ac_if_ne 19 17 dX8_places_14 (by decide) rfl (fun _ => ?_) (fun c_14 => absurd c_14 (by decide))
  refine ac_aload_n 20 dX8_places_19 rfl rfl ?_
  refine ac_iload_n 21 dX8_places_20 rfl rfl ?_
  refine ac_callV (μ' := m8_hangsNow) 24 dX8_places_21 rfl lk8_122 m8_hangsNow_V ob121 (c8_hangsNow (j := (j)) (by omega)) rfl rfl (by decide) (Nat.le_of_ble_eq_true rfl) ?_
  refine ac_if_eq 32 27 dX8_places_24 (by decide) rfl (fun _ => ?_) (fun c_24 => absurd (bi_f (fun h => h hu)) c_24)
  refine ac_aload_n 33 dX8_places_32 rfl rfl ?_
  refine ac_iload_n 34 dX8_places_33 rfl rfl ?_
  refine ac_iload_n 35 dX8_places_34 rfl rfl ?_
  refine ac_callV (μ' := m8_tellPlaces) 38 dX8_places_35 rfl lk8_180 m8_tellPlaces_V ob121 (c8_tellPlaces hn (by omega) _) rfl rfl (by decide) (Nat.le_of_ble_eq_true rfl) ?_
  refine ac_iret dX8_places_38 ⟨_, rfl, rfl⟩ ?_
  exact rv_mk rfl
