set_option maxRecDepth 20000 in
theorem c8_sp4 {M : am_I} {V : am_J} {f : Nat → Option Nat} {tx : Nat → Nat} {n e s : Nat} (hP : RP M tx n e) (hm : M 121 12 = nI s) (hs : s ≤ e) {a b c d : Nat} (ha : a ≤ 255) (hb : b ≤ 255) (hc : c ≤ 255) (hd : d ≤ 255) (hd0 : 0 < d) : CT m8_spells 1 [Value.ref 121, Value.int (nI a), Value.int (nI b), Value.int (nI c), Value.int (nI d)] M V f (RV (bi (e = s + 4 ∧ tx s = a ∧ tx (s + 1) = b ∧ tx (s + 2) = c ∧ tx (s + 3) = d)) M V f) := by
  obtain ⟨h10, hn, h11, ha, hT⟩ := id hP
  refine CT.of m8_spells_V.1 _ (en_aiiii_7 121 (nI a) (nI b) (nI c) (nI d)) ?_
  refine ac_iload 2 dX8_spells_0 rfl rfl ?_
  refine ac_if_ne 9 5 dX8_spells_2 (by decide) rfl (fun _ => ?_) (fun c_2 => absurd c_2 (nI_ne0 hd0 (by omega)))
  refine ac_iconst 10 4 dX8_spells_9 rfl (by decide) ?_
  refine ac_istore 12 [some (Value.ref 121), some (Value.int (nI a)), some (Value.int (nI b)), some (Value.int (nI c)), some (Value.int (nI d)), some (Value.int 4), none] dX8_spells_10 rfl rfl (Nat.le_of_ble_eq_true rfl) (by decide) rfl ?_
  refine ac_aload_n 13 dX8_spells_12 rfl rfl ?_
  refine ac_getI 16 dX8_spells_13 rfl fl8_57 ob121 ?_
  rw [show (M 121 11) = (nI e) from h11]
  refine ac_aload_n 17 dX8_spells_16 rfl rfl ?_
  refine ac_getI 20 dX8_spells_17 rfl fl8_64 ob121 ?_
  rw [show (M 121 12) = (nI s) from hm]
  refine ac_isub 21 dX8_spells_20 rfl ?_
  rw [show ((nI e) - (nI s)) = (nI (e - s)) from (nI_subN hs)]
  refine ac_iload 23 dX8_spells_21 rfl rfl ?_
  refine ac_icmp_ne 73 26 dX8_spells_23 (by decide) rfl (fun c_23 => ?_) (fun c_23 => ?_)
  · have hno : ¬ (e = s + 4 ∧ tx s = a ∧ tx (s + 1) = b ∧ tx (s + 2) = c ∧ tx (s + 3) = d) := fun q => c_23 (by rw [show e - s = 4 by have := q.1; omega]; rfl)
    refine ac_iconst 74 0 dX8_spells_73 rfl (by decide) ?_
    refine ac_istore 76 [some (Value.ref 121), some (Value.int (nI a)), some (Value.int (nI b)), some (Value.int (nI c)), some (Value.int (nI d)), some (Value.int 4), some (Value.int 0)] dX8_spells_74 rfl rfl (Nat.le_of_ble_eq_true rfl) (by decide) rfl ?_
    refine ac_iload 78 dX8_spells_76 rfl rfl ?_
    refine ac_if_eq 106 81 dX8_spells_78 (by decide) rfl (fun _ => ?_) (fun c_78 => absurd (by decide) c_78)
    refine ac_iconst 107 0 dX8_spells_106 rfl (by decide) ?_
    refine ac_iret dX8_spells_107 ⟨_, rfl, rfl⟩ ?_
    exact rv_mk (bi_f (by first | exact hno | exact ⟨he, w36, w51, w66, w99⟩)).symm
  · have he : e = s + 4 := by have := (nI_eq (b := 4) (by omega) (by decide)).mp c_23; omega
    have t0 := hT s (by omega)
    have t1 := hT (s + 1) (by omega)
    have t2 := hT (s + 2) (by omega)
    have t3 := hT (s + 3) (by omega)
    refine ac_aload_n 27 dX8_spells_26 rfl rfl ?_
    refine ac_getO 30 129 dX8_spells_27 rfl fl8_32 ob121 rfl ?_
    refine ac_aload_n 31 dX8_spells_30 rfl rfl ?_
    refine ac_getI 34 dX8_spells_31 rfl fl8_64 ob121 ?_
    rw [show (M 121 12) = (nI s) from hm]
    refine ac_iald 35 dX8_spells_34 rfl ar129 (ix_nI (by omega) (by decide)) ?_
    rw [show (M 129 s) = (nI (tx s)) from t0.1]
    refine ac_iload_n 36 dX8_spells_35 rfl rfl ?_
    refine ac_icmp_ne 73 39 dX8_spells_36 (by decide) rfl (fun c_36 => ?_) (fun c_36 => ?_)
    · have hno : ¬ (e = s + 4 ∧ tx s = a ∧ tx (s + 1) = b ∧ tx (s + 2) = c ∧ tx (s + 3) = d) := fun q => c_36 (by rw [q.2.1])
      refine ac_iconst 74 0 dX8_spells_73 rfl (by decide) ?_
      refine ac_istore 76 [some (Value.ref 121), some (Value.int (nI a)), some (Value.int (nI b)), some (Value.int (nI c)), some (Value.int (nI d)), some (Value.int 4), some (Value.int 0)] dX8_spells_74 rfl rfl (Nat.le_of_ble_eq_true rfl) (by decide) rfl ?_
      refine ac_iload 78 dX8_spells_76 rfl rfl ?_
      refine ac_if_eq 106 81 dX8_spells_78 (by decide) rfl (fun _ => ?_) (fun c_78 => absurd (by decide) c_78)
      refine ac_iconst 107 0 dX8_spells_106 rfl (by decide) ?_
      refine ac_iret dX8_spells_107 ⟨_, rfl, rfl⟩ ?_
      exact rv_mk (bi_f (by first | exact hno | exact ⟨he, w36, w51, w66, w99⟩)).symm
    · have w36 : tx s = a := (nI_eq (by omega) (by omega)).mp c_36
      refine ac_aload_n 40 dX8_spells_39 rfl rfl ?_
      refine ac_getO 43 129 dX8_spells_40 rfl fl8_32 ob121 rfl ?_
      refine ac_aload_n 44 dX8_spells_43 rfl rfl ?_
      refine ac_getI 47 dX8_spells_44 rfl fl8_64 ob121 ?_
      rw [show (M 121 12) = (nI s) from hm]
      refine ac_iconst 48 1 dX8_spells_47 rfl (by decide) ?_
      refine ac_iadd 49 dX8_spells_48 rfl ?_
      refine ac_iald 50 dX8_spells_49 rfl ar129 (ix_of (k := s + 1) (nI_1 _) (by omega) (by decide)) ?_
      rw [show (M 129 (s + 1)) = (nI (tx (s + 1))) from t1.1]
      refine ac_iload_n 51 dX8_spells_50 rfl rfl ?_
      refine ac_icmp_ne 73 54 dX8_spells_51 (by decide) rfl (fun c_51 => ?_) (fun c_51 => ?_)
      · have hno : ¬ (e = s + 4 ∧ tx s = a ∧ tx (s + 1) = b ∧ tx (s + 2) = c ∧ tx (s + 3) = d) := fun q => c_51 (by rw [q.2.2.1])
        refine ac_iconst 74 0 dX8_spells_73 rfl (by decide) ?_
        refine ac_istore 76 [some (Value.ref 121), some (Value.int (nI a)), some (Value.int (nI b)), some (Value.int (nI c)), some (Value.int (nI d)), some (Value.int 4), some (Value.int 0)] dX8_spells_74 rfl rfl (Nat.le_of_ble_eq_true rfl) (by decide) rfl ?_
        refine ac_iload 78 dX8_spells_76 rfl rfl ?_
        refine ac_if_eq 106 81 dX8_spells_78 (by decide) rfl (fun _ => ?_) (fun c_78 => absurd (by decide) c_78)
        refine ac_iconst 107 0 dX8_spells_106 rfl (by decide) ?_
        refine ac_iret dX8_spells_107 ⟨_, rfl, rfl⟩ ?_
        exact rv_mk (bi_f (by first | exact hno | exact ⟨he, w36, w51, w66, w99⟩)).symm
      · have w51 : tx (s + 1) = b := (nI_eq (by omega) (by omega)).mp c_51
        refine ac_aload_n 55 dX8_spells_54 rfl rfl ?_
        refine ac_getO 58 129 dX8_spells_55 rfl fl8_32 ob121 rfl ?_
        refine ac_aload_n 59 dX8_spells_58 rfl rfl ?_
        refine ac_getI 62 dX8_spells_59 rfl fl8_64 ob121 ?_
        rw [show (M 121 12) = (nI s) from hm]
        refine ac_iconst 63 2 dX8_spells_62 rfl (by decide) ?_
        refine ac_iadd 64 dX8_spells_63 rfl ?_
        refine ac_iald 65 dX8_spells_64 rfl ar129 (ix_of (k := s + 2) (nI_add _ 2) (by omega) (by decide)) ?_
        rw [show (M 129 (s + 2)) = (nI (tx (s + 2))) from t2.1]
        refine ac_iload_n 66 dX8_spells_65 rfl rfl ?_
        refine ac_icmp_ne 73 69 dX8_spells_66 (by decide) rfl (fun c_66 => ?_) (fun c_66 => ?_)
        · have hno : ¬ (e = s + 4 ∧ tx s = a ∧ tx (s + 1) = b ∧ tx (s + 2) = c ∧ tx (s + 3) = d) := fun q => c_66 (by rw [q.2.2.2.1])
          refine ac_iconst 74 0 dX8_spells_73 rfl (by decide) ?_
          refine ac_istore 76 [some (Value.ref 121), some (Value.int (nI a)), some (Value.int (nI b)), some (Value.int (nI c)), some (Value.int (nI d)), some (Value.int 4), some (Value.int 0)] dX8_spells_74 rfl rfl (Nat.le_of_ble_eq_true rfl) (by decide) rfl ?_
          refine ac_iload 78 dX8_spells_76 rfl rfl ?_
          refine ac_if_eq 106 81 dX8_spells_78 (by decide) rfl (fun _ => ?_) (fun c_78 => absurd (by decide) c_78)
          refine ac_iconst 107 0 dX8_spells_106 rfl (by decide) ?_
          refine ac_iret dX8_spells_107 ⟨_, rfl, rfl⟩ ?_
          exact rv_mk (bi_f (by first | exact hno | exact ⟨he, w36, w51, w66, w99⟩)).symm
        · have w66 : tx (s + 2) = c := (nI_eq (by omega) (by omega)).mp c_66
          refine ac_iconst 70 1 dX8_spells_69 rfl (by decide) ?_
          refine ac_goto 74 dX8_spells_70 (by decide) ?_
          refine ac_istore 76 [some (Value.ref 121), some (Value.int (nI a)), some (Value.int (nI b)), some (Value.int (nI c)), some (Value.int (nI d)), some (Value.int 4), some (Value.int 1)] dX8_spells_74 rfl rfl (Nat.le_of_ble_eq_true rfl) (by decide) rfl ?_
          refine ac_iload 78 dX8_spells_76 rfl rfl ?_
          refine ac_if_eq 106 81 dX8_spells_78 (by decide) rfl (fun c_78 => absurd c_78 (by decide)) (fun _ => ?_)
          refine ac_iload 83 dX8_spells_81 rfl rfl ?_
          refine ac_if_eq 102 86 dX8_spells_83 (by decide) rfl (fun c_83 => absurd c_83 (nI_ne0 hd0 (by omega))) (fun _ => ?_)
          refine ac_aload_n 87 dX8_spells_86 rfl rfl ?_
          refine ac_getO 90 129 dX8_spells_87 rfl fl8_32 ob121 rfl ?_
          refine ac_aload_n 91 dX8_spells_90 rfl rfl ?_
          refine ac_getI 94 dX8_spells_91 rfl fl8_64 ob121 ?_
          rw [show (M 121 12) = (nI s) from hm]
          refine ac_iconst 95 3 dX8_spells_94 rfl (by decide) ?_
          refine ac_iadd 96 dX8_spells_95 rfl ?_
          refine ac_iald 97 dX8_spells_96 rfl ar129 (ix_of (k := s + 3) (nI_add _ 3) (by omega) (by decide)) ?_
          rw [show (M 129 (s + 3)) = (nI (tx (s + 3))) from t3.1]
          refine ac_iload 99 dX8_spells_97 rfl rfl ?_
          refine ac_icmp_ne 106 102 dX8_spells_99 (by decide) rfl (fun c_99 => ?_) (fun c_99 => ?_)
          · have hno : ¬ (e = s + 4 ∧ tx s = a ∧ tx (s + 1) = b ∧ tx (s + 2) = c ∧ tx (s + 3) = d) := fun q => c_99 (by rw [q.2.2.2.2])
            refine ac_iconst 107 0 dX8_spells_106 rfl (by decide) ?_
            refine ac_iret dX8_spells_107 ⟨_, rfl, rfl⟩ ?_
            exact rv_mk (bi_f (by first | exact hno | exact ⟨he, w36, w51, w66, w99⟩)).symm
          · have w99 : tx (s + 3) = d := (nI_eq (by omega) (by omega)).mp c_99
            refine ac_iconst 103 1 dX8_spells_102 rfl (by decide) ?_
            refine ac_goto 107 dX8_spells_103 (by decide) ?_
            refine ac_iret dX8_spells_107 ⟨_, rfl, rfl⟩ ?_
            exact rv_mk (bi_t (by first | exact hno | exact ⟨he, w36, w51, w66, w99⟩)).symm
set_option maxRecDepth 20000 in
theorem c8_sp3 {M : am_I} {V : am_J} {f : Nat → Option Nat} {tx : Nat → Nat} {n e s : Nat} (hP : RP M tx n e) (hm : M 121 12 = nI s) (hs : s ≤ e) {a b c : Nat} (ha : a ≤ 255) (hb : b ≤ 255) (hc : c ≤ 255) : CT m8_spells 1 [Value.ref 121, Value.int (nI a), Value.int (nI b), Value.int (nI c), Value.int 0] M V f (RV (bi (e = s + 3 ∧ tx s = a ∧ tx (s + 1) = b ∧ tx (s + 2) = c)) M V f) := by
  obtain ⟨h10, hn, h11, ha, hT⟩ := id hP
  refine CT.of m8_spells_V.1 _ (en_aiiii_7 121 (nI a) (nI b) (nI c) 0) ?_
  refine ac_iload 2 dX8_spells_0 rfl rfl ?_
  refine ac_if_ne 9 5 dX8_spells_2 (by decide) rfl (fun c_2 => absurd rfl c_2) (fun _ => ?_)
  refine ac_iconst 6 3 dX8_spells_5 rfl (by decide) ?_
  refine ac_goto 10 dX8_spells_6 (by decide) ?_
  refine ac_istore 12 [some (Value.ref 121), some (Value.int (nI a)), some (Value.int (nI b)), some (Value.int (nI c)), some (Value.int 0), some (Value.int 3), none] dX8_spells_10 rfl rfl (Nat.le_of_ble_eq_true rfl) (by decide) rfl ?_
  refine ac_aload_n 13 dX8_spells_12 rfl rfl ?_
  refine ac_getI 16 dX8_spells_13 rfl fl8_57 ob121 ?_
  rw [show (M 121 11) = (nI e) from h11]
  refine ac_aload_n 17 dX8_spells_16 rfl rfl ?_
  refine ac_getI 20 dX8_spells_17 rfl fl8_64 ob121 ?_
  rw [show (M 121 12) = (nI s) from hm]
  refine ac_isub 21 dX8_spells_20 rfl ?_
  rw [show ((nI e) - (nI s)) = (nI (e - s)) from (nI_subN hs)]
  refine ac_iload 23 dX8_spells_21 rfl rfl ?_
  refine ac_icmp_ne 73 26 dX8_spells_23 (by decide) rfl (fun c_23 => ?_) (fun c_23 => ?_)
  · have hno : ¬ (e = s + 3 ∧ tx s = a ∧ tx (s + 1) = b ∧ tx (s + 2) = c) := fun q => c_23 (by rw [show e - s = 3 by have := q.1; omega]; rfl)
    refine ac_iconst 74 0 dX8_spells_73 rfl (by decide) ?_
    refine ac_istore 76 [some (Value.ref 121), some (Value.int (nI a)), some (Value.int (nI b)), some (Value.int (nI c)), some (Value.int 0), some (Value.int 3), some (Value.int 0)] dX8_spells_74 rfl rfl (Nat.le_of_ble_eq_true rfl) (by decide) rfl ?_
    refine ac_iload 78 dX8_spells_76 rfl rfl ?_
    refine ac_if_eq 106 81 dX8_spells_78 (by decide) rfl (fun _ => ?_) (fun c_78 => absurd (by decide) c_78)
    refine ac_iconst 107 0 dX8_spells_106 rfl (by decide) ?_
    refine ac_iret dX8_spells_107 ⟨_, rfl, rfl⟩ ?_
    exact rv_mk (bi_f (by first | exact hno | exact ⟨he, w36, w51, w66⟩)).symm
  · have he : e = s + 3 := by have := (nI_eq (b := 3) (by omega) (by decide)).mp c_23; omega
    have t0 := hT s (by omega)
    have t1 := hT (s + 1) (by omega)
    have t2 := hT (s + 2) (by omega)
    refine ac_aload_n 27 dX8_spells_26 rfl rfl ?_
    refine ac_getO 30 129 dX8_spells_27 rfl fl8_32 ob121 rfl ?_
    refine ac_aload_n 31 dX8_spells_30 rfl rfl ?_
    refine ac_getI 34 dX8_spells_31 rfl fl8_64 ob121 ?_
    rw [show (M 121 12) = (nI s) from hm]
    refine ac_iald 35 dX8_spells_34 rfl ar129 (ix_nI (by omega) (by decide)) ?_
    rw [show (M 129 s) = (nI (tx s)) from t0.1]
    refine ac_iload_n 36 dX8_spells_35 rfl rfl ?_
    refine ac_icmp_ne 73 39 dX8_spells_36 (by decide) rfl (fun c_36 => ?_) (fun c_36 => ?_)
    · have hno : ¬ (e = s + 3 ∧ tx s = a ∧ tx (s + 1) = b ∧ tx (s + 2) = c) := fun q => c_36 (by rw [q.2.1])
      refine ac_iconst 74 0 dX8_spells_73 rfl (by decide) ?_
      refine ac_istore 76 [some (Value.ref 121), some (Value.int (nI a)), some (Value.int (nI b)), some (Value.int (nI c)), some (Value.int 0), some (Value.int 3), some (Value.int 0)] dX8_spells_74 rfl rfl (Nat.le_of_ble_eq_true rfl) (by decide) rfl ?_
      refine ac_iload 78 dX8_spells_76 rfl rfl ?_
      refine ac_if_eq 106 81 dX8_spells_78 (by decide) rfl (fun _ => ?_) (fun c_78 => absurd (by decide) c_78)
      refine ac_iconst 107 0 dX8_spells_106 rfl (by decide) ?_
      refine ac_iret dX8_spells_107 ⟨_, rfl, rfl⟩ ?_
      exact rv_mk (bi_f (by first | exact hno | exact ⟨he, w36, w51, w66⟩)).symm
    · have w36 : tx s = a := (nI_eq (by omega) (by omega)).mp c_36
      refine ac_aload_n 40 dX8_spells_39 rfl rfl ?_
      refine ac_getO 43 129 dX8_spells_40 rfl fl8_32 ob121 rfl ?_
      refine ac_aload_n 44 dX8_spells_43 rfl rfl ?_
      refine ac_getI 47 dX8_spells_44 rfl fl8_64 ob121 ?_
      rw [show (M 121 12) = (nI s) from hm]
      refine ac_iconst 48 1 dX8_spells_47 rfl (by decide) ?_
      refine ac_iadd 49 dX8_spells_48 rfl ?_
      refine ac_iald 50 dX8_spells_49 rfl ar129 (ix_of (k := s + 1) (nI_1 _) (by omega) (by decide)) ?_
      rw [show (M 129 (s + 1)) = (nI (tx (s + 1))) from t1.1]
      refine ac_iload_n 51 dX8_spells_50 rfl rfl ?_
      refine ac_icmp_ne 73 54 dX8_spells_51 (by decide) rfl (fun c_51 => ?_) (fun c_51 => ?_)
      · have hno : ¬ (e = s + 3 ∧ tx s = a ∧ tx (s + 1) = b ∧ tx (s + 2) = c) := fun q => c_51 (by rw [q.2.2.1])
        refine ac_iconst 74 0 dX8_spells_73 rfl (by decide) ?_
        refine ac_istore 76 [some (Value.ref 121), some (Value.int (nI a)), some (Value.int (nI b)), some (Value.int (nI c)), some (Value.int 0), some (Value.int 3), some (Value.int 0)] dX8_spells_74 rfl rfl (Nat.le_of_ble_eq_true rfl) (by decide) rfl ?_
        refine ac_iload 78 dX8_spells_76 rfl rfl ?_
        refine ac_if_eq 106 81 dX8_spells_78 (by decide) rfl (fun _ => ?_) (fun c_78 => absurd (by decide) c_78)
        refine ac_iconst 107 0 dX8_spells_106 rfl (by decide) ?_
        refine ac_iret dX8_spells_107 ⟨_, rfl, rfl⟩ ?_
        exact rv_mk (bi_f (by first | exact hno | exact ⟨he, w36, w51, w66⟩)).symm
      · have w51 : tx (s + 1) = b := (nI_eq (by omega) (by omega)).mp c_51
        refine ac_aload_n 55 dX8_spells_54 rfl rfl ?_
        refine ac_getO 58 129 dX8_spells_55 rfl fl8_32 ob121 rfl ?_
        refine ac_aload_n 59 dX8_spells_58 rfl rfl ?_
        refine ac_getI 62 dX8_spells_59 rfl fl8_64 ob121 ?_
        rw [show (M 121 12) = (nI s) from hm]
        refine ac_iconst 63 2 dX8_spells_62 rfl (by decide) ?_
        refine ac_iadd 64 dX8_spells_63 rfl ?_
        refine ac_iald 65 dX8_spells_64 rfl ar129 (ix_of (k := s + 2) (nI_add _ 2) (by omega) (by decide)) ?_
        rw [show (M 129 (s + 2)) = (nI (tx (s + 2))) from t2.1]
        refine ac_iload_n 66 dX8_spells_65 rfl rfl ?_
        refine ac_icmp_ne 73 69 dX8_spells_66 (by decide) rfl (fun c_66 => ?_) (fun c_66 => ?_)
        · have hno : ¬ (e = s + 3 ∧ tx s = a ∧ tx (s + 1) = b ∧ tx (s + 2) = c) := fun q => c_66 (by rw [q.2.2.2])
          refine ac_iconst 74 0 dX8_spells_73 rfl (by decide) ?_
          refine ac_istore 76 [some (Value.ref 121), some (Value.int (nI a)), some (Value.int (nI b)), some (Value.int (nI c)), some (Value.int 0), some (Value.int 3), some (Value.int 0)] dX8_spells_74 rfl rfl (Nat.le_of_ble_eq_true rfl) (by decide) rfl ?_
          refine ac_iload 78 dX8_spells_76 rfl rfl ?_
          refine ac_if_eq 106 81 dX8_spells_78 (by decide) rfl (fun _ => ?_) (fun c_78 => absurd (by decide) c_78)
          refine ac_iconst 107 0 dX8_spells_106 rfl (by decide) ?_
          refine ac_iret dX8_spells_107 ⟨_, rfl, rfl⟩ ?_
          exact rv_mk (bi_f (by first | exact hno | exact ⟨he, w36, w51, w66⟩)).symm
        · have w66 : tx (s + 2) = c := (nI_eq (by omega) (by omega)).mp c_66
          refine ac_iconst 70 1 dX8_spells_69 rfl (by decide) ?_
          refine ac_goto 74 dX8_spells_70 (by decide) ?_
          refine ac_istore 76 [some (Value.ref 121), some (Value.int (nI a)), some (Value.int (nI b)), some (Value.int (nI c)), some (Value.int 0), some (Value.int 3), some (Value.int 1)] dX8_spells_74 rfl rfl (Nat.le_of_ble_eq_true rfl) (by decide) rfl ?_
          refine ac_iload 78 dX8_spells_76 rfl rfl ?_
          refine ac_if_eq 106 81 dX8_spells_78 (by decide) rfl (fun c_78 => absurd c_78 (by decide)) (fun _ => ?_)
          refine ac_iload 83 dX8_spells_81 rfl rfl ?_
          refine ac_if_eq 102 86 dX8_spells_83 (by decide) rfl (fun _ => ?_) (fun c_83 => absurd rfl c_83)
          refine ac_iconst 103 1 dX8_spells_102 rfl (by decide) ?_
          refine ac_goto 107 dX8_spells_103 (by decide) ?_
          refine ac_iret dX8_spells_107 ⟨_, rfl, rfl⟩ ?_
          exact rv_mk (bi_t (by first | exact hno | exact ⟨he, w36, w51, w66⟩)).symm
/-! Reading: a place where it fails, or the place behind it and the row. -/
abbrev pS : Type := Nat × rN
def andP (r : Sum Nat pS) (k : pS → Sum Nat pS) : Sum Nat pS := match r with
  | .inl p => .inl p
  | .inr s => k s
def setw (w : rN) (q : Nat) (v : Int32) : rN := fun j => if j = q then v else w j
noncomputable def pnm (tx : Nat → Nat) (n q : Nat) (lo hi : Int32) (s : pS) : Sum Nat pS := cif (nmO tx n s.1 lo hi) (.inr (nmE tx n s.1, setw s.2 q (nI (nmV tx n s.1)))) (.inl (skP tx n s.1))
theorem pnm_t {tx : Nat → Nat} {n q : Nat} {lo hi : Int32} {s : pS} (h : nmO tx n s.1 lo hi) : pnm tx n q lo hi s = .inr (nmE tx n s.1, setw s.2 q (nI (nmV tx n s.1))) := cif_t h
theorem pnm_f {tx : Nat → Nat} {n q : Nat} {lo hi : Int32} {s : pS} (h : ¬ nmO tx n s.1 lo hi) : pnm tx n q lo hi s = .inl (skP tx n s.1) := cif_f h
theorem nmE_le {tx : Nat → Nat} {n a : Nat} (h : a ≤ n) : nmE tx n a ≤ n := (rnE_spec (isF tx) n (skP tx n a) (skP_le h).2).2.1
noncomputable def pWall (tx : Nat → Nat) (n : Nat) (s : pS) : Sum Nat pS := andP (pnm tx n 0 10 40 s) (fun s => andP (pnm tx n 1 5 20 s) (fun s => pnm tx n 2 0 9 s))
/-- what a reading step leaves -/
def PO (n : Nat) (v : Option Value) (M' : am_I) : Sum Nat pS → Prop
  | .inl p => v = some (.int 0) ∧ M' 121 12 = nI p
  | .inr s => v = some (.int 1) ∧ M' 121 11 = nI s.1 ∧ s.1 ≤ n ∧ M' 123 = s.2
set_option maxRecDepth 20000 in
theorem c8_rWall {M : am_I} {V : am_J} {f : Nat → Option Nat} {tx : Nat → Nat} {n a m0 : Nat} (hP0 : RP M tx n a) (hm0 : M 121 12 = nI m0) (h13 : M 121 13 = 0) : CT m8_readsWall 4 [Value.ref 121] M V f (fun v M' V' f' => V' = V ∧ f' = f ∧ KP M M' ∧ M' 121 13 = 1 ∧ PO n v M' (pWall tx n (a, M 123))) := by
  have kk0 := KP.refl M
  have t0 := (rfl : M 121 13 = M 121 13)
  have fr0 := (rfl : M 123 = M 123)
  refine CT.of m8_readsWall_V.1 _ (en_a_2 121) ?_
  refine ac_aload_n 1 dX8_readsWall_0 rfl rfl ?_
  refine ac_getI 4 dX8_readsWall_1 rfl fl8_78 ob121 ?_
  refine ac_if_ne 45 7 dX8_readsWall_4 (by decide) rfl (fun c_4 => absurd h13 c_4) (fun _ => ?_)
  refine ac_aload_n 8 dX8_readsWall_7 rfl rfl ?_
  refine ac_iconst 9 0 dX8_readsWall_8 rfl (by decide) ?_
  refine ac_bipush 11 10 dX8_readsWall_9 rfl (by decide) ?_
  refine ac_bipush 13 40 dX8_readsWall_11 rfl (by decide) ?_
  refine ac_callVg (μ' := m8_puts) 16 dX8_readsWall_13 rfl lk8_82 m8_puts_V ob121 (c8_puts hP0 (q := 0) (by decide) 10 40) rfl rfl (by decide) (Nat.le_of_ble_eq_true rfl) (fun v0 Mx1 V0 f0 h9 => ?_)
  obtain ⟨b1, b2, b3, b4, b5, b6, b7⟩ := h9
  subst b1
  obtain rfl := b2.symm
  obtain rfl := b3.symm
  have kk1 := kk0.trans b4
  have t1 := b5.trans t0
  have m1 := b6
  have n1 := b7
  have q1 := b4
  refine ac_if_eq 45 19 dX8_readsWall_16 (by decide) rfl (fun c_16 => ?_) (fun c_16 => ?_)
  · have no0 := bi_eq0.mp c_16
    refine ac_iconst 46 0 dX8_readsWall_45 rfl (by decide) ?_
    refine ac_istore_n 47 [some (Value.ref 121), some (Value.int 0)] dX8_readsWall_46 rfl rfl (Nat.le_of_ble_eq_true rfl) (by decide) rfl ?_
    refine ac_aload_n 48 dX8_readsWall_47 rfl rfl ?_
    refine ac_iconst 49 1 dX8_readsWall_48 rfl (by decide) ?_
    refine ac_putI 52 dX8_readsWall_49 rfl fl8_78 rfl rfl ob121 ?_
    refine ac_iload_n 53 dX8_readsWall_52 rfl rfl ?_
    refine ac_iret dX8_readsWall_53 ⟨_, rfl, rfl⟩ ?_
    have eR : pWall tx n (a, M 123) = .inl (skP tx n a) := by
      unfold pWall
      rw [pnm_f no0]
      rfl
    exact ⟨rfl, rfl, ⟨fun i z1 z2 => (am_up_ne z1).trans (kk1.1 i z1 z2), fun k z1 z2 z3 => (up_ne z3).trans (kk1.2 k z1 z2 z3)⟩, rfl, by
      rw [eR]
      exact ⟨rfl, m1⟩⟩
  · have ok0 := bi_ne0.mp c_16
    have hP1 : RP Mx1 tx n (nmE tx n a) := hP0.next q1 (n1 ok0).1 (nmE_le hP0.2.2.2.1)
    have fr1 : Mx1 123 = setw (M 123) 0 (nI (nmV tx n a)) := by
      rw [(n1 ok0).2, fr0]
      rfl
    refine ac_aload_n 20 dX8_readsWall_19 rfl rfl ?_
    refine ac_iconst 21 1 dX8_readsWall_20 rfl (by decide) ?_
    refine ac_iconst 22 5 dX8_readsWall_21 rfl (by decide) ?_
    refine ac_bipush 24 20 dX8_readsWall_22 rfl (by decide) ?_
    refine ac_callVg (μ' := m8_puts) 27 dX8_readsWall_24 rfl lk8_82 m8_puts_V ob121 (c8_puts hP1 (q := 1) (by decide) 5 20) rfl rfl (by decide) (Nat.le_of_ble_eq_true rfl) (fun v1 Mx2 V1 f1 h9 => ?_)
    obtain ⟨b1, b2, b3, b4, b5, b6, b7⟩ := h9
    subst b1
    obtain rfl := b2.symm
    obtain rfl := b3.symm
    have kk2 := kk1.trans b4
    have t2 := b5.trans t1
    have m2 := b6
    have n2 := b7
    have q2 := b4
    refine ac_if_eq 45 30 dX8_readsWall_27 (by decide) rfl (fun c_27 => ?_) (fun c_27 => ?_)
    · have no1 := bi_eq0.mp c_27
      refine ac_iconst 46 0 dX8_readsWall_45 rfl (by decide) ?_
      refine ac_istore_n 47 [some (Value.ref 121), some (Value.int 0)] dX8_readsWall_46 rfl rfl (Nat.le_of_ble_eq_true rfl) (by decide) rfl ?_
      refine ac_aload_n 48 dX8_readsWall_47 rfl rfl ?_
      refine ac_iconst 49 1 dX8_readsWall_48 rfl (by decide) ?_
      refine ac_putI 52 dX8_readsWall_49 rfl fl8_78 rfl rfl ob121 ?_
      refine ac_iload_n 53 dX8_readsWall_52 rfl rfl ?_
      refine ac_iret dX8_readsWall_53 ⟨_, rfl, rfl⟩ ?_
      have eR : pWall tx n (a, M 123) = .inl (skP tx n (nmE tx n a)) := by
        unfold pWall
        rw [pnm_t ok0]
        show andP (pnm tx n 1 5 20 _) _ = _
        rw [pnm_f no1]
        rfl
      exact ⟨rfl, rfl, ⟨fun i z1 z2 => (am_up_ne z1).trans (kk2.1 i z1 z2), fun k z1 z2 z3 => (up_ne z3).trans (kk2.2 k z1 z2 z3)⟩, rfl, by
        rw [eR]
        exact ⟨rfl, m2⟩⟩
    · have ok1 := bi_ne0.mp c_27
      have hP2 : RP Mx2 tx n (nmE tx n (nmE tx n a)) := hP1.next q2 (n2 ok1).1 (nmE_le hP1.2.2.2.1)
      have fr2 : Mx2 123 = setw (setw (M 123) 0 (nI (nmV tx n a))) 1 (nI (nmV tx n (nmE tx n a))) := by
        rw [(n2 ok1).2, fr1]
        rfl
      refine ac_aload_n 31 dX8_readsWall_30 rfl rfl ?_
      refine ac_iconst 32 2 dX8_readsWall_31 rfl (by decide) ?_
      refine ac_iconst 33 0 dX8_readsWall_32 rfl (by decide) ?_
      refine ac_bipush 35 9 dX8_readsWall_33 rfl (by decide) ?_
      refine ac_callVg (μ' := m8_puts) 38 dX8_readsWall_35 rfl lk8_82 m8_puts_V ob121 (c8_puts hP2 (q := 2) (by decide) 0 9) rfl rfl (by decide) (Nat.le_of_ble_eq_true rfl) (fun v2 Mx3 V2 f2 h9 => ?_)
      obtain ⟨b1, b2, b3, b4, b5, b6, b7⟩ := h9
      subst b1
      obtain rfl := b2.symm
      obtain rfl := b3.symm
      have kk3 := kk2.trans b4
      have t3 := b5.trans t2
      have m3 := b6
      have n3 := b7
      have q3 := b4
      refine ac_if_eq 45 41 dX8_readsWall_38 (by decide) rfl (fun c_38 => ?_) (fun c_38 => ?_)
      · have no2 := bi_eq0.mp c_38
        refine ac_iconst 46 0 dX8_readsWall_45 rfl (by decide) ?_
        refine ac_istore_n 47 [some (Value.ref 121), some (Value.int 0)] dX8_readsWall_46 rfl rfl (Nat.le_of_ble_eq_true rfl) (by decide) rfl ?_
        refine ac_aload_n 48 dX8_readsWall_47 rfl rfl ?_
        refine ac_iconst 49 1 dX8_readsWall_48 rfl (by decide) ?_
        refine ac_putI 52 dX8_readsWall_49 rfl fl8_78 rfl rfl ob121 ?_
        refine ac_iload_n 53 dX8_readsWall_52 rfl rfl ?_
        refine ac_iret dX8_readsWall_53 ⟨_, rfl, rfl⟩ ?_
        have eR : pWall tx n (a, M 123) = .inl (skP tx n (nmE tx n (nmE tx n a))) := by
          unfold pWall
          rw [pnm_t ok0]
          show andP (pnm tx n 1 5 20 _) _ = _
          rw [pnm_t ok1]
          show pnm tx n 2 0 9 _ = _
          rw [pnm_f no2]
        exact ⟨rfl, rfl, ⟨fun i z1 z2 => (am_up_ne z1).trans (kk3.1 i z1 z2), fun k z1 z2 z3 => (up_ne z3).trans (kk3.2 k z1 z2 z3)⟩, rfl, by
          rw [eR]
          exact ⟨rfl, m3⟩⟩
      · have ok2 := bi_ne0.mp c_38
        have hP3 : RP Mx3 tx n (nmE tx n (nmE tx n (nmE tx n a))) := hP2.next q3 (n3 ok2).1 (nmE_le hP2.2.2.2.1)
        have fr3 : Mx3 123 = setw (setw (setw (M 123) 0 (nI (nmV tx n a))) 1 (nI (nmV tx n (nmE tx n a)))) 2 (nI (nmV tx n (nmE tx n (nmE tx n a)))) := by
          rw [(n3 ok2).2, fr2]
          rfl
        refine ac_iconst 42 1 dX8_readsWall_41 rfl (by decide) ?_
        refine ac_goto 46 dX8_readsWall_42 (by decide) ?_
        refine ac_istore_n 47 [some (Value.ref 121), some (Value.int 1)] dX8_readsWall_46 rfl rfl (Nat.le_of_ble_eq_true rfl) (by decide) rfl ?_
        refine ac_aload_n 48 dX8_readsWall_47 rfl rfl ?_
        refine ac_iconst 49 1 dX8_readsWall_48 rfl (by decide) ?_
        refine ac_putI 52 dX8_readsWall_49 rfl fl8_78 rfl rfl ob121 ?_
        refine ac_iload_n 53 dX8_readsWall_52 rfl rfl ?_
        refine ac_iret dX8_readsWall_53 ⟨_, rfl, rfl⟩ ?_
        have eR : pWall tx n (a, M 123) = .inr ((nmE tx n (nmE tx n (nmE tx n a))), setw (setw (setw (M 123) 0 (nI (nmV tx n a))) 1 (nI (nmV tx n (nmE tx n a)))) 2 (nI (nmV tx n (nmE tx n (nmE tx n a))))) := by
          unfold pWall
          rw [pnm_t ok0]
          show andP (pnm tx n 1 5 20 _) _ = _
          rw [pnm_t ok1]
          show pnm tx n 2 0 9 _ = _
          rw [pnm_t ok2]
        exact ⟨rfl, rfl, ⟨fun i z1 z2 => (am_up_ne z1).trans (kk3.1 i z1 z2), fun k z1 z2 z3 => (up_ne z3).trans (kk3.2 k z1 z2 z3)⟩, rfl, by
          rw [eR]
          exact ⟨rfl, hP3.2.2.1, hP3.2.2.2.1, fr3⟩⟩
set_option maxRecDepth 20000 in
theorem c8_rWallN {M : am_I} {V : am_J} {f : Nat → Option Nat} {tx : Nat → Nat} {n a m0 : Nat} (hP0 : RP M tx n a) (hm0 : M 121 12 = nI m0) (h13 : M 121 13 = 1) : CT m8_readsWall 4 [Value.ref 121] M V f (fun v M' V' f' => V' = V ∧ f' = f ∧ KP M M' ∧ M' 121 13 = 1 ∧ PO n v M' (.inl m0)) := by
  refine CT.of m8_readsWall_V.1 _ (en_a_2 121) ?_
  refine ac_aload_n 1 dX8_readsWall_0 rfl rfl ?_
  refine ac_getI 4 dX8_readsWall_1 rfl fl8_78 ob121 ?_
  refine ac_if_ne 45 7 dX8_readsWall_4 (by decide) rfl (fun _ => ?_) (fun c_4 => absurd c_4 (by rw [h13]; decide))
  refine ac_iconst 46 0 dX8_readsWall_45 rfl (by decide) ?_
  refine ac_istore_n 47 [some (Value.ref 121), some (Value.int 0)] dX8_readsWall_46 rfl rfl (Nat.le_of_ble_eq_true rfl) (by decide) rfl ?_
  refine ac_aload_n 48 dX8_readsWall_47 rfl rfl ?_
  refine ac_iconst 49 1 dX8_readsWall_48 rfl (by decide) ?_
  refine ac_putI 52 dX8_readsWall_49 rfl fl8_78 rfl rfl ob121 ?_
  refine ac_iload_n 53 dX8_readsWall_52 rfl rfl ?_
  refine ac_iret dX8_readsWall_53 ⟨_, rfl, rfl⟩ ?_
  exact ⟨rfl, rfl, ⟨fun i z1 z2 => am_up_ne z1, fun k z1 z2 z3 => up_ne z3⟩, rfl, rfl, hm0⟩
theorem setw_eq {w : rN} {q : Nat} {v : Int32} : setw w q v q = v := if_pos rfl
theorem setw_ne {w : rN} {q j : Nat} {v : Int32} (h : j ≠ q) : setw w q v j = w j := if_neg h
/-- one picture more, the m-th -/
noncomputable def pPic (tx : Nat → Nat) (n m : Nat) (s : pS) : Sum Nat pS := andP (pnm tx n (4 + 4 * m) 1 9 s) (fun s1 => andP (pnm tx n (4 + 4 * m + 1) 1 9 s1) (fun s2 => andP (pnm tx n (4 + 4 * m + 2) 0 (nI (nmV tx n s1.1)) s2) (fun s3 => andP (pnm tx n (4 + 4 * m + 3) 1 9 s3) (fun s4 => .inr (s4.1, setw s4.2 3 (nI (m + 1)))))))
noncomputable def pDoor (tx : Nat → Nat) (n m : Nat) (s : pS) : Sum Nat pS := andP (pnm tx n (25 + 2 * m) 0 39 s) (fun s1 => andP (pnm tx n (25 + 2 * m + 1) (nI (nmV tx n s.1 + 1)) 40 s1) (fun s2 => .inr (s2.1, setw s2.2 24 (nI (m + 1)))))
noncomputable def pHole (tx : Nat → Nat) (n m : Nat) (s : pS) : Sum Nat pS := andP (pnm tx n (32 + 2 * m) 0 80 s) (fun s1 => andP (pnm tx n (32 + 2 * m + 1) 0 60 s1) (fun s2 => cif (hoN s.2 m (nI (nmV tx n s.1)) (nI (nmV tx n s1.1))) (.inl (skP tx n s1.1)) (.inr (s2.1, setw s2.2 31 (nI (m + 1))))))
theorem nmE_3 {tx : Nat → Nat} {n a : Nat} (h : a ≤ n) (hn : n ≤ 120) : nmV tx n a ≤ 100 := vlP_le tx _ _
set_option maxRecDepth 20000 in
theorem c8_rPic {M : am_I} {V : am_J} {f : Nat → Option Nat} {tx : Nat → Nat} {n a m0 : Nat} (hP0 : RP M tx n a) (hm0 : M 121 12 = nI m0) {m : Nat} (h3 : M 123 3 = nI m) (hm5 : m < 5) : CT m8_readsPicture 4 [Value.ref 121] M V f (fun v M' V' f' => V' = V ∧ f' = f ∧ KP M M' ∧ M' 121 13 = M 121 13 ∧ PO n v M' (pPic tx n m (a, M 123))) := by
  have kk0 := KP.refl M
  have t0 := (rfl : M 121 13 = M 121 13)
  have fr0 := (rfl : M 123 = M 123)
  refine CT.of m8_readsPicture_V.1 _ (en_a_2 121) ?_
  refine ac_iconst 1 4 dX8_readsPicture_0 rfl (by decide) ?_
  refine ac_iconst 2 4 dX8_readsPicture_1 rfl (by decide) ?_
  refine ac_aload_n 3 dX8_readsPicture_2 rfl rfl ?_
  refine ac_getO 6 123 dX8_readsPicture_3 rfl fl8_13 ob121 rfl ?_
  refine ac_iconst 7 3 dX8_readsPicture_6 rfl (by decide) ?_
  refine ac_iald 8 dX8_readsPicture_7 rfl ar123 (ix_nI (k := 3) (by decide) (by decide)) ?_
  rw [show (M 123 3) = (nI m) from h3]
  refine ac_imul 9 dX8_readsPicture_8 rfl ?_
  refine ac_iadd 10 dX8_readsPicture_9 rfl ?_
  rw [show (4 + (4 * (nI m))) = (nI (4 + 4 * m)) from (by rw [show (4 : Int32) = nI 4 from rfl, pk_mul, nI_add])]
  refine ac_istore_n 11 [some (Value.ref 121), some (Value.int (nI (4 + 4 * m)))] dX8_readsPicture_10 rfl rfl (Nat.le_of_ble_eq_true rfl) (by decide) rfl ?_
  refine ac_aload_n 12 dX8_readsPicture_11 rfl rfl ?_
  refine ac_getO 15 123 dX8_readsPicture_12 rfl fl8_13 ob121 rfl ?_
  refine ac_iconst 16 3 dX8_readsPicture_15 rfl (by decide) ?_
  refine ac_iald 17 dX8_readsPicture_16 rfl ar123 (ix_nI (k := 3) (by decide) (by decide)) ?_
  rw [show (M 123 3) = (nI m) from h3]
  refine ac_iconst 18 5 dX8_readsPicture_17 rfl (by decide) ?_
  refine ac_icmp_eq 45 21 dX8_readsPicture_18 (by decide) rfl (fun c_18 => absurd c_18 (fun q => absurd ((nI_eq (b := 5) (by omega) (by decide)).mp q) (by omega))) (fun _ => ?_)
  refine ac_aload_n 22 dX8_readsPicture_21 rfl rfl ?_
  refine ac_iload_n 23 dX8_readsPicture_22 rfl rfl ?_
  refine ac_iconst 24 1 dX8_readsPicture_23 rfl (by decide) ?_
  refine ac_bipush 26 9 dX8_readsPicture_24 rfl (by decide) ?_
  refine ac_callVg (μ' := m8_puts) 29 dX8_readsPicture_26 rfl lk8_82 m8_puts_V ob121 (c8_puts hP0 (q := (4 + 4 * m)) (by omega) 1 9) rfl rfl (by decide) (Nat.le_of_ble_eq_true rfl) (fun v0 Mx1 V0 f0 h9 => ?_)
  obtain ⟨b1, b2, b3, b4, b5, b6, b7⟩ := h9
  subst b1
  obtain rfl := b2.symm
  obtain rfl := b3.symm
  have kk1 := kk0.trans b4
  have t1 := b5.trans t0
  have m1 := b6
  have n1 := b7
  have q1 := b4
  refine ac_if_eq 45 32 dX8_readsPicture_29 (by decide) rfl (fun c_29 => ?_) (fun c_29 => ?_)
  · have no0 := bi_eq0.mp c_29
    refine ac_iconst 46 0 dX8_readsPicture_45 rfl (by decide) ?_
    refine ac_iret dX8_readsPicture_46 ⟨_, rfl, rfl⟩ ?_
    have eR : pPic tx n m (a, M 123) = .inl (skP tx n a) := by
      unfold pPic
      rw [pnm_f (s := (a, M 123)) no0]
      try dsimp only [andP]
    exact ⟨rfl, rfl, kk1, t1, by
      rw [eR]
      exact ⟨rfl, m1⟩⟩
  · have ok0 := bi_ne0.mp c_29
    have hP1 : RP Mx1 tx n (nmE tx n a) := hP0.next q1 (n1 ok0).1 (nmE_le hP0.2.2.2.1)
    have fr1 : Mx1 123 = setw (M 123) (4 + 4 * m) (nI (nmV tx n a)) := by
      rw [(n1 ok0).2, fr0]
      rfl
    refine ac_aload_n 33 dX8_readsPicture_32 rfl rfl ?_
    refine ac_iload_n 34 dX8_readsPicture_33 rfl rfl ?_
    refine ac_iconst 35 1 dX8_readsPicture_34 rfl (by decide) ?_
    refine ac_iadd 36 dX8_readsPicture_35 rfl ?_
    rw [show ((nI (4 + 4 * m)) + 1) = (nI (4 + 4 * m + 1)) from (nI_1 _)]
    refine ac_iconst 37 1 dX8_readsPicture_36 rfl (by decide) ?_
    refine ac_bipush 39 9 dX8_readsPicture_37 rfl (by decide) ?_
    refine ac_callVg (μ' := m8_puts) 42 dX8_readsPicture_39 rfl lk8_82 m8_puts_V ob121 (c8_puts hP1 (q := (4 + 4 * m + 1)) (by omega) 1 9) rfl rfl (by decide) (Nat.le_of_ble_eq_true rfl) (fun v1 Mx2 V1 f1 h9 => ?_)
    obtain ⟨b1, b2, b3, b4, b5, b6, b7⟩ := h9
    subst b1
    obtain rfl := b2.symm
    obtain rfl := b3.symm
    have kk2 := kk1.trans b4
    have t2 := b5.trans t1
    have m2 := b6
    have n2 := b7
    have q2 := b4
    refine ac_if_ne 47 45 dX8_readsPicture_42 (by decide) rfl (fun c_42 => ?_) (fun c_42 => ?_)
    · have ok1 := bi_ne0.mp c_42
      have hP2 : RP Mx2 tx n (nmE tx n (nmE tx n a)) := hP1.next q2 (n2 ok1).1 (nmE_le hP1.2.2.2.1)
      have fr2 : Mx2 123 = setw (setw (M 123) (4 + 4 * m) (nI (nmV tx n a))) (4 + 4 * m + 1) (nI (nmV tx n (nmE tx n a))) := by
        rw [(n2 ok1).2, fr1]
        rfl
      refine ac_aload_n 48 dX8_readsPicture_47 rfl rfl ?_
      refine ac_iload_n 49 dX8_readsPicture_48 rfl rfl ?_
      refine ac_iconst 50 2 dX8_readsPicture_49 rfl (by decide) ?_
      refine ac_iadd 51 dX8_readsPicture_50 rfl ?_
      rw [show ((nI (4 + 4 * m)) + 2) = (nI (4 + 4 * m + 2)) from (nI_add _ 2)]
      refine ac_iconst 52 0 dX8_readsPicture_51 rfl (by decide) ?_
      refine ac_aload_n 53 dX8_readsPicture_52 rfl rfl ?_
      refine ac_getO 56 123 dX8_readsPicture_53 rfl fl8_13 ob121 rfl ?_
      refine ac_iload_n 57 dX8_readsPicture_56 rfl rfl ?_
      refine ac_iconst 58 1 dX8_readsPicture_57 rfl (by decide) ?_
      refine ac_iadd 59 dX8_readsPicture_58 rfl ?_
      rw [show ((nI (4 + 4 * m)) + 1) = (nI (4 + 4 * m + 1)) from (nI_1 _)]
      refine ac_iald 60 dX8_readsPicture_59 rfl ar123 (ix_nI (by omega) (by decide)) ?_
      rw [show (Mx2 123 (4 + 4 * m + 1)) = (nI (nmV tx n (nmE tx n a))) from (by rw [fr2]; exact setw_eq)]
      refine ac_callVg (μ' := m8_puts) 63 dX8_readsPicture_60 rfl lk8_82 m8_puts_V ob121 (c8_puts hP2 (q := (4 + 4 * m + 2)) (by omega) 0 (nI (nmV tx n (nmE tx n a)))) rfl rfl (by decide) (Nat.le_of_ble_eq_true rfl) (fun v2 Mx3 V2 f2 h9 => ?_)
      obtain ⟨b1, b2, b3, b4, b5, b6, b7⟩ := h9
      subst b1
      obtain rfl := b2.symm
      obtain rfl := b3.symm
      have kk3 := kk2.trans b4
      have t3 := b5.trans t2
      have m3 := b6
      have n3 := b7
      have q3 := b4
      refine ac_if_eq 79 66 dX8_readsPicture_63 (by decide) rfl (fun c_63 => ?_) (fun c_63 => ?_)
      · have no2 := bi_eq0.mp c_63
        refine ac_iconst 80 0 dX8_readsPicture_79 rfl (by decide) ?_
        refine ac_iret dX8_readsPicture_80 ⟨_, rfl, rfl⟩ ?_
        have eR : pPic tx n m (a, M 123) = .inl (skP tx n (nmE tx n (nmE tx n a))) := by
          unfold pPic
          rw [pnm_t (s := (a, M 123)) ok0]
          try dsimp only [andP]
          rw [pnm_t (s := ((nmE tx n a), setw (M 123) (4 + 4 * m) (nI (nmV tx n a)))) ok1]
          try dsimp only [andP]
          rw [pnm_f (s := ((nmE tx n (nmE tx n a)), setw (setw (M 123) (4 + 4 * m) (nI (nmV tx n a))) (4 + 4 * m + 1) (nI (nmV tx n (nmE tx n a))))) no2]
          try dsimp only [andP]
        exact ⟨rfl, rfl, kk3, t3, by
          rw [eR]
          exact ⟨rfl, m3⟩⟩
      · have ok2 := bi_ne0.mp c_63
        have hP3 : RP Mx3 tx n (nmE tx n (nmE tx n (nmE tx n a))) := hP2.next q3 (n3 ok2).1 (nmE_le hP2.2.2.2.1)
        have fr3 : Mx3 123 = setw (setw (setw (M 123) (4 + 4 * m) (nI (nmV tx n a))) (4 + 4 * m + 1) (nI (nmV tx n (nmE tx n a)))) (4 + 4 * m + 2) (nI (nmV tx n (nmE tx n (nmE tx n a)))) := by
          rw [(n3 ok2).2, fr2]
          rfl
        refine ac_aload_n 67 dX8_readsPicture_66 rfl rfl ?_
        refine ac_iload_n 68 dX8_readsPicture_67 rfl rfl ?_
        refine ac_iconst 69 3 dX8_readsPicture_68 rfl (by decide) ?_
        refine ac_iadd 70 dX8_readsPicture_69 rfl ?_
        rw [show ((nI (4 + 4 * m)) + 3) = (nI (4 + 4 * m + 3)) from (nI_add _ 3)]
        refine ac_iconst 71 1 dX8_readsPicture_70 rfl (by decide) ?_
        refine ac_bipush 73 9 dX8_readsPicture_71 rfl (by decide) ?_
        refine ac_callVg (μ' := m8_puts) 76 dX8_readsPicture_73 rfl lk8_82 m8_puts_V ob121 (c8_puts hP3 (q := (4 + 4 * m + 3)) (by omega) 1 9) rfl rfl (by decide) (Nat.le_of_ble_eq_true rfl) (fun v3 Mx4 V3 f3 h9 => ?_)
        obtain ⟨b1, b2, b3, b4, b5, b6, b7⟩ := h9
        subst b1
        obtain rfl := b2.symm
        obtain rfl := b3.symm
        have kk4 := kk3.trans b4
        have t4 := b5.trans t3
        have m4 := b6
        have n4 := b7
        have q4 := b4
        refine ac_if_ne 81 79 dX8_readsPicture_76 (by decide) rfl (fun c_76 => ?_) (fun c_76 => ?_)
        · have ok3 := bi_ne0.mp c_76
          have hP4 : RP Mx4 tx n (nmE tx n (nmE tx n (nmE tx n (nmE tx n a)))) := hP3.next q4 (n4 ok3).1 (nmE_le hP3.2.2.2.1)
          have fr4 : Mx4 123 = setw (setw (setw (setw (M 123) (4 + 4 * m) (nI (nmV tx n a))) (4 + 4 * m + 1) (nI (nmV tx n (nmE tx n a)))) (4 + 4 * m + 2) (nI (nmV tx n (nmE tx n (nmE tx n a))))) (4 + 4 * m + 3) (nI (nmV tx n (nmE tx n (nmE tx n (nmE tx n a))))) := by
            rw [(n4 ok3).2, fr3]
            rfl
          refine ac_aload_n 82 dX8_readsPicture_81 rfl rfl ?_
          refine ac_getO 85 123 dX8_readsPicture_82 rfl fl8_13 ob121 rfl ?_
          refine ac_iconst 86 3 dX8_readsPicture_85 rfl (by decide) ?_
          refine ac_dup2 87 dX8_readsPicture_86 rfl rfl rfl ?_
          refine ac_iald 88 dX8_readsPicture_87 rfl ar123 (ix_nI (k := 3) (by decide) (by decide)) ?_
          rw [show (Mx4 123 3) = (nI m) from (by rw [fr4, setw_ne (by omega), setw_ne (by omega), setw_ne (by omega), setw_ne (by omega)]; exact h3)]
          refine ac_iconst 89 1 dX8_readsPicture_88 rfl (by decide) ?_
          refine ac_iadd 90 dX8_readsPicture_89 rfl ?_
          rw [show ((nI m) + 1) = (nI (m + 1)) from (nI_1 _)]
          refine ac_iast 91 dX8_readsPicture_90 rfl ar123 (ix_nI (k := 3) (by decide) (by decide)) ?_
          refine ac_iconst 92 1 dX8_readsPicture_91 rfl (by decide) ?_
          refine ac_iret dX8_readsPicture_92 ⟨_, rfl, rfl⟩ ?_
          have eR : pPic tx n m (a, M 123) = .inr ((nmE tx n (nmE tx n (nmE tx n (nmE tx n a)))), setw (setw (setw (setw (setw (M 123) (4 + 4 * m) (nI (nmV tx n a))) (4 + 4 * m + 1) (nI (nmV tx n (nmE tx n a)))) (4 + 4 * m + 2) (nI (nmV tx n (nmE tx n (nmE tx n a))))) (4 + 4 * m + 3) (nI (nmV tx n (nmE tx n (nmE tx n (nmE tx n a)))))) 3 (nI (m + 1))) := by
            unfold pPic
            rw [pnm_t (s := (a, M 123)) ok0]
            try dsimp only [andP]
            rw [pnm_t (s := ((nmE tx n a), setw (M 123) (4 + 4 * m) (nI (nmV tx n a)))) ok1]
            try dsimp only [andP]
            rw [pnm_t (s := ((nmE tx n (nmE tx n a)), setw (setw (M 123) (4 + 4 * m) (nI (nmV tx n a))) (4 + 4 * m + 1) (nI (nmV tx n (nmE tx n a))))) ok2]
            try dsimp only [andP]
            rw [pnm_t (s := ((nmE tx n (nmE tx n (nmE tx n a))), setw (setw (setw (M 123) (4 + 4 * m) (nI (nmV tx n a))) (4 + 4 * m + 1) (nI (nmV tx n (nmE tx n a)))) (4 + 4 * m + 2) (nI (nmV tx n (nmE tx n (nmE tx n a)))))) ok3]
            try dsimp only [andP]
          exact ⟨rfl, rfl, ⟨fun i z1 z2 => (am_up_ne z2).trans (kk4.1 i z1 z2), fun k z1 z2 z3 => kk4.2 k z1 z2 z3⟩, t4, by
            rw [eR]
            exact ⟨rfl, hP4.2.2.1, hP4.2.2.2.1, by rw [am_up_self, fr4]; rfl⟩⟩
        · have no3 := bi_eq0.mp c_76
          refine ac_iconst 80 0 dX8_readsPicture_79 rfl (by decide) ?_
          refine ac_iret dX8_readsPicture_80 ⟨_, rfl, rfl⟩ ?_
          have eR : pPic tx n m (a, M 123) = .inl (skP tx n (nmE tx n (nmE tx n (nmE tx n a)))) := by
            unfold pPic
            rw [pnm_t (s := (a, M 123)) ok0]
            try dsimp only [andP]
            rw [pnm_t (s := ((nmE tx n a), setw (M 123) (4 + 4 * m) (nI (nmV tx n a)))) ok1]
            try dsimp only [andP]
            rw [pnm_t (s := ((nmE tx n (nmE tx n a)), setw (setw (M 123) (4 + 4 * m) (nI (nmV tx n a))) (4 + 4 * m + 1) (nI (nmV tx n (nmE tx n a))))) ok2]
            try dsimp only [andP]
            rw [pnm_f (s := ((nmE tx n (nmE tx n (nmE tx n a))), setw (setw (setw (M 123) (4 + 4 * m) (nI (nmV tx n a))) (4 + 4 * m + 1) (nI (nmV tx n (nmE tx n a)))) (4 + 4 * m + 2) (nI (nmV tx n (nmE tx n (nmE tx n a)))))) no3]
            try dsimp only [andP]
          exact ⟨rfl, rfl, kk4, t4, by
            rw [eR]
            exact ⟨rfl, m4⟩⟩
    · have no1 := bi_eq0.mp c_42
      refine ac_iconst 46 0 dX8_readsPicture_45 rfl (by decide) ?_
      refine ac_iret dX8_readsPicture_46 ⟨_, rfl, rfl⟩ ?_
      have eR : pPic tx n m (a, M 123) = .inl (skP tx n (nmE tx n a)) := by
        unfold pPic
        rw [pnm_t (s := (a, M 123)) ok0]
        try dsimp only [andP]
        rw [pnm_f (s := ((nmE tx n a), setw (M 123) (4 + 4 * m) (nI (nmV tx n a)))) no1]
        try dsimp only [andP]
      exact ⟨rfl, rfl, kk2, t2, by
        rw [eR]
        exact ⟨rfl, m2⟩⟩
set_option maxRecDepth 20000 in
theorem c8_rPicN {M : am_I} {V : am_J} {f : Nat → Option Nat} {tx : Nat → Nat} {n a m0 : Nat} (hP0 : RP M tx n a) (hm0 : M 121 12 = nI m0) (h3 : M 123 3 = nI 5) : CT m8_readsPicture 4 [Value.ref 121] M V f (fun v M' V' f' => V' = V ∧ f' = f ∧ KP M M' ∧ M' 121 13 = M 121 13 ∧ PO n v M' (.inl m0)) := by
  refine CT.of m8_readsPicture_V.1 _ (en_a_2 121) ?_
  refine ac_iconst 1 4 dX8_readsPicture_0 rfl (by decide) ?_
  refine ac_iconst 2 4 dX8_readsPicture_1 rfl (by decide) ?_
  refine ac_aload_n 3 dX8_readsPicture_2 rfl rfl ?_
  refine ac_getO 6 123 dX8_readsPicture_3 rfl fl8_13 ob121 rfl ?_
  refine ac_iconst 7 3 dX8_readsPicture_6 rfl (by decide) ?_
  refine ac_iald 8 dX8_readsPicture_7 rfl ar123 (ix_nI (k := 3) (by decide) (by decide)) ?_
  rw [show (M 123 3) = (nI 5) from h3]
  refine ac_imul 9 dX8_readsPicture_8 rfl ?_
  refine ac_iadd 10 dX8_readsPicture_9 rfl ?_
  refine ac_istore_n 11 [some (Value.ref 121), some (Value.int (4 + (4 * (nI 5))))] dX8_readsPicture_10 rfl rfl (Nat.le_of_ble_eq_true rfl) (by decide) rfl ?_
  refine ac_aload_n 12 dX8_readsPicture_11 rfl rfl ?_
  refine ac_getO 15 123 dX8_readsPicture_12 rfl fl8_13 ob121 rfl ?_
  refine ac_iconst 16 3 dX8_readsPicture_15 rfl (by decide) ?_
  refine ac_iald 17 dX8_readsPicture_16 rfl ar123 (ix_nI (k := 3) (by decide) (by decide)) ?_
  rw [show (M 123 3) = (nI 5) from h3]
  refine ac_iconst 18 5 dX8_readsPicture_17 rfl (by decide) ?_
  refine ac_icmp_eq 45 21 dX8_readsPicture_18 (by decide) rfl (fun _ => ?_) (fun c_18 => absurd (by decide) c_18)
  refine ac_iconst 46 0 dX8_readsPicture_45 rfl (by decide) ?_
  refine ac_iret dX8_readsPicture_46 ⟨_, rfl, rfl⟩ ?_
  exact ⟨rfl, rfl, KP.refl M, rfl, rfl, hm0⟩
set_option maxRecDepth 20000 in
theorem c8_rDoor {M : am_I} {V : am_J} {f : Nat → Option Nat} {tx : Nat → Nat} {n a m0 : Nat} (hP0 : RP M tx n a) (hm0 : M 121 12 = nI m0) {m : Nat} (h3 : M 123 24 = nI m) (hm5 : m < 3) : CT m8_readsDoor 4 [Value.ref 121] M V f (fun v M' V' f' => V' = V ∧ f' = f ∧ KP M M' ∧ M' 121 13 = M 121 13 ∧ PO n v M' (pDoor tx n m (a, M 123))) := by
  have kk0 := KP.refl M
  have t0 := (rfl : M 121 13 = M 121 13)
  have fr0 := (rfl : M 123 = M 123)
  refine CT.of m8_readsDoor_V.1 _ (en_a_2 121) ?_
  refine ac_bipush 2 25 dX8_readsDoor_0 rfl (by decide) ?_
  refine ac_iconst 3 2 dX8_readsDoor_2 rfl (by decide) ?_
  refine ac_aload_n 4 dX8_readsDoor_3 rfl rfl ?_
  refine ac_getO 7 123 dX8_readsDoor_4 rfl fl8_13 ob121 rfl ?_
  refine ac_bipush 9 24 dX8_readsDoor_7 rfl (by decide) ?_
  refine ac_iald 10 dX8_readsDoor_9 rfl ar123 (ix_nI (k := 24) (by decide) (by decide)) ?_
  rw [show (M 123 24) = (nI m) from h3]
  refine ac_imul 11 dX8_readsDoor_10 rfl ?_
  refine ac_iadd 12 dX8_readsDoor_11 rfl ?_
  rw [show (25 + (2 * (nI m))) = (nI (25 + 2 * m)) from (by rw [show (25 : Int32) = nI 25 from rfl, show (2 : Int32) = nI 2 from rfl, pk_mul, nI_add])]
  refine ac_istore_n 13 [some (Value.ref 121), some (Value.int (nI (25 + 2 * m)))] dX8_readsDoor_12 rfl rfl (Nat.le_of_ble_eq_true rfl) (by decide) rfl ?_
  refine ac_aload_n 14 dX8_readsDoor_13 rfl rfl ?_
  refine ac_getO 17 123 dX8_readsDoor_14 rfl fl8_13 ob121 rfl ?_
  refine ac_bipush 19 24 dX8_readsDoor_17 rfl (by decide) ?_
  refine ac_iald 20 dX8_readsDoor_19 rfl ar123 (ix_nI (k := 24) (by decide) (by decide)) ?_
  rw [show (M 123 24) = (nI m) from h3]
  refine ac_iconst 21 3 dX8_readsDoor_20 rfl (by decide) ?_
  refine ac_icmp_eq 55 24 dX8_readsDoor_21 (by decide) rfl (fun c_21 => absurd c_21 (fun q => absurd ((nI_eq (b := 3) (by omega) (by decide)).mp q) (by omega))) (fun _ => ?_)
  refine ac_aload_n 25 dX8_readsDoor_24 rfl rfl ?_
  refine ac_iload_n 26 dX8_readsDoor_25 rfl rfl ?_
  refine ac_iconst 27 0 dX8_readsDoor_26 rfl (by decide) ?_
  refine ac_bipush 29 39 dX8_readsDoor_27 rfl (by decide) ?_
  refine ac_callVg (μ' := m8_puts) 32 dX8_readsDoor_29 rfl lk8_82 m8_puts_V ob121 (c8_puts hP0 (q := (25 + 2 * m)) (by omega) 0 39) rfl rfl (by decide) (Nat.le_of_ble_eq_true rfl) (fun v0 Mx1 V0 f0 h9 => ?_)
  obtain ⟨b1, b2, b3, b4, b5, b6, b7⟩ := h9
  subst b1
  obtain rfl := b2.symm
  obtain rfl := b3.symm
  have kk1 := kk0.trans b4
  have t1 := b5.trans t0
  have m1 := b6
  have n1 := b7
  have q1 := b4
  refine ac_if_eq 55 35 dX8_readsDoor_32 (by decide) rfl (fun c_32 => ?_) (fun c_32 => ?_)
  · have no0 := bi_eq0.mp c_32
    refine ac_iconst 56 0 dX8_readsDoor_55 rfl (by decide) ?_
    refine ac_iret dX8_readsDoor_56 ⟨_, rfl, rfl⟩ ?_
    have eR : pDoor tx n m (a, M 123) = .inl (skP tx n a) := by
      unfold pDoor
      rw [pnm_f (s := (a, M 123)) no0]
      try dsimp only [andP]
    exact ⟨rfl, rfl, kk1, t1, by
      rw [eR]
      exact ⟨rfl, m1⟩⟩
  · have ok0 := bi_ne0.mp c_32
    have hP1 : RP Mx1 tx n (nmE tx n a) := hP0.next q1 (n1 ok0).1 (nmE_le hP0.2.2.2.1)
    have fr1 : Mx1 123 = setw (M 123) (25 + 2 * m) (nI (nmV tx n a)) := by
      rw [(n1 ok0).2, fr0]
      rfl
    refine ac_aload_n 36 dX8_readsDoor_35 rfl rfl ?_
    refine ac_iload_n 37 dX8_readsDoor_36 rfl rfl ?_
    refine ac_iconst 38 1 dX8_readsDoor_37 rfl (by decide) ?_
    refine ac_iadd 39 dX8_readsDoor_38 rfl ?_
    rw [show ((nI (25 + 2 * m)) + 1) = (nI (25 + 2 * m + 1)) from (nI_1 _)]
    refine ac_aload_n 40 dX8_readsDoor_39 rfl rfl ?_
    refine ac_getO 43 123 dX8_readsDoor_40 rfl fl8_13 ob121 rfl ?_
    refine ac_iload_n 44 dX8_readsDoor_43 rfl rfl ?_
    refine ac_iald 45 dX8_readsDoor_44 rfl ar123 (ix_nI (by omega) (by decide)) ?_
    rw [show (Mx1 123 (25 + 2 * m)) = (nI (nmV tx n a)) from (by rw [fr1]; exact setw_eq)]
    refine ac_iconst 46 1 dX8_readsDoor_45 rfl (by decide) ?_
    refine ac_iadd 47 dX8_readsDoor_46 rfl ?_
    rw [show ((nI (nmV tx n a)) + 1) = (nI (nmV tx n a + 1)) from (nI_1 _)]
    refine ac_bipush 49 40 dX8_readsDoor_47 rfl (by decide) ?_
    refine ac_callVg (μ' := m8_puts) 52 dX8_readsDoor_49 rfl lk8_82 m8_puts_V ob121 (c8_puts hP1 (q := (25 + 2 * m + 1)) (by omega) (nI (nmV tx n a + 1)) 40) rfl rfl (by decide) (Nat.le_of_ble_eq_true rfl) (fun v1 Mx2 V1 f1 h9 => ?_)
    obtain ⟨b1, b2, b3, b4, b5, b6, b7⟩ := h9
    subst b1
    obtain rfl := b2.symm
    obtain rfl := b3.symm
    have kk2 := kk1.trans b4
    have t2 := b5.trans t1
    have m2 := b6
    have n2 := b7
    have q2 := b4
    refine ac_if_ne 57 55 dX8_readsDoor_52 (by decide) rfl (fun c_52 => ?_) (fun c_52 => ?_)
    · have ok1 := bi_ne0.mp c_52
      have hP2 : RP Mx2 tx n (nmE tx n (nmE tx n a)) := hP1.next q2 (n2 ok1).1 (nmE_le hP1.2.2.2.1)
      have fr2 : Mx2 123 = setw (setw (M 123) (25 + 2 * m) (nI (nmV tx n a))) (25 + 2 * m + 1) (nI (nmV tx n (nmE tx n a))) := by
        rw [(n2 ok1).2, fr1]
        rfl
      refine ac_aload_n 58 dX8_readsDoor_57 rfl rfl ?_
      refine ac_getO 61 123 dX8_readsDoor_58 rfl fl8_13 ob121 rfl ?_
      refine ac_bipush 63 24 dX8_readsDoor_61 rfl (by decide) ?_
      refine ac_dup2 64 dX8_readsDoor_63 rfl rfl rfl ?_
      refine ac_iald 65 dX8_readsDoor_64 rfl ar123 (ix_nI (k := 24) (by decide) (by decide)) ?_
      rw [show (Mx2 123 24) = (nI m) from (by rw [fr2, setw_ne (by omega), setw_ne (by omega)]; exact h3)]
      refine ac_iconst 66 1 dX8_readsDoor_65 rfl (by decide) ?_
      refine ac_iadd 67 dX8_readsDoor_66 rfl ?_
      rw [show ((nI m) + 1) = (nI (m + 1)) from (nI_1 _)]
      refine ac_iast 68 dX8_readsDoor_67 rfl ar123 (ix_nI (k := 24) (by decide) (by decide)) ?_
      refine ac_iconst 69 1 dX8_readsDoor_68 rfl (by decide) ?_
      refine ac_iret dX8_readsDoor_69 ⟨_, rfl, rfl⟩ ?_
      have eR : pDoor tx n m (a, M 123) = .inr ((nmE tx n (nmE tx n a)), setw (setw (setw (M 123) (25 + 2 * m) (nI (nmV tx n a))) (25 + 2 * m + 1) (nI (nmV tx n (nmE tx n a)))) 24 (nI (m + 1))) := by
        unfold pDoor
        rw [pnm_t (s := (a, M 123)) ok0]
        try dsimp only [andP]
        rw [pnm_t (s := ((nmE tx n a), setw (M 123) (25 + 2 * m) (nI (nmV tx n a)))) ok1]
        try dsimp only [andP]
      exact ⟨rfl, rfl, ⟨fun i z1 z2 => (am_up_ne z2).trans (kk2.1 i z1 z2), fun k z1 z2 z3 => kk2.2 k z1 z2 z3⟩, t2, by
        rw [eR]
        exact ⟨rfl, hP2.2.2.1, hP2.2.2.2.1, by rw [am_up_self, fr2]; rfl⟩⟩
    · have no1 := bi_eq0.mp c_52
      refine ac_iconst 56 0 dX8_readsDoor_55 rfl (by decide) ?_
      refine ac_iret dX8_readsDoor_56 ⟨_, rfl, rfl⟩ ?_
      have eR : pDoor tx n m (a, M 123) = .inl (skP tx n (nmE tx n a)) := by
        unfold pDoor
        rw [pnm_t (s := (a, M 123)) ok0]
        try dsimp only [andP]
        rw [pnm_f (s := ((nmE tx n a), setw (M 123) (25 + 2 * m) (nI (nmV tx n a)))) no1]
        try dsimp only [andP]
      exact ⟨rfl, rfl, kk2, t2, by
        rw [eR]
        exact ⟨rfl, m2⟩⟩
set_option maxRecDepth 20000 in
theorem c8_rDoorN {M : am_I} {V : am_J} {f : Nat → Option Nat} {tx : Nat → Nat} {n a m0 : Nat} (hP0 : RP M tx n a) (hm0 : M 121 12 = nI m0) (h3 : M 123 24 = nI 3) : CT m8_readsDoor 4 [Value.ref 121] M V f (fun v M' V' f' => V' = V ∧ f' = f ∧ KP M M' ∧ M' 121 13 = M 121 13 ∧ PO n v M' (.inl m0)) := by
  refine CT.of m8_readsDoor_V.1 _ (en_a_2 121) ?_
  refine ac_bipush 2 25 dX8_readsDoor_0 rfl (by decide) ?_
  refine ac_iconst 3 2 dX8_readsDoor_2 rfl (by decide) ?_
  refine ac_aload_n 4 dX8_readsDoor_3 rfl rfl ?_
  refine ac_getO 7 123 dX8_readsDoor_4 rfl fl8_13 ob121 rfl ?_
  refine ac_bipush 9 24 dX8_readsDoor_7 rfl (by decide) ?_
  refine ac_iald 10 dX8_readsDoor_9 rfl ar123 (ix_nI (k := 24) (by decide) (by decide)) ?_
  rw [show (M 123 24) = (nI 3) from h3]
  refine ac_imul 11 dX8_readsDoor_10 rfl ?_
  refine ac_iadd 12 dX8_readsDoor_11 rfl ?_
  refine ac_istore_n 13 [some (Value.ref 121), some (Value.int (25 + (2 * (nI 3))))] dX8_readsDoor_12 rfl rfl (Nat.le_of_ble_eq_true rfl) (by decide) rfl ?_
  refine ac_aload_n 14 dX8_readsDoor_13 rfl rfl ?_
  refine ac_getO 17 123 dX8_readsDoor_14 rfl fl8_13 ob121 rfl ?_
  refine ac_bipush 19 24 dX8_readsDoor_17 rfl (by decide) ?_
  refine ac_iald 20 dX8_readsDoor_19 rfl ar123 (ix_nI (k := 24) (by decide) (by decide)) ?_
  rw [show (M 123 24) = (nI 3) from h3]
  refine ac_iconst 21 3 dX8_readsDoor_20 rfl (by decide) ?_
  refine ac_icmp_eq 55 24 dX8_readsDoor_21 (by decide) rfl (fun _ => ?_) (fun c_21 => absurd (by decide) c_21)
  refine ac_iconst 56 0 dX8_readsDoor_55 rfl (by decide) ?_
  refine ac_iret dX8_readsDoor_56 ⟨_, rfl, rfl⟩ ?_
  exact ⟨rfl, rfl, KP.refl M, rfl, rfl, hm0⟩
set_option maxRecDepth 20000 in
theorem c8_rHole {M : am_I} {V : am_J} {f : Nat → Option Nat} {tx : Nat → Nat} {n a m0 : Nat} (hP0 : RP M tx n a) (hm0 : M 121 12 = nI m0) {m : Nat} (h3 : M 123 31 = nI m) (hm5 : m < 16) : CT m8_readsHole 4 [Value.ref 121] M V f (fun v M' V' f' => V' = V ∧ f' = f ∧ KP M M' ∧ M' 121 13 = M 121 13 ∧ PO n v M' (pHole tx n m (a, M 123))) := by
  have kk0 := KP.refl M
  have t0 := (rfl : M 121 13 = M 121 13)
  have fr0 := (rfl : M 123 = M 123)
  refine CT.of m8_readsHole_V.1 _ (en_a_3 121) ?_
  refine ac_bipush 2 32 dX8_readsHole_0 rfl (by decide) ?_
  refine ac_iconst 3 2 dX8_readsHole_2 rfl (by decide) ?_
  refine ac_aload_n 4 dX8_readsHole_3 rfl rfl ?_
  refine ac_getO 7 123 dX8_readsHole_4 rfl fl8_13 ob121 rfl ?_
  refine ac_bipush 9 31 dX8_readsHole_7 rfl (by decide) ?_
  refine ac_iald 10 dX8_readsHole_9 rfl ar123 (ix_nI (k := 31) (by decide) (by decide)) ?_
  rw [show (M 123 31) = (nI m) from h3]
  refine ac_imul 11 dX8_readsHole_10 rfl ?_
  refine ac_iadd 12 dX8_readsHole_11 rfl ?_
  rw [show (32 + (2 * (nI m))) = (nI (32 + 2 * m)) from (by rw [show (32 : Int32) = nI 32 from rfl, show (2 : Int32) = nI 2 from rfl, pk_mul, nI_add])]
  refine ac_istore_n 13 [some (Value.ref 121), some (Value.int (nI (32 + 2 * m))), none] dX8_readsHole_12 rfl rfl (Nat.le_of_ble_eq_true rfl) (by decide) rfl ?_
  refine ac_aload_n 14 dX8_readsHole_13 rfl rfl ?_
  refine ac_getO 17 123 dX8_readsHole_14 rfl fl8_13 ob121 rfl ?_
  refine ac_bipush 19 31 dX8_readsHole_17 rfl (by decide) ?_
  refine ac_iald 20 dX8_readsHole_19 rfl ar123 (ix_nI (k := 31) (by decide) (by decide)) ?_
  rw [show (M 123 31) = (nI m) from h3]
  refine ac_bipush 22 16 dX8_readsHole_20 rfl (by decide) ?_
  refine ac_icmp_eq 49 25 dX8_readsHole_22 (by decide) rfl (fun c_22 => absurd c_22 (fun q => absurd ((nI_eq (b := 16) (by omega) (by decide)).mp q) (by omega))) (fun _ => ?_)
  refine ac_aload_n 26 dX8_readsHole_25 rfl rfl ?_
  refine ac_iload_n 27 dX8_readsHole_26 rfl rfl ?_
  refine ac_iconst 28 0 dX8_readsHole_27 rfl (by decide) ?_
  refine ac_bipush 30 80 dX8_readsHole_28 rfl (by decide) ?_
  refine ac_callVg (μ' := m8_puts) 33 dX8_readsHole_30 rfl lk8_82 m8_puts_V ob121 (c8_puts hP0 (q := (32 + 2 * m)) (by omega) 0 80) rfl rfl (by decide) (Nat.le_of_ble_eq_true rfl) (fun v0 Mx1 V0 f0 h9 => ?_)
  obtain ⟨b1, b2, b3, b4, b5, b6, b7⟩ := h9
  subst b1
  obtain rfl := b2.symm
  obtain rfl := b3.symm
  have kk1 := kk0.trans b4
  have t1 := b5.trans t0
  have m1 := b6
  have n1 := b7
  have q1 := b4
  refine ac_if_eq 49 36 dX8_readsHole_33 (by decide) rfl (fun c_33 => ?_) (fun c_33 => ?_)
  · have no0 := bi_eq0.mp c_33
    refine ac_iconst 50 0 dX8_readsHole_49 rfl (by decide) ?_
    refine ac_iret dX8_readsHole_50 ⟨_, rfl, rfl⟩ ?_
    have eR : pHole tx n m (a, M 123) = .inl (skP tx n a) := by
      unfold pHole
      rw [pnm_f (s := (a, M 123)) no0]
      try dsimp only [andP]
    exact ⟨rfl, rfl, kk1, t1, by
      rw [eR]
      exact ⟨rfl, m1⟩⟩
  · have ok0 := bi_ne0.mp c_33
    have hP1 : RP Mx1 tx n (nmE tx n a) := hP0.next q1 (n1 ok0).1 (nmE_le hP0.2.2.2.1)
    have fr1 : Mx1 123 = setw (M 123) (32 + 2 * m) (nI (nmV tx n a)) := by
      rw [(n1 ok0).2, fr0]
      rfl
    refine ac_aload_n 37 dX8_readsHole_36 rfl rfl ?_
    refine ac_iload_n 38 dX8_readsHole_37 rfl rfl ?_
    refine ac_iconst 39 1 dX8_readsHole_38 rfl (by decide) ?_
    refine ac_iadd 40 dX8_readsHole_39 rfl ?_
    rw [show ((nI (32 + 2 * m)) + 1) = (nI (32 + 2 * m + 1)) from (nI_1 _)]
    refine ac_iconst 41 0 dX8_readsHole_40 rfl (by decide) ?_
    refine ac_bipush 43 60 dX8_readsHole_41 rfl (by decide) ?_
    refine ac_callVg (μ' := m8_puts) 46 dX8_readsHole_43 rfl lk8_82 m8_puts_V ob121 (c8_puts hP1 (q := (32 + 2 * m + 1)) (by omega) 0 60) rfl rfl (by decide) (Nat.le_of_ble_eq_true rfl) (fun v1 Mx2 V1 f1 h9 => ?_)
    obtain ⟨b1, b2, b3, b4, b5, b6, b7⟩ := h9
    subst b1
    obtain rfl := b2.symm
    obtain rfl := b3.symm
    have kk2 := kk1.trans b4
    have t2 := b5.trans t1
    have m2 := b6
    have n2 := b7
    have q2 := b4
    refine ac_if_ne 51 49 dX8_readsHole_46 (by decide) rfl (fun c_46 => ?_) (fun c_46 => ?_)
    · have ok1 := bi_ne0.mp c_46
      have hP2 : RP Mx2 tx n (nmE tx n (nmE tx n a)) := hP1.next q2 (n2 ok1).1 (nmE_le hP1.2.2.2.1)
      have fr2 : Mx2 123 = setw (setw (M 123) (32 + 2 * m) (nI (nmV tx n a))) (32 + 2 * m + 1) (nI (nmV tx n (nmE tx n a))) := by
        rw [(n2 ok1).2, fr1]
        rfl
      refine ac_bipush 53 32 dX8_readsHole_51 rfl (by decide) ?_
      refine ac_istore_n 54 [some (Value.ref 121), some (Value.int (nI (32 + 2 * m))), some (Value.int 32)] dX8_readsHole_53 rfl rfl (Nat.le_of_ble_eq_true rfl) (by decide) rfl ?_
      refine ac_down (n := m) (P := fun j => (∀ k, k < j → ¬ (M 123 (32 + 2 * k) = (nI (nmV tx n a)) ∧ M 123 (32 + 2 * k + 1) = (nI (nmV tx n (nmE tx n a))))) → A0 m8_readsHole 4 54 [some (Value.ref 121), some (Value.int (nI (32 + 2 * m))), some (Value.int (nI (32 + 2 * j)))] [] Mx2 V f (fun v M' V' f' => V' = V ∧ f' = f ∧ KP M M' ∧ M' 121 13 = M 121 13 ∧ PO n v M' (pHole tx n m (a, M 123)))) ?_ ?_ 0 (Nat.zero_le _) (fun k hk => absurd hk (Nat.not_lt_zero k))
      · intro hpr
        refine ac_iload_n 55 dX8_readsHole_54 rfl rfl ?_
        refine ac_iload_n 56 dX8_readsHole_55 rfl rfl ?_
        refine ac_icmp_ge 101 59 dX8_readsHole_56 (by decide) rfl (fun _ => ?_) (fun c_56 => absurd (Int32.le_refl _) c_56)
        refine ac_aload_n 102 dX8_readsHole_101 rfl rfl ?_
        refine ac_getO 105 123 dX8_readsHole_102 rfl fl8_13 ob121 rfl ?_
        refine ac_bipush 107 31 dX8_readsHole_105 rfl (by decide) ?_
        refine ac_dup2 108 dX8_readsHole_107 rfl rfl rfl ?_
        refine ac_iald 109 dX8_readsHole_108 rfl ar123 (ix_nI (k := 31) (by decide) (by decide)) ?_
        rw [show (Mx2 123 31) = (nI m) from (by rw [fr2, setw_ne (by omega), setw_ne (by omega)]; exact h3)]
        refine ac_iconst 110 1 dX8_readsHole_109 rfl (by decide) ?_
        refine ac_iadd 111 dX8_readsHole_110 rfl ?_
        rw [show ((nI m) + 1) = (nI (m + 1)) from (nI_1 _)]
        refine ac_iast 112 dX8_readsHole_111 rfl ar123 (ix_nI (k := 31) (by decide) (by decide)) ?_
        refine ac_iconst 113 1 dX8_readsHole_112 rfl (by decide) ?_
        refine ac_iret dX8_readsHole_113 ⟨_, rfl, rfl⟩ ?_
        have eR : pHole tx n m (a, M 123) = .inr ((nmE tx n (nmE tx n a)), setw (setw (setw (M 123) (32 + 2 * m) (nI (nmV tx n a))) (32 + 2 * m + 1) (nI (nmV tx n (nmE tx n a)))) 31 (nI (m + 1))) := by
          unfold pHole
          rw [pnm_t (s := (a, M 123)) ok0]
          try dsimp only [andP]
          rw [pnm_t (s := ((nmE tx n a), setw (M 123) (32 + 2 * m) (nI (nmV tx n a)))) ok1]
          try dsimp only [andP]
          exact cif_f (fun ⟨k, hk, q⟩ => hpr k hk q)
        exact ⟨rfl, rfl, ⟨fun i z1 z2 => (am_up_ne z2).trans (kk2.1 i z1 z2), fun k z1 z2 z3 => kk2.2 k z1 z2 z3⟩, t2, by
          rw [eR]
          exact ⟨rfl, hP2.2.2.1, hP2.2.2.2.1, by rw [am_up_self, fr2]; rfl⟩⟩
      · intro j hj ih hpr
        refine ac_iload_n 55 dX8_readsHole_54 rfl rfl ?_
        refine ac_iload_n 56 dX8_readsHole_55 rfl rfl ?_
        refine ac_icmp_ge 101 59 dX8_readsHole_56 (by decide) rfl (fun c_56 => absurd c_56 (nI_ge (by omega) (by omega))) (fun _ => ?_)
        refine ac_aload_n 60 dX8_readsHole_59 rfl rfl ?_
        refine ac_getO 63 123 dX8_readsHole_60 rfl fl8_13 ob121 rfl ?_
        refine ac_iload_n 64 dX8_readsHole_63 rfl rfl ?_
        refine ac_iald 65 dX8_readsHole_64 rfl ar123 (ix_nI (by omega) (by decide)) ?_
        rw [show (Mx2 123 (32 + 2 * j)) = (M 123 (32 + 2 * j)) from (by rw [fr2, setw_ne (by omega), setw_ne (by omega)])]
        refine ac_aload_n 66 dX8_readsHole_65 rfl rfl ?_
        refine ac_getO 69 123 dX8_readsHole_66 rfl fl8_13 ob121 rfl ?_
        refine ac_iload_n 70 dX8_readsHole_69 rfl rfl ?_
        refine ac_iald 71 dX8_readsHole_70 rfl ar123 (ix_nI (by omega) (by decide)) ?_
        rw [show (Mx2 123 (32 + 2 * m)) = (nI (nmV tx n a)) from (by rw [fr2, setw_ne (by omega)]; exact setw_eq)]
        refine ac_icmp_ne 95 74 dX8_readsHole_71 (by decide) rfl (fun c_71 => ?_) (fun c_71 => ?_)
        · refine ac_iinc 98 (nI (32 + 2 * (j + 1))) [some (Value.ref 121), some (Value.int (nI (32 + 2 * m))), some (Value.int (nI (32 + 2 * (j + 1))))] dX8_readsHole_95 rfl rfl (nI_add _ 2) rfl (by decide) rfl ?_
          refine ac_goto 54 dX8_readsHole_98 (by decide) ?_
          exact ih (fun k hk q => by
            by_cases hkj : k = j
            · subst hkj
              first | exact c_71 q.1 | exact c_90 q.2
            · exact hpr k (by omega) q)
        · refine ac_aload_n 75 dX8_readsHole_74 rfl rfl ?_
          refine ac_getO 78 123 dX8_readsHole_75 rfl fl8_13 ob121 rfl ?_
          refine ac_iload_n 79 dX8_readsHole_78 rfl rfl ?_
          refine ac_iconst 80 1 dX8_readsHole_79 rfl (by decide) ?_
          refine ac_iadd 81 dX8_readsHole_80 rfl ?_
          rw [show ((nI (32 + 2 * j)) + 1) = (nI (32 + 2 * j + 1)) from (nI_1 _)]
          refine ac_iald 82 dX8_readsHole_81 rfl ar123 (ix_nI (by omega) (by decide)) ?_
          rw [show (Mx2 123 (32 + 2 * j + 1)) = (M 123 (32 + 2 * j + 1)) from (by rw [fr2, setw_ne (by omega), setw_ne (by omega)])]
          refine ac_aload_n 83 dX8_readsHole_82 rfl rfl ?_
          refine ac_getO 86 123 dX8_readsHole_83 rfl fl8_13 ob121 rfl ?_
          refine ac_iload_n 87 dX8_readsHole_86 rfl rfl ?_
          refine ac_iconst 88 1 dX8_readsHole_87 rfl (by decide) ?_
          refine ac_iadd 89 dX8_readsHole_88 rfl ?_
          rw [show ((nI (32 + 2 * m)) + 1) = (nI (32 + 2 * m + 1)) from (nI_1 _)]
          refine ac_iald 90 dX8_readsHole_89 rfl ar123 (ix_nI (by omega) (by decide)) ?_
          rw [show (Mx2 123 (32 + 2 * m + 1)) = (nI (nmV tx n (nmE tx n a))) from (by rw [fr2]; exact setw_eq)]
          refine ac_icmp_ne 95 93 dX8_readsHole_90 (by decide) rfl (fun c_90 => ?_) (fun c_90 => ?_)
          · refine ac_iinc 98 (nI (32 + 2 * (j + 1))) [some (Value.ref 121), some (Value.int (nI (32 + 2 * m))), some (Value.int (nI (32 + 2 * (j + 1))))] dX8_readsHole_95 rfl rfl (nI_add _ 2) rfl (by decide) rfl ?_
            refine ac_goto 54 dX8_readsHole_98 (by decide) ?_
            exact ih (fun k hk q => by
              by_cases hkj : k = j
              · subst hkj
                first | exact c_71 q.1 | exact c_90 q.2
              · exact hpr k (by omega) q)
          · refine ac_iconst 94 0 dX8_readsHole_93 rfl (by decide) ?_
            refine ac_iret dX8_readsHole_94 ⟨_, rfl, rfl⟩ ?_
            have eR : pHole tx n m (a, M 123) = .inl (skP tx n (nmE tx n a)) := by
              unfold pHole
              rw [pnm_t (s := (a, M 123)) ok0]
              try dsimp only [andP]
              rw [pnm_t (s := ((nmE tx n a), setw (M 123) (32 + 2 * m) (nI (nmV tx n a)))) ok1]
              try dsimp only [andP]
              exact cif_t ⟨j, hj, c_71, c_90⟩
            exact ⟨rfl, rfl, kk2, t2, by
              rw [eR]
              exact ⟨rfl, m2⟩⟩
    · have no1 := bi_eq0.mp c_46
      refine ac_iconst 50 0 dX8_readsHole_49 rfl (by decide) ?_
      refine ac_iret dX8_readsHole_50 ⟨_, rfl, rfl⟩ ?_
      have eR : pHole tx n m (a, M 123) = .inl (skP tx n (nmE tx n a)) := by
        unfold pHole
        rw [pnm_t (s := (a, M 123)) ok0]
        try dsimp only [andP]
        rw [pnm_f (s := ((nmE tx n a), setw (M 123) (32 + 2 * m) (nI (nmV tx n a)))) no1]
        try dsimp only [andP]
      exact ⟨rfl, rfl, kk2, t2, by
        rw [eR]
        exact ⟨rfl, m2⟩⟩
set_option maxRecDepth 20000 in
theorem c8_rHoleN {M : am_I} {V : am_J} {f : Nat → Option Nat} {tx : Nat → Nat} {n a m0 : Nat} (hP0 : RP M tx n a) (hm0 : M 121 12 = nI m0) (h3 : M 123 31 = nI 16) : CT m8_readsHole 4 [Value.ref 121] M V f (fun v M' V' f' => V' = V ∧ f' = f ∧ KP M M' ∧ M' 121 13 = M 121 13 ∧ PO n v M' (.inl m0)) := by
  refine CT.of m8_readsHole_V.1 _ (en_a_3 121) ?_
  refine ac_bipush 2 32 dX8_readsHole_0 rfl (by decide) ?_
  refine ac_iconst 3 2 dX8_readsHole_2 rfl (by decide) ?_
  refine ac_aload_n 4 dX8_readsHole_3 rfl rfl ?_
  refine ac_getO 7 123 dX8_readsHole_4 rfl fl8_13 ob121 rfl ?_
  refine ac_bipush 9 31 dX8_readsHole_7 rfl (by decide) ?_
  refine ac_iald 10 dX8_readsHole_9 rfl ar123 (ix_nI (k := 31) (by decide) (by decide)) ?_
  rw [show (M 123 31) = (nI 16) from h3]
  refine ac_imul 11 dX8_readsHole_10 rfl ?_
  refine ac_iadd 12 dX8_readsHole_11 rfl ?_
  refine ac_istore_n 13 [some (Value.ref 121), some (Value.int (32 + (2 * (nI 16)))), none] dX8_readsHole_12 rfl rfl (Nat.le_of_ble_eq_true rfl) (by decide) rfl ?_
  refine ac_aload_n 14 dX8_readsHole_13 rfl rfl ?_
  refine ac_getO 17 123 dX8_readsHole_14 rfl fl8_13 ob121 rfl ?_
  refine ac_bipush 19 31 dX8_readsHole_17 rfl (by decide) ?_
  refine ac_iald 20 dX8_readsHole_19 rfl ar123 (ix_nI (k := 31) (by decide) (by decide)) ?_
  rw [show (M 123 31) = (nI 16) from h3]
  refine ac_bipush 22 16 dX8_readsHole_20 rfl (by decide) ?_
  refine ac_icmp_eq 49 25 dX8_readsHole_22 (by decide) rfl (fun _ => ?_) (fun c_22 => absurd (by decide) c_22)
  refine ac_iconst 50 0 dX8_readsHole_49 rfl (by decide) ?_
  refine ac_iret dX8_readsHole_50 ⟨_, rfl, rfl⟩ ?_
  exact ⟨rfl, rfl, KP.refl M, rfl, rfl, hm0⟩
