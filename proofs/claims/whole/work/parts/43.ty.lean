/-! An item, all items, tells. -/
theorem IQ.v {tx : Nat → Nat} {n m np nd nh : Nat} {v : Option Value} {M' : am_I} : ∀ {r : Sum Nat pS}, IQ tx n m np nd nh v M' r → v = some (.int (bi (okP r)))
  | .inl p, h => h.1.trans (by rw [bi_f (p := okP (.inl p)) (fun q => q)])
  | .inr s, h => h.1.trans (by rw [bi_t (p := okP (.inr s)) trivial])
theorem IQ.one {tx : Nat → Nat} {n m np nd nh : Nat} {v : Option Value} {M' : am_I} {r : Sum Nat pS} (h : IQ tx n m np nd nh v M' r) (hk : okP r) : IQ tx n m np nd nh (some (.int 1)) M' r := by
  have e := h.v
  rw [bi_t hk] at e
  rw [← e]; exact h
theorem IQ.zero {tx : Nat → Nat} {n m np nd nh : Nat} {v : Option Value} {M' : am_I} {r : Sum Nat pS} (h : IQ tx n m np nd nh v M' r) (hk : ¬ okP r) : IQ tx n m np nd nh (some (.int 0)) M' r := by
  have e := h.v
  rw [bi_f hk] at e
  rw [← e]; exact h
set_option maxRecDepth 20000 in
theorem c2_iW {M : am_I} {V : am_J} {f : Nat → Option Nat} {tx : Nat → Nat} {n m a np nd nh : Nat} {w : rN} (ha : a ≤ n) (hR : RD M tx n m (skP tx n a)) (hw : CW M 17 w np nd nh) (h9 : ∀ i, i < 5 → w (64 + i) = -9) (hk : M 2 2 = 4) (h5 : M 2 5 = 0) : CT m2_readItem 4 [Value.ref 2, Value.ref 17] M V f (fun v M' V' f' => V' = V ∧ f' = f ∧ M' 2 5 = 1 ∧ KRd M M' ∧ IQ tx n m np nd nh v M' (pWall tx n (a, w))) := by
  refine CT.of m2_readItem_V.1 _ (en_aa_2 2 17) ?_
  refine ac_aload_n 1 dX2_readItem_0 rfl rfl ?_
  refine ac_getI 4 dX2_readItem_1 rfl fl2_38 ob2 ?_
  rw [show (M 2 2) = 4 from hk]
  refine ac_tableIn 36 0 32 dX2_readItem_4 (by decide) (by decide) (by decide) (by decide) ?_
  refine ac_aload_n 37 dX2_readItem_36 rfl rfl ?_
  refine ac_getI 40 dX2_readItem_37 rfl fl2_26 ob2 ?_
  rw [show (M 2 5) = 0 from h5]
  refine ac_if_ne 55 43 dX2_readItem_40 (by decide) rfl (fun c_40 => absurd (by decide) c_40) (fun _ => ?_)
  refine ac_aload_n 44 dX2_readItem_43 rfl rfl ?_
  refine ac_aload_n 45 dX2_readItem_44 rfl rfl ?_
  refine ac_callVg (μ' := m2_readWall) 48 dX2_readItem_45 rfl lk2_68 m2_readWall_V ob2 (c2_rWall ha hR hw h9) rfl rfl (by decide) (Nat.le_of_ble_eq_true rfl) (fun v1 Ma V1 f1 h90 => ?_)
  obtain ⟨d1, d2, d3, d4, d5⟩ := h90
  obtain rfl := d1.symm
  obtain rfl := d2.symm
  have hv := d5.v
  subst hv
  refine ac_if_eq 55 51 dX2_readItem_48 (by decide) rfl (fun c_48 => ?_) (fun c_48 => ?_)
  · have q9 := bi_eq0.mp c_48
    refine ac_iconst 56 0 dX2_readItem_55 rfl (by decide) ?_
    refine ac_iret dX2_readItem_56 ⟨_, rfl, rfl⟩ ?_
    exact ⟨rfl, rfl, d3, d4, d5.zero q9⟩
  · have q9 := bi_ne0.mp c_48
    refine ac_iconst 52 1 dX2_readItem_51 rfl (by decide) ?_
    refine ac_goto 56 dX2_readItem_52 (by decide) ?_
    refine ac_iret dX2_readItem_56 ⟨_, rfl, rfl⟩ ?_
    exact ⟨rfl, rfl, d3, d4, d5.one q9⟩
set_option maxRecDepth 20000 in
theorem c2_xW {M : am_I} {V : am_J} {f : Nat → Option Nat} (hk : M 2 2 = 4) (h5 : M 2 5 = 1) : CT m2_readItem 4 [Value.ref 2, Value.ref 17] M V f (RV 0 M V f) := by
  refine CT.of m2_readItem_V.1 _ (en_aa_2 2 17) ?_
  refine ac_aload_n 1 dX2_readItem_0 rfl rfl ?_
  refine ac_getI 4 dX2_readItem_1 rfl fl2_38 ob2 ?_
  rw [show (M 2 2) = 4 from hk]
  refine ac_tableIn 36 0 32 dX2_readItem_4 (by decide) (by decide) (by decide) (by decide) ?_
  refine ac_aload_n 37 dX2_readItem_36 rfl rfl ?_
  refine ac_getI 40 dX2_readItem_37 rfl fl2_26 ob2 ?_
  rw [show (M 2 5) = 1 from h5]
  refine ac_if_ne 55 43 dX2_readItem_40 (by decide) rfl (fun _ => ?_) (fun c_40 => absurd c_40 (by decide))
  refine ac_iconst 56 0 dX2_readItem_55 rfl (by decide) ?_
  refine ac_iret dX2_readItem_56 ⟨_, rfl, rfl⟩ ?_
  exact rv_mk rfl
set_option maxRecDepth 20000 in
theorem c2_iP {M : am_I} {V : am_J} {f : Nat → Option Nat} {tx : Nat → Nat} {n m a np nd nh : Nat} {w : rN} (ha : a ≤ n) (hR : RD M tx n m (skP tx n a)) (hw : CW M 17 w np nd nh) (h9 : ∀ i, i < 5 → w (64 + i) = -9) (hk : M 2 2 = 5) (hm5 : np < 5) : CT m2_readItem 4 [Value.ref 2, Value.ref 17] M V f (fun v M' V' f' => V' = V ∧ f' = f ∧ M' 2 5 = M 2 5 ∧ KRd M M' ∧ IQ tx n m (np + 1) nd nh v M' (pPic tx n np (a, w))) := by
  refine CT.of m2_readItem_V.1 _ (en_aa_2 2 17) ?_
  refine ac_aload_n 1 dX2_readItem_0 rfl rfl ?_
  refine ac_getI 4 dX2_readItem_1 rfl fl2_38 ob2 ?_
  rw [show (M 2 2) = 5 from hk]
  refine ac_tableIn 57 1 53 dX2_readItem_4 (by decide) (by decide) (by decide) (by decide) ?_
  refine ac_aload_n 58 dX2_readItem_57 rfl rfl ?_
  refine ac_getI 61 dX2_readItem_58 rfl fl2_71 ob17 ?_
  rw [show (M 17 3) = (nI np) from hw.s3]
  refine ac_iconst 62 5 dX2_readItem_61 rfl (by decide) ?_
  refine ac_icmp_ge 77 65 dX2_readItem_62 (by decide) rfl (fun c_62 => absurd c_62 (nI_ge (b := 5) hm5 (by decide))) (fun _ => ?_)
  refine ac_aload_n 66 dX2_readItem_65 rfl rfl ?_
  refine ac_aload_n 67 dX2_readItem_66 rfl rfl ?_
  refine ac_callVg (μ' := m2_readPicture) 70 dX2_readItem_67 rfl lk2_74 m2_readPicture_V ob2 (c2_rPic ha hR hw h9 hm5) rfl rfl (by decide) (Nat.le_of_ble_eq_true rfl) (fun v1 Ma V1 f1 h90 => ?_)
  obtain ⟨d1, d2, d3, d4, d5⟩ := h90
  obtain rfl := d1.symm
  obtain rfl := d2.symm
  have hv := d5.v
  subst hv
  refine ac_if_eq 77 73 dX2_readItem_70 (by decide) rfl (fun c_70 => ?_) (fun c_70 => ?_)
  · have q9 := bi_eq0.mp c_70
    refine ac_iconst 78 0 dX2_readItem_77 rfl (by decide) ?_
    refine ac_iret dX2_readItem_78 ⟨_, rfl, rfl⟩ ?_
    exact ⟨rfl, rfl, d3, d4, d5.zero q9⟩
  · have q9 := bi_ne0.mp c_70
    refine ac_iconst 74 1 dX2_readItem_73 rfl (by decide) ?_
    refine ac_goto 78 dX2_readItem_74 (by decide) ?_
    refine ac_iret dX2_readItem_78 ⟨_, rfl, rfl⟩ ?_
    exact ⟨rfl, rfl, d3, d4, d5.one q9⟩
set_option maxRecDepth 20000 in
theorem c2_xP {M : am_I} {V : am_J} {f : Nat → Option Nat} (hk : M 2 2 = 5) (h5 : M 17 3 = 5) : CT m2_readItem 4 [Value.ref 2, Value.ref 17] M V f (RV 0 M V f) := by
  refine CT.of m2_readItem_V.1 _ (en_aa_2 2 17) ?_
  refine ac_aload_n 1 dX2_readItem_0 rfl rfl ?_
  refine ac_getI 4 dX2_readItem_1 rfl fl2_38 ob2 ?_
  rw [show (M 2 2) = 5 from hk]
  refine ac_tableIn 57 1 53 dX2_readItem_4 (by decide) (by decide) (by decide) (by decide) ?_
  refine ac_aload_n 58 dX2_readItem_57 rfl rfl ?_
  refine ac_getI 61 dX2_readItem_58 rfl fl2_71 ob17 ?_
  rw [show (M 17 3) = 5 from h5]
  refine ac_iconst 62 5 dX2_readItem_61 rfl (by decide) ?_
  refine ac_icmp_ge 77 65 dX2_readItem_62 (by decide) rfl (fun _ => ?_) (fun c_62 => absurd (by decide) c_62)
  refine ac_iconst 78 0 dX2_readItem_77 rfl (by decide) ?_
  refine ac_iret dX2_readItem_78 ⟨_, rfl, rfl⟩ ?_
  exact rv_mk rfl
set_option maxRecDepth 20000 in
theorem c2_iD {M : am_I} {V : am_J} {f : Nat → Option Nat} {tx : Nat → Nat} {n m a np nd nh : Nat} {w : rN} (ha : a ≤ n) (hR : RD M tx n m (skP tx n a)) (hw : CW M 17 w np nd nh) (h9 : ∀ i, i < 5 → w (64 + i) = -9) (hk : M 2 2 = 6) (hm5 : nd < 3) : CT m2_readItem 4 [Value.ref 2, Value.ref 17] M V f (fun v M' V' f' => V' = V ∧ f' = f ∧ M' 2 5 = M 2 5 ∧ KRd M M' ∧ IQ tx n m np (nd + 1) nh v M' (pDoor tx n nd (a, w))) := by
  refine CT.of m2_readItem_V.1 _ (en_aa_2 2 17) ?_
  refine ac_aload_n 1 dX2_readItem_0 rfl rfl ?_
  refine ac_getI 4 dX2_readItem_1 rfl fl2_38 ob2 ?_
  rw [show (M 2 2) = 6 from hk]
  refine ac_tableIn 79 2 75 dX2_readItem_4 (by decide) (by decide) (by decide) (by decide) ?_
  refine ac_aload_n 80 dX2_readItem_79 rfl rfl ?_
  refine ac_getI 83 dX2_readItem_80 rfl fl2_77 ob17 ?_
  rw [show (M 17 4) = (nI nd) from hw.s4]
  refine ac_iconst 84 3 dX2_readItem_83 rfl (by decide) ?_
  refine ac_icmp_ge 99 87 dX2_readItem_84 (by decide) rfl (fun c_84 => absurd c_84 (nI_ge (b := 3) hm5 (by decide))) (fun _ => ?_)
  refine ac_aload_n 88 dX2_readItem_87 rfl rfl ?_
  refine ac_aload_n 89 dX2_readItem_88 rfl rfl ?_
  refine ac_callVg (μ' := m2_readDoor) 92 dX2_readItem_89 rfl lk2_80 m2_readDoor_V ob2 (c2_rDoor ha hR hw h9 hm5) rfl rfl (by decide) (Nat.le_of_ble_eq_true rfl) (fun v1 Ma V1 f1 h90 => ?_)
  obtain ⟨d1, d2, d3, d4, d5⟩ := h90
  obtain rfl := d1.symm
  obtain rfl := d2.symm
  have hv := d5.v
  subst hv
  refine ac_if_eq 99 95 dX2_readItem_92 (by decide) rfl (fun c_92 => ?_) (fun c_92 => ?_)
  · have q9 := bi_eq0.mp c_92
    refine ac_iconst 100 0 dX2_readItem_99 rfl (by decide) ?_
    refine ac_iret dX2_readItem_100 ⟨_, rfl, rfl⟩ ?_
    exact ⟨rfl, rfl, d3, d4, d5.zero q9⟩
  · have q9 := bi_ne0.mp c_92
    refine ac_iconst 96 1 dX2_readItem_95 rfl (by decide) ?_
    refine ac_goto 100 dX2_readItem_96 (by decide) ?_
    refine ac_iret dX2_readItem_100 ⟨_, rfl, rfl⟩ ?_
    exact ⟨rfl, rfl, d3, d4, d5.one q9⟩
set_option maxRecDepth 20000 in
theorem c2_xD {M : am_I} {V : am_J} {f : Nat → Option Nat} (hk : M 2 2 = 6) (h5 : M 17 4 = 3) : CT m2_readItem 4 [Value.ref 2, Value.ref 17] M V f (RV 0 M V f) := by
  refine CT.of m2_readItem_V.1 _ (en_aa_2 2 17) ?_
  refine ac_aload_n 1 dX2_readItem_0 rfl rfl ?_
  refine ac_getI 4 dX2_readItem_1 rfl fl2_38 ob2 ?_
  rw [show (M 2 2) = 6 from hk]
  refine ac_tableIn 79 2 75 dX2_readItem_4 (by decide) (by decide) (by decide) (by decide) ?_
  refine ac_aload_n 80 dX2_readItem_79 rfl rfl ?_
  refine ac_getI 83 dX2_readItem_80 rfl fl2_77 ob17 ?_
  rw [show (M 17 4) = 3 from h5]
  refine ac_iconst 84 3 dX2_readItem_83 rfl (by decide) ?_
  refine ac_icmp_ge 99 87 dX2_readItem_84 (by decide) rfl (fun _ => ?_) (fun c_84 => absurd (by decide) c_84)
  refine ac_iconst 100 0 dX2_readItem_99 rfl (by decide) ?_
  refine ac_iret dX2_readItem_100 ⟨_, rfl, rfl⟩ ?_
  exact rv_mk rfl
set_option maxRecDepth 20000 in
theorem c2_iH {M : am_I} {V : am_J} {f : Nat → Option Nat} {tx : Nat → Nat} {n m a np nd nh : Nat} {w : rN} (ha : a ≤ n) (hR : RD M tx n m (skP tx n a)) (hw : CW M 17 w np nd nh) (h9 : ∀ i, i < 5 → w (64 + i) = -9) (hk : M 2 2 = 7) (hm5 : nh < 16) : CT m2_readItem 4 [Value.ref 2, Value.ref 17] M V f (fun v M' V' f' => V' = V ∧ f' = f ∧ M' 2 5 = M 2 5 ∧ KRd M M' ∧ IQ tx n m np nd (nh + 1) v M' (pHole tx n nh (a, w))) := by
  refine CT.of m2_readItem_V.1 _ (en_aa_2 2 17) ?_
  refine ac_aload_n 1 dX2_readItem_0 rfl rfl ?_
  refine ac_getI 4 dX2_readItem_1 rfl fl2_38 ob2 ?_
  rw [show (M 2 2) = 7 from hk]
  refine ac_tableIn 101 3 97 dX2_readItem_4 (by decide) (by decide) (by decide) (by decide) ?_
  refine ac_aload_n 102 dX2_readItem_101 rfl rfl ?_
  refine ac_getI 105 dX2_readItem_102 rfl fl2_83 ob17 ?_
  rw [show (M 17 5) = (nI nh) from hw.s5]
  refine ac_bipush 107 16 dX2_readItem_105 rfl (by decide) ?_
  refine ac_icmp_ge 122 110 dX2_readItem_107 (by decide) rfl (fun c_107 => absurd c_107 (nI_ge (b := 16) hm5 (by decide))) (fun _ => ?_)
  refine ac_aload_n 111 dX2_readItem_110 rfl rfl ?_
  refine ac_aload_n 112 dX2_readItem_111 rfl rfl ?_
  refine ac_callVg (μ' := m2_readHole) 115 dX2_readItem_112 rfl lk2_86 m2_readHole_V ob2 (c2_rHole ha hR hw h9 hm5) rfl rfl (by decide) (Nat.le_of_ble_eq_true rfl) (fun v1 Ma V1 f1 h90 => ?_)
  obtain ⟨d1, d2, d3, d4, d5⟩ := h90
  obtain rfl := d1.symm
  obtain rfl := d2.symm
  have hv := d5.v
  subst hv
  refine ac_if_eq 122 118 dX2_readItem_115 (by decide) rfl (fun c_115 => ?_) (fun c_115 => ?_)
  · have q9 := bi_eq0.mp c_115
    refine ac_iconst 123 0 dX2_readItem_122 rfl (by decide) ?_
    refine ac_iret dX2_readItem_123 ⟨_, rfl, rfl⟩ ?_
    exact ⟨rfl, rfl, d3, d4, d5.zero q9⟩
  · have q9 := bi_ne0.mp c_115
    refine ac_iconst 119 1 dX2_readItem_118 rfl (by decide) ?_
    refine ac_goto 123 dX2_readItem_119 (by decide) ?_
    refine ac_iret dX2_readItem_123 ⟨_, rfl, rfl⟩ ?_
    exact ⟨rfl, rfl, d3, d4, d5.one q9⟩
set_option maxRecDepth 20000 in
theorem c2_xH {M : am_I} {V : am_J} {f : Nat → Option Nat} (hk : M 2 2 = 7) (h5 : M 17 5 = 16) : CT m2_readItem 4 [Value.ref 2, Value.ref 17] M V f (RV 0 M V f) := by
  refine CT.of m2_readItem_V.1 _ (en_aa_2 2 17) ?_
  refine ac_aload_n 1 dX2_readItem_0 rfl rfl ?_
  refine ac_getI 4 dX2_readItem_1 rfl fl2_38 ob2 ?_
  rw [show (M 2 2) = 7 from hk]
  refine ac_tableIn 101 3 97 dX2_readItem_4 (by decide) (by decide) (by decide) (by decide) ?_
  refine ac_aload_n 102 dX2_readItem_101 rfl rfl ?_
  refine ac_getI 105 dX2_readItem_102 rfl fl2_83 ob17 ?_
  rw [show (M 17 5) = 16 from h5]
  refine ac_bipush 107 16 dX2_readItem_105 rfl (by decide) ?_
  refine ac_icmp_ge 122 110 dX2_readItem_107 (by decide) rfl (fun _ => ?_) (fun c_107 => absurd (by decide) c_107)
  refine ac_iconst 123 0 dX2_readItem_122 rfl (by decide) ?_
  refine ac_iret dX2_readItem_123 ⟨_, rfl, rfl⟩ ?_
  exact rv_mk rfl
set_option maxRecDepth 20000 in
theorem c2_xN {M : am_I} {V : am_J} {f : Nat → Option Nat} {q : Nat} (hk : M 2 2 = nI q) (hq : q < 4) : CT m2_readItem 4 [Value.ref 2, Value.ref 17] M V f (RV 0 M V f) := by
  refine CT.of m2_readItem_V.1 _ (en_aa_2 2 17) ?_
  refine ac_aload_n 1 dX2_readItem_0 rfl rfl ?_
  refine ac_getI 4 dX2_readItem_1 rfl fl2_38 ob2 ?_
  rw [show (M 2 2) = (nI q) from hk]
  refine ac_tableOut 124 dX2_readItem_4 (Or.inl (by rw [nI_toInt (by omega)]; omega)) (by decide) ?_
  refine ac_iconst 125 0 dX2_readItem_124 rfl (by decide) ?_
  refine ac_iret dX2_readItem_125 ⟨_, rfl, rfl⟩ ?_
  exact rv_mk rfl
theorem kd_W {tx : Nat → Nat} {n p : Nat} (h : isW tx p) : kdP tx n p = kdW tx p (wlP tx n p) ∧ teP tx n p = wlP tx n p := ⟨(cif_f (fun q => isWF q h)).trans (cif_t h), (cif_f (fun q => isWF q h)).trans (cif_t h)⟩
theorem wW_W {tx : Nat → Nat} {p e : Nat} (h : wW tx p e) : isW tx p := by unfold wW at h; unfold isW; omega
theorem wP_W {tx : Nat → Nat} {p e : Nat} (h : wP tx p e) : isW tx p := by unfold wP at h; unfold isW; omega
theorem wD_W {tx : Nat → Nat} {p e : Nat} (h : wD tx p e) : isW tx p := by unfold wD at h; unfold isW; omega
theorem wH_W {tx : Nat → Nat} {p e : Nat} (h : wH tx p e) : isW tx p := by unfold wH at h; unfold isW; omega
theorem kd_N {tx : Nat → Nat} {n p : Nat} (h1 : ¬ wW tx p (wlP tx n p)) (h2 : ¬ wP tx p (wlP tx n p)) (h3 : ¬ wD tx p (wlP tx n p)) (h4 : ¬ wH tx p (wlP tx n p)) : kdP tx n p < 4 := by
  unfold kdP kdW kdF
  by_cases h : isF tx p
  · rw [cif_t h]
    by_cases a1 : fgP tx n p ≠ p + 1 ∧ tx p = 48 ∨ 99 < vlP tx p (fgP tx n p - p)
    · rw [cif_t a1]; decide
    · rw [cif_f a1]; decide
  rw [cif_f h]
  by_cases a0 : isW tx p
  · rw [cif_t a0, cif_f h1, cif_f h2, cif_f h3, cif_f h4]; decide
  · rw [cif_f a0]
    by_cases a1 : tx p = 59
    · rw [cif_t a1]; decide
    · rw [cif_f a1]; decide
theorem kd_1 {tx : Nat → Nat} {n p : Nat} : 0 < kdP tx n p := by
  unfold kdP kdW kdF
  by_cases h : isF tx p
  · rw [cif_t h]
    by_cases a1 : fgP tx n p ≠ p + 1 ∧ tx p = 48 ∨ 99 < vlP tx p (fgP tx n p - p)
    · rw [cif_t a1]; decide
    · rw [cif_f a1]; decide
  rw [cif_f h]
  by_cases a0 : isW tx p
  · rw [cif_t a0]
    by_cases a1 : wW tx p (wlP tx n p)
    · rw [cif_t a1]; decide
    · rw [cif_f a1]
      by_cases a2 : wP tx p (wlP tx n p)
      · rw [cif_t a2]; decide
      · rw [cif_f a2]
        by_cases a3 : wD tx p (wlP tx n p)
        · rw [cif_t a3]; decide
        · rw [cif_f a3]
          by_cases a4 : wH tx p (wlP tx n p)
          · rw [cif_t a4]; decide
          · rw [cif_f a4]; decide
  · rw [cif_f a0]
    by_cases a1 : tx p = 59
    · rw [cif_t a1]; decide
    · rw [cif_f a1]; decide
theorem KRd.refl (M : am_I) : KRd M M := fun _ _ _ => rfl
theorem KRd.trans {M M1 M2 : am_I} (h : KRd M M1) (h2 : KRd M1 M2) : KRd M M2 := fun i a b => (h2 i a b).trans (h i a b)

theorem c2_item {M : am_I} {V : am_J} {f : Nat → Option Nat} {tx : Nat → Nat} {n m a np nd nh : Nat} {told : Prop} {w : rN} (ha : a ≤ n) (hp : (skP tx n a) < n) (hk : M 2 2 = nI (kdP tx n (skP tx n a))) (h3 : M 2 3 = nI (skP tx n a)) (h5 : M 2 5 = bi told) (hR : RD M tx n m (skP tx n (teP tx n (skP tx n a)))) (hw : CW M 17 w np nd nh) (h9 : ∀ i, i < 5 → w (64 + i) = -9) : CT m2_readItem 4 [.ref 2, .ref 17] M V f (fun v M' V' f' => V' = V ∧ f' = f ∧ KRd M M' ∧ (okP (pItem tx n told np nd nh a w) → M' 2 5 = bi (told ∨ wW tx (skP tx n a) (wlP tx n (skP tx n a)))) ∧ IQ tx n m (cnI (wP tx (skP tx n a) (wlP tx n (skP tx n a))) np) (cnI (wD tx (skP tx n a) (wlP tx n (skP tx n a))) nd) (cnI (wH tx (skP tx n a) (wlP tx n (skP tx n a))) nh) v M' (pItem tx n told np nd nh a w)) := by
  have fin : ∀ (R : Sum Nat pS), R = .inl (skP tx n a) → CT m2_readItem 4 [.ref 2, .ref 17] M V f (RV 0 M V f) → CT m2_readItem 4 [.ref 2, .ref 17] M V f (fun v M' V' f' => V' = V ∧ f' = f ∧ KRd M M' ∧ (okP R → M' 2 5 = bi (told ∨ wW tx (skP tx n a) (wlP tx n (skP tx n a)))) ∧ IQ tx n m (cnI (wP tx (skP tx n a) (wlP tx n (skP tx n a))) np) (cnI (wD tx (skP tx n a) (wlP tx n (skP tx n a))) nd) (cnI (wH tx (skP tx n a) (wlP tx n (skP tx n a))) nh) v M' R) := fun R hr hc => hc.weaken (fun v M' V' f' hh => by
    obtain ⟨q1, q2, q3, q4⟩ := hh
    subst q1; subst q2; subst hr
    exact ⟨q3, q4, KRd.refl _, fun q => q.elim, rfl, h3, Nat.le_of_lt hp⟩)
  have he := (rnE_spec (isW tx) n (skP tx n a) (Nat.le_of_lt hp)).2.1
  have he : (wlP tx n (skP tx n a)) ≤ n := he
  by_cases hW : wW tx (skP tx n a) (wlP tx n (skP tx n a))
  · obtain ⟨x1, x2, x3⟩ := w_WP hW
    obtain ⟨k1, k2⟩ := kd_W (n := n) (wW_W hW)
    have k3 : M 2 2 = 4 := by rw [hk, k1, show kdW tx (skP tx n a) (wlP tx n (skP tx n a)) = 4 from cif_t hW]; rfl
    rw [k2] at hR
    have e0 : pItem tx n told np nd nh a w = cif told (.inl (skP tx n a)) (pWall tx n ((wlP tx n (skP tx n a)), w)) := cif_t hW
    by_cases ht : told
    · rw [bi_t ht] at h5
      exact fin _ (e0.trans (cif_t ht)) (c2_xW k3 h5)
    · rw [bi_f ht] at h5
      rw [e0, cif_f ht, cn_f x1, cn_f x2, cn_f x3]
      refine (c2_iW he hR hw h9 k3 h5).weaken (fun v M' V' f' hh => ?_)
      obtain ⟨q1, q2, q3, q4, q5⟩ := hh
      exact ⟨q1, q2, q4, fun _ => q3.trans (bi_t (Or.inr hW)).symm, q5⟩
  have tel : ∀ x : Int32, x = bi told → x = bi (told ∨ wW tx (skP tx n a) (wlP tx n (skP tx n a))) := fun x hx => hx.trans (by
    by_cases ht : told
    · rw [bi_t ht, bi_t (Or.inl ht)]
    · rw [bi_f ht, bi_f (fun q => q.elim ht hW)])
  by_cases hP : wP tx (skP tx n a) (wlP tx n (skP tx n a))
  · obtain ⟨x2, x3⟩ := w_PD hP
    obtain ⟨k1, k2⟩ := kd_W (n := n) (wP_W hP)
    have k3 : M 2 2 = 5 := by rw [hk, k1, show kdW tx (skP tx n a) (wlP tx n (skP tx n a)) = 5 from (cif_f hW).trans (cif_t hP)]; rfl
    rw [k2] at hR
    have e0 : pItem tx n told np nd nh a w = cif (np = 5) (.inl (skP tx n a)) (pPic tx n np ((wlP tx n (skP tx n a)), w)) := (cif_f hW).trans (cif_t hP)
    by_cases ht : np = 5
    · exact fin _ (e0.trans (cif_t ht)) (c2_xP k3 (by rw [hw.s3, ht]; rfl))
    · rw [e0, cif_f ht, cn_t hP, cn_f x2, cn_f x3]
      have hm5 : np < 5 := by have := hw.n5; omega
      refine (c2_iP he hR hw h9 k3 hm5).weaken (fun v M' V' f' hh => ?_)
      obtain ⟨q1, q2, q3, q4, q5⟩ := hh
      exact ⟨q1, q2, q4, fun _ => tel _ (q3.trans h5), q5⟩
  by_cases hD : wD tx (skP tx n a) (wlP tx n (skP tx n a))
  · have x3 := w_DH hD
    obtain ⟨k1, k2⟩ := kd_W (n := n) (wD_W hD)
    have k3 : M 2 2 = 6 := by rw [hk, k1, show kdW tx (skP tx n a) (wlP tx n (skP tx n a)) = 6 from (cif_f hW).trans ((cif_f hP).trans (cif_t hD))]; rfl
    rw [k2] at hR
    have e0 : pItem tx n told np nd nh a w = cif (nd = 3) (.inl (skP tx n a)) (pDoor tx n nd ((wlP tx n (skP tx n a)), w)) := (cif_f hW).trans ((cif_f hP).trans (cif_t hD))
    by_cases ht : nd = 3
    · exact fin _ (e0.trans (cif_t ht)) (c2_xD k3 (by rw [hw.s4, ht]; rfl))
    · rw [e0, cif_f ht, cn_f hP, cn_t hD, cn_f x3]
      have hm5 : nd < 3 := by have := hw.n3; omega
      refine (c2_iD he hR hw h9 k3 hm5).weaken (fun v M' V' f' hh => ?_)
      obtain ⟨q1, q2, q3, q4, q5⟩ := hh
      exact ⟨q1, q2, q4, fun _ => tel _ (q3.trans h5), q5⟩
  by_cases hH : wH tx (skP tx n a) (wlP tx n (skP tx n a))
  · obtain ⟨k1, k2⟩ := kd_W (n := n) (wH_W hH)
    have k3 : M 2 2 = 7 := by rw [hk, k1, show kdW tx (skP tx n a) (wlP tx n (skP tx n a)) = 7 from (cif_f hW).trans ((cif_f hP).trans ((cif_f hD).trans (cif_t hH)))]; rfl
    rw [k2] at hR
    have e0 : pItem tx n told np nd nh a w = cif (nh = 16) (.inl (skP tx n a)) (pHole tx n nh ((wlP tx n (skP tx n a)), w)) := (cif_f hW).trans ((cif_f hP).trans ((cif_f hD).trans (cif_t hH)))
    by_cases ht : nh = 16
    · exact fin _ (e0.trans (cif_t ht)) (c2_xH k3 (by rw [hw.s5, ht]; rfl))
    · rw [e0, cif_f ht, cn_f hP, cn_f hD, cn_t hH]
      have hm5 : nh < 16 := by have := hw.n16; omega
      refine (c2_iH he hR hw h9 k3 hm5).weaken (fun v M' V' f' hh => ?_)
      obtain ⟨q1, q2, q3, q4, q5⟩ := hh
      exact ⟨q1, q2, q4, fun _ => tel _ (q3.trans h5), q5⟩
  · have e0 : pItem tx n told np nd nh a w = .inl (skP tx n a) := (cif_f hW).trans ((cif_f hP).trans ((cif_f hD).trans (cif_f hH)))
    exact fin _ e0 (c2_xN hk (kd_N hW hP hD hH))
def IR (M0 : am_I) (V : am_J) (f : Nat → Option Nat) (n : Nat) (res : Sum Nat pS) : a0_Po := fun v M' V' f' => V' = V ∧ f' = f ∧ (∀ i, ¬ (2 ≤ i ∧ i ≤ 6) → ¬ (17 ≤ i ∧ i ≤ 26) → M' i = M0 i) ∧ match res with
  | .inl p => v = some (.int (-10 - nI p)) ∧ p ≤ n
  | .inr s => v = some (.int (nI s.1)) ∧ s.1 ≤ n ∧ (∀ i, i < 5 → s.2 (64 + i) = -9) ∧ ∃ np nd nh, CW M' 17 s.2 np nd nh
set_option maxRecDepth 20000 in
theorem c2_intoL {V : am_J} {f : Nat → Option Nat} {tx : Nat → Nat} {n m : Nat} {M0 : am_I} : ∀ (k : Nat) (M : am_I) (told : Prop) (np nd nh i a : Nat) (w : rN), RD M tx n m a → skP tx n a = a → CW M 17 w np nd nh → (∀ i, i < 5 → w (64 + i) = -9) → M 2 5 = bi told → (∀ i, ¬ (2 ≤ i ∧ i ≤ 6) → ¬ (17 ≤ i ∧ i ≤ 26) → M i = M0 i) → n - a < k → (i ≤ a ∧ n ≤ 120) → A0 m2_readInto 9 26 [some (Value.ref 2), some (Value.ref 17), some (Value.ref 1), some (Value.int (nI n)), some (Value.int (nI i))] [] M V f (IR M0 V f n (pAll tx n k told np nd nh i a w))
  | 0, M, told, np, nd, nh, i, a, w, hR, hsk, hw, h9, h5, hk, hf, hi => absurd hf (Nat.not_lt_zero _)
  | k + 1, M, told, np, nd, nh, i, a, w, hR, hsk, hw, h9, h5, hk, hf, hi => by
    have hn := hi.2
    have hia := hi.1
    have ha := hR.le
    have eA : pAll tx n (k + 1) told np nd nh i a w = cif (a < n) (match pItem tx n told np nd nh a w with
      | .inl p => .inl p
      | .inr s1 => cif (skP tx n s1.1 < n ∧ tx (skP tx n s1.1) = 59) (pAll tx n k (told ∨ wW tx (skP tx n a) (wlP tx n (skP tx n a))) (cnI (wP tx (skP tx n a) (wlP tx n (skP tx n a))) np) (cnI (wD tx (skP tx n a) (wlP tx n (skP tx n a))) nd) (cnI (wH tx (skP tx n a) (wlP tx n (skP tx n a))) nh) (i + 1) (skP tx n (skP tx n s1.1 + 1)) s1.2) (.inl (skP tx n s1.1))) (.inr (i, w)) := rfl
    refine ac_iload 28 dX2_readInto_26 rfl rfl ?_
    refine ac_bipush 30 120 dX2_readInto_28 rfl (by decide) ?_
    refine ac_icmp_gt 71 33 dX2_readInto_30 (by decide) rfl (fun c_30 => absurd c_30 (nI_nlt (a := 120) (by omega) (by decide))) (fun _ => ?_)
    refine ac_aload_n 34 dX2_readInto_33 rfl rfl ?_
    refine ac_callVg (μ' := m2_readToken) 37 dX2_readInto_34 rfl lk2_35 m2_readToken_V ob2 (c2_tok hR) rfl rfl (by decide) (Nat.le_of_ble_eq_true rfl) (fun v0 Ma V0 f0 h90 => ?_)
    obtain ⟨t1, t2, t3, t4, t5, t6, t7, t8⟩ := h90
    subst t1
    obtain rfl := t2.symm
    obtain rfl := t3.symm
    refine ac_aload_n 38 dX2_readInto_37 rfl rfl ?_
    refine ac_getI 41 dX2_readInto_38 rfl fl2_38 ob2 ?_
    refine ac_if_ne 47 44 dX2_readInto_41 (by decide) rfl (fun c_41 => ?_) (fun c_41 => ?_)
    · have hlt : a < n := Classical.byContradiction (fun q => c_41 (t8 q).1)
      obtain ⟨k2, k4, kR⟩ := t7 hlt
      refine ac_aload_n 48 dX2_readInto_47 rfl rfl ?_
      refine ac_aload_n 49 dX2_readInto_48 rfl rfl ?_
      refine ac_callVg (μ' := m2_readItem) 52 dX2_readInto_49 rfl lk2_41 m2_readItem_V ob2 (c2_item (M := Ma) (told := told) (w := w) ha (by rw [hsk]; exact hlt) (by rw [hsk]; exact k2) (by rw [hsk]; exact t6) (t5.trans h5) (by rw [hsk]; exact kR) (hw.keepR (fun i z1 z2 => t4 i (by omega))) h9) rfl rfl (by decide) (Nat.le_of_ble_eq_true rfl) (fun v1 Mb V1 f1 h91 => ?_)
      obtain ⟨d1, d2, d3, d4, d5⟩ := h91
      obtain rfl := d1.symm
      obtain rfl := d2.symm
      have hv := d5.v
      subst hv
      refine ac_if_eq 71 55 dX2_readInto_52 (by decide) rfl (fun c_52 => ?_) (fun c_52 => ?_)
      · obtain ⟨p, ep⟩ := okP_n (bi_eq0.mp c_52)
        rw [ep] at d5
        have eP : pAll tx n (k + 1) told np nd nh i a w = .inl p := by
          rw [eA, cif_t hlt, ep]
        refine ac_bipush 73 (-10) dX2_readInto_71 rfl (by decide) ?_
        refine ac_aload_n 74 dX2_readInto_73 rfl rfl ?_
        refine ac_getI 77 dX2_readInto_74 rfl fl2_49 ob2 ?_
        rw [show (Mb 2 3) = (nI p) from d5.2.1]
        refine ac_isub 78 dX2_readInto_77 rfl ?_
        refine ac_iret dX2_readInto_78 ⟨_, rfl, rfl⟩ ?_
        refine ⟨rfl, rfl, fun i z1 z2 => (d3 i (fun q => z1 (by omega)) z2).trans ((t4 i (fun q => z1 (by omega))).trans (hk i z1 z2)), ?_⟩
        rw [eP]
        exact ⟨rfl, d5.2.2⟩
      · obtain ⟨s1, ep⟩ := okP_y (bi_ne0.mp c_52)
        have iok := item_ok ep ha hw.1
        rw [ep] at d5
        obtain ⟨-, it2, it3, it4, it5⟩ := d5
        have eP : pAll tx n (k + 1) told np nd nh i a w = cif (skP tx n s1.1 < n ∧ tx (skP tx n s1.1) = 59) (pAll tx n k (told ∨ wW tx (skP tx n a) (wlP tx n (skP tx n a))) (cnI (wP tx (skP tx n a) (wlP tx n (skP tx n a))) np) (cnI (wD tx (skP tx n a) (wlP tx n (skP tx n a))) nd) (cnI (wH tx (skP tx n a) (wlP tx n (skP tx n a))) nh) (i + 1) (skP tx n (skP tx n s1.1 + 1)) s1.2) (.inl (skP tx n s1.1)) := by
          rw [eA, cif_t hlt, ep]
        refine ac_aload_n 56 dX2_readInto_55 rfl rfl ?_
        refine ac_callVg (μ' := m2_readSemicolon) 59 dX2_readInto_56 rfl lk2_45 m2_readSemicolon_V ob2 (c2_sem it2) rfl rfl (by decide) (Nat.le_of_ble_eq_true rfl) (fun v2 Mc V2 f2 h92 => ?_)
        obtain ⟨b1, b2, b3, b4, b5, b6, b7⟩ := h92
        subst b1
        obtain rfl := b2.symm
        obtain rfl := b3.symm
        refine ac_if_ne 65 62 dX2_readInto_59 (by decide) rfl (fun c_59 => ?_) (fun c_59 => ?_)
        · have ok59 : (skP tx n s1.1 < n ∧ tx (skP tx n s1.1) = 59) := bi_ne0.mp c_59
          refine ac_iinc 68 (nI (i + 1)) [some (Value.ref 2), some (Value.ref 17), some (Value.ref 1), some (Value.int (nI n)), some (Value.int (nI (i + 1)))] dX2_readInto_65 rfl rfl (nI_1 _) rfl (by decide) rfl ?_
          refine ac_goto 26 dX2_readInto_68 (by decide) ?_
          rw [eP, cif_t ok59]
          have e1 := iok.1
          have e2 := (skP_le (tx := tx) (n := n) (a := s1.1) it3).1
          have e3 := skP_le (tx := tx) (n := n) (a := skP tx n s1.1 + 1) ok59.1
          exact c2_intoL k Mc _ _ _ _ _ _ _ (b7 ok59) (skP_sk ok59.1) (it4.keepR (fun i z1 z2 => b4 i (by omega))) it5 (b5.trans (d4 (by rw [ep]; trivial))) (fun i z1 z2 => (b4 i (fun q => z1 (by omega))).trans ((d3 i (fun q => z1 (by omega)) z2).trans ((t4 i (fun q => z1 (by omega))).trans (hk i z1 z2)))) (by omega) (by omega)
        · have no59 := bi_eq0.mp c_59
          refine ac_goto 71 dX2_readInto_62 (by decide) ?_
          refine ac_bipush 73 (-10) dX2_readInto_71 rfl (by decide) ?_
          refine ac_aload_n 74 dX2_readInto_73 rfl rfl ?_
          refine ac_getI 77 dX2_readInto_74 rfl fl2_49 ob2 ?_
          rw [show (Mc 2 3) = (nI (skP tx n s1.1)) from b6]
          refine ac_isub 78 dX2_readInto_77 rfl ?_
          refine ac_iret dX2_readInto_78 ⟨_, rfl, rfl⟩ ?_
          refine ⟨rfl, rfl, fun i z1 z2 => (b4 i (fun q => z1 (by omega))).trans ((d3 i (fun q => z1 (by omega)) z2).trans ((t4 i (fun q => z1 (by omega))).trans (hk i z1 z2))), ?_⟩
          rw [eP, cif_f no59]
          exact ⟨rfl, (skP_le it3).2⟩
    · have hge : ¬ a < n := fun q => by
        obtain ⟨q1, q2, q3⟩ := t7 q
        rw [q1] at c_41
        exact absurd c_41 (nI_ne0 kd_1 (by have := kd_8 (tx := tx) (n := n) (p := a); omega))
      refine ac_iload 46 dX2_readInto_44 rfl rfl ?_
      refine ac_iret dX2_readInto_46 ⟨_, rfl, rfl⟩ ?_
      refine ⟨rfl, rfl, fun i z1 z2 => (t4 i (fun q => z1 (by omega))).trans (hk i z1 z2), ?_⟩
      rw [eA, cif_f hge]
      exact ⟨rfl, by show i ≤ n; omega, h9, np, nd, nh, hw.keepR (fun i z1 z2 => t4 i (by omega))⟩
set_option maxRecDepth 20000 in
theorem c6_bare17 {M : am_I} {V : am_J} {f : Nat → Option Nat}  : CT m6_makeBare 1 [Value.ref 17] M V f (RM none (am_up (am_up (am_up (am_up (am_up (am_up M 17 0 20) 17 1 10) 17 2 0) 17 3 0) 17 4 0) 17 5 0) V f) := by
  refine CT.of m6_makeBare_V.1 _ (en_a_1 17) ?_
  refine ac_aload_n 1 dX6_makeBare_0 rfl rfl ?_
  refine ac_bipush 3 20 dX6_makeBare_1 rfl (by decide) ?_
  refine ac_putI 6 dX6_makeBare_3 rfl fl6_42 rfl rfl ob17 ?_
  refine ac_aload_n 7 dX6_makeBare_6 rfl rfl ?_
  refine ac_bipush 9 10 dX6_makeBare_7 rfl (by decide) ?_
  refine ac_putI 12 dX6_makeBare_9 rfl fl6_46 rfl rfl ob17 ?_
  refine ac_aload_n 13 dX6_makeBare_12 rfl rfl ?_
  refine ac_iconst 14 0 dX6_makeBare_13 rfl (by decide) ?_
  refine ac_putI 17 dX6_makeBare_14 rfl fl6_49 rfl rfl ob17 ?_
  refine ac_aload_n 18 dX6_makeBare_17 rfl rfl ?_
  refine ac_iconst 19 0 dX6_makeBare_18 rfl (by decide) ?_
  refine ac_putI 22 dX6_makeBare_19 rfl fl6_52 rfl rfl ob17 ?_
  refine ac_aload_n 23 dX6_makeBare_22 rfl rfl ?_
  refine ac_iconst 24 0 dX6_makeBare_23 rfl (by decide) ?_
  refine ac_putI 27 dX6_makeBare_24 rfl fl6_55 rfl rfl ob17 ?_
  refine ac_aload_n 28 dX6_makeBare_27 rfl rfl ?_
  refine ac_iconst 29 0 dX6_makeBare_28 rfl (by decide) ?_
  refine ac_putI 32 dX6_makeBare_29 rfl fl6_58 rfl rfl ob17 ?_
  refine ac_vret dX6_makeBare_32 rfl ?_
  exact rm_mk rfl
theorem CW_bare {M : am_I} {g : rN} : CW (am_up (am_up (am_up (am_up (am_up (am_up M 17 0 20) 17 1 10) 17 2 0) 17 3 0) 17 4 0) 17 5 0) 17 (bareR g) 0 0 0 := ⟨⟨rfl, by decide, rfl, by decide, rfl, by decide⟩, ⟨rfl, rfl, rfl, rfl, rfl, rfl⟩, fun j hj => absurd hj (Nat.not_lt_zero j), fun j hj => absurd hj (Nat.not_lt_zero j), fun j hj => absurd hj (Nat.not_lt_zero j)⟩
theorem bare_9 {g : rN} : ∀ i, i < 5 → bareR g (64 + i) = -9 := fun i hi => match i, hi with
  | 0, _ => rfl
  | 1, _ => rfl
  | 2, _ => rfl
  | 3, _ => rfl
  | 4, _ => rfl
set_option maxRecDepth 20000 in
theorem c2_into {M : am_I} {V : am_J} {f : Nat → Option Nat} {tx : Nat → Nat} {n : Nat} (hX : TX M tx n) (g : rN) : CT m2_readInto 9 [Value.ref 2, Value.ref 17, Value.ref 1, Value.int (nI n)] M V f (IR M V f n (pAll tx n 121 False 0 0 0 0 (skP tx n 0) (bareR g))) := by
  refine CT.of m2_readInto_V.1 _ (en_aaai_5 2 17 1 (nI n)) ?_
  refine ac_aload_n 1 dX2_readInto_0 rfl rfl ?_
  refine ac_getO 4 3 dX2_readInto_1 rfl fl2_12 ob2 rfl ?_
  refine ac_aload_n 5 dX2_readInto_4 rfl rfl ?_
  refine ac_iload_n 6 dX2_readInto_5 rfl rfl ?_
  refine ac_callVg (μ' := m5_cut) 9 dX2_readInto_6 rfl lk2_18 m5_cut_V ob3 (c5_cut hX) rfl rfl (by decide) (Nat.le_of_ble_eq_true rfl) (fun v0 Ma V0 f0 h90 => ?_)
  obtain ⟨d1, d2, d3, d4, m, d5⟩ := h90
  subst d1
  obtain rfl := d2.symm
  obtain rfl := d3.symm
  refine ac_aload_n 10 dX2_readInto_9 rfl rfl ?_
  refine ac_iconst 11 0 dX2_readInto_10 rfl (by decide) ?_
  refine ac_putI 14 dX2_readInto_11 rfl fl2_22 rfl rfl ob2 ?_
  refine ac_aload_n 15 dX2_readInto_14 rfl rfl ?_
  refine ac_iconst 16 0 dX2_readInto_15 rfl (by decide) ?_
  refine ac_putI 19 dX2_readInto_16 rfl fl2_26 rfl rfl ob2 ?_
  refine ac_aload_n 20 dX2_readInto_19 rfl rfl ?_
  refine ac_callVm (μ' := m6_makeBare) 23 dX2_readInto_20 rfl lk2_30 m6_makeBare_V ob17 c6_bare17 rfl rfl (by decide) (Nat.le_of_ble_eq_true rfl) ?_
  refine ac_iconst 24 0 dX2_readInto_23 rfl (by decide) ?_
  refine ac_istore 26 [some (Value.ref 2), some (Value.ref 17), some (Value.ref 1), some (Value.int (nI n)), some (Value.int 0)] dX2_readInto_24 rfl rfl (Nat.le_of_ble_eq_true rfl) (by decide) rfl ?_
  have hn := hX.1
  exact c2_intoL (m := m) 121 _ False 0 0 0 0 (skP tx n 0) (bareR g) ⟨d5.keep rfl rfl rfl rfl, 0, rfl, Or.inl ⟨Nat.zero_le _, rfl⟩⟩ (skP_sk (Nat.zero_le _)) CW_bare bare_9 (bi_f id).symm (fun i z1 z2 => by rw [am_up_ne (by omega), am_up_ne (by omega), am_up_ne (by omega), am_up_ne (by omega), am_up_ne (by omega), am_up_ne (by omega), am_up_ne (by omega), am_up_ne (by omega)]; exact d4 i (by omega) (by omega) (by omega) (by omega)) (by omega) ⟨Nat.zero_le _, hn⟩
theorem neg10 {p : Nat} (h : p ≤ 120) : ¬ (0 : Int32) ≤ -10 - nI p := by
  have key : ∀ q : Fin 121, ¬ (0 : Int32) ≤ -10 - nI q.1 := by decide
  exact key ⟨p, by omega⟩
set_option maxRecDepth 20000 in
theorem q7_tellsF {M : am_I} {V : am_J} {f : Nat → Option Nat} {tx : Nat → Nat} {n : Nat} (hX : TX M tx n) (h1 : M 0 1 = nI n) (g : rN) {p : Nat} (hr : (pAll tx n 121 False 0 0 0 0 (skP tx n 0) (bareR g)) = .inl p) : CT m7_tells 10 [Value.ref 0] M V f (fun v M' V' f' => v = some (.int (-10 - nI p)) ∧ V' = V ∧ f' = f ∧ ∀ i, ¬ (2 ≤ i ∧ i ≤ 6) → ¬ (17 ≤ i ∧ i ≤ 26) → M' i = M i) := by
  have hn := hX.1
  refine CT.of m7_tells_V.1 _ (en_a_2 0) ?_
  refine ac_aload_n 1 dX7_tells_0 rfl rfl ?_
  refine ac_getO 4 2 dX7_tells_1 rfl fl7_20 ob0 rfl ?_
  refine ac_aload_n 5 dX7_tells_4 rfl rfl ?_
  refine ac_getO 8 17 dX7_tells_5 rfl fl7_31 ob0 rfl ?_
  refine ac_aload_n 9 dX7_tells_8 rfl rfl ?_
  refine ac_getO 12 1 dX7_tells_9 rfl fl7_9 ob0 rfl ?_
  refine ac_aload_n 13 dX7_tells_12 rfl rfl ?_
  refine ac_getI 16 dX7_tells_13 rfl fl7_13 ob0 ?_
  rw [show (M 0 1) = (nI n) from h1]
  refine ac_callVg (μ' := m2_readInto) 19 dX7_tells_16 rfl lk7_74 m2_readInto_V ob2 (c2_into hX g) rfl rfl (by decide) (Nat.le_of_ble_eq_true rfl) (fun v0 Ma V0 f0 h90 => ?_)
  unfold IR at h90
  rw [hr] at h90
  obtain ⟨d1, d2, d3, d4, d5⟩ := h90
  subst d4
  obtain rfl := d1.symm
  obtain rfl := d2.symm
  refine ac_istore_n 20 [some (Value.ref 0), some (Value.int (-10 - nI p))] dX7_tells_19 rfl rfl (Nat.le_of_ble_eq_true rfl) (by decide) rfl ?_
  refine ac_iload_n 21 dX7_tells_20 rfl rfl ?_
  refine ac_if_ge 26 24 dX7_tells_21 (by decide) rfl (fun c_21 => absurd c_21 (neg10 (by omega))) (fun _ => ?_)
  refine ac_iload_n 25 dX7_tells_24 rfl rfl ?_
  refine ac_iret dX7_tells_25 ⟨_, rfl, rfl⟩ ?_
  exact ⟨rfl, rfl, rfl, d3⟩
set_option maxRecDepth 20000 in
theorem q7_tellsS {M : am_I} {V : am_J} {f : Nat → Option Nat} {tx : Nat → Nat} {n : Nat} (hX : TX M tx n) (h1 : M 0 1 = nI n) (g : rN) {s : pS} (hr : (pAll tx n 121 False 0 0 0 0 (skP tx n 0) (bareR g)) = .inr s) {u : Nat} {pw : Nat → rN} {w : rN} {np nd nh : Nat} (hp : PI M f u pw) (hw : CW M 7 w np nd nh) : CT m7_tells 10 [Value.ref 0] M V f (fun v M' V' f' => v = some (.int (nI s.1)) ∧ V' = V ∧ PI M' f' (kpn u) (kpw pw w u) ∧ (∃ np nd nh, CW M' 7 s.2 np nd nh) ∧ M' 0 7 = 0 ∧ M' 0 1 = 0 ∧ (∀ k, k ≠ 1 → k ≠ 7 → M' 0 k = M 0 k) ∧ M' 1 = M 1 ∧ ∀ i, 89 ≤ i → M' i = M i) := by
  have hn := hX.1
  refine CT.of m7_tells_V.1 _ (en_a_2 0) ?_
  refine ac_aload_n 1 dX7_tells_0 rfl rfl ?_
  refine ac_getO 4 2 dX7_tells_1 rfl fl7_20 ob0 rfl ?_
  refine ac_aload_n 5 dX7_tells_4 rfl rfl ?_
  refine ac_getO 8 17 dX7_tells_5 rfl fl7_31 ob0 rfl ?_
  refine ac_aload_n 9 dX7_tells_8 rfl rfl ?_
  refine ac_getO 12 1 dX7_tells_9 rfl fl7_9 ob0 rfl ?_
  refine ac_aload_n 13 dX7_tells_12 rfl rfl ?_
  refine ac_getI 16 dX7_tells_13 rfl fl7_13 ob0 ?_
  rw [show (M 0 1) = (nI n) from h1]
  refine ac_callVg (μ' := m2_readInto) 19 dX7_tells_16 rfl lk7_74 m2_readInto_V ob2 (c2_into hX g) rfl rfl (by decide) (Nat.le_of_ble_eq_true rfl) (fun v0 Ma V0 f0 h90 => ?_)
  unfold IR at h90
  rw [hr] at h90
  obtain ⟨d1, d2, d3, d4, d5⟩ := h90
  subst d4
  obtain rfl := d1.symm
  obtain rfl := d2.symm
  refine ac_istore_n 20 [some (Value.ref 0), some (Value.int (nI s.1))] dX7_tells_19 rfl rfl (Nat.le_of_ble_eq_true rfl) (by decide) rfl ?_
  refine ac_iload_n 21 dX7_tells_20 rfl rfl ?_
  refine ac_if_ge 26 24 dX7_tells_21 (by decide) rfl (fun _ => ?_) (fun c_21 => absurd (nI_pos0 (by have := d5.1; omega)) c_21)
  refine ac_aload_n 27 dX7_tells_26 rfl rfl ?_
  refine ac_callVg (μ' := m7_remember) 30 dX7_tells_27 rfl lk7_78 m7_remember_V ob0 (c7_rem (M := Ma) (u := u) (pw := pw) (w := w) (PI.same hp (fun i z1 z2 => d3 i (by omega) (by omega))) (hw.keepR (fun i z1 z2 => d3 i (by omega) (by omega)))) rfl rfl (by decide) (Nat.le_of_ble_eq_true rfl) (fun v2 Mb V2 f2 h92 => ?_)
  obtain ⟨b1, b2, b3, b4, b5, b6, b7⟩ := h92
  subst b1
  obtain rfl := b2.symm
  refine ac_aload_n 31 dX7_tells_30 rfl rfl ?_
  refine ac_getO 34 7 dX7_tells_31 rfl fl7_27 ob0 rfl ?_
  refine ac_aload_n 35 dX7_tells_34 rfl rfl ?_
  refine ac_getO 38 17 dX7_tells_35 rfl fl7_31 ob0 rfl ?_
  refine ac_callVm (μ' := m6_copyFrom) 41 dX7_tells_38 rfl lk7_81 m6_copyFrom_V ob7 c6_cp_7_17 rfl rfl (by decide) (Nat.le_of_ble_eq_true rfl) ?_
  refine ac_aload_n 42 dX7_tells_41 rfl rfl ?_
  refine ac_iconst 43 0 dX7_tells_42 rfl (by decide) ?_
  refine ac_putI 46 dX7_tells_43 rfl fl7_13 rfl rfl ob0 ?_
  refine ac_iload_n 47 dX7_tells_46 rfl rfl ?_
  refine ac_iret dX7_tells_47 ⟨_, rfl, rfl⟩ ?_
  obtain ⟨d51, d52, m1, m2, m3, d53⟩ := d5
  have hc : CW Mb 17 s.2 m1 m2 m3 := d53.keepR (fun i z1 z2 => b6 i (by omega) (by omega))
  refine ⟨rfl, rfl, PI.same b3 (fun i z1 z2 => by rw [am_up_ne (by omega), cpW_o (by omega)]), ⟨m1, m2, m3, (CW.copy (b := 7) hc).keepR (fun i z1 z2 => am_up_ne (by omega))⟩, ?_, rfl, fun k z1 z2 => ?_, ?_, fun i z1 => ?_⟩
  · rw [up_ne (by decide), cpW_o (by decide)]; exact b4
  · rw [up_ne z1, cpW_o (by decide), b5 k z2, d3 0 (by decide) (by decide)]
  · rw [am_up_ne (by decide), cpW_o (by decide), b6 1 (by decide) (by decide), d3 1 (by decide) (by decide)]
  · rw [am_up_ne (by omega), cpW_o (by omega), b7 i z1, d3 i (by omega) (by omega)]
