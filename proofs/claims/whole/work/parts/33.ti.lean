/-! An item. -/
def okP : Sum Nat pS → Prop
  | .inl _ => False
  | .inr _ => True
theorem PO_v {n : Nat} {v : Option Value} {M' : am_I} : ∀ {r : Sum Nat pS}, PO n v M' r → v = some (.int (bi (okP r)))
  | .inl p, h => by rw [h.1, bi_f (p := okP (.inl p)) id]
  | .inr s, h => by rw [h.1, bi_t (p := okP (.inr s)) trivial]
def wW (tx : Nat → Nat) (s e : Nat) : Prop := e = s + 4 ∧ tx s = 119 ∧ tx (s + 1) = 97 ∧ tx (s + 2) = 108 ∧ tx (s + 3) = 108
def wP (tx : Nat → Nat) (s e : Nat) : Prop := e = s + 3 ∧ tx s = 112 ∧ tx (s + 1) = 105 ∧ tx (s + 2) = 99
def wD (tx : Nat → Nat) (s e : Nat) : Prop := e = s + 4 ∧ tx s = 100 ∧ tx (s + 1) = 111 ∧ tx (s + 2) = 111 ∧ tx (s + 3) = 114
def wH (tx : Nat → Nat) (s e : Nat) : Prop := e = s + 4 ∧ tx s = 104 ∧ tx (s + 1) = 111 ∧ tx (s + 2) = 108 ∧ tx (s + 3) = 101
noncomputable def pItem (tx : Nat → Nat) (n : Nat) (told : Prop) (np nd nh a : Nat) (w : rN) : Sum Nat pS := cif (wW tx (skP tx n a) (wlP tx n (skP tx n a))) (cif told (.inl (skP tx n a)) (pWall tx n (wlP tx n (skP tx n a), w))) (cif (wP tx (skP tx n a) (wlP tx n (skP tx n a))) (cif (np = 5) (.inl (skP tx n a)) (pPic tx n np (wlP tx n (skP tx n a), w))) (cif (wD tx (skP tx n a) (wlP tx n (skP tx n a))) (cif (nd = 3) (.inl (skP tx n a)) (pDoor tx n nd (wlP tx n (skP tx n a), w))) (cif (wH tx (skP tx n a) (wlP tx n (skP tx n a))) (cif (nh = 16) (.inl (skP tx n a)) (pHole tx n nh (wlP tx n (skP tx n a), w))) (.inl (skP tx n a)))))
theorem c8_rW {M : am_I} {V : am_J} {f : Nat → Option Nat} {tx : Nat → Nat} {n a m0 : Nat} (hP0 : RP M tx n a) (hm0 : M 121 12 = nI m0) {told : Prop} (h13 : M 121 13 = bi told) : CT m8_readsWall 4 [.ref 121] M V f (fun v M' V' f' => V' = V ∧ f' = f ∧ KP M M' ∧ M' 121 13 = 1 ∧ PO n v M' (cif told (.inl m0) (pWall tx n (a, M 123)))) := by
  by_cases h : told
  · rw [cif_t h]
    rw [bi_t h] at h13
    exact c8_rWallN hP0 hm0 h13
  · rw [cif_f h]
    rw [bi_f h] at h13
    exact c8_rWall hP0 hm0 h13
theorem c8_rP {M : am_I} {V : am_J} {f : Nat → Option Nat} {tx : Nat → Nat} {n a m0 : Nat} (hP0 : RP M tx n a) (hm0 : M 121 12 = nI m0) {m : Nat} (h3 : M 123 3 = nI m) (hm : m ≤ 5) : CT m8_readsPicture 4 [.ref 121] M V f (fun v M' V' f' => V' = V ∧ f' = f ∧ KP M M' ∧ M' 121 13 = M 121 13 ∧ PO n v M' (cif (m = 5) (.inl m0) (pPic tx n m (a, M 123)))) := by
  by_cases h : m = 5
  · rw [cif_t h]
    rw [h] at h3
    exact c8_rPicN hP0 hm0 h3
  · rw [cif_f h]
    exact c8_rPic hP0 hm0 h3 (by omega)
theorem c8_rD {M : am_I} {V : am_J} {f : Nat → Option Nat} {tx : Nat → Nat} {n a m0 : Nat} (hP0 : RP M tx n a) (hm0 : M 121 12 = nI m0) {m : Nat} (h3 : M 123 24 = nI m) (hm : m ≤ 3) : CT m8_readsDoor 4 [.ref 121] M V f (fun v M' V' f' => V' = V ∧ f' = f ∧ KP M M' ∧ M' 121 13 = M 121 13 ∧ PO n v M' (cif (m = 3) (.inl m0) (pDoor tx n m (a, M 123)))) := by
  by_cases h : m = 3
  · rw [cif_t h]
    rw [h] at h3
    exact c8_rDoorN hP0 hm0 h3
  · rw [cif_f h]
    exact c8_rDoor hP0 hm0 h3 (by omega)
theorem c8_rH {M : am_I} {V : am_J} {f : Nat → Option Nat} {tx : Nat → Nat} {n a m0 : Nat} (hP0 : RP M tx n a) (hm0 : M 121 12 = nI m0) {m : Nat} (h3 : M 123 31 = nI m) (hm : m ≤ 16) : CT m8_readsHole 4 [.ref 121] M V f (fun v M' V' f' => V' = V ∧ f' = f ∧ KP M M' ∧ M' 121 13 = M 121 13 ∧ PO n v M' (cif (m = 16) (.inl m0) (pHole tx n m (a, M 123)))) := by
  by_cases h : m = 16
  · rw [cif_t h]
    rw [h] at h3
    exact c8_rHoleN hP0 hm0 h3
  · rw [cif_f h]
    exact c8_rHole hP0 hm0 h3 (by omega)
set_option maxRecDepth 20000 in
theorem c8_item {M : am_I} {V : am_J} {f : Nat → Option Nat} {tx : Nat → Nat} {n a np nd nh : Nat} {told : Prop} (hP : RP M tx n a) (h13 : M 121 13 = bi told) (h3 : M 123 3 = nI np) (hn5 : np ≤ 5) (h24 : M 123 24 = nI nd) (hd3 : nd ≤ 3) (h31 : M 123 31 = nI nh) (hh16 : nh ≤ 16) : CT m8_readsItem 5 [Value.ref 121] M V f (fun v M' V' f' => V' = V ∧ f' = f ∧ KP M M' ∧ M' 121 13 = bi (told ∨ wW tx (skP tx n a) (wlP tx n (skP tx n a))) ∧ PO n v M' (pItem tx n told np nd nh a (M 123))) := by
  obtain ⟨h10, hn, h11, ha, hT⟩ := id hP
  have hs9 := skP_le (tx := tx) ha
  obtain ⟨f1, f2, f3, f4⟩ := rnE_spec (isW tx) n (skP tx n a) hs9.2
  have f1 : skP tx n a ≤ wlP tx n (skP tx n a) := f1
  have f2 : wlP tx n (skP tx n a) ≤ n := f2
  have f3 : ∀ y, skP tx n a ≤ y → y < wlP tx n (skP tx n a) → isW tx y := f3
  have f4 : wlP tx n (skP tx n a) < n → ¬ isW tx (wlP tx n (skP tx n a)) := f4
  refine CT.of m8_readsItem_V.1 _ (en_a_1 121) ?_
  refine ac_aload_n 1 dX8_readsItem_0 rfl rfl ?_
  refine ac_callVg (μ' := m8_skips) 4 dX8_readsItem_1 rfl lk8_71 m8_skips_V ob121 (c8_skips hP) rfl rfl (by decide) (Nat.le_of_ble_eq_true rfl) (fun v0 Ma V0 f0 h9 => ?_)
  obtain ⟨a1, a2, a3, a4, a5, a6, a7, a8⟩ := h9
  subst a1
  obtain rfl := a2.symm
  obtain rfl := a3.symm
  have hPa : RP Ma tx n (skP tx n a) := hP.next a4 a7 (skP_le ha).2
  refine ac_down (n := ((wlP tx n (skP tx n a)) - (skP tx n a))) (P := fun k => ∀ (M1 : am_I), ((∀ i, i ≠ 121 → M1 i = Ma i) ∧ (∀ j, j ≠ 11 → M1 121 j = Ma 121 j) ∧ M1 121 11 = nI ((skP tx n a) + k) ∧ (skP tx n a) + k ≤ n) → A0 m8_readsItem 5 4 [some (Value.ref 121)] [] M1 V f (fun v M' V' f' => V' = V ∧ f' = f ∧ KP M M' ∧ M' 121 13 = bi (told ∨ wW tx (skP tx n a) (wlP tx n (skP tx n a))) ∧ PO n v M' (pItem tx n told np nd nh a (M 123)))) ?_ ?_ 0 (Nat.zero_le _) Ma ⟨fun _ _ => rfl, fun _ _ => rfl, a7, (skP_le ha).2⟩
  · intro M1 hpr
    obtain ⟨k1, k2, k3, k4⟩ := hpr
    have hP1 : RP M1 tx n ((skP tx n a) + ((wlP tx n (skP tx n a)) - (skP tx n a))) := hPa.next ⟨fun i z1 _ => k1 i z1, fun j z1 _ _ => k2 j z1⟩ k3 k4
    have e9 : (skP tx n a) + ((wlP tx n (skP tx n a)) - (skP tx n a)) = (wlP tx n (skP tx n a)) := by omega
    have hPe : RP M1 tx n (wlP tx n (skP tx n a)) := by rw [← e9]; exact hP1
    have hme : M1 121 12 = nI (skP tx n a) := (k2 12 (by decide)).trans a8
    have hse : (skP tx n a) ≤ (wlP tx n (skP tx n a)) := f1
    have h13e : M1 121 13 = bi told := ((k2 13 (by decide)).trans a6).trans h13
    have fre : M1 123 = M 123 := (k1 123 (by decide)).trans a5
    have kke : KP M M1 := a4.trans ⟨fun i z1 _ => k1 i z1, fun j z1 _ _ => k2 j z1⟩
    refine ac_aload_n 5 dX8_readsItem_4 rfl rfl ?_
    refine ac_bipush 7 97 dX8_readsItem_5 rfl (by decide) ?_
    refine ac_bipush 9 122 dX8_readsItem_7 rfl (by decide) ?_
    refine ac_callV (μ' := m8_isAt) 12 dX8_readsItem_9 rfl lk8_74 m8_isAt_V ob121 (c8_isAt2 hP1 97 122 (by decide) (by decide)) rfl rfl (by decide) (Nat.le_of_ble_eq_true rfl) ?_
    refine ac_if_eq 28 15 dX8_readsItem_12 (by decide) rfl (fun _ => ?_) (fun c_12 => absurd (bi_f (fun q => by
      rw [e9] at q
      exact f4 q.1 q.2)) c_12)
    refine ac_aload_n 29 dX8_readsItem_28 rfl rfl ?_
    refine ac_bipush 31 119 dX8_readsItem_29 rfl (by decide) ?_
    refine ac_bipush 33 97 dX8_readsItem_31 rfl (by decide) ?_
    refine ac_bipush 35 108 dX8_readsItem_33 rfl (by decide) ?_
    refine ac_bipush 37 108 dX8_readsItem_35 rfl (by decide) ?_
    refine ac_callV (μ' := m8_spells) 40 dX8_readsItem_37 rfl lk8_85 m8_spells_V ob121 (c8_sp4 hPe hme hse (a := 119) (b := 97) (c := 108) (d := 108) (by decide) (by decide) (by decide) (by decide) (by decide)) rfl rfl (by decide) (Nat.le_of_ble_eq_true rfl) ?_
    refine ac_if_eq 48 43 dX8_readsItem_40 (by decide) rfl (fun c_40 => ?_) (fun c_40 => ?_)
    · have w40 : ¬ wW tx (skP tx n a) (wlP tx n (skP tx n a)) := bi_eq0.mp c_40
      refine ac_aload_n 49 dX8_readsItem_48 rfl rfl ?_
      refine ac_bipush 51 112 dX8_readsItem_49 rfl (by decide) ?_
      refine ac_bipush 53 105 dX8_readsItem_51 rfl (by decide) ?_
      refine ac_bipush 55 99 dX8_readsItem_53 rfl (by decide) ?_
      refine ac_iconst 56 0 dX8_readsItem_55 rfl (by decide) ?_
      refine ac_callV (μ' := m8_spells) 59 dX8_readsItem_56 rfl lk8_85 m8_spells_V ob121 (c8_sp3 hPe hme hse (a := 112) (b := 105) (c := 99) (by decide) (by decide) (by decide)) rfl rfl (by decide) (Nat.le_of_ble_eq_true rfl) ?_
      refine ac_if_eq 67 62 dX8_readsItem_59 (by decide) rfl (fun c_59 => ?_) (fun c_59 => ?_)
      · have w59 : ¬ wP tx (skP tx n a) (wlP tx n (skP tx n a)) := bi_eq0.mp c_59
        refine ac_aload_n 68 dX8_readsItem_67 rfl rfl ?_
        refine ac_bipush 70 100 dX8_readsItem_68 rfl (by decide) ?_
        refine ac_bipush 72 111 dX8_readsItem_70 rfl (by decide) ?_
        refine ac_bipush 74 111 dX8_readsItem_72 rfl (by decide) ?_
        refine ac_bipush 76 114 dX8_readsItem_74 rfl (by decide) ?_
        refine ac_callV (μ' := m8_spells) 79 dX8_readsItem_76 rfl lk8_85 m8_spells_V ob121 (c8_sp4 hPe hme hse (a := 100) (b := 111) (c := 111) (d := 114) (by decide) (by decide) (by decide) (by decide) (by decide)) rfl rfl (by decide) (Nat.le_of_ble_eq_true rfl) ?_
        refine ac_if_eq 87 82 dX8_readsItem_79 (by decide) rfl (fun c_79 => ?_) (fun c_79 => ?_)
        · have w79 : ¬ wD tx (skP tx n a) (wlP tx n (skP tx n a)) := bi_eq0.mp c_79
          refine ac_aload_n 88 dX8_readsItem_87 rfl rfl ?_
          refine ac_bipush 90 104 dX8_readsItem_88 rfl (by decide) ?_
          refine ac_bipush 92 111 dX8_readsItem_90 rfl (by decide) ?_
          refine ac_bipush 94 108 dX8_readsItem_92 rfl (by decide) ?_
          refine ac_bipush 96 101 dX8_readsItem_94 rfl (by decide) ?_
          refine ac_callV (μ' := m8_spells) 99 dX8_readsItem_96 rfl lk8_85 m8_spells_V ob121 (c8_sp4 hPe hme hse (a := 104) (b := 111) (c := 108) (d := 101) (by decide) (by decide) (by decide) (by decide) (by decide)) rfl rfl (by decide) (Nat.le_of_ble_eq_true rfl) ?_
          refine ac_if_eq 113 102 dX8_readsItem_99 (by decide) rfl (fun c_99 => ?_) (fun c_99 => ?_)
          · have w99 : ¬ wH tx (skP tx n a) (wlP tx n (skP tx n a)) := bi_eq0.mp c_99
            refine ac_iconst 114 0 dX8_readsItem_113 rfl (by decide) ?_
            refine ac_iret dX8_readsItem_114 ⟨_, rfl, rfl⟩ ?_
            refine ⟨rfl, rfl, kke, by rw [h13e]; exact bi_congr ⟨Or.inl, fun q => q.resolve_right w40⟩, ?_⟩
            have eR : pItem tx n told np nd nh a (M 123) = .inl (skP tx n a) := by
              unfold pItem
              rw [cif_f w40, cif_f w59, cif_f w79, cif_f w99]
            rw [eR]
            exact ⟨rfl, hme⟩
          · have w99 : wH tx (skP tx n a) (wlP tx n (skP tx n a)) := bi_ne0.mp c_99
            refine ac_aload_n 103 dX8_readsItem_102 rfl rfl ?_
            refine ac_callVg (μ' := m8_readsHole) 106 dX8_readsItem_103 rfl lk8_99 m8_readsHole_V ob121 (c8_rH (m := nh) hPe hme (by rw [fre]; exact h31) hh16) rfl rfl (by decide) (Nat.le_of_ble_eq_true rfl) (fun v2 Mz V2 f2 h8 => ?_)
            rw [fre] at h8
            obtain ⟨d1, d2, d3, d4, d5⟩ := h8
            obtain rfl := d1.symm
            obtain rfl := d2.symm
            have hv := PO_v d5
            subst hv
            refine ac_if_eq 113 109 dX8_readsItem_106 (by decide) rfl (fun c_106 => ?_) (fun c_106 => ?_)
            · refine ac_iconst 114 0 dX8_readsItem_113 rfl (by decide) ?_
              refine ac_iret dX8_readsItem_114 ⟨_, rfl, rfl⟩ ?_
              refine ⟨rfl, rfl, kke.trans d3, by rw [d4, h13e]; exact bi_congr ⟨Or.inl, fun q => q.resolve_right w40⟩, ?_⟩
              have eR : pItem tx n told np nd nh a (M 123) = cif (nh = 16) (.inl (skP tx n a)) (pHole tx n nh ((wlP tx n (skP tx n a)), M 123)) := by
                unfold pItem
                rw [cif_f w40, cif_f w59, cif_f w79, cif_t w99]
              rw [eR]
              rw [c_106] at d5
              exact d5
            · refine ac_iconst 110 1 dX8_readsItem_109 rfl (by decide) ?_
              refine ac_goto 114 dX8_readsItem_110 (by decide) ?_
              refine ac_iret dX8_readsItem_114 ⟨_, rfl, rfl⟩ ?_
              refine ⟨rfl, rfl, kke.trans d3, by rw [d4, h13e]; exact bi_congr ⟨Or.inl, fun q => q.resolve_right w40⟩, ?_⟩
              have eR : pItem tx n told np nd nh a (M 123) = cif (nh = 16) (.inl (skP tx n a)) (pHole tx n nh ((wlP tx n (skP tx n a)), M 123)) := by
                unfold pItem
                rw [cif_f w40, cif_f w59, cif_f w79, cif_t w99]
              rw [eR]
              rw [bi_t (bi_ne0.mp c_106)] at d5
              exact d5
        · have w79 : wD tx (skP tx n a) (wlP tx n (skP tx n a)) := bi_ne0.mp c_79
          refine ac_aload_n 83 dX8_readsItem_82 rfl rfl ?_
          refine ac_callVg (μ' := m8_readsDoor) 86 dX8_readsItem_83 rfl lk8_96 m8_readsDoor_V ob121 (c8_rD (m := nd) hPe hme (by rw [fre]; exact h24) hd3) rfl rfl (by decide) (Nat.le_of_ble_eq_true rfl) (fun v2 Mz V2 f2 h8 => ?_)
          rw [fre] at h8
          obtain ⟨d1, d2, d3, d4, d5⟩ := h8
          obtain rfl := d1.symm
          obtain rfl := d2.symm
          have hv := PO_v d5
          subst hv
          refine ac_iret dX8_readsItem_86 ⟨_, rfl, nrw_bi⟩ ?_
          refine ⟨rfl, rfl, kke.trans d3, by rw [d4, h13e]; exact bi_congr ⟨Or.inl, fun q => q.resolve_right w40⟩, ?_⟩
          have eR : pItem tx n told np nd nh a (M 123) = cif (nd = 3) (.inl (skP tx n a)) (pDoor tx n nd ((wlP tx n (skP tx n a)), M 123)) := by
            unfold pItem
            rw [cif_f w40, cif_f w59, cif_t w79]
          rw [eR]
          exact d5
      · have w59 : wP tx (skP tx n a) (wlP tx n (skP tx n a)) := bi_ne0.mp c_59
        refine ac_aload_n 63 dX8_readsItem_62 rfl rfl ?_
        refine ac_callVg (μ' := m8_readsPicture) 66 dX8_readsItem_63 rfl lk8_93 m8_readsPicture_V ob121 (c8_rP (m := np) hPe hme (by rw [fre]; exact h3) hn5) rfl rfl (by decide) (Nat.le_of_ble_eq_true rfl) (fun v2 Mz V2 f2 h8 => ?_)
        rw [fre] at h8
        obtain ⟨d1, d2, d3, d4, d5⟩ := h8
        obtain rfl := d1.symm
        obtain rfl := d2.symm
        have hv := PO_v d5
        subst hv
        refine ac_iret dX8_readsItem_66 ⟨_, rfl, nrw_bi⟩ ?_
        refine ⟨rfl, rfl, kke.trans d3, by rw [d4, h13e]; exact bi_congr ⟨Or.inl, fun q => q.resolve_right w40⟩, ?_⟩
        have eR : pItem tx n told np nd nh a (M 123) = cif (np = 5) (.inl (skP tx n a)) (pPic tx n np ((wlP tx n (skP tx n a)), M 123)) := by
          unfold pItem
          rw [cif_f w40, cif_t w59]
        rw [eR]
        exact d5
    · have w40 : wW tx (skP tx n a) (wlP tx n (skP tx n a)) := bi_ne0.mp c_40
      refine ac_aload_n 44 dX8_readsItem_43 rfl rfl ?_
      refine ac_callVg (μ' := m8_readsWall) 47 dX8_readsItem_44 rfl lk8_89 m8_readsWall_V ob121 (c8_rW hPe hme h13e) rfl rfl (by decide) (Nat.le_of_ble_eq_true rfl) (fun v2 Mz V2 f2 h8 => ?_)
      rw [fre] at h8
      obtain ⟨d1, d2, d3, d4, d5⟩ := h8
      obtain rfl := d1.symm
      obtain rfl := d2.symm
      have hv := PO_v d5
      subst hv
      refine ac_iret dX8_readsItem_47 ⟨_, rfl, nrw_bi⟩ ?_
      refine ⟨rfl, rfl, kke.trans d3, by rw [bi_t (Or.inr w40)]; exact d4, ?_⟩
      have eR : pItem tx n told np nd nh a (M 123) = cif told (.inl (skP tx n a)) (pWall tx n ((wlP tx n (skP tx n a)), M 123)) := by
        unfold pItem
        rw [cif_t w40]
      rw [eR]
      exact d5
  · intro k hk ih M1 hpr
    obtain ⟨k1, k2, k3, k4⟩ := hpr
    have hP1 : RP M1 tx n ((skP tx n a) + k) := hPa.next ⟨fun i z1 _ => k1 i z1, fun j z1 _ _ => k2 j z1⟩ k3 k4
    have hfk : isW tx ((skP tx n a) + k) := f3 _ (by omega) (by omega)
    have hf1 := hfk.1
    have hf2 := hfk.2
    refine ac_aload_n 5 dX8_readsItem_4 rfl rfl ?_
    refine ac_bipush 7 97 dX8_readsItem_5 rfl (by decide) ?_
    refine ac_bipush 9 122 dX8_readsItem_7 rfl (by decide) ?_
    refine ac_callV (μ' := m8_isAt) 12 dX8_readsItem_9 rfl lk8_74 m8_isAt_V ob121 (c8_isAt2 hP1 97 122 (by decide) (by decide)) rfl rfl (by decide) (Nat.le_of_ble_eq_true rfl) ?_
    refine ac_if_eq 28 15 dX8_readsItem_12 (by decide) rfl (fun c_12 => absurd c_12 (by rw [bi_t (show _ ∧ _ ∧ _ from ⟨by omega, hf1, hf2⟩)]; decide)) (fun _ => ?_)
    refine ac_aload_n 16 dX8_readsItem_15 rfl rfl ?_
    refine ac_dup 17 dX8_readsItem_16 rfl rfl ?_
    refine ac_getI 20 dX8_readsItem_17 rfl fl8_57 ob121 ?_
    rw [show (M1 121 11) = (nI ((skP tx n a) + k)) from k3]
    refine ac_iconst 21 1 dX8_readsItem_20 rfl (by decide) ?_
    refine ac_iadd 22 dX8_readsItem_21 rfl ?_
    rw [show ((nI ((skP tx n a) + k)) + 1) = (nI ((skP tx n a) + (k + 1))) from (nI_1 _)]
    refine ac_putI 25 dX8_readsItem_22 rfl fl8_57 rfl rfl ob121 ?_
    refine ac_goto 4 dX8_readsItem_25 (by decide) ?_
    exact ih _ ⟨fun i hi => (am_up_ne hi).trans (k1 i hi), fun j hj => (up_ne hj).trans (k2 j hj), rfl, by omega⟩
