/-! All items. -/
noncomputable def cnI (p : Prop) (m : Nat) : Nat := cif p (m + 1) m
noncomputable def pAll (tx : Nat → Nat) (n : Nat) : Nat → Prop → Nat → Nat → Nat → Nat → Nat → rN → Sum Nat pS
  | 0, _, _, _, _, _, _, _ => .inl 0
  | k + 1, told, np, nd, nh, i, a, w => cif (a < n) (match pItem tx n told np nd nh a w with
    | .inl p => .inl p
    | .inr s1 => cif (skP tx n s1.1 < n ∧ tx (skP tx n s1.1) = 59) (pAll tx n k (told ∨ wW tx (skP tx n a) (wlP tx n (skP tx n a))) (cnI (wP tx (skP tx n a) (wlP tx n (skP tx n a))) np) (cnI (wD tx (skP tx n a) (wlP tx n (skP tx n a))) nd) (cnI (wH tx (skP tx n a) (wlP tx n (skP tx n a))) nh) (i + 1) (skP tx n (skP tx n s1.1 + 1)) s1.2) (.inl (skP tx n s1.1))) (.inr (i, w))
/-- the row that is being read -/
def RW (w : rN) (np nd nh : Nat) : Prop := w 3 = nI np ∧ np ≤ 5 ∧ w 24 = nI nd ∧ nd ≤ 3 ∧ w 31 = nI nh ∧ nh ≤ 16
theorem cn_t {p : Prop} {m : Nat} (h : p) : cnI p m = m + 1 := cif_t h
theorem cn_f {p : Prop} {m : Nat} (h : ¬ p) : cnI p m = m := cif_f h
theorem w_WP {tx : Nat → Nat} {s e : Nat} (h : wW tx s e) : ¬ wP tx s e ∧ ¬ wD tx s e ∧ ¬ wH tx s e := by
  unfold wW wP wD wH at *
  omega
theorem w_PD {tx : Nat → Nat} {s e : Nat} (h : wP tx s e) : ¬ wD tx s e ∧ ¬ wH tx s e := by
  unfold wP wD wH at *
  omega
theorem w_DH {tx : Nat → Nat} {s e : Nat} (h : wD tx s e) : ¬ wH tx s e := by
  unfold wD wH at *
  omega
/-- an item that was read keeps the row in order, and lies further on -/
theorem item_ok {tx : Nat → Nat} {n np nd nh a : Nat} {told : Prop} {w : rN} {s1 : pS} (h : pItem tx n told np nd nh a w = .inr s1) (ha : a ≤ n) (hw : RW w np nd nh) : a < s1.1 ∧ s1.1 ≤ n ∧ RW s1.2 (cnI (wP tx (skP tx n a) (wlP tx n (skP tx n a))) np) (cnI (wD tx (skP tx n a) (wlP tx n (skP tx n a))) nd) (cnI (wH tx (skP tx n a) (wlP tx n (skP tx n a))) nh) := by
  obtain ⟨r1, r2, r3, r4, r5, r6⟩ := hw
  have hs := skP_le (tx := tx) ha
  have he := rnE_spec (isW tx) n (skP tx n a) hs.2
  have he1 : skP tx n a ≤ wlP tx n (skP tx n a) := he.1
  have he2 : wlP tx n (skP tx n a) ≤ n := he.2.1
  unfold pItem at h
  by_cases hW : wW tx (skP tx n a) (wlP tx n (skP tx n a))
  · obtain ⟨x1, x2, x3⟩ := w_WP hW
    rw [cif_t hW] at h
    rw [cn_f x1, cn_f x2, cn_f x3]
    by_cases ht : told
    · rw [cif_t ht] at h; cases h
    · rw [cif_f ht] at h
      obtain ⟨b1, b2, b3, _, _, _, _, _, e9, l1, l2⟩ := pWall_inr h he2
      dsimp only at l1 e9
      refine ⟨by omega, l2, ?_⟩
      rw [e9]
      exact ⟨by rw [setw_ne (by decide), setw_ne (by decide), setw_ne (by decide)]; exact r1, r2, by rw [setw_ne (by decide), setw_ne (by decide), setw_ne (by decide)]; exact r3, r4, by rw [setw_ne (by decide), setw_ne (by decide), setw_ne (by decide)]; exact r5, r6⟩
  · rw [cif_f hW] at h
    by_cases hP : wP tx (skP tx n a) (wlP tx n (skP tx n a))
    · obtain ⟨x2, x3⟩ := w_PD hP
      rw [cif_t hP] at h
      rw [cn_t hP, cn_f x2, cn_f x3]
      by_cases ht : np = 5
      · rw [cif_t ht] at h; cases h
      · rw [cif_f ht] at h
        obtain ⟨b1, b2, b3, b4, _, _, _, _, _, _, _, e9, l1, l2⟩ := pPic_inr h he2
        dsimp only at l1 e9
        refine ⟨by omega, l2, ?_⟩
        rw [e9]
        exact ⟨setw_eq, by omega, by rw [setw_ne (by decide), setw_ne (by omega), setw_ne (by omega), setw_ne (by omega), setw_ne (by omega)]; exact r3, r4, by rw [setw_ne (by decide), setw_ne (by omega), setw_ne (by omega), setw_ne (by omega), setw_ne (by omega)]; exact r5, r6⟩
    · rw [cif_f hP] at h
      rw [cn_f hP]
      by_cases hD : wD tx (skP tx n a) (wlP tx n (skP tx n a))
      · have x3 := w_DH hD
        rw [cif_t hD] at h
        rw [cn_t hD, cn_f x3]
        by_cases ht : nd = 3
        · rw [cif_t ht] at h; cases h
        · rw [cif_f ht] at h
          obtain ⟨b1, b2, _, _, e9, l1, l2⟩ := pDoor_inr h he2
          dsimp only at l1 e9
          refine ⟨by omega, l2, ?_⟩
          rw [e9]
          exact ⟨by rw [setw_ne (by decide), setw_ne (by omega), setw_ne (by omega)]; exact r1, r2, setw_eq, by omega, by rw [setw_ne (by decide), setw_ne (by omega), setw_ne (by omega)]; exact r5, r6⟩
      · rw [cif_f hD] at h
        rw [cn_f hD]
        by_cases hH : wH tx (skP tx n a) (wlP tx n (skP tx n a))
        · rw [cif_t hH] at h
          rw [cn_t hH]
          by_cases ht : nh = 16
          · rw [cif_t ht] at h; cases h
          · rw [cif_f ht] at h
            obtain ⟨b1, b2, _, _, _, e9, l1, l2⟩ := pHole_inr h he2
            dsimp only at l1 e9
            refine ⟨by omega, l2, ?_⟩
            rw [e9]
            exact ⟨by rw [setw_ne (by decide), setw_ne (by omega), setw_ne (by omega)]; exact r1, r2, by rw [setw_ne (by decide), setw_ne (by omega), setw_ne (by omega)]; exact r3, r4, setw_eq, by omega⟩
        · rw [cif_f hH] at h; cases h
theorem okP_n : ∀ {r : Sum Nat pS}, ¬ okP r → ∃ p, r = .inl p
  | .inl p, _ => ⟨p, rfl⟩
  | .inr s, h => absurd trivial h
theorem okP_y : ∀ {r : Sum Nat pS}, okP r → ∃ s, r = .inr s
  | .inl p, h => h.elim
  | .inr s, _ => ⟨s, rfl⟩
def RQ (M0 : am_I) (V : am_J) (f : Nat → Option Nat) (res : Sum Nat pS) : a0_Po := fun v M' V' f' => V' = V ∧ f' = f ∧ KP M0 M' ∧ match res with
  | .inl p => v = some (.int (-1)) ∧ M' 121 12 = nI p
  | .inr s => v = some (.int (nI s.1)) ∧ M' 123 = s.2
set_option maxRecDepth 20000 in
theorem c8_readsL {V : am_J} {f : Nat → Option Nat} {tx : Nat → Nat} {n : Nat} {M0 : am_I} : ∀ (k : Nat) (M : am_I) (told : Prop) (np nd nh i a : Nat), RP M tx n a → M 121 13 = bi told → RW (M 123) np nd nh → KP M0 M → n - a < k → A0 m8_reads 6 23 [some (Value.ref 121), some (Value.int (nI i))] [] M V f (RQ M0 V f (pAll tx n k told np nd nh i a (M 123)))
  | 0, M, told, np, nd, nh, i, a, hP, h13, hw, hk, hf => absurd hf (Nat.not_lt_zero _)
  | k + 1, M, told, np, nd, nh, i, a, hP, h13, hw, hk, hf => by
    have hn := hP.2.1
    have ha := hP.2.2.2.1
    have eA : pAll tx n (k + 1) told np nd nh i a (M 123) = cif (a < n) (match pItem tx n told np nd nh a (M 123) with
      | .inl p => .inl p
      | .inr s1 => cif (skP tx n s1.1 < n ∧ tx (skP tx n s1.1) = 59) (pAll tx n k (told ∨ wW tx (skP tx n a) (wlP tx n (skP tx n a))) (cnI (wP tx (skP tx n a) (wlP tx n (skP tx n a))) np) (cnI (wD tx (skP tx n a) (wlP tx n (skP tx n a))) nd) (cnI (wH tx (skP tx n a) (wlP tx n (skP tx n a))) nh) (i + 1) (skP tx n (skP tx n s1.1 + 1)) s1.2) (.inl (skP tx n s1.1))) (.inr (i, M 123)) := rfl
    refine ac_aload_n 24 dX8_reads_23 rfl rfl ?_
    refine ac_getI 27 dX8_reads_24 rfl fl8_57 ob121 ?_
    rw [show (M 121 11) = (nI a) from hP.2.2.1]
    refine ac_aload_n 28 dX8_reads_27 rfl rfl ?_
    refine ac_getI 31 dX8_reads_28 rfl fl8_61 ob121 ?_
    rw [show (M 121 10) = (nI n) from hP.1]
    refine ac_icmp_ge 60 34 dX8_reads_31 (by decide) rfl (fun c_31 => ?_) (fun c_31 => ?_)
    · have hge : ¬ a < n := fun q => absurd ((nI_leI (by omega) (by omega)).mp c_31) (by omega)
      refine ac_iload_n 61 dX8_reads_60 rfl rfl ?_
      refine ac_iret dX8_reads_61 ⟨_, rfl, rfl⟩ ?_
      refine ⟨rfl, rfl, hk, ?_⟩
      rw [eA, cif_f hge]
      exact ⟨rfl, rfl⟩
    · have hlt : a < n := Nat.lt_of_not_le (fun q => c_31 (nI_le q (by omega)))
      refine ac_aload_n 35 dX8_reads_34 rfl rfl ?_
      refine ac_callVg (μ' := m8_readsItem) 38 dX8_reads_35 rfl lk8_102 m8_readsItem_V ob121 (c8_item hP h13 hw.1 hw.2.1 hw.2.2.1 hw.2.2.2.1 hw.2.2.2.2.1 hw.2.2.2.2.2) rfl rfl (by decide) (Nat.le_of_ble_eq_true rfl) (fun v1 Ma V1 f1 h9 => ?_)
      obtain ⟨d1, d2, d3, d4, d5⟩ := h9
      obtain rfl := d1.symm
      obtain rfl := d2.symm
      have hv := PO_v d5
      subst hv
      refine ac_if_eq 48 41 dX8_reads_38 (by decide) rfl (fun c_38 => ?_) (fun c_38 => ?_)
      · obtain ⟨p, ep⟩ := okP_n (bi_eq0.mp c_38)
        rw [ep] at d5
        have eP : pAll tx n (k + 1) told np nd nh i a (M 123) = .inl p := by
          rw [eA, cif_t hlt, ep]
        have hmk := d5.2
        refine ac_iconst 49 (-1) dX8_reads_48 rfl (by decide) ?_
        refine ac_iret dX8_reads_49 ⟨_, rfl, rfl⟩ ?_
        refine ⟨rfl, rfl, hk.trans d3, ?_⟩
        rw [eP]
        exact ⟨rfl, hmk⟩
      · obtain ⟨s1, ep⟩ := okP_y (bi_ne0.mp c_38)
        rw [ep] at d5
        have iok := item_ok ep hP.2.2.2.1 hw
        have hPa : RP Ma tx n s1.1 := hP.next d3 d5.2.1 d5.2.2.1
        have eP : pAll tx n (k + 1) told np nd nh i a (M 123) = cif (skP tx n s1.1 < n ∧ tx (skP tx n s1.1) = 59) (pAll tx n k (told ∨ wW tx (skP tx n a) (wlP tx n (skP tx n a))) (cnI (wP tx (skP tx n a) (wlP tx n (skP tx n a))) np) (cnI (wD tx (skP tx n a) (wlP tx n (skP tx n a))) nd) (cnI (wH tx (skP tx n a) (wlP tx n (skP tx n a))) nh) (i + 1) (skP tx n (skP tx n s1.1 + 1)) s1.2) (.inl (skP tx n s1.1)) := by
          rw [eA, cif_t hlt, ep]
        refine ac_aload_n 42 dX8_reads_41 rfl rfl ?_
        refine ac_callVg (μ' := m8_passesEnd) 45 dX8_reads_42 rfl lk8_105 m8_passesEnd_V ob121 (c8_passesEnd hPa) rfl rfl (by decide) (Nat.le_of_ble_eq_true rfl) (fun v2 Mb V2 f2 h9 => ?_)
        obtain ⟨b1, b2, b3, b4, b5, b6, b7, b8⟩ := h9
        subst b1
        obtain rfl := b2.symm
        obtain rfl := b3.symm
        refine ac_if_ne 50 48 dX8_reads_45 (by decide) rfl (fun c_45 => ?_) (fun c_45 => ?_)
        · have ok59 : (skP tx n s1.1 < n ∧ tx (skP tx n s1.1) = 59) := bi_ne0.mp c_45
          have hPb : RP Mb tx n (skP tx n s1.1 + 1) := hPa.next b4 (b8 ok59) ok59.1
          refine ac_iinc 53 (nI (i + 1)) [some (Value.ref 121), some (Value.int (nI (i + 1)))] dX8_reads_50 rfl rfl (nI_1 _) rfl (by decide) rfl ?_
          refine ac_aload_n 54 dX8_reads_53 rfl rfl ?_
          refine ac_callVg (μ' := m8_skips) 57 dX8_reads_54 rfl lk8_71 m8_skips_V ob121 (c8_skips hPb) rfl rfl (by decide) (Nat.le_of_ble_eq_true rfl) (fun v3 Mc V3 f3 h9 => ?_)
          obtain ⟨c1, c2, c3, c4, c5, c6, c7, c8⟩ := h9
          subst c1
          obtain rfl := c2.symm
          obtain rfl := c3.symm
          refine ac_goto 23 dX8_reads_57 (by decide) ?_
          rw [eP, cif_t ok59]
          have fr : Mc 123 = s1.2 := (c5.trans b5).trans d5.2.2.2
          rw [← fr]
          exact c8_readsL k Mc _ _ _ _ _ _ (hPb.next c4 c7 (skP_le hPb.2.2.2.1).2) ((c6.trans b6).trans d4) (by rw [fr]; exact iok.2.2) (hk.trans (d3.trans (b4.trans c4))) (by
            have z1 := (skP_le (tx := tx) (n := n) (a := s1.1) d5.2.2.1).1
            have z2 := (skP_le (tx := tx) hPb.2.2.2.1).1
            have z3 := iok.1
            omega)
        · have no59 := bi_eq0.mp c_45
          refine ac_iconst 49 (-1) dX8_reads_48 rfl (by decide) ?_
          refine ac_iret dX8_reads_49 ⟨_, rfl, rfl⟩ ?_
          refine ⟨rfl, rfl, hk.trans (d3.trans b4), ?_⟩
          rw [eP, cif_f no59]
          exact ⟨rfl, b7⟩
