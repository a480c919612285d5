/-! Images, and telling. -/
theorem upN_cg {w w' : rN} (e : ∀ i, i < 69 → w' i = w i) : ∀ k, k ≤ 5 → upN w' k = upN w k
  | 0, _ => rfl
  | k + 1, h => by
    show upN w' k + (if w' (64 + k) = -9 then 0 else 1) = upN w k + (if w (64 + k) = -9 then 0 else 1)
    rw [upN_cg e k (by omega), e (64 + k) (by omega)]
section CES
variable {M : am_I} {V : am_J} {f : Nat → Option Nat}
theorem kee_IV {M2 : am_I} {b i : Nat} (h : IV M f) (hb : b = 100 + 10 * i) (hi : i < 2) (e : ∀ k, ¬ (b ≤ k ∧ k ≤ b + 9) → k ≠ 120 → k ≠ 125 → k ≠ 126 → M2 k = M k) (e0 : M2 120 i = 1) (e1 : ∀ k, k ≠ i → M2 120 k = M 120 k) (e2 : M2 126 i = 1) (e3 : ∀ k, k ≠ i → M2 126 k = M 126 k) (e5 : ∀ j k, k < 69 → M2 125 (69 * j + k) = if j = i then M 122 k else M 125 (69 * j + k)) (hc : ∃ np nd nh, CW M2 b (M 122) np nd nh) : IV M2 f := by
  obtain ⟨hA, hW, hP, hS, hI, hK, h5⟩ := h
  have g : ∀ k, (k < 100 ∨ 120 < k) ∧ k ≠ 125 ∧ k ≠ 126 → M2 k = M k := fun k q => e k (by omega) (by omega) q.2.1 q.2.2
  have mine : II1 M2 b i := by
    obtain ⟨np, nd, nh, hc⟩ := hc
    have er : ∀ k, k < 69 → imM M2 i k = M 122 k := fun k hk => (e5 i k hk).trans (if_pos rfl)
    exact Or.inr ⟨e0, e2, ⟨np, nd, nh, hc.cg er⟩, hW.2.cg er⟩
  have oth : ∀ c j, c = 100 + 10 * j → j < 2 → j ≠ i → II1 M c j → II1 M2 c j := fun c j hc hj hji hI => hI.cg (e1 j hji) (e3 j hji) (fun k a b => e k (by omega) (by omega) (by omega) (by omega)) (fun k hk => (e5 j k hk).trans (if_neg hji))
  refine ⟨hA.cg (by rw [g 0 (by decide)]) (by rw [g 121 (by decide)]) (g 1 (by decide)) (g 129 (by decide)), hW.cg (fun i a b => g i (by omega)) (g 122 (by decide)), hP.cg (fun i a b => g i (by omega)) (by rw [g 121 (by decide)]) (g 124 (by decide)), hS.cg (by rw [g 96 (by decide)]) (g 97 (by decide)) (g 98 (by decide)) (by rw [g 121 (by decide)]) (g 127 (by decide)) (g 128 (by decide)), ?_, hK.cg (by rw [g 0 (by decide)]) (g 122 (by decide)) (g 89 (by decide)) (g 93 (by decide)), by rw [g 135 (by decide)]; exact h5⟩
  rcases (show i = 0 ∨ i = 1 by omega) with rfl | rfl
  · subst hb
    exact ⟨mine, oth 110 1 rfl (by decide) (by decide) hI.2⟩
  · subst hb
    exact ⟨oth 100 0 rfl (by decide) (by decide) hI.1, mine⟩
theorem kee_M2 {b i np nd nh : Nat} (h : IV M f) (hb : b = 100 + 10 * i) (hi : i < 2) (hw : CW M 7 (M 122) np nd nh) (hv : upN (M 122) np = upN (M 122) np) (h7 : CT m7_keep 3 [.ref 0, .int (nI i)] M V f (RM (some (.int (upN (M 122) np))) (am_up (cpW M b 7) 120 i 1) V f)) : ST m7_keep 3 m8_keep 3 [.int (nI i)] M V f := by
  have c : ∀ k, ¬ (b ≤ k ∧ k ≤ b + 9) → k ≠ 120 → am_up (cpW M b 7) 120 i 1 k = M k := fun k a d => by rw [am_up_ne d, cpW_o (by omega)]
  have e122 : am_up (cpW M b 7) 120 i 1 122 = M 122 := c 122 (by omega) (by decide)
  have e125 : am_up (cpW M b 7) 120 i 1 125 = M 125 := c 125 (by omega) (by decide)
  have e126 : am_up (cpW M b 7) 120 i 1 126 = M 126 := c 126 (by omega) (by decide)
  have h8 := q8_kee (M := am_up (cpW M b 7) 120 i 1) (V := V) (f := f) (np := np) (nd := nd) (nh := nh) (by rw [e122]; exact hw.1) hi
  rw [e122] at h8
  refine ST.rm h7 h8 (kee_IV h hb hi (fun k a d e1 e2 => by rw [am_up_ne e2, row_ne e1]; exact c k a d) ?_ (fun k hk => ?_) up_eq (fun k hk => ?_) (fun j k hk => ?_) ⟨np, nd, nh, ?_⟩) rfl
  · rw [am_up_ne (by decide), row_ne (by decide), up_eq]
  · rw [am_up_ne (by decide), row_ne (by decide), up_ne hk, cpW_o (by omega)]
  · rw [up_ne hk, row_ne (by decide), e126]
  · rw [am_up_ne (by decide), row_at, e125]
    by_cases hj : j = i
    · subst hj
      rw [if_pos rfl, cp_in hk, Nat.zero_add]
    · rw [if_neg hj, cp_out (by omega)]
  · exact (CW.copy (b := b) hw).keepR (fun k a d => by rw [am_up_ne (by omega), row_ne (by omega), am_up_ne (by omega)])
theorem st_keep (h : IV M f) (i : Int32) : ST m7_keep 3 m8_keep 3 [.int i] M V f := by
  obtain ⟨np, nd, nh, wd, gp, W, hw, hf⟩ := h.2.1.get
  by_cases hi : vI i 2
  · obtain ⟨k, hk, rfl⟩ := hi
    rcases (show k = 0 ∨ k = 1 by omega) with rfl | rfl
    · exact kee_M2 (b := 100) h rfl (by decide) hw rfl (q7_kee0 hw)
    · exact kee_M2 (b := 110) h rfl (by decide) hw rfl (q7_kee1 hw)
  · exact ST.rv h (q7_keeF hi) (q8_keeF hi) rfl
theorem bac_M2 {b i np nd nh : Nat} (h : IV M f) (hb : b = 100 + 10 * i) (hi : i < 2) (hk : M 126 i = 1) (hc : CW M b (imM M i) np nd nh) (hE : WE (imM M i)) (h7 : CT m7_back 3 [.ref 0, .int (nI i)] M V f (RM (some (.int (upN (imM M i) np))) (am_up (am_up (cpW M 7 b) 27 1 0) 0 7 0) V f)) : ST m7_back 3 m8_back 3 [.int (nI i)] M V f := by
  have c : ∀ k, ¬ (7 ≤ k ∧ k ≤ 16) → k ≠ 0 → k ≠ 27 → am_up (am_up (cpW M 7 b) 27 1 0) 0 7 0 k = M k := fun k a d e => by rw [am_up_ne d, am_up_ne e, cpW_o (by omega)]
  have e121 := c 121 (by omega) (by decide) (by decide)
  have e122 := c 122 (by omega) (by decide) (by decide)
  have e124 := c 124 (by omega) (by decide) (by decide)
  have e125 := c 125 (by omega) (by decide) (by decide)
  have e126 := c 126 (by omega) (by decide) (by decide)
  have er : ∀ k, k < 69 → va_cpy (M 125) (M 122) (69 * i) 0 69 k = imM M i k := fun k hk => by
    have e := cp_in (f := M 125) (g := M 122) (sp := 69 * i) (dp := 0) (n := 69) (i := k) hk
    rw [Nat.zero_add] at e
    exact e
  have h8 := q8_bac (M := am_up (am_up (cpW M 7 b) 27 1 0) 0 7 0) (V := V) (f := f) (np := np) (nd := nd) (nh := nh) hi (by rw [e126]; exact hk) (by rw [e125, e122]; exact hc.1.cg er)
  rw [e125, e122] at h8
  obtain ⟨u, p1, p2, p3⟩ := h.2.2.1
  refine ST.rm h7 h8 (h.wall (h.1.cg ?_ ?_ ?_ ?_) ⟨⟨np, nd, nh, ?_⟩, ?_⟩ ⟨0, ⟨?_, by decide, p1.2.2.1, p1.2.2.2.1, fun j hj => absurd hj (Nat.not_lt_zero j)⟩, rfl, fun j hj => absurd hj (Nat.not_lt_zero j)⟩ ?_ (fun k a d e1 _ _ => ?_) ?_) (upN_cg er np hc.n5).symm
  · rw [am_up_ne (by decide), row_ne (by decide), up_ne (by decide), am_up_ne (by decide), cpW_o (by decide)]
  · rw [up_ne (by decide), row_ne (by decide), e121]
  · rw [am_up_ne (by decide), row_ne (by decide)]; exact c 1 (by decide) (by decide) (by decide)
  · rw [am_up_ne (by decide), row_ne (by decide)]; exact c 129 (by decide) (by decide) (by decide)
  · rw [show am_up (am_row (am_up (am_up (cpW M 7 b) 27 1 0) 0 7 0) 122 (va_cpy (M 125) (M 122) (69 * i) 0 69)) 121 3 0 122 = va_cpy (M 125) (M 122) (69 * i) 0 69 from by rw [am_up_ne (by decide), row_at]]
    exact ((CW.copy (b := 7) hc).keepR (fun k a d => by rw [am_up_ne (by omega), row_ne (by omega), am_up_ne (by omega), am_up_ne (by omega)])).cg er
  · rw [show am_up (am_row (am_up (am_up (cpW M 7 b) 27 1 0) 0 7 0) 122 (va_cpy (M 125) (M 122) (69 * i) 0 69)) 121 3 0 122 = va_cpy (M 125) (M 122) (69 * i) 0 69 from by rw [am_up_ne (by decide), row_at]]
    exact hE.cg er
  · rw [am_up_ne (by decide), row_ne (by decide), am_up_ne (by decide), up_eq]; rfl
  · rw [am_up_ne (by decide), row_ne (by decide), up_eq]
  · rw [am_up_ne d, row_ne e1]; exact c k (by omega) (by omega) (by omega)
  · rw [up_ne (by decide), row_ne (by decide), e121]
theorem st_back (h : IV M f) (i : Int32) : ST m7_back 3 m8_back 3 [.int i] M V f := by
  by_cases hi : vI i 2
  · obtain ⟨k, hk, rfl⟩ := hi
    rcases (show k = 0 ∨ k = 1 by omega) with rfl | rfl
    · rcases h.2.2.2.2.1.1 with ⟨g1, g2⟩ | ⟨g1, g2, ⟨np, nd, nh, g3⟩, g4⟩
      · exact ST.rv h (q7_bacN0 g1) (q8_bacN (i := 0) (by decide) g2) rfl
      · exact bac_M2 (b := 100) h rfl (by decide) g2 g3 g4 (q7_bac0 g3 g1)
    · rcases h.2.2.2.2.1.2 with ⟨g1, g2⟩ | ⟨g1, g2, ⟨np, nd, nh, g3⟩, g4⟩
      · exact ST.rv h (q7_bacN1 g1) (q8_bacN (i := 1) (by decide) g2) rfl
      · exact bac_M2 (b := 110) h rfl (by decide) g2 g3 g4 (q7_bac1 g3 g1)
  · exact ST.rv h (q7_bacF hi) (q8_bacF hi) rfl
end CES
/-- a row as it is read: in order, nothing hangs -/
def WR (w : rN) (np nd nh : Nat) : Prop := RW w np nd nh ∧ (∀ p, p < np → ∃ a, 1 ≤ a ∧ a ≤ 9 ∧ w (4 + 4 * p) = nI a) ∧ (∀ p, p < np → ∃ a, a ≤ 9 ∧ w (4 + 4 * p + 3) = nI a) ∧ (∃ W, W ≤ 40 ∧ w 0 = nI W) ∧ (∃ g, g ≤ 9 ∧ w 2 = nI g) ∧ ∀ i, i < 5 → w (64 + i) = -9
theorem WR.WE {w : rN} {np nd nh : Nat} (h : WR w np nd nh) : WE w := by
  obtain ⟨h0, h1, h2, ⟨W, hW9, hW⟩, ⟨g, hg, hg2⟩, h5⟩ := h
  have h6 : ∀ p, ∃ a, p < np → 1 ≤ a ∧ a ≤ 9 ∧ w (4 + 4 * p) = nI a := fun p => by
    by_cases hp : p < np
    · obtain ⟨a, ha⟩ := h1 p hp
      exact ⟨a, fun _ => ha⟩
    · exact ⟨0, fun q => absurd q hp⟩
  obtain ⟨wd, hwd⟩ := Classical.axiomOfChoice h6
  have n5 := h0.2.1
  refine ⟨np, nd, nh, wd, g, W, h0, ⟨fun p hp => ⟨(hwd p hp).2.2, (hwd p hp).1, (hwd p hp).2.1⟩, hg2, hg⟩, fun p hp => ?_, hW, hW9, fun p hp => Or.inl (h5 p (by omega)), fun p q x y hp hq hpq hx hy g1 g2 => absurd (g1.symm.trans (h5 p (by omega))) (nI_n9 (by omega))⟩
  obtain ⟨a, ha, hb⟩ := h2 p hp
  exact ⟨a, by omega, hb⟩
theorem item_WR {tx : Nat → Nat} {n np nd nh a : Nat} {told : Prop} {w : rN} {s1 : pS} (h : pItem tx n told np nd nh a w = .inr s1) (ha : a ≤ n) (hw : WR w np nd nh) : a < s1.1 ∧ s1.1 ≤ n ∧ WR s1.2 (cnI (wP tx (skP tx n a) (wlP tx n (skP tx n a))) np) (cnI (wD tx (skP tx n a) (wlP tx n (skP tx n a))) nd) (cnI (wH tx (skP tx n a) (wlP tx n (skP tx n a))) nh) := by
  obtain ⟨i1, i2, i3⟩ := item_ok h ha hw.1
  refine ⟨i1, i2, i3, ?_⟩
  obtain ⟨h0, h1, h2, ⟨W, hW9, hW⟩, ⟨g, hg, hg2⟩, h5⟩ := hw
  have n5 := h0.2.1
  have he := rnE_spec (isW tx) n (skP tx n a) (skP_le (tx := tx) ha).2
  have he2 : wlP tx n (skP tx n a) ≤ n := he.2.1
  unfold pItem at h
  by_cases hW' : wW tx (skP tx n a) (wlP tx n (skP tx n a))
  · obtain ⟨x1, x2, x3⟩ := w_WP hW'
    rw [cif_t hW'] at h
    rw [cn_f x1]
    by_cases ht : told
    · rw [cif_t ht] at h; cases h
    · rw [cif_f ht] at h
      obtain ⟨b1, b2, b3, z1, z2, z3, z4, z5, e9, l1, l2⟩ := pWall_inr h he2
      dsimp only at e9
      rw [e9]
      refine ⟨fun p hp => by rw [setw_ne (by omega), setw_ne (by omega), setw_ne (by omega)]; exact h1 p hp, fun p hp => by rw [setw_ne (by omega), setw_ne (by omega), setw_ne (by omega)]; exact h2 p hp, ⟨b1, z2, by rw [setw_ne (by decide), setw_ne (by decide), setw_eq]⟩, ⟨b3, z5, setw_eq⟩, fun i hi => by rw [setw_ne (by omega), setw_ne (by omega), setw_ne (by omega)]; exact h5 i hi⟩
  · rw [cif_f hW'] at h
    by_cases hP : wP tx (skP tx n a) (wlP tx n (skP tx n a))
    · rw [cif_t hP] at h
      rw [cn_t hP]
      by_cases ht : np = 5
      · rw [cif_t ht] at h; cases h
      · rw [cif_f ht] at h
        obtain ⟨b1, b2, b3, b4, z1, z2, z3, z4, z5, z6, z7, e9, l1, l2⟩ := pPic_inr h he2
        dsimp only at e9
        rw [e9]
        refine ⟨fun p hp => ?_, fun p hp => ?_, ⟨W, hW9, by rw [setw_ne (by omega), setw_ne (by omega), setw_ne (by omega), setw_ne (by omega), setw_ne (by omega)]; exact hW⟩, ⟨g, hg, by rw [setw_ne (by omega), setw_ne (by omega), setw_ne (by omega), setw_ne (by omega), setw_ne (by omega)]; exact hg2⟩, fun i hi => by rw [setw_ne (by omega), setw_ne (by omega), setw_ne (by omega), setw_ne (by omega), setw_ne (by omega)]; exact h5 i hi⟩
        · by_cases hpn : p = np
          · subst hpn
            exact ⟨b1, z1, z2, by rw [setw_ne (by omega), setw_ne (by omega), setw_ne (by omega), setw_ne (by omega), setw_eq]⟩
          · rw [setw_ne (by omega), setw_ne (by omega), setw_ne (by omega), setw_ne (by omega), setw_ne (by omega)]; exact h1 p (by omega)
        · by_cases hpn : p = np
          · subst hpn
            exact ⟨b4, z7, by rw [setw_ne (by omega), setw_eq]⟩
          · rw [setw_ne (by omega), setw_ne (by omega), setw_ne (by omega), setw_ne (by omega), setw_ne (by omega)]; exact h2 p (by omega)
    · rw [cif_f hP] at h
      rw [cn_f hP]
      by_cases hD : wD tx (skP tx n a) (wlP tx n (skP tx n a))
      · rw [cif_t hD] at h
        by_cases ht : nd = 3
        · rw [cif_t ht] at h; cases h
        · rw [cif_f ht] at h
          have n3 := h0.2.2.2.1
          obtain ⟨b1, b2, z1, z2, e9, l1, l2⟩ := pDoor_inr h he2
          dsimp only at e9
          rw [e9]
          exact ⟨fun p hp => by rw [setw_ne (by omega), setw_ne (by omega), setw_ne (by omega)]; exact h1 p hp, fun p hp => by rw [setw_ne (by omega), setw_ne (by omega), setw_ne (by omega)]; exact h2 p hp, ⟨W, hW9, by rw [setw_ne (by omega), setw_ne (by omega), setw_ne (by omega)]; exact hW⟩, ⟨g, hg, by rw [setw_ne (by omega), setw_ne (by omega), setw_ne (by omega)]; exact hg2⟩, fun i hi => by rw [setw_ne (by omega), setw_ne (by omega), setw_ne (by omega)]; exact h5 i hi⟩
      · rw [cif_f hD] at h
        by_cases hH : wH tx (skP tx n a) (wlP tx n (skP tx n a))
        · rw [cif_t hH] at h
          by_cases ht : nh = 16
          · rw [cif_t ht] at h; cases h
          · rw [cif_f ht] at h
            have n16 := h0.2.2.2.2.2
            obtain ⟨b1, b2, z1, z2, z3, e9, l1, l2⟩ := pHole_inr h he2
            dsimp only at e9
            rw [e9]
            exact ⟨fun p hp => by rw [setw_ne (by omega), setw_ne (by omega), setw_ne (by omega)]; exact h1 p hp, fun p hp => by rw [setw_ne (by omega), setw_ne (by omega), setw_ne (by omega)]; exact h2 p hp, ⟨W, hW9, by rw [setw_ne (by omega), setw_ne (by omega), setw_ne (by omega)]; exact hW⟩, ⟨g, hg, by rw [setw_ne (by omega), setw_ne (by omega), setw_ne (by omega)]; exact hg2⟩, fun i hi => by rw [setw_ne (by omega), setw_ne (by omega), setw_ne (by omega)]; exact h5 i hi⟩
        · rw [cif_f hH] at h; cases h
theorem all_WR {tx : Nat → Nat} {n : Nat} : ∀ (k : Nat) (told : Prop) (np nd nh i a : Nat) (w : rN) (s : pS), pAll tx n k told np nd nh i a w = .inr s → a ≤ n → WR w np nd nh → s.1 ≤ i + k ∧ ∃ np nd nh, WR s.2 np nd nh
  | 0, _, _, _, _, _, _, _, _, h, _, _ => by cases h
  | k + 1, told, np, nd, nh, i, a, w, s, h, ha, hw => by
    have e : pAll tx n (k + 1) told np nd nh i a w = cif (a < n) (match pItem tx n told np nd nh a w with
      | .inl p => .inl p
      | .inr s1 => cif (skP tx n s1.1 < n ∧ tx (skP tx n s1.1) = 59) (pAll tx n k (told ∨ wW tx (skP tx n a) (wlP tx n (skP tx n a))) (cnI (wP tx (skP tx n a) (wlP tx n (skP tx n a))) np) (cnI (wD tx (skP tx n a) (wlP tx n (skP tx n a))) nd) (cnI (wH tx (skP tx n a) (wlP tx n (skP tx n a))) nh) (i + 1) (skP tx n (skP tx n s1.1 + 1)) s1.2) (.inl (skP tx n s1.1))) (.inr (i, w)) := rfl
    rw [e] at h
    by_cases hlt : a < n
    · rw [cif_t hlt] at h
      cases hp : pItem tx n told np nd nh a w with
      | inl p => rw [hp] at h; cases h
      | inr s1 =>
        rw [hp] at h
        obtain ⟨i1, i2, i3⟩ := item_WR hp ha hw
        dsimp only at h
        by_cases h59 : skP tx n s1.1 < n ∧ tx (skP tx n s1.1) = 59
        · rw [cif_t h59] at h
          obtain ⟨q1, q2⟩ := all_WR k _ _ _ _ _ _ _ _ h (skP_le h59.1).2 i3
          exact ⟨by omega, q2⟩
        · rw [cif_f h59] at h; cases h
    · rw [cif_f hlt] at h
      cases h
      exact ⟨by show i ≤ _; omega, np, nd, nh, hw⟩
theorem bare_WR {g : rN} : WR (bareR g) 0 0 0 := ⟨bareR_RW g, fun p hp => absurd hp (Nat.not_lt_zero p), fun p hp => absurd hp (Nat.not_lt_zero p), ⟨20, by decide, rfl⟩, ⟨0, by decide, rfl⟩, bare_9⟩
theorem st_tells {M : am_I} {V : am_J} {f : Nat → Option Nat} (h : IV M f) : ST m7_tells 10 m8_tells 7 [] M V f := by
  obtain ⟨nl, tx, l0, l1, l2, l3⟩ := h.1
  obtain ⟨np, nd, nh, wd, gp, W, hw, hf⟩ := h.2.1.get
  obtain ⟨u, p1, p2, p3⟩ := h.2.2.1
  have hX : TX M tx nl := ⟨l0, fun y hy => ⟨(l3 y hy).1, (l3 y hy).2.2⟩⟩
  cases hr : pAll tx nl 121 False 0 0 0 0 (skP tx nl 0) (bareR (M 123)) with
  | inl p =>
    refine (q7_tellsF hX l1 (M 123) hr).weaken (fun v M1 V1 f1 hh => ?_)
    obtain ⟨g1, rfl, rfl, g4⟩ := hh
    have e121 := g4 121 (by decide) (by decide)
    refine ⟨_, g1, (q8_tellsF (M := M1) (tx := tx) (n := nl) (by rw [e121]; exact l2) l0 (fun y hy => by rw [g4 129 (by decide) (by decide)]; exact (l3 y hy).2) (by rw [g4 123 (by decide) (by decide)]; exact hr)).weaken (fun v M2 V2 f2 hh => ?_)⟩
    obtain ⟨b1, -, rfl, b4⟩ := hh
    refine ⟨b1, h.keep (fun i a b c d e1 e2 _ => (b4.1 i e2 e1).trans (g4 i c d)) ?_ ?_ ?_ ?_⟩
    · rw [b4.2 3 (by decide) (by decide) (by decide), e121]
    · rw [b4.2 6 (by decide) (by decide) (by decide), e121]
    · rw [b4.2 10 (by decide) (by decide) (by decide), e121]
    · rw [b4.1 135 (by decide) (by decide), g4 135 (by decide) (by decide)]; exact h.2.2.2.2.2.2
  | inr s =>
    obtain ⟨s1, n1, n2, n3, s2⟩ := all_WR 121 _ _ _ _ _ _ _ _ hr (skP_le (Nat.zero_le _)).2 bare_WR
    refine (q7_tellsS hX l1 (M 123) hr p1 hw).weaken (fun v M1 V1 f1 hh => ?_)
    obtain ⟨g1, rfl, g3, ⟨m1, m2, m3, g4⟩, g5, g6, g7, g8, g9⟩ := hh
    have e121 := g9 121 (by decide)
    refine ⟨_, g1, (q8_tellsS (M := M1) (tx := tx) (n := nl) (s := s) (u := u) (by rw [e121]; exact l2) l0 (fun y hy => by rw [g9 129 (by decide)]; exact (l3 y hy).2) (by rw [g9 123 (by decide)]; exact hr) (by omega) (by rw [e121]; exact p2) p1.2.1).weaken (fun v M2 V2 f2 hh => ?_)⟩
    obtain ⟨b1, -, rfl, b4, b5, b6, b7, b8, b9⟩ := hh
    refine ⟨b1, h.wall ⟨0, tx, by decide, ?_, b9, fun y hy => absurd hy (Nat.not_lt_zero y)⟩ ⟨⟨m1, m2, m3, ?_⟩, s2.WE.cg b6⟩ (IP.kp p3 p1.2.1 h.2.1.2 g3 (fun i a b => b4 i (by omega) (by omega) (by omega) (by omega)) b8 (by rw [b5, g9 124 (by decide), g9 122 (by decide)])) ?_ (fun i a b c d e => (b4 i b c d e).trans (g9 i a)) ?_⟩
    · rw [b4 0 (by decide) (by decide) (by decide) (by decide)]; exact g6
    · exact (g4.keepR (fun i a b => b4 i (by omega) (by omega) (by omega) (by omega))).cg b6
    · rw [b4 0 (by decide) (by decide) (by decide) (by decide)]; exact g5
    · rw [b7 6 (by decide) (by decide) (by decide) (by decide) (by decide), e121]
