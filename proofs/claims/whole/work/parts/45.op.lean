/-! The calls that ask, and those that change the text or what was seen. -/
theorem IV.keep {M M' : am_I} {f : Nat → Option Nat} (h : IV M f) (e : ∀ i, i ≠ 95 → i ≠ 135 → ¬ (2 ≤ i ∧ i ≤ 6) → ¬ (17 ≤ i ∧ i ≤ 26) → i ≠ 123 → i ≠ 121 → ¬ (130 ≤ i ∧ i ≤ 134) → M' i = M i) (e3 : M' 121 3 = M 121 3) (e6 : M' 121 6 = M 121 6) (e10 : M' 121 10 = M 121 10) (e135 : M' 135 0 = 0) : IV M' f := by
  obtain ⟨hA, hW, hP, hS, hI, hK, -⟩ := h
  have g : ∀ i, i ≠ 95 → i ≠ 135 → i ≠ 121 → ¬ (2 ≤ i ∧ i ≤ 6) → ¬ (17 ≤ i ∧ i ≤ 26) → i ≠ 123 → ¬ (130 ≤ i ∧ i ≤ 134) → M' i = M i := fun i a b c d e1 f1 g1 => e i a b d e1 f1 c g1
  exact ⟨hA.cg (by rw [g 0 (by decide) (by decide) (by decide) (by decide) (by decide) (by decide) (by decide)]) e10 (g 1 (by decide) (by decide) (by decide) (by decide) (by decide) (by decide) (by decide)) (g 129 (by decide) (by decide) (by decide) (by decide) (by decide) (by decide) (by decide)),
    hW.cg (fun i a b => g i (by omega) (by omega) (by omega) (by omega) (by omega) (by omega) (by omega)) (g 122 (by decide) (by decide) (by decide) (by decide) (by decide) (by decide) (by decide)),
    hP.cg (fun i a b => g i (by omega) (by omega) (by omega) (by omega) (by omega) (by omega) (by omega)) e3 (g 124 (by decide) (by decide) (by decide) (by decide) (by decide) (by decide) (by decide)),
    hS.cg (by rw [g 96 (by decide) (by decide) (by decide) (by decide) (by decide) (by decide) (by decide)]) (g 97 (by decide) (by decide) (by decide) (by decide) (by decide) (by decide) (by decide)) (g 98 (by decide) (by decide) (by decide) (by decide) (by decide) (by decide) (by decide)) e6 (g 127 (by decide) (by decide) (by decide) (by decide) (by decide) (by decide) (by decide)) (g 128 (by decide) (by decide) (by decide) (by decide) (by decide) (by decide) (by decide)),
    hI.cg (g 120 (by decide) (by decide) (by decide) (by decide) (by decide) (by decide) (by decide)) (g 126 (by decide) (by decide) (by decide) (by decide) (by decide) (by decide) (by decide)) (fun k a b => g k (by omega) (by omega) (by omega) (by omega) (by omega) (by omega) (by omega)) (g 125 (by decide) (by decide) (by decide) (by decide) (by decide) (by decide) (by decide)),
    hK.cg (by rw [g 0 (by decide) (by decide) (by decide) (by decide) (by decide) (by decide) (by decide)]) (g 122 (by decide) (by decide) (by decide) (by decide) (by decide) (by decide) (by decide)) (g 89 (by decide) (by decide) (by decide) (by decide) (by decide) (by decide) (by decide)) (g 93 (by decide) (by decide) (by decide) (by decide) (by decide) (by decide) (by decide)), e135⟩
theorem IV.text {M M' : am_I} {f : Nat → Option Nat} (h : IV M f) (hA : IA M') (e : ∀ i, i ≠ 0 → i ≠ 1 → i ≠ 121 → i ≠ 129 → M' i = M i) (e7 : M' 0 7 = M 0 7) (e3 : M' 121 3 = M 121 3) (e6 : M' 121 6 = M 121 6) : IV M' f := by
  obtain ⟨-, hW, hP, hS, hI, hK, h5⟩ := h
  exact ⟨hA, hW.cg (fun i a b => e i (by omega) (by omega) (by omega) (by omega)) (e 122 (by decide) (by decide) (by decide) (by decide)),
    hP.cg (fun i a b => e i (by omega) (by omega) (by omega) (by omega)) e3 (e 124 (by decide) (by decide) (by decide) (by decide)),
    hS.cg (by rw [e 96 (by decide) (by decide) (by decide) (by decide)]) (e 97 (by decide) (by decide) (by decide) (by decide)) (e 98 (by decide) (by decide) (by decide) (by decide)) e6 (e 127 (by decide) (by decide) (by decide) (by decide)) (e 128 (by decide) (by decide) (by decide) (by decide)),
    hI.cg (e 120 (by decide) (by decide) (by decide) (by decide)) (e 126 (by decide) (by decide) (by decide) (by decide)) (fun k a b => e k (by omega) (by omega) (by omega) (by omega)) (e 125 (by decide) (by decide) (by decide) (by decide)),
    hK.cg e7 (e 122 (by decide) (by decide) (by decide) (by decide)) (e 89 (by decide) (by decide) (by decide) (by decide)) (e 93 (by decide) (by decide) (by decide) (by decide)), by rw [e 135 (by decide) (by decide) (by decide) (by decide)]; exact h5⟩
theorem IV.seen {M M' : am_I} {f : Nat → Option Nat} (h : IV M f) (hS : IS M') (e : ∀ i, i ≠ 96 → i ≠ 97 → i ≠ 98 → i ≠ 121 → i ≠ 127 → i ≠ 128 → M' i = M i) (e3 : M' 121 3 = M 121 3) (e10 : M' 121 10 = M 121 10) : IV M' f := by
  obtain ⟨hA, hW, hP, -, hI, hK, h5⟩ := h
  have g : ∀ i, (i < 96 ∨ (98 < i ∧ i < 121) ∨ (121 < i ∧ i < 127) ∨ 128 < i) → M' i = M i := fun i q => e i (by omega) (by omega) (by omega) (by omega) (by omega) (by omega)
  exact ⟨hA.cg (by rw [g 0 (by decide)]) e10 (g 1 (by decide)) (g 129 (by decide)), hW.cg (fun i a b => g i (by omega)) (g 122 (by decide)), hP.cg (fun i a b => g i (by omega)) e3 (g 124 (by decide)), hS, hI.cg (g 120 (by decide)) (g 126 (by decide)) (fun k a b => g k (by omega)) (g 125 (by decide)), hK.cg (by rw [g 0 (by decide)]) (g 122 (by decide)) (g 89 (by decide)) (g 93 (by decide)), by rw [g 135 (by decide)]; exact h5⟩
section OPS
variable {M : am_I} {V : am_J} {f : Nat → Option Nat}
theorem st_picture (h : IV M f) (p what : Int32) : ST m7_picture 3 m8_picture 3 [.int p, .int what] M V f := by
  obtain ⟨np, nd, nh, wd, gp, W, hw, hf⟩ := h.2.1.get
  by_cases hp : vI p np
  · obtain ⟨j, hj, rfl⟩ := hp
    by_cases hq : vI what 6
    · obtain ⟨k, hk, rfl⟩ := hq
      rcases (show k = 0 ∨ k = 1 ∨ k = 2 ∨ k = 3 ∨ k = 4 ∨ k = 5 by omega) with rfl | rfl | rfl | rfl | rfl | rfl
      · exact ST.rv h (q7_pic0 hw hj) (q8_pic0 hw.1 hj) rfl
      · exact ST.rv h (q7_pic1 hw hj) (q8_pic1 hw.1 hj) rfl
      · exact ST.rv h (q7_pic2 hw hj) (q8_pic2 hw.1 hj) rfl
      · exact ST.rv h (q7_pic3 hw hj) (q8_pic3 hw.1 hj) rfl
      · exact ST.rv h (q7_pic4 hw hj) (q8_pic4 hw.1 hj) rfl
      · exact ST.rv h (q7_pic5 hw hj) (q8_pic5 hw.1 hj) rfl
    · exact ST.rv h (q7_picW hw hj hq) (q8_picW hw.1 hj hq) rfl
  · exact ST.rv h (q7_picF hw hp what) (q8_picF hw.1 hp what) rfl
theorem st_hole (h : IV M f) (p what : Int32) : ST m7_hole 4 m8_hole 4 [.int p, .int what] M V f := by
  obtain ⟨np, nd, nh, wd, gp, W, hw, hf⟩ := h.2.1.get
  by_cases hp : vI p nh
  · obtain ⟨j, hj, rfl⟩ := hp
    by_cases hq : vI what 3
    · obtain ⟨k, hk, rfl⟩ := hq
      rcases (show k = 0 ∨ k = 1 ∨ k = 2 by omega) with rfl | rfl | rfl
      · exact ST.rv h (q7_hol0 hw hj) (q8_hol0 hw.1 hj) rfl
      · exact ST.rv h (q7_hol1 hw hj) (q8_hol1 hw.1 hj) rfl
      · exact ST.rv h (q7_hol2 hw hj) (q8_hol2 hw.1 hj) (la_dl (on_un hf)).symm
    · exact ST.rv h (q7_holW hw hj hq) (q8_holW hw.1 hj hq) rfl
  · exact ST.rv h (q7_holF hw hp what) (q8_holF hw.1 hp what) rfl
theorem st_door (h : IV M f) (p what : Int32) : ST m7_door 2 m8_door 2 [.int p, .int what] M V f := by
  obtain ⟨np, nd, nh, wd, gp, W, hw, hf⟩ := h.2.1.get
  by_cases hp : vI p nd
  · obtain ⟨j, hj, rfl⟩ := hp
    by_cases hq : vI what 2
    · obtain ⟨k, hk, rfl⟩ := hq
      rcases (show k = 0 ∨ k = 1 by omega) with rfl | rfl
      · exact ST.rv h (q7_doo0 hw hj) (q8_doo0 hw.1 hj) rfl
      · exact ST.rv h (q7_doo1 hw hj) (q8_doo1 hw.1 hj) rfl
    · exact ST.rv h (q7_dooW hw hj hq) (q8_dooW hw.1 hj hq) rfl
  · exact ST.rv h (q7_dooF hw hp what) (q8_dooF hw.1 hp what) rfl
theorem st_moment (h : IV M f) (what : Int32) : ST m7_moment 5 m8_moment 5 [.int what] M V f := by
  obtain ⟨np, nd, nh, wd, gp, W, hw, hf⟩ := h.2.1.get
  by_cases hq : vI what 2
  · obtain ⟨k, hk, rfl⟩ := hq
    rcases (show k = 0 ∨ k = 1 by omega) with rfl | rfl
    · exact ST.rv h (q7_mom0 hw) (q8_mom0 hw.1) rfl
    · exact ST.rv h (q7_mom1 hw) (q8_mom1 hw.1) (ab_of _)
  · exact ST.rv h (q7_momW hq) (q8_momW hw.1 hq) rfl
theorem st_count (h : IV M f) (what : Int32) : ST m7_count 2 m8_count 3 [.int what] M V f := by
  obtain ⟨np, nd, nh, wd, gp, W, hw, hf⟩ := h.2.1.get
  obtain ⟨nl, tx, -, l1, l2, -⟩ := h.1
  obtain ⟨u, p1, p2, -⟩ := h.2.2.1
  obtain ⟨ns, s1, s2, -⟩ := h.2.2.2.1
  by_cases hq : vI what 10
  · obtain ⟨k, hk, rfl⟩ := hq
    rcases (show k = 0 ∨ k = 1 ∨ k = 2 ∨ k = 3 ∨ k = 4 ∨ k = 5 ∨ k = 6 ∨ k = 7 ∨ k = 8 ∨ k = 9 by omega) with rfl | rfl | rfl | rfl | rfl | rfl | rfl | rfl | rfl | rfl
    · exact ST.rv h (q7_cnt0 hw) (q8_cnt0 hw.1) rfl
    · exact ST.rv h (q7_cnt1 hw) (q8_cnt1 hw.1) rfl
    · exact ST.rv h (q7_cnt2 hw) (q8_cnt2 hw.1) rfl
    · exact ST.rv h (q7_cnt3 hw) (q8_cnt3 hw.1) hw.1.1.symm
    · exact ST.rv h (q7_cnt4 hw) (q8_cnt4 hw.1) hw.1.2.2.1.symm
    · exact ST.rv h (q7_cnt5 hw) (q8_cnt5 hw.1) hw.1.2.2.2.2.1.symm
    · exact ST.rv h (q7_cnt6 hw) (q8_cnt6 hw.1) rfl
    · exact ST.rv h (q7_cnt7 hw) (q8_cnt7 hw.1) (s1.1.trans s2.1.symm)
    · exact ST.rv h (q7_cnt8 hw) (q8_cnt8 hw.1) (l1.trans l2.symm)
    · exact ST.rv h (q7_cnt9 hw) (q8_cnt9 hw.1) (p1.1.trans p2.symm)
  · exact ST.rv h (q7_cntW hq) (q8_cntW hq) rfl
theorem st_places (h : IV M f) (p what : Int32) : ST m7_places 6 m8_places 6 [.int p, .int what] M V f := by
  obtain ⟨np, nd, nh, wd, gp, W, hw, hf⟩ := h.2.1.get
  have hW := hf.2.2.2.1
  have hW9 := hf.2.2.2.2.1
  by_cases hp : vI p np
  · obtain ⟨j, hj, rfl⟩ := hp
    have hP : ∀ i, i < 40 → (fitN (M 122) nd j (nI i) ∧ apN (M 122) np j (nI i)) → i < W := fun i hi q => fit_lt2 hf hj hi q.1
    by_cases hq : vI what 4
    · obtain ⟨k, hk, rfl⟩ := hq
      by_cases hu : M 122 (64 + j) = -9
      · have h8 := q8_pla (V := V) (f := f) hw.1 hj hk hu
        rcases (show k = 0 ∨ k = 1 ∨ k = 2 ∨ k = 3 by omega) with rfl | rfl | rfl | rfl
        · exact ST.rv h (q7_pla0 hw hj hu hW hW9) h8 ((ac_40 hW9 hP).trans (if_pos rfl).symm)
        · exact ST.rv h (q7_pla1 hw hj hu hW hW9) h8 ((dl_40 hW9 hP).trans ((if_pos (rfl : (nI 1 : Int32) = 1)).symm.trans (if_neg (by decide)).symm))
        · exact ST.rv h (q7_pla2 hw hj hu hW hW9) h8 ((dl_40 hW9 (fun i hi q => hP i hi q.1)).trans ((if_pos (rfl : (nI 2 : Int32) = 2)).symm.trans ((if_neg (by decide)).symm.trans (if_neg (by decide)).symm)))
        · exact ST.rv h (q7_pla3 hw hj hu hW hW9) h8 ((bal_40 hW9 hP (fun x => ab_of _)).trans ((if_neg (by decide)).symm.trans ((if_neg (by decide)).symm.trans (if_neg (by decide)).symm)))
      · have h8 := q8_plaU (V := V) (f := f) hw.1 hj hk hu
        rcases (show k = 0 ∨ k = 1 ∨ k = 2 ∨ k = 3 by omega) with rfl | rfl | rfl | rfl
        · exact ST.rv h (q7_plaU0 hw hj hu) h8 rfl
        · exact ST.rv h (q7_plaU1 hw hj hu) h8 rfl
        · exact ST.rv h (q7_plaU2 hw hj hu) h8 rfl
        · exact ST.rv h (q7_plaU3 hw hj hu) h8 rfl
    · exact ST.rv h (q7_plaW hw hj hq) (q8_plaW hw.1 hj hq) rfl
  · exact ST.rv h (q7_plaF hw hp what) (q8_plaF hw.1 hp what) rfl
theorem st_which (h : IV M f) (what : Int32) : ST m7_which 6 m8_which 4 [.int what] M V f := by
  obtain ⟨np, nd, nh, wd, gp, W, hw, hf⟩ := h.2.1.get
  obtain ⟨ns, s1, s2, s3⟩ := h.2.2.2.1
  have h8 := c8_which (V := V) (f := f) hw.1 s2 what
  have hse : seN (M 122) (M 97) (M 98) ns = seN (M 122) (M 127) (M 128) ns := funext (fun j => propext ⟨fun q k hk => by rw [← (s3 k hk).1, ← (s3 k hk).2]; exact q k hk, fun q k hk => by rw [(s3 k hk).1, (s3 k hk).2]; exact q k hk⟩)
  by_cases hq : vI what 2
  · obtain ⟨k, hk, rfl⟩ := hq
    rcases (show k = 0 ∨ k = 1 by omega) with rfl | rfl
    · exact ST.rv h (q7_whi0 hw s1) h8 (by rw [hse, dc_ac]; exact (if_pos rfl).symm)
    · exact ST.rv h (q7_whi1 hw s1) h8 (by rw [hse]; exact ((if_pos (rfl : (nI 1 : Int32) = 1)).symm.trans (if_neg (by decide)).symm))
  · exact ST.rv h (q7_whiW hq) h8 (by rw [if_neg (fun q : what = 0 => hq ⟨0, by decide, q⟩), if_neg (fun q : what = 1 => hq ⟨1, by decide, q⟩)])
theorem st_most (h : IV M f) : ST m7_most 7 m8_most 4 [] M V f := by
  obtain ⟨np, nd, nh, wd, gp, W, hw, hf⟩ := h.2.1.get
  have h7 := q7_most (V := V) (f := f) hw hf.2.1 hf.2.2.2.1 hf.2.2.2.2.1
  refine ST.rm h7 (q8_most (M := am_row M 95 _) (V := V) (f := f) (np := np) (nd := nd) (nh := nh) (gp := gp) (wd := wd) hw.1 hf.2.1 h.2.2.2.2.2.2) (h.keep (fun i a b _ _ _ _ _ => by rw [row_ne b, row_ne a]) rfl rfl rfl ?_) rfl
  rw [row_at]
  show (if 1 ≤ 0 ∧ 0 ≤ 2 ^ np - 1 then _ else _) = _
  rw [if_neg (by omega)]
  exact h.2.2.2.2.2.2
theorem st_best (h : IV M f) (what : Int32) : ST m7_best 12 m8_best 6 [.int what] M V f := by
  obtain ⟨np, nd, nh, wd, gp, W, hw, hf⟩ := h.2.1.get
  by_cases hq : what < 0
  · exact ST.rv h (q7_bestN hq) (q8_bestN hq) rfl
  have kb : ∀ {M1 M2 : am_I} {f1 : Nat → Option Nat}, IV M1 f1 → KB M1 M2 → IV M2 f1 := fun {M1 M2 f1} h1 hk => by
    refine h1.keep (fun i a b c d e1 e2 e3 => funext (fun k => hk i k (by omega) (Or.inl e2))) (hk 121 3 (by decide) (by decide)) (hk 121 6 (by decide) (by decide)) (hk 121 10 (by decide) (by decide)) ((hk 135 0 (by decide) (by decide)).trans h1.2.2.2.2.2.2)
  rcases h.2.2.2.2.2.1 with hk | ⟨hk, np', nd', nh', wd', gp', r, k2, k3, k4, k5, k6⟩
  · refine (q7_bestS hw hf.2.1 hf.2.2.1 hf.2.2.2.1 hf.2.2.2.2.1 hk hq).weaken (fun v M1 V1 f1 hh => ?_)
    obtain ⟨r, g1, g2, rfl, g4, g5, g6, g7, g8⟩ := hh
    have e122 : M1 122 = M 122 := g4 122 (by decide) (by decide) (by decide) (by decide)
    have i1 : IV M1 f1 := by
      obtain ⟨hA, hW, hP, hS, hI, -, h5⟩ := h
      have g : ∀ i, i ≠ 0 → i ≠ 89 → i ≠ 92 → i ≠ 93 → M1 i = M i := g4
      refine ⟨hA.cg (g5 1 (by decide)) (by rw [g 121 (by decide) (by decide) (by decide) (by decide)]) (g 1 (by decide) (by decide) (by decide) (by decide)) (g 129 (by decide) (by decide) (by decide) (by decide)), hW.cg (fun i a b => g i (by omega) (by omega) (by omega) (by omega)) e122, hP.cg (fun i a b => g i (by omega) (by omega) (by omega) (by omega)) (by rw [g 121 (by decide) (by decide) (by decide) (by decide)]) (g 124 (by decide) (by decide) (by decide) (by decide)), hS.cg (by rw [g 96 (by decide) (by decide) (by decide) (by decide)]) (g 97 (by decide) (by decide) (by decide) (by decide)) (g 98 (by decide) (by decide) (by decide) (by decide)) (by rw [g 121 (by decide) (by decide) (by decide) (by decide)]) (g 127 (by decide) (by decide) (by decide) (by decide)) (g 128 (by decide) (by decide) (by decide) (by decide)), hI.cg (g 120 (by decide) (by decide) (by decide) (by decide)) (g 126 (by decide) (by decide) (by decide) (by decide)) (fun k a b => g k (by omega) (by omega) (by omega) (by omega)) (g 125 (by decide) (by decide) (by decide) (by decide)), ?_, by rw [g 135 (by decide) (by decide) (by decide) (by decide)]; exact h5⟩
      refine Or.inr ⟨g6, np, nd, nh, wd, gp, r, ?_⟩
      rw [e122]
      exact ⟨hw.1, g7, hf.2.1, g1, g8⟩
    refine ⟨_, g2, ?_⟩
    refine (q8_best (M := M1) (np := np) (nd := nd) (nh := nh) (gp := gp) (W := W) (wd := wd) (by rw [e122]; exact hw.1) (by rw [e122]; exact hf.2.1) (by rw [e122]; exact hf.2.2.2.1) hf.2.2.2.2.1 hq).weaken (fun v' M2 V2 f2 hh => ?_)
    obtain ⟨r', b1, b2, -, rfl, b5⟩ := hh
    rw [e122] at b1 b2
    rw [BestB_un g1 b1]
    exact ⟨b2, kb i1 b5⟩
  · obtain ⟨rfl, rfl, rfl⟩ := NC.un hw.1 k2
    refine (q7_bestK k6 k3 hw.n5 hk hq).weaken (fun v M1 V1 f1 hh => ?_)
    obtain ⟨g1, rfl, rfl, rfl⟩ := hh
    refine ⟨_, g1, ?_⟩
    refine (q8_best hw.1 k4 hf.2.2.2.1 hf.2.2.2.2.1 hq).weaken (fun v' M2 V2 f2 hh => ?_)
    obtain ⟨r', b1, b2, -, rfl, b5⟩ := hh
    rw [BestB_un k5 b1]
    exact ⟨b2, kb h b5⟩
theorem st_type (h : IV M f) (x : Int32) : ST m7_type 1 m8_type 2 [.int x] M V f := by
  by_cases hx : 0 ≤ x ∧ x ≤ 255
  · obtain ⟨nl, tx, l0, l1, l2, l3⟩ := h.1
    by_cases hl : nl = 120
    · subst hl
      exact ST.rv h (q7_typL hx l1) (q8_typL hx l2) rfl
    · obtain ⟨t, ht, rfl⟩ := nI_of (Int32.not_lt.mpr hx.1)
      have ht2 : t ≤ 255 := (nI_leI (b := 255) ht (by decide)).mp hx.2
      refine ST.rm (q7_typ hx l1 (by omega)) (q8_typ (M := am_up (am_up M 1 nl (nI t)) 0 1 (nI (nl + 1))) hx l2 (by omega)) (h.text ?_ (fun i a b c d => by rw [am_up_ne c, am_up_ne d, am_up_ne a, am_up_ne b]) rfl rfl rfl) rfl
      refine ⟨nl + 1, fun y => if y = nl then t else tx y, by omega, rfl, rfl, fun y hy => ?_⟩
      dsimp only
      by_cases hyn : y = nl
      · subst hyn
        rw [if_pos rfl]
        refine ⟨?_, ?_, ht2⟩
        · show am_up M 1 y (nI t) 1 y = _
          exact up_eq
        · show am_up (am_up (am_up M 1 y (nI t)) 0 1 (nI (y + 1))) 129 y (nI t) 129 y = _
          exact up_eq
      · rw [if_neg hyn]
        obtain ⟨q1, q2, q3⟩ := l3 y (by omega)
        refine ⟨?_, ?_, q3⟩
        · show am_up M 1 nl (nI t) 1 y = _
          exact (up_ne hyn).trans q1
        · show am_up (am_up (am_up M 1 nl (nI t)) 0 1 (nI (nl + 1))) 129 nl (nI t) 129 y = _
          exact (up_ne hyn).trans q2
  · exact ST.rv h (q7_typF hx) (q8_typF hx) rfl
theorem st_clear (h : IV M f) : ST m7_clear 1 m8_clear 1 [] M V f := by
  obtain ⟨nl, tx, l0, l1, l2, l3⟩ := h.1
  exact ST.rm q7_clear (q8_clear (M := am_up M 0 1 0)) (h.text ⟨0, tx, by decide, rfl, rfl, fun y hy => absurd hy (Nat.not_lt_zero y)⟩ (fun i a b c d => by rw [am_up_ne c, am_up_ne a]) rfl rfl rfl) (l1.trans l2.symm)
theorem st_forget (h : IV M f) : ST m7_forget 1 m8_forget 1 [] M V f := by
  obtain ⟨ns, s1, s2, s3⟩ := h.2.2.2.1
  exact ST.rm q7_forget (q8_forget (M := am_up M 96 2 0)) (h.seen ⟨0, ⟨rfl, by decide, fun k hk => absurd hk (Nat.not_lt_zero k)⟩, ⟨rfl, by decide, fun k hk => absurd hk (Nat.not_lt_zero k)⟩, fun k hk => absurd hk (Nat.not_lt_zero k)⟩ (fun i a b c d _ _ => by rw [am_up_ne d, am_up_ne a]) rfl rfl) (s1.1.trans s2.1.symm)
theorem st_sees (h : IV M f) (a n : Int32) : ST m7_sees 2 m8_sees 2 [.int a, .int n] M V f := by
  by_cases ha : 0 ≤ a ∧ a ≤ 3
  · by_cases hb : -99 ≤ n ∧ n ≤ 99
    · obtain ⟨ns, s1, s2, s3⟩ := h.2.2.2.1
      by_cases hl : ns = 6
      · subst hl
        exact ST.rv h (q7_seeL ha hb s1.1) (q8_seeL ha hb s2.1) rfl
      · have hn6 : ns < 6 := by have := s1.2.1; omega
        obtain ⟨t, ht, rfl⟩ := nI_of (Int32.not_lt.mpr ha.1)
        have ht2 : t ≤ 3 := (nI_leI (b := 3) ht (by decide)).mp ha.2
        refine ST.rm (q7_see ha hb s1.1 hn6) (q8_see (M := am_up (am_up (am_up M 97 ns (nI t)) 98 ns n) 96 2 (nI (ns + 1))) ha hb s2.1 hn6) (h.seen ⟨ns + 1, ⟨rfl, by omega, fun k hk => ?_⟩, ⟨rfl, by omega, fun k hk => ?_⟩, fun k hk => ?_⟩ (fun i a b c d e1 e2 => by rw [am_up_ne d, am_up_ne e2, am_up_ne e1, am_up_ne a, am_up_ne c, am_up_ne b]) rfl rfl) rfl
        · rw [am_up_ne (by decide), am_up_ne (by decide), am_up_ne (by decide), am_up_ne (by decide), am_up_ne (by decide)]
          by_cases hkn : k = ns
          · subst hkn; exact ⟨t, by omega, up_eq⟩
          · rw [up_ne hkn]; exact s1.2.2 k (by omega)
        · rw [am_up_ne (by decide), am_up_ne (by decide)]
          by_cases hkn : k = ns
          · subst hkn; exact ⟨t, by omega, up_eq⟩
          · rw [up_ne hkn, am_up_ne (by decide), am_up_ne (by decide), am_up_ne (by decide)]; exact s2.2.2 k (by omega)
        · by_cases hkn : k = ns
          · subst hkn
            refine ⟨?_, ?_⟩
            · rw [am_up_ne (by decide), am_up_ne (by decide), am_up_ne (by decide), am_up_ne (by decide), am_up_ne (by decide), up_eq, am_up_ne (by decide), am_up_ne (by decide), up_eq]
            · rw [am_up_ne (by decide), am_up_ne (by decide), am_up_ne (by decide), am_up_ne (by decide), up_eq, am_up_ne (by decide), up_eq]
          · refine ⟨?_, ?_⟩
            · rw [am_up_ne (by decide), am_up_ne (by decide), am_up_ne (by decide), am_up_ne (by decide), am_up_ne (by decide), up_ne hkn, am_up_ne (by decide), am_up_ne (by decide), up_ne hkn, am_up_ne (by decide), am_up_ne (by decide), am_up_ne (by decide)]; exact (s3 k (by omega)).1
            · rw [am_up_ne (by decide), am_up_ne (by decide), am_up_ne (by decide), am_up_ne (by decide), up_ne hkn, am_up_ne (by decide), am_up_ne (by decide), up_ne hkn, am_up_ne (by decide), am_up_ne (by decide), am_up_ne (by decide), am_up_ne (by decide)]; exact (s3 k (by omega)).2
    · exact ST.rv h (q7_seeG ha hb) (q8_seeG ha hb) rfl
  · exact ST.rv h (q7_seeF ha) (q8_seeF ha) rfl
end OPS
