/-! The best row: the class. Marks are bits. -/
def MD (v : Int64) (W : Nat) (S : Nat → Prop) : Prop := ∀ y, v.toBitVec.toNat.testBit y = true ↔ y < W ∧ S y
theorem md_sh : ∀ x, x < 40 → ((1 : Int64) <<< ((nI x).toInt64 &&& 63)).toBitVec.toNat = 2 ^ x := by decide +kernel
theorem md_am : ∀ x, x < 40 → ((nI x).toInt64.toUInt64 &&& Int64.toUInt64 63).toNat = x := by decide +kernel
theorem MD_0 {S : Nat → Prop} : MD 0 0 S := fun y => by
  rw [show (0 : Int64).toBitVec.toNat = 0 from rfl, Nat.zero_testBit]
  exact ⟨fun h => (by cases h), fun h => absurd h.1 (Nat.not_lt_zero y)⟩
theorem MD_st {v : Int64} {x : Nat} {S : Nat → Prop} (h : MD v x S) (hx : x < 40) (hS : S x) : MD (v ||| ((1 : Int64) <<< ((nI x).toInt64 &&& 63))) (x + 1) S := fun y => by
  rw [Int64.toBitVec_or, BitVec.toNat_or, md_sh x hx, Nat.testBit_or, Bool.or_eq_true, h y, Nat.testBit_two_pow]
  constructor
  · rintro (⟨h1, h2⟩ | h1)
    · exact ⟨by omega, h2⟩
    · have e : x = y := by simpa using h1
      subst e
      exact ⟨by omega, hS⟩
  · rintro ⟨h1, h2⟩
    by_cases e : x = y
    · right; simpa using e
    · exact Or.inl ⟨by omega, h2⟩
theorem MD_no {v : Int64} {x : Nat} {S : Nat → Prop} (h : MD v x S) (hS : ¬ S x) : MD v (x + 1) S := fun y => by
  rw [h y]
  refine ⟨fun q => ⟨by omega, q.2⟩, fun q => ⟨?_, q.2⟩⟩
  by_cases e : y = x
  · subst e; exact absurd q.2 hS
  · omega
theorem MD_zero {v : Int64} {W : Nat} {S : Nat → Prop} (h : MD v W S) : v = 0 ↔ ∀ y, y < W → ¬ S y := by
  constructor
  · intro e y hy hS
    have h1 := (h y).mpr ⟨hy, hS⟩
    rw [e, show (0 : Int64).toBitVec.toNat = 0 from rfl, Nat.zero_testBit] at h1
    cases h1
  · intro h1
    have e : v.toBitVec.toNat = 0 := Nat.eq_of_testBit_eq (fun i => by
      rw [Nat.zero_testBit]
      cases hc : v.toBitVec.toNat.testBit i with
      | false => rfl
      | true => exact absurd ((h i).mp hc).2 (h1 i ((h i).mp hc).1))
    exact Int64.toBitVec_inj.mp (BitVec.eq_of_toNat_eq e)
theorem mk_bit {v : Int64} {k : Nat} (hk : k < 40) : ((v.toUInt64 >>> ((nI k).toInt64.toUInt64 &&& Int64.toUInt64 63)).toInt64 &&& 1) = 0 ↔ v.toBitVec.toNat.testBit k = false := by
  have e1 : (((v.toUInt64 >>> ((nI k).toInt64.toUInt64 &&& Int64.toUInt64 63)).toInt64 &&& 1) : Int64).toBitVec.toNat = (v.toBitVec.toNat >>> k) &&& 1 := by
    rw [Int64.toBitVec_and, BitVec.toNat_and]
    have e2 : (v.toUInt64 >>> ((nI k).toInt64.toUInt64 &&& Int64.toUInt64 63)).toNat = v.toUInt64.toNat >>> (((nI k).toInt64.toUInt64 &&& Int64.toUInt64 63).toNat % 64) := UInt64.toNat_shiftRight _ _
    rw [md_am k hk, Nat.mod_eq_of_lt (by omega)] at e2
    exact congrArg (· &&& 1) e2
  have e3 : v.toBitVec.toNat.testBit k = (1 &&& (v.toBitVec.toNat >>> k) != 0) := rfl
  rw [e3, Nat.and_comm 1, ← e1]
  constructor
  · intro h; rw [h]; rfl
  · intro h
    have h9 : ((v.toUInt64 >>> ((nI k).toInt64.toUInt64 &&& Int64.toUInt64 63)).toInt64 &&& 1 : Int64).toBitVec.toNat = 0 := by simpa using h
    exact Int64.toBitVec_inj.mp (BitVec.eq_of_toNat_eq h9)
set_option maxRecDepth 20000 in
theorem c3_mark {M : am_I} {V : am_J} {f : Nat → Option Nat} {v : Int64} {k : Nat} (hk : k < 2 ^ 30) : CT m3_isMarked 1 [Value.long v, Value.int (nI k)] M V f (RV (bi (k < 40 ∧ v.toBitVec.toNat.testBit k = true)) M V f) := by
  refine CT.of m3_isMarked_S.1 _ (en_ji_3 v (nI k)) ?_
  refine ac_iload_n 1 dX3_isMarked_0 rfl rfl ?_
  refine ac_if_lt 24 4 dX3_isMarked_1 (by decide) rfl (fun c_1 => absurd c_1 (nI_pos (by omega))) (fun _ => ?_)
  refine ac_iload_n 5 dX3_isMarked_4 rfl rfl ?_
  refine ac_bipush 7 40 dX3_isMarked_5 rfl (by decide) ?_
  refine ac_icmp_ge 24 10 dX3_isMarked_7 (by decide) rfl (fun c_7 => ?_) (fun c_7 => ?_)
  · have h40 : ¬ k < 40 := fun q => absurd ((nI_leI (a := 40) (by decide) (by omega)).mp c_7) (by omega)
    refine ac_iconst 25 0 dX3_isMarked_24 rfl (by decide) ?_
    refine ac_iret dX3_isMarked_25 ⟨_, rfl, rfl⟩ ?_
    exact rv_mk (bi_f (by first | exact fun h => h40 h.1 | exact fun h => absurd (hb.symm.trans h.2) (by decide) | exact ⟨h40, by simpa using hb⟩)).symm
  · have h40 : k < 40 := Nat.lt_of_not_le (fun q => c_7 (nI_le (a := 40) q (by omega)))
    refine ac_lload_n 11 dX3_isMarked_10 rfl rfl ?_
    refine ac_iload_n 12 dX3_isMarked_11 rfl rfl ?_
    refine ac_lushr 13 dX3_isMarked_12 rfl ?_
    refine ac_lconst 14 1 dX3_isMarked_13 rfl (by decide) ?_
    refine ac_land 15 dX3_isMarked_14 rfl ?_
    refine ac_lconst 16 0 dX3_isMarked_15 rfl (by decide) ?_
    refine ac_lcmp 17 dX3_isMarked_16 rfl ?_
    refine ac_if_eq 24 20 dX3_isMarked_17 (by decide) rfl (fun c_17 => ?_) (fun c_17 => ?_)
    · have hb := (mk_bit h40).mp ((lg_cmp_eq _ _).mp c_17)
      refine ac_iconst 25 0 dX3_isMarked_24 rfl (by decide) ?_
      refine ac_iret dX3_isMarked_25 ⟨_, rfl, rfl⟩ ?_
      exact rv_mk (bi_f (by first | exact fun h => h40 h.1 | exact fun h => absurd (hb.symm.trans h.2) (by decide) | exact ⟨h40, by simpa using hb⟩)).symm
    · have hb : ¬ v.toBitVec.toNat.testBit k = false := fun q => c_17 ((lg_cmp_eq _ _).mpr ((mk_bit h40).mpr q))
      refine ac_iconst 21 1 dX3_isMarked_20 rfl (by decide) ?_
      refine ac_goto 25 dX3_isMarked_21 (by decide) ?_
      refine ac_iret dX3_isMarked_25 ⟨_, rfl, rfl⟩ ?_
      exact rv_mk (bi_t (by first | exact fun h => h40 h.1 | exact fun h => absurd (hb.symm.trans h.2) (by decide) | exact ⟨h40, by simpa using hb⟩)).symm
theorem c3_markD {M : am_I} {V : am_J} {f : Nat → Option Nat} {v : Int64} {k W : Nat} {S : Nat → Prop} (h : MD v W S) (hW : W ≤ 40) (hk : k < 2 ^ 30) : CT m3_isMarked 1 [.long v, .int (nI k)] M V f (RV (bi (k < W ∧ S k)) M V f) := by
  have h1 := c3_mark (M := M) (V := V) (f := f) (v := v) hk
  rw [bi_congr (show (k < 40 ∧ v.toBitVec.toNat.testBit k = true) ↔ (k < W ∧ S k) from by
    rw [h k]
    exact ⟨fun q => q.2, fun q => ⟨by omega, q⟩⟩)] at h1
  exact h1
theorem up_off {α : Type} {M : Nat → Nat → α} {r k i j : Nat} {v : α} (h : ¬ (i = r ∧ j = k)) : am_up M r k v i j = M i j := by
  unfold am_up
  by_cases h1 : i = r
  · rw [if_pos h1, if_neg (fun e => h ⟨h1, e⟩)]
  · rw [if_neg h1]
set_option maxRecDepth 20000 in
theorem c3_marks {M : am_I} {V : am_J} {f : Nat → Option Nat} {w : rN} {np nd nh W j : Nat} (hw : CW M 7 w np nd nh) (hW : w 0 = nI W) (hW9 : W ≤ 40) (hj : j < np) : CT m3_markPlaces 4 [Value.ref 89, Value.ref 7, Value.int (nI j)] M V f (fun v M' V' f' => v = none ∧ M' = M ∧ f' = f ∧ (∀ i k, ¬ (i = 90 ∧ k = j) → ¬ (i = 91 ∧ k = j) → V' i k = V i k) ∧ MD (V' 90 j) W (FB w nd j) ∧ MD (V' 91 j) W (fun x => FB w nd j x ∧ HB w nh j x)) := by
  have h5 := hw.n5
  refine CT.of m3_markPlaces_V.1 _ (en_aai_4 89 7 (nI j)) ?_
  refine ac_aload_n 1 dX3_markPlaces_0 rfl rfl ?_
  refine ac_iload_n 2 dX3_markPlaces_1 rfl rfl ?_
  refine ac_callV (μ' := m6_hasPicture) 5 dX3_markPlaces_2 rfl lk3_77 m6_hasPicture_V ob7 (c6_hasPictureT hw hj) rfl rfl (by decide) (Nat.le_of_ble_eq_true rfl) ?_
  refine ac_if_ne 9 8 dX3_markPlaces_5 (by decide) rfl (fun _ => ?_) (fun c_5 => absurd c_5 (by decide))
  refine ac_aload_n 10 dX3_markPlaces_9 rfl rfl ?_
  refine ac_getO 13 90 dX3_markPlaces_10 rfl fl3_9 ob89 rfl ?_
  refine ac_iload_n 14 dX3_markPlaces_13 rfl rfl ?_
  refine ac_lconst 15 0 dX3_markPlaces_14 rfl (by decide) ?_
  refine ac_last 16 dX3_markPlaces_15 rfl ar90 (ix_nI (by omega) (by decide)) ?_
  refine ac_aload_n 17 dX3_markPlaces_16 rfl rfl ?_
  refine ac_getO 20 91 dX3_markPlaces_17 rfl fl3_15 ob89 rfl ?_
  refine ac_iload_n 21 dX3_markPlaces_20 rfl rfl ?_
  refine ac_lconst 22 0 dX3_markPlaces_21 rfl (by decide) ?_
  refine ac_last 23 dX3_markPlaces_22 rfl ar91 (ix_nI (by omega) (by decide)) ?_
  refine ac_iconst 24 0 dX3_markPlaces_23 rfl (by decide) ?_
  refine ac_istore_n 25 [some (Value.ref 89), some (Value.ref 7), some (Value.int (nI j)), some (Value.int 0)] dX3_markPlaces_24 rfl rfl (Nat.le_of_ble_eq_true rfl) (by decide) rfl ?_
  refine ac_down (n := W) (P := fun x => ∀ (V1 : am_J), ((∀ i k, ¬ (i = 90 ∧ k = j) → ¬ (i = 91 ∧ k = j) → V1 i k = V i k) ∧ MD (V1 90 j) x (FB w nd j) ∧ MD (V1 91 j) x (fun x => FB w nd j x ∧ HB w nh j x)) → A0 m3_markPlaces 4 25 [some (Value.ref 89), some (Value.ref 7), some (Value.int (nI j)), some (Value.int (nI x))] [] M V1 f (fun v M' V' f' => v = none ∧ M' = M ∧ f' = f ∧ (∀ i k, ¬ (i = 90 ∧ k = j) → ¬ (i = 91 ∧ k = j) → V' i k = V i k) ∧ MD (V' 90 j) W (FB w nd j) ∧ MD (V' 91 j) W (fun x => FB w nd j x ∧ HB w nh j x))) ?_ ?_ 0 (Nat.zero_le _) (am_up (am_up V 90 j 0) 91 j 0) ⟨fun i k z1 z2 => by rw [up_off z2, up_off z1], by
    rw [show (am_up (am_up V 90 j 0) 91 j 0) 90 j = 0 from (congrFun (am_up_ne (by decide)) j).trans up_eq]
    exact MD_0, by
    rw [show (am_up (am_up V 90 j 0) 91 j 0) 91 j = 0 from up_eq]
    exact MD_0⟩
  · intro V1 hpr
    refine ac_iload_n 26 dX3_markPlaces_25 rfl rfl ?_
    refine ac_aload_n 27 dX3_markPlaces_26 rfl rfl ?_
    refine ac_getI 30 dX3_markPlaces_27 rfl fl3_60 ob7 ?_
    rw [show (M 7 0) = (nI W) from (hw.s0.trans hW)]
    refine ac_icmp_ge 81 33 dX3_markPlaces_30 (by decide) rfl (fun _ => ?_) (fun c_30 => absurd (Int32.le_refl _) c_30)
    refine ac_vret dX3_markPlaces_81 rfl ?_
    exact ⟨rfl, rfl, rfl, hpr⟩
  · intro x hx ih V1 hpr
    refine ac_iload_n 26 dX3_markPlaces_25 rfl rfl ?_
    refine ac_aload_n 27 dX3_markPlaces_26 rfl rfl ?_
    refine ac_getI 30 dX3_markPlaces_27 rfl fl3_60 ob7 ?_
    rw [show (M 7 0) = (nI W) from (hw.s0.trans hW)]
    refine ac_icmp_ge 81 33 dX3_markPlaces_30 (by decide) rfl (fun c_30 => absurd c_30 (nI_ge hx (by omega))) (fun _ => ?_)
    refine ac_aload_n 34 dX3_markPlaces_33 rfl rfl ?_
    refine ac_iload_n 35 dX3_markPlaces_34 rfl rfl ?_
    refine ac_iload_n 36 dX3_markPlaces_35 rfl rfl ?_
    refine ac_callV (μ' := m6_fits) 39 dX3_markPlaces_36 rfl lk3_81 m6_fits_V ob7 (c6_fits hw hj _) rfl rfl (by decide) (Nat.le_of_ble_eq_true rfl) ?_
    refine ac_if_eq 75 42 dX3_markPlaces_39 (by decide) rfl (fun c_39 => ?_) (fun c_39 => ?_)
    · have hf : ¬ FB w nd j x := bi_eq0.mp c_39
      refine ac_iinc 78 (nI (x + 1)) [some (Value.ref 89), some (Value.ref 7), some (Value.int (nI j)), some (Value.int (nI (x + 1)))] dX3_markPlaces_75 rfl rfl (nI_1 _) rfl (by decide) rfl ?_
      refine ac_goto 25 dX3_markPlaces_78 (by decide) ?_
      exact ih _ ⟨hpr.1, MD_no hpr.2.1 hf, MD_no hpr.2.2 (fun q => hf q.1)⟩
    · have hf : FB w nd j x := bi_ne0.mp c_39
      refine ac_aload_n 43 dX3_markPlaces_42 rfl rfl ?_
      refine ac_getO 46 90 dX3_markPlaces_43 rfl fl3_9 ob89 rfl ?_
      refine ac_iload_n 47 dX3_markPlaces_46 rfl rfl ?_
      refine ac_dup2 48 dX3_markPlaces_47 rfl rfl rfl ?_
      refine ac_lald 49 dX3_markPlaces_48 rfl ar90 (ix_nI (by omega) (by decide)) ?_
      refine ac_lconst 50 1 dX3_markPlaces_49 rfl (by decide) ?_
      refine ac_iload_n 51 dX3_markPlaces_50 rfl rfl ?_
      refine ac_lshl 52 dX3_markPlaces_51 rfl ?_
      refine ac_lor 53 dX3_markPlaces_52 rfl ?_
      refine ac_last 54 dX3_markPlaces_53 rfl ar90 (ix_nI (by omega) (by decide)) ?_
      refine ac_aload_n 55 dX3_markPlaces_54 rfl rfl ?_
      refine ac_iload_n 56 dX3_markPlaces_55 rfl rfl ?_
      refine ac_iload_n 57 dX3_markPlaces_56 rfl rfl ?_
      refine ac_callV (μ' := m6_hasHoleFor) 60 dX3_markPlaces_57 rfl lk3_85 m6_hasHoleFor_V ob7 (c6_hasHoleFor hw hj _) rfl rfl (by decide) (Nat.le_of_ble_eq_true rfl) ?_
      refine ac_if_eq 75 63 dX3_markPlaces_60 (by decide) rfl (fun c_60 => ?_) (fun c_60 => ?_)
      · have hh : ¬ HB w nh j x := bi_eq0.mp c_60
        refine ac_iinc 78 (nI (x + 1)) [some (Value.ref 89), some (Value.ref 7), some (Value.int (nI j)), some (Value.int (nI (x + 1)))] dX3_markPlaces_75 rfl rfl (nI_1 _) rfl (by decide) rfl ?_
        refine ac_goto 25 dX3_markPlaces_78 (by decide) ?_
        exact ih _ ⟨fun i k z1 z2 => by rw [up_off z1]; exact hpr.1 i k z1 z2, by
          rw [show ((am_up V1 90 j ((V1 90 j) ||| ((1 : Int64) <<< (((nI x) : Int32).toInt64 &&& 63))))) 90 j = (V1 90 j ||| ((1 : Int64) <<< ((nI x : Int32).toInt64 &&& 63))) from up_eq]
          exact MD_st hpr.2.1 (by omega) hf, by
          rw [show ((am_up V1 90 j ((V1 90 j) ||| ((1 : Int64) <<< (((nI x) : Int32).toInt64 &&& 63))))) 91 j = V1 91 j from rfl]
          exact MD_no hpr.2.2 (fun q => hh q.2)⟩
      · have hh : HB w nh j x := bi_ne0.mp c_60
        refine ac_aload_n 64 dX3_markPlaces_63 rfl rfl ?_
        refine ac_getO 67 91 dX3_markPlaces_64 rfl fl3_15 ob89 rfl ?_
        refine ac_iload_n 68 dX3_markPlaces_67 rfl rfl ?_
        refine ac_dup2 69 dX3_markPlaces_68 rfl rfl rfl ?_
        refine ac_lald 70 dX3_markPlaces_69 rfl ar91 (ix_nI (by omega) (by decide)) ?_
        rw [show ((am_up V1 90 j ((V1 90 j) ||| ((1 : Int64) <<< (((nI x) : Int32).toInt64 &&& 63)))) 91 j) = (V1 91 j) from rfl]
        refine ac_lconst 71 1 dX3_markPlaces_70 rfl (by decide) ?_
        refine ac_iload_n 72 dX3_markPlaces_71 rfl rfl ?_
        refine ac_lshl 73 dX3_markPlaces_72 rfl ?_
        refine ac_lor 74 dX3_markPlaces_73 rfl ?_
        refine ac_last 75 dX3_markPlaces_74 rfl ar91 (ix_nI (by omega) (by decide)) ?_
        refine ac_iinc 78 (nI (x + 1)) [some (Value.ref 89), some (Value.ref 7), some (Value.int (nI j)), some (Value.int (nI (x + 1)))] dX3_markPlaces_75 rfl rfl (nI_1 _) rfl (by decide) rfl ?_
        refine ac_goto 25 dX3_markPlaces_78 (by decide) ?_
        exact ih _ ⟨fun i k z1 z2 => by rw [up_off z2, up_off z1]; exact hpr.1 i k z1 z2, by
          rw [show ((am_up (am_up V1 90 j ((V1 90 j) ||| ((1 : Int64) <<< (((nI x) : Int32).toInt64 &&& 63)))) 91 j ((V1 91 j) ||| ((1 : Int64) <<< (((nI x) : Int32).toInt64 &&& 63))))) 90 j = (V1 90 j ||| ((1 : Int64) <<< ((nI x : Int32).toInt64 &&& 63))) from (congrFun (am_up_ne (by decide)) j).trans up_eq]
          exact MD_st hpr.2.1 (by omega) hf, by
          rw [show ((am_up (am_up V1 90 j ((V1 90 j) ||| ((1 : Int64) <<< (((nI x) : Int32).toInt64 &&& 63)))) 91 j ((V1 91 j) ||| ((1 : Int64) <<< (((nI x) : Int32).toInt64 &&& 63))))) 91 j = (V1 91 j ||| _) from up_eq]
          exact MD_st hpr.2.2 (by omega) ⟨hf, hh⟩⟩
/-- what is found so far, in the class's cells -/
def RBc (wd : Nat → Nat) (H : Nat → Nat → Prop) (L : Nat → Nat → Int32) (np : Nat) (M : am_I) (r : Option cd) : Prop := (r = none → M 89 9 = 0) ∧ ∀ y, r = some y → M 89 9 = 1 ∧ M 89 10 = nI (bB wd H np y) ∧ M 89 11 = oB wd L np y ∧ M 89 12 = nI y.1 ∧ M 89 13 = nI y.2.1 ∧ ∀ k, k < np → M 93 k = nI (dgB np np y.2.2 k)
theorem RBc_n {wd : Nat → Nat} {H : Nat → Nat → Prop} {L : Nat → Nat → Int32} {np : Nat} {M : am_I} {r : Option cd} (h : RBc wd H L np M r) (h0 : M 89 9 = 0) : r = none := by
  cases r with
  | none => rfl
  | some y => exact absurd ((h.2 y rfl).1.symm.trans h0) (by decide)
theorem RBc_s {wd : Nat → Nat} {H : Nat → Nat → Prop} {L : Nat → Nat → Int32} {np : Nat} {M : am_I} {r : Option cd} (h : RBc wd H L np M r) (h0 : ¬ M 89 9 = 0) : ∃ y, r = some y ∧ M 89 10 = nI (bB wd H np y) ∧ M 89 11 = oB wd L np y ∧ M 89 12 = nI y.1 ∧ M 89 13 = nI y.2.1 ∧ ∀ k, k < np → M 93 k = nI (dgB np np y.2.2 k) := by
  cases r with
  | none => exact absurd (h.1 rfl) h0
  | some y => exact ⟨y, rfl, (h.2 y rfl).2⟩
theorem RBc.same {wd : Nat → Nat} {H : Nat → Nat → Prop} {L : Nat → Nat → Int32} {np : Nat} {M M' : am_I} {r : Option cd} (h : RBc wd H L np M r) (h1 : ∀ k, 9 ≤ k → M' 89 k = M 89 k) (h2 : M' 93 = M 93) : RBc wd H L np M' r := by
  unfold RBc
  rw [h1 9 (by decide), h1 10 (by decide), h1 11 (by decide), h1 12 (by decide), h1 13 (by decide), h2]
  exact h
/-- what the trying of rows leaves alone -/
def KC (M M' : am_I) : Prop := (∀ i, i ≠ 89 → i ≠ 92 → i ≠ 93 → M' i = M i) ∧ ∀ k, k < 9 → M' 89 k = M 89 k
theorem KC.refl (M : am_I) : KC M M := ⟨fun _ _ _ _ => rfl, fun _ _ => rfl⟩
theorem KC.trans {M M1 M2 : am_I} (h : KC M M1) (h2 : KC M1 M2) : KC M M2 := ⟨fun i a b c => (h2.1 i a b c).trans (h.1 i a b c), fun k hk => (h2.2 k hk).trans (h.2 k hk)⟩
theorem va_cpy5 {g h : Nat → Int32} {k : Nat} (hk : k < 5) : va_cpy g h 0 0 5 k = g k := by
  rcases (show k = 0 ∨ k = 1 ∨ k = 2 ∨ k = 3 ∨ k = 4 by omega) with rfl | rfl | rfl | rfl | rfl <;> rfl
set_option maxRecDepth 20000 in
theorem c3_take {M : am_I} {V : am_J} {f : Nat → Option Nat} {w : rN} {np nd nh gp g x c : Nat} {wd : Nat → Nat} (hnp : np ≤ 5) (hg : M 89 4 = nI g) (hx : M 89 5 = nI x) (ho : ∀ k, k < np → M 92 k = nI (dgB np np c k)) {r : Option cd} {S S' : cd → Prop} (hP : (VLB wd (FB w nd) np gp) (g, x, c)) (hR : RBc wd (HB w nh) (LB w) np M r) (hI : IsB (VLB wd (FB w nd) np gp) (bB wd (HB w nh) np) (oB wd (LB w) np) S r) (hSS : ∀ y, S y → S' y) (ht : S' (g, x, c)) (hS2 : ∀ y, S' y → (VLB wd (FB w nd) np gp) y → S y ∨ y = (g, x, c)) (hlt : ∀ y, S y → (VLB wd (FB w nd) np gp) y → psC y < psC (g, x, c)) : CT m3_takeIfBetter 2 [Value.ref 89, Value.int (nI ((bB wd (HB w nh) np) (g, x, c))), Value.int ((oB wd (LB w) np) (g, x, c))] M V f (fun v M' V' f' => v = none ∧ V' = V ∧ f' = f ∧ KC M M' ∧ M' 92 = M 92 ∧ ∃ r', RBc wd (HB w nh) (LB w) np M' r' ∧ IsB (VLB wd (FB w nd) np gp) (bB wd (HB w nh) np) (oB wd (LB w) np) S' r') := by
  have b5 : (bB wd (HB w nh) np) (g, x, c) ≤ np := bkB_le np
  refine CT.of m3_takeIfBetter_V.1 _ (en_aii_3 89 (nI ((bB wd (HB w nh) np) (g, x, c))) ((oB wd (LB w) np) (g, x, c))) ?_
  refine ac_aload_n 1 dX3_takeIfBetter_0 rfl rfl ?_
  refine ac_getI 4 dX3_takeIfBetter_1 rfl fl3_25 ob89 ?_
  refine ac_if_eq 31 7 dX3_takeIfBetter_4 (by decide) rfl (fun c_4 => ?_) (fun c_4 => ?_)
  · have hr : r = none := RBc_n hR c_4
    subst hr
    have hb : ∀ r0, none = some r0 → btr (bB wd (HB w nh) np) (oB wd (LB w) np) (g, x, c) r0 := fun r0 h9 => by cases h9
    refine ac_aload_n 32 dX3_takeIfBetter_31 rfl rfl ?_
    refine ac_iconst 33 1 dX3_takeIfBetter_32 rfl (by decide) ?_
    refine ac_putI 36 dX3_takeIfBetter_33 rfl fl3_25 rfl rfl ob89 ?_
    refine ac_aload_n 37 dX3_takeIfBetter_36 rfl rfl ?_
    refine ac_iload_n 38 dX3_takeIfBetter_37 rfl rfl ?_
    refine ac_putI 41 dX3_takeIfBetter_38 rfl fl3_29 rfl rfl ob89 ?_
    refine ac_aload_n 42 dX3_takeIfBetter_41 rfl rfl ?_
    refine ac_iload_n 43 dX3_takeIfBetter_42 rfl rfl ?_
    refine ac_putI 46 dX3_takeIfBetter_43 rfl fl3_33 rfl rfl ob89 ?_
    refine ac_aload_n 47 dX3_takeIfBetter_46 rfl rfl ?_
    refine ac_aload_n 48 dX3_takeIfBetter_47 rfl rfl ?_
    refine ac_getI 51 dX3_takeIfBetter_48 rfl fl3_89 ob89 ?_
    rw [show ((am_up (am_up (am_up M 89 9 1) 89 10 (nI ((bB wd (HB w nh) np) (g, x, c)))) 89 11 ((oB wd (LB w) np) (g, x, c))) 89 4) = (M 89 4) from rfl]
    refine ac_putI 54 dX3_takeIfBetter_51 rfl fl3_36 rfl rfl ob89 ?_
    refine ac_aload_n 55 dX3_takeIfBetter_54 rfl rfl ?_
    refine ac_aload_n 56 dX3_takeIfBetter_55 rfl rfl ?_
    refine ac_getI 59 dX3_takeIfBetter_56 rfl fl3_92 ob89 ?_
    rw [show ((am_up (am_up (am_up (am_up M 89 9 1) 89 10 (nI ((bB wd (HB w nh) np) (g, x, c)))) 89 11 ((oB wd (LB w) np) (g, x, c))) 89 12 (M 89 4)) 89 5) = (M 89 5) from rfl]
    refine ac_putI 62 dX3_takeIfBetter_59 rfl fl3_39 rfl rfl ob89 ?_
    refine ac_aload_n 63 dX3_takeIfBetter_62 rfl rfl ?_
    refine ac_getO 66 92 dX3_takeIfBetter_63 rfl fl3_18 ob89 rfl ?_
    refine ac_iconst 67 0 dX3_takeIfBetter_66 rfl (by decide) ?_
    refine ac_aload_n 68 dX3_takeIfBetter_67 rfl rfl ?_
    refine ac_getO 71 93 dX3_takeIfBetter_68 rfl fl3_22 ob89 rfl ?_
    refine ac_iconst 72 0 dX3_takeIfBetter_71 rfl (by decide) ?_
    refine ac_iconst 73 5 dX3_takeIfBetter_72 rfl (by decide) ?_
    refine ac_copy 76 dX3_takeIfBetter_73 rfl lkj3_112 ar92 ar93 (by decide) (by decide) (by decide) (by decide) (by decide) (by decide) (Nat.le_of_ble_eq_true rfl) ?_
    refine ac_vret dX3_takeIfBetter_76 rfl ?_
    refine ⟨rfl, rfl, rfl, ⟨fun i a1 a2 a3 => ?_, fun k hk => ?_⟩, ?_, some (g, x, c), ⟨fun h => by (cases h), fun y hy => ?_⟩, IsB_take hI hP ht hS2 hb⟩
    · rw [row_ne a3, am_up_ne a1, am_up_ne a1, am_up_ne a1, am_up_ne a1, am_up_ne a1]
    · rw [row_ne (by decide), up_ne (by omega), up_ne (by omega), up_ne (by omega), up_ne (by omega), up_ne (by omega)]
    · rw [row_ne (by decide), am_up_ne (by decide), am_up_ne (by decide), am_up_ne (by decide), am_up_ne (by decide), am_up_ne (by decide)]
    · cases hy
      refine ⟨rfl, rfl, rfl, hg, hx, fun k hk => ?_⟩
      rw [row_at]
      have e9 : va_cpy (M 92) (M 93) 0 0 5 k = M 92 k := va_cpy5 (by omega)
      exact e9.trans (ho k hk)
  · obtain ⟨y0, hr, e0, e1, e2, e3, e4⟩ := RBc_s hR c_4
    subst hr
    have b4 : (bB wd (HB w nh) np) y0 ≤ np := bkB_le np
    have hl0 := hlt y0 hI.2.1 hI.1
    refine ac_iload_n 8 dX3_takeIfBetter_7 rfl rfl ?_
    refine ac_aload_n 9 dX3_takeIfBetter_8 rfl rfl ?_
    refine ac_getI 12 dX3_takeIfBetter_9 rfl fl3_29 ob89 ?_
    rw [show (M 89 10) = (nI ((bB wd (HB w nh) np) y0)) from e0]
    refine ac_icmp_lt 31 15 dX3_takeIfBetter_12 (by decide) rfl (fun c_12 => ?_) (fun c_12 => ?_)
    · have d1 : (bB wd (HB w nh) np) (g, x, c) < (bB wd (HB w nh) np) y0 := (nI_ltI (by omega) (by omega)).mp c_12
      have hb : ∀ r0, some y0 = some r0 → btr (bB wd (HB w nh) np) (oB wd (LB w) np) (g, x, c) r0 := fun r0 h9 => by
        cases h9
        unfold btr
        omega
      refine ac_aload_n 32 dX3_takeIfBetter_31 rfl rfl ?_
      refine ac_iconst 33 1 dX3_takeIfBetter_32 rfl (by decide) ?_
      refine ac_putI 36 dX3_takeIfBetter_33 rfl fl3_25 rfl rfl ob89 ?_
      refine ac_aload_n 37 dX3_takeIfBetter_36 rfl rfl ?_
      refine ac_iload_n 38 dX3_takeIfBetter_37 rfl rfl ?_
      refine ac_putI 41 dX3_takeIfBetter_38 rfl fl3_29 rfl rfl ob89 ?_
      refine ac_aload_n 42 dX3_takeIfBetter_41 rfl rfl ?_
      refine ac_iload_n 43 dX3_takeIfBetter_42 rfl rfl ?_
      refine ac_putI 46 dX3_takeIfBetter_43 rfl fl3_33 rfl rfl ob89 ?_
      refine ac_aload_n 47 dX3_takeIfBetter_46 rfl rfl ?_
      refine ac_aload_n 48 dX3_takeIfBetter_47 rfl rfl ?_
      refine ac_getI 51 dX3_takeIfBetter_48 rfl fl3_89 ob89 ?_
      rw [show ((am_up (am_up (am_up M 89 9 1) 89 10 (nI ((bB wd (HB w nh) np) (g, x, c)))) 89 11 ((oB wd (LB w) np) (g, x, c))) 89 4) = (M 89 4) from rfl]
      refine ac_putI 54 dX3_takeIfBetter_51 rfl fl3_36 rfl rfl ob89 ?_
      refine ac_aload_n 55 dX3_takeIfBetter_54 rfl rfl ?_
      refine ac_aload_n 56 dX3_takeIfBetter_55 rfl rfl ?_
      refine ac_getI 59 dX3_takeIfBetter_56 rfl fl3_92 ob89 ?_
      rw [show ((am_up (am_up (am_up (am_up M 89 9 1) 89 10 (nI ((bB wd (HB w nh) np) (g, x, c)))) 89 11 ((oB wd (LB w) np) (g, x, c))) 89 12 (M 89 4)) 89 5) = (M 89 5) from rfl]
      refine ac_putI 62 dX3_takeIfBetter_59 rfl fl3_39 rfl rfl ob89 ?_
      refine ac_aload_n 63 dX3_takeIfBetter_62 rfl rfl ?_
      refine ac_getO 66 92 dX3_takeIfBetter_63 rfl fl3_18 ob89 rfl ?_
      refine ac_iconst 67 0 dX3_takeIfBetter_66 rfl (by decide) ?_
      refine ac_aload_n 68 dX3_takeIfBetter_67 rfl rfl ?_
      refine ac_getO 71 93 dX3_takeIfBetter_68 rfl fl3_22 ob89 rfl ?_
      refine ac_iconst 72 0 dX3_takeIfBetter_71 rfl (by decide) ?_
      refine ac_iconst 73 5 dX3_takeIfBetter_72 rfl (by decide) ?_
      refine ac_copy 76 dX3_takeIfBetter_73 rfl lkj3_112 ar92 ar93 (by decide) (by decide) (by decide) (by decide) (by decide) (by decide) (Nat.le_of_ble_eq_true rfl) ?_
      refine ac_vret dX3_takeIfBetter_76 rfl ?_
      refine ⟨rfl, rfl, rfl, ⟨fun i a1 a2 a3 => ?_, fun k hk => ?_⟩, ?_, some (g, x, c), ⟨fun h => by (cases h), fun y hy => ?_⟩, IsB_take hI hP ht hS2 hb⟩
      · rw [row_ne a3, am_up_ne a1, am_up_ne a1, am_up_ne a1, am_up_ne a1, am_up_ne a1]
      · rw [row_ne (by decide), up_ne (by omega), up_ne (by omega), up_ne (by omega), up_ne (by omega), up_ne (by omega)]
      · rw [row_ne (by decide), am_up_ne (by decide), am_up_ne (by decide), am_up_ne (by decide), am_up_ne (by decide), am_up_ne (by decide)]
      · cases hy
        refine ⟨rfl, rfl, rfl, hg, hx, fun k hk => ?_⟩
        rw [row_at]
        have e9 : va_cpy (M 92) (M 93) 0 0 5 k = M 92 k := va_cpy5 (by omega)
        exact e9.trans (ho k hk)
    · have d1 : ¬ (bB wd (HB w nh) np) (g, x, c) < (bB wd (HB w nh) np) y0 := fun h => c_12 (nI_lt h (by omega))
      refine ac_iload_n 16 dX3_takeIfBetter_15 rfl rfl ?_
      refine ac_aload_n 17 dX3_takeIfBetter_16 rfl rfl ?_
      refine ac_getI 20 dX3_takeIfBetter_17 rfl fl3_29 ob89 ?_
      rw [show (M 89 10) = (nI ((bB wd (HB w nh) np) y0)) from e0]
      refine ac_icmp_ne 76 23 dX3_takeIfBetter_20 (by decide) rfl (fun c_20 => ?_) (fun c_20 => ?_)
      · have d2 : ¬ (bB wd (HB w nh) np) (g, x, c) = (bB wd (HB w nh) np) y0 := fun h => c_20 (congrArg nI h)
        refine ac_vret dX3_takeIfBetter_76 rfl ?_
        exact ⟨rfl, rfl, rfl, KC.refl _, rfl, some y0, hR, IsB_keep hI hSS (fun y h1 h2 h3 => by
          rcases hS2 y h1 h3 with h | h
          · exact absurd h h2
          · subst h
            refine ⟨y0, rfl, ?_⟩
            unfold btr
            omega)⟩
      · have d2 : (bB wd (HB w nh) np) (g, x, c) = (bB wd (HB w nh) np) y0 := (nI_eq (by omega) (by omega)).mp c_20
        refine ac_iload_n 24 dX3_takeIfBetter_23 rfl rfl ?_
        refine ac_aload_n 25 dX3_takeIfBetter_24 rfl rfl ?_
        refine ac_getI 28 dX3_takeIfBetter_25 rfl fl3_33 ob89 ?_
        rw [show (M 89 11) = ((oB wd (LB w) np) y0) from e1]
        refine ac_icmp_ge 76 31 dX3_takeIfBetter_28 (by decide) rfl (fun c_28 => ?_) (fun c_28 => ?_)
        · have d3 : ((oB wd (LB w) np) y0).toInt ≤ ((oB wd (LB w) np) (g, x, c)).toInt := Int32.le_iff_toInt_le.mp c_28
          refine ac_vret dX3_takeIfBetter_76 rfl ?_
          exact ⟨rfl, rfl, rfl, KC.refl _, rfl, some y0, hR, IsB_keep hI hSS (fun y h1 h2 h3 => by
            rcases hS2 y h1 h3 with h | h
            · exact absurd h h2
            · subst h
              refine ⟨y0, rfl, ?_⟩
              unfold btr
              omega)⟩
        · have d3 : ((oB wd (LB w) np) (g, x, c)).toInt < ((oB wd (LB w) np) y0).toInt := Int32.lt_iff_toInt_lt.mp (Int32.not_le.mp c_28)
          have hb : ∀ r0, some y0 = some r0 → btr (bB wd (HB w nh) np) (oB wd (LB w) np) (g, x, c) r0 := fun r0 h9 => by
            cases h9
            unfold btr
            omega
          refine ac_aload_n 32 dX3_takeIfBetter_31 rfl rfl ?_
          refine ac_iconst 33 1 dX3_takeIfBetter_32 rfl (by decide) ?_
          refine ac_putI 36 dX3_takeIfBetter_33 rfl fl3_25 rfl rfl ob89 ?_
          refine ac_aload_n 37 dX3_takeIfBetter_36 rfl rfl ?_
          refine ac_iload_n 38 dX3_takeIfBetter_37 rfl rfl ?_
          refine ac_putI 41 dX3_takeIfBetter_38 rfl fl3_29 rfl rfl ob89 ?_
          refine ac_aload_n 42 dX3_takeIfBetter_41 rfl rfl ?_
          refine ac_iload_n 43 dX3_takeIfBetter_42 rfl rfl ?_
          refine ac_putI 46 dX3_takeIfBetter_43 rfl fl3_33 rfl rfl ob89 ?_
          refine ac_aload_n 47 dX3_takeIfBetter_46 rfl rfl ?_
          refine ac_aload_n 48 dX3_takeIfBetter_47 rfl rfl ?_
          refine ac_getI 51 dX3_takeIfBetter_48 rfl fl3_89 ob89 ?_
          rw [show ((am_up (am_up (am_up M 89 9 1) 89 10 (nI ((bB wd (HB w nh) np) (g, x, c)))) 89 11 ((oB wd (LB w) np) (g, x, c))) 89 4) = (M 89 4) from rfl]
          refine ac_putI 54 dX3_takeIfBetter_51 rfl fl3_36 rfl rfl ob89 ?_
          refine ac_aload_n 55 dX3_takeIfBetter_54 rfl rfl ?_
          refine ac_aload_n 56 dX3_takeIfBetter_55 rfl rfl ?_
          refine ac_getI 59 dX3_takeIfBetter_56 rfl fl3_92 ob89 ?_
          rw [show ((am_up (am_up (am_up (am_up M 89 9 1) 89 10 (nI ((bB wd (HB w nh) np) (g, x, c)))) 89 11 ((oB wd (LB w) np) (g, x, c))) 89 12 (M 89 4)) 89 5) = (M 89 5) from rfl]
          refine ac_putI 62 dX3_takeIfBetter_59 rfl fl3_39 rfl rfl ob89 ?_
          refine ac_aload_n 63 dX3_takeIfBetter_62 rfl rfl ?_
          refine ac_getO 66 92 dX3_takeIfBetter_63 rfl fl3_18 ob89 rfl ?_
          refine ac_iconst 67 0 dX3_takeIfBetter_66 rfl (by decide) ?_
          refine ac_aload_n 68 dX3_takeIfBetter_67 rfl rfl ?_
          refine ac_getO 71 93 dX3_takeIfBetter_68 rfl fl3_22 ob89 rfl ?_
          refine ac_iconst 72 0 dX3_takeIfBetter_71 rfl (by decide) ?_
          refine ac_iconst 73 5 dX3_takeIfBetter_72 rfl (by decide) ?_
          refine ac_copy 76 dX3_takeIfBetter_73 rfl lkj3_112 ar92 ar93 (by decide) (by decide) (by decide) (by decide) (by decide) (by decide) (Nat.le_of_ble_eq_true rfl) ?_
          refine ac_vret dX3_takeIfBetter_76 rfl ?_
          refine ⟨rfl, rfl, rfl, ⟨fun i a1 a2 a3 => ?_, fun k hk => ?_⟩, ?_, some (g, x, c), ⟨fun h => by (cases h), fun y hy => ?_⟩, IsB_take hI hP ht hS2 hb⟩
          · rw [row_ne a3, am_up_ne a1, am_up_ne a1, am_up_ne a1, am_up_ne a1, am_up_ne a1]
          · rw [row_ne (by decide), up_ne (by omega), up_ne (by omega), up_ne (by omega), up_ne (by omega), up_ne (by omega)]
          · rw [row_ne (by decide), am_up_ne (by decide), am_up_ne (by decide), am_up_ne (by decide), am_up_ne (by decide), am_up_ne (by decide)]
          · cases hy
            refine ⟨rfl, rfl, rfl, hg, hx, fun k hk => ?_⟩
            rw [row_at]
            have e9 : va_cpy (M 92) (M 93) 0 0 5 k = M 92 k := va_cpy5 (by omega)
            exact e9.trans (ho k hk)
