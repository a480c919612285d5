/-! Telling: the class cuts the text. -/
noncomputable def srP (tx : Nat → Nat) (p : Nat) : Int32 := cif (isW tx p) 5 (cif (isF tx p) 2 1)
theorem sr_W {tx : Nat → Nat} {p : Nat} (h : isW tx p) : srP tx p = 5 := cif_t h
theorem isWF {tx : Nat → Nat} {p : Nat} (h : isF tx p) : ¬ isW tx p := fun q => by unfold isW isF at *; omega
theorem sr_F {tx : Nat → Nat} {p : Nat} (h : isF tx p) : srP tx p = 2 := (cif_f (isWF h)).trans (cif_t h)
theorem sr_N {tx : Nat → Nat} {p : Nat} (h : ¬ isW tx p) (h2 : ¬ isF tx p) : srP tx p = 1 := (cif_f h).trans (cif_f h2)
/-- the class's text -/
def TX (M : am_I) (tx : Nat → Nat) (n : Nat) : Prop := n ≤ 120 ∧ ∀ y, y < n → M 1 y = nI (tx y) ∧ tx y ≤ 255
set_option maxRecDepth 20000 in
theorem c5_sort {M : am_I} {V : am_J} {f : Nat → Option Nat} {tx : Nat → Nat} {n p : Nat} (hX : TX M tx n) (hp : p < n) : CT m5_sortAt 1 [Value.ref 1, Value.int (nI p)] M V f (RV (srP tx p) M V f) := by
  have hn := hX.1
  have hT := hX.2 p hp
  have hT2 := hT.2
  refine CT.of m5_sortAt_S.1 _ (en_ai_3 1 (nI p)) ?_
  refine ac_iload_n 1 dX5_sortAt_0 rfl rfl ?_
  refine ac_if_lt 16 4 dX5_sortAt_1 (by decide) rfl (fun c_1 => absurd c_1 (nI_pos (by omega))) (fun _ => ?_)
  refine ac_iload_n 5 dX5_sortAt_4 rfl rfl ?_
  refine ac_aload_n 6 dX5_sortAt_5 rfl rfl ?_
  refine ac_alen 7 120 dX5_sortAt_6 rfl ar1 (by decide) ?_
  refine ac_icmp_ge 16 10 dX5_sortAt_7 (by decide) rfl (fun c_7 => absurd c_7 (nI_ge (b := 120) (by omega) (by decide))) (fun _ => ?_)
  refine ac_aload_n 11 dX5_sortAt_10 rfl rfl ?_
  refine ac_iload_n 12 dX5_sortAt_11 rfl rfl ?_
  refine ac_iald 13 dX5_sortAt_12 rfl ar1 (ix_nI (by omega) (by decide)) ?_
  rw [show (M 1 p) = (nI (tx p)) from hT.1]
  refine ac_goto 18 dX5_sortAt_13 (by decide) ?_
  refine ac_istore_n 19 [some (Value.ref 1), some (Value.int (nI p)), some (Value.int (nI (tx p)))] dX5_sortAt_18 rfl rfl (Nat.le_of_ble_eq_true rfl) (by decide) rfl ?_
  refine ac_iload_n 20 dX5_sortAt_19 rfl rfl ?_
  refine ac_bipush 22 97 dX5_sortAt_20 rfl (by decide) ?_
  refine ac_icmp_lt 33 25 dX5_sortAt_22 (by decide) rfl (fun c_22 => ?_) (fun c_22 => ?_)
  · have w97 : ¬ 97 ≤ tx p := fun q => absurd ((nI_ltI (b := 97) (by omega) (by decide)).mp c_22) (by omega)
    refine ac_iload_n 34 dX5_sortAt_33 rfl rfl ?_
    refine ac_bipush 36 48 dX5_sortAt_34 rfl (by decide) ?_
    refine ac_icmp_lt 49 39 dX5_sortAt_36 (by decide) rfl (fun c_36 => ?_) (fun c_36 => ?_)
    · have f48 : ¬ 48 ≤ tx p := fun q => absurd ((nI_ltI (b := 48) (by omega) (by decide)).mp c_36) (by omega)
      refine ac_iconst 50 1 dX5_sortAt_49 rfl (by decide) ?_
      refine ac_iret dX5_sortAt_50 ⟨_, rfl, rfl⟩ ?_
      exact rv_mk (by first | exact (sr_W ⟨w97, w122⟩).symm | exact (sr_F ⟨f48, f57⟩).symm | exact (sr_N (fun q => by unfold isW at q; omega) (fun q => by unfold isF at q; omega)).symm)
    · have f48 : 48 ≤ tx p := Nat.le_of_not_lt (fun q => c_36 (nI_lt (b := 48) q (by decide)))
      refine ac_iload_n 40 dX5_sortAt_39 rfl rfl ?_
      refine ac_bipush 42 57 dX5_sortAt_40 rfl (by decide) ?_
      refine ac_icmp_gt 49 45 dX5_sortAt_42 (by decide) rfl (fun c_42 => ?_) (fun c_42 => ?_)
      · have f57 : ¬ tx p ≤ 57 := fun q => absurd ((nI_ltI (a := 57) (by decide) (by omega)).mp c_42) (by omega)
        refine ac_iconst 50 1 dX5_sortAt_49 rfl (by decide) ?_
        refine ac_iret dX5_sortAt_50 ⟨_, rfl, rfl⟩ ?_
        exact rv_mk (by first | exact (sr_W ⟨w97, w122⟩).symm | exact (sr_F ⟨f48, f57⟩).symm | exact (sr_N (fun q => by unfold isW at q; omega) (fun q => by unfold isF at q; omega)).symm)
      · have f57 : tx p ≤ 57 := Nat.le_of_not_lt (fun q => c_42 (nI_lt (a := 57) q (by omega)))
        refine ac_iconst 46 2 dX5_sortAt_45 rfl (by decide) ?_
        refine ac_goto 50 dX5_sortAt_46 (by decide) ?_
        refine ac_iret dX5_sortAt_50 ⟨_, rfl, rfl⟩ ?_
        exact rv_mk (by first | exact (sr_W ⟨w97, w122⟩).symm | exact (sr_F ⟨f48, f57⟩).symm | exact (sr_N (fun q => by unfold isW at q; omega) (fun q => by unfold isF at q; omega)).symm)
  · have w97 : 97 ≤ tx p := Nat.le_of_not_lt (fun q => c_22 (nI_lt (b := 97) q (by decide)))
    refine ac_iload_n 26 dX5_sortAt_25 rfl rfl ?_
    refine ac_bipush 28 122 dX5_sortAt_26 rfl (by decide) ?_
    refine ac_icmp_gt 33 31 dX5_sortAt_28 (by decide) rfl (fun c_28 => ?_) (fun c_28 => ?_)
    · have w122 : ¬ tx p ≤ 122 := fun q => absurd ((nI_ltI (a := 122) (by decide) (by omega)).mp c_28) (by omega)
      refine ac_iload_n 34 dX5_sortAt_33 rfl rfl ?_
      refine ac_bipush 36 48 dX5_sortAt_34 rfl (by decide) ?_
      refine ac_icmp_lt 49 39 dX5_sortAt_36 (by decide) rfl (fun c_36 => ?_) (fun c_36 => ?_)
      · have f48 : ¬ 48 ≤ tx p := fun q => absurd ((nI_ltI (b := 48) (by omega) (by decide)).mp c_36) (by omega)
        refine ac_iconst 50 1 dX5_sortAt_49 rfl (by decide) ?_
        refine ac_iret dX5_sortAt_50 ⟨_, rfl, rfl⟩ ?_
        exact rv_mk (by first | exact (sr_W ⟨w97, w122⟩).symm | exact (sr_F ⟨f48, f57⟩).symm | exact (sr_N (fun q => by unfold isW at q; omega) (fun q => by unfold isF at q; omega)).symm)
      · have f48 : 48 ≤ tx p := Nat.le_of_not_lt (fun q => c_36 (nI_lt (b := 48) q (by decide)))
        refine ac_iload_n 40 dX5_sortAt_39 rfl rfl ?_
        refine ac_bipush 42 57 dX5_sortAt_40 rfl (by decide) ?_
        refine ac_icmp_gt 49 45 dX5_sortAt_42 (by decide) rfl (fun c_42 => ?_) (fun c_42 => ?_)
        · have f57 : ¬ tx p ≤ 57 := fun q => absurd ((nI_ltI (a := 57) (by decide) (by omega)).mp c_42) (by omega)
          refine ac_iconst 50 1 dX5_sortAt_49 rfl (by decide) ?_
          refine ac_iret dX5_sortAt_50 ⟨_, rfl, rfl⟩ ?_
          exact rv_mk (by first | exact (sr_W ⟨w97, w122⟩).symm | exact (sr_F ⟨f48, f57⟩).symm | exact (sr_N (fun q => by unfold isW at q; omega) (fun q => by unfold isF at q; omega)).symm)
        · have f57 : tx p ≤ 57 := Nat.le_of_not_lt (fun q => c_42 (nI_lt (a := 57) q (by omega)))
          refine ac_iconst 46 2 dX5_sortAt_45 rfl (by decide) ?_
          refine ac_goto 50 dX5_sortAt_46 (by decide) ?_
          refine ac_iret dX5_sortAt_50 ⟨_, rfl, rfl⟩ ?_
          exact rv_mk (by first | exact (sr_W ⟨w97, w122⟩).symm | exact (sr_F ⟨f48, f57⟩).symm | exact (sr_N (fun q => by unfold isW at q; omega) (fun q => by unfold isF at q; omega)).symm)
    · have w122 : tx p ≤ 122 := Nat.le_of_not_lt (fun q => c_28 (nI_lt (a := 122) q (by omega)))
      refine ac_iconst 32 5 dX5_sortAt_31 rfl (by decide) ?_
      refine ac_iret dX5_sortAt_32 ⟨_, rfl, rfl⟩ ?_
      exact rv_mk (by first | exact (sr_W ⟨w97, w122⟩).symm | exact (sr_F ⟨f48, f57⟩).symm | exact (sr_N (fun q => by unfold isW at q; omega) (fun q => by unfold isF at q; omega)).symm)
