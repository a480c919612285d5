theorem RF_end : RF (XS 136 []) = RR f0 := by
  funext i k
  unfold RF
  cases hc : RR f0 i k with
  | none => rfl
  | some t =>
    have h := (pr_un hc).2
    dsimp only
    rw [if_pos]
    unfold XS
    rw [decide_eq_true h]
    rfl
/-- the memory behind both constructors -/
def M0 : am_I := am_up (am_up (am_row (MZ 111) 122 (va_cpy (fun i => if i < 64 then 0 else -9) ((MZ 111) 122) 0 0 69)) 122 0 20) 122 1 10
set_option maxRecDepth 20000 in
theorem z_m8_init : Ct m8_init 2 14 1270 [.ref 121] (GS 122) (MZ 111) VZ (RF (XS 122 [])) (fun v g' M' V' R' => v = none ∧ g' = G0 ∧ M' = M0 ∧ V' = VZ ∧ R' = RR f0) := by
  refine Ct.of m8_init_I.1.1 m8_init_I.1.2.1 _ (en_a_1 121) ?_
  show C0 m8_init 2 14 1270 122 (XS 122 []) 111 0 _ [] _
  refine cz_aload_n 1 dX8_init_0 rfl rfl ?_
  refine cz_obj 4 dX8_init_1 rfl lkj8_1 (by decide) (Nat.le_of_ble_eq_true rfl) ?_
  refine cz_aload_n 5 dX8_init_4 rfl rfl ?_
  refine cz_bipush 7 69 dX8_init_5 rfl (by decide) ?_
  refine cz_newI 9 13 1201 69 dX8_init_7 rfl (by decide) (by decide) (by decide) (by decide) rfl rfl (by decide) ?_
  refine cz_putF 12 (XS 123 []) dX8_init_9 rfl fl8_7 flo8_7 rfl rfl rfl ⟨by decide, rfl⟩ rfl (XS_put (n := 122) (by decide)).1 (XS_put (n := 122) (by decide)).2 ?_
  refine cz_aload_n 13 dX8_init_12 rfl rfl ?_
  refine cz_bipush 15 69 dX8_init_13 rfl (by decide) ?_
  refine cz_newI 17 12 1132 69 dX8_init_15 rfl (by decide) (by decide) (by decide) (by decide) rfl rfl (by decide) ?_
  refine cz_putF 20 (XS 124 []) dX8_init_17 rfl fl8_13 flo8_13 rfl rfl rfl ⟨by decide, rfl⟩ rfl (XS_put (n := 123) (by decide)).1 (XS_put (n := 123) (by decide)).2 ?_
  refine cz_aload_n 21 dX8_init_20 rfl rfl ?_
  refine cz_sipush 24 414 dX8_init_21 rfl (by decide) ?_
  refine cz_newI 26 11 718 414 dX8_init_24 rfl (by decide) (by decide) (by decide) (by decide) rfl rfl (by decide) ?_
  refine cz_putF 29 (XS 125 []) dX8_init_26 rfl fl8_16 flo8_16 rfl rfl rfl ⟨by decide, rfl⟩ rfl (XS_put (n := 124) (by decide)).1 (XS_put (n := 124) (by decide)).2 ?_
  refine cz_aload_n 30 dX8_init_29 rfl rfl ?_
  refine cz_sipush 33 138 dX8_init_30 rfl (by decide) ?_
  refine cz_newI 35 10 580 138 dX8_init_33 rfl (by decide) (by decide) (by decide) (by decide) rfl rfl (by decide) ?_
  refine cz_putF 38 (XS 126 []) dX8_init_35 rfl fl8_19 flo8_19 rfl rfl rfl ⟨by decide, rfl⟩ rfl (XS_put (n := 125) (by decide)).1 (XS_put (n := 125) (by decide)).2 ?_
  refine cz_aload_n 39 dX8_init_38 rfl rfl ?_
  refine cz_iconst 40 2 dX8_init_39 rfl (by decide) ?_
  refine cz_newZ 42 9 578 2 dX8_init_40 rfl (by decide) (by decide) (by decide) (by decide) rfl rfl (by decide) ?_
  refine cz_putF 45 (XS 127 []) dX8_init_42 rfl fl8_22 flo8_22 rfl rfl rfl ⟨by decide, rfl⟩ rfl (XS_put (n := 126) (by decide)).1 (XS_put (n := 126) (by decide)).2 ?_
  refine cz_aload_n 46 dX8_init_45 rfl rfl ?_
  refine cz_bipush 48 6 dX8_init_46 rfl (by decide) ?_
  refine cz_newI 50 8 572 6 dX8_init_48 rfl (by decide) (by decide) (by decide) (by decide) rfl rfl (by decide) ?_
  refine cz_putF 53 (XS 128 []) dX8_init_50 rfl fl8_26 flo8_26 rfl rfl rfl ⟨by decide, rfl⟩ rfl (XS_put (n := 127) (by decide)).1 (XS_put (n := 127) (by decide)).2 ?_
  refine cz_aload_n 54 dX8_init_53 rfl rfl ?_
  refine cz_bipush 56 6 dX8_init_54 rfl (by decide) ?_
  refine cz_newI 58 7 566 6 dX8_init_56 rfl (by decide) (by decide) (by decide) (by decide) rfl rfl (by decide) ?_
  refine cz_putF 61 (XS 129 []) dX8_init_58 rfl fl8_29 flo8_29 rfl rfl rfl ⟨by decide, rfl⟩ rfl (XS_put (n := 128) (by decide)).1 (XS_put (n := 128) (by decide)).2 ?_
  refine cz_aload_n 62 dX8_init_61 rfl rfl ?_
  refine cz_bipush 64 120 dX8_init_62 rfl (by decide) ?_
  refine cz_newI 66 6 446 120 dX8_init_64 rfl (by decide) (by decide) (by decide) (by decide) rfl rfl (by decide) ?_
  refine cz_putF 69 (XS 130 []) dX8_init_66 rfl fl8_32 flo8_32 rfl rfl rfl ⟨by decide, rfl⟩ rfl (XS_put (n := 129) (by decide)).1 (XS_put (n := 129) (by decide)).2 ?_
  refine cz_aload_n 70 dX8_init_69 rfl rfl ?_
  refine cz_iconst 71 5 dX8_init_70 rfl (by decide) ?_
  refine cz_newI 73 5 441 5 dX8_init_71 rfl (by decide) (by decide) (by decide) (by decide) rfl rfl (by decide) ?_
  refine cz_putF 76 (XS 131 []) dX8_init_73 rfl fl8_35 flo8_35 rfl rfl rfl ⟨by decide, rfl⟩ rfl (XS_put (n := 130) (by decide)).1 (XS_put (n := 130) (by decide)).2 ?_
  refine cz_aload_n 77 dX8_init_76 rfl rfl ?_
  refine cz_iconst 78 5 dX8_init_77 rfl (by decide) ?_
  refine cz_newI 80 4 436 5 dX8_init_78 rfl (by decide) (by decide) (by decide) (by decide) rfl rfl (by decide) ?_
  refine cz_putF 83 (XS 132 []) dX8_init_80 rfl fl8_38 flo8_38 rfl rfl rfl ⟨by decide, rfl⟩ rfl (XS_put (n := 131) (by decide)).1 (XS_put (n := 131) (by decide)).2 ?_
  refine cz_aload_n 84 dX8_init_83 rfl rfl ?_
  refine cz_iconst 85 4 dX8_init_84 rfl (by decide) ?_
  refine cz_newI 87 3 432 4 dX8_init_85 rfl (by decide) (by decide) (by decide) (by decide) rfl rfl (by decide) ?_
  refine cz_putF 90 (XS 133 []) dX8_init_87 rfl fl8_41 flo8_41 rfl rfl rfl ⟨by decide, rfl⟩ rfl (XS_put (n := 132) (by decide)).1 (XS_put (n := 132) (by decide)).2 ?_
  refine cz_aload_n 91 dX8_init_90 rfl rfl ?_
  refine cz_sipush 94 200 dX8_init_91 rfl (by decide) ?_
  refine cz_newZ 96 2 232 200 dX8_init_94 rfl (by decide) (by decide) (by decide) (by decide) rfl rfl (by decide) ?_
  refine cz_putF 99 (XS 134 []) dX8_init_96 rfl fl8_44 flo8_44 rfl rfl rfl ⟨by decide, rfl⟩ rfl (XS_put (n := 133) (by decide)).1 (XS_put (n := 133) (by decide)).2 ?_
  refine cz_aload_n 100 dX8_init_99 rfl rfl ?_
  refine cz_sipush 103 200 dX8_init_100 rfl (by decide) ?_
  refine cz_newZ 105 1 32 200 dX8_init_103 rfl (by decide) (by decide) (by decide) (by decide) rfl rfl (by decide) ?_
  refine cz_putF 108 (XS 135 []) dX8_init_105 rfl fl8_47 flo8_47 rfl rfl rfl ⟨by decide, rfl⟩ rfl (XS_put (n := 134) (by decide)).1 (XS_put (n := 134) (by decide)).2 ?_
  refine cz_aload_n 109 dX8_init_108 rfl rfl ?_
  refine cz_bipush 111 32 dX8_init_109 rfl (by decide) ?_
  refine cz_newI 113 0 0 32 dX8_init_111 rfl (by decide) (by decide) (by decide) (by decide) rfl rfl (by decide) ?_
  refine cz_putF 116 (XS 136 []) dX8_init_113 rfl fl8_50 flo8_50 rfl rfl rfl ⟨by decide, rfl⟩ rfl (XS_put (n := 135) (by decide)).1 (XS_put (n := 135) (by decide)).2 ?_
  refine cz_aload_n 117 dX8_init_116 rfl rfl ?_
  refine cz_getO 120 122 dX8_init_117 rfl fl8_7 ⟨by decide, rfl⟩ rfl (by decide) ?_
  unfold C0
  rw [RF_end, show GS 136 = G0 from rfl]
  refine aw_callS (b1 := 0) (b2 := 0) 123 dX8_init_120 rfl lk8_53 m8_bares_S c8_bares122 rfl rfl (by decide) (Nat.le_of_ble_eq_true rfl) (fun v g9 M9 V9 R9 _ h9 => ?_)
  obtain ⟨h1, f9, h2, h3, h4, h5, h6⟩ := h9
  subst h1; subst h2; subst h3; subst h4; subst h5; subst h6
  exact aw_vret dX8_init_123 rfl ⟨rfl, rfl, rfl, rfl, rfl⟩
