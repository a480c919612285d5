/-! The reference: what is done, with the memory behind it written out. -/
/-- an answer (or none), and the ints' memory behind it -/
def RM (v0 : Option Value) (M1 : am_I) (V : am_J) (f : Nat → Option Nat) : a0_Po := fun v M' V' f' => v = v0 ∧ M' = M1 ∧ V' = V ∧ f' = f
theorem rm_mk {v : Option Value} {M M1 : am_I} {V : am_J} {f : Nat → Option Nat} (h : M1 = M) : RM v M V f v M1 V f := ⟨rfl, h, rfl, rfl⟩
section A0M
variable {μ : am_M} {d : Nat} {pc : Nat} {ls : List (Option Value)} {st : List Value} {M M1 : am_I} {V : am_J} {f : Nat → Option Nat} {Q : a0_Po}
theorem ac_callVm (q : Nat) {μ' : am_M} {idx n d' c0 r : Nat} {As rest : List Value} {v0 : Option Value} (hd : decode μ.2.1 pc = .ok (.invokevirtual idx, 3)) (hp : pc + 3 = q) (hlk : am_lk μ.1.cls idx μ'.1) (hm : am_mV μ' n c0) (ho : am_ob G0 r c0) (hC : CT μ' d' (.ref r :: As) M V f (RM v0 M1 V f)) (hn : As.length = n) (hst : st = As.reverse ++ .ref r :: rest) (hd9 : d' + 1 ≤ d) (hct : (rest.map fun v => v.category).sum ≤ 8)
    (k : A0 μ d q ls (v0.toList ++ rest) M1 V f Q) : A0 μ d pc ls st M V f Q :=
  ac_callVg q hd hp hlk hm ho hC hn hst hd9 hct (fun v M' V' f' ⟨h1, h2, h3, h4⟩ => by subst h1; subst h2; subst h3; subst h4; exact k)
theorem ac_callSm (q : Nat) {μ' : am_M} {idx n d' : Nat} {As rest : List Value} {v0 : Option Value} (hd : decode μ.2.1 pc = .ok (.invokestatic idx, 3)) (hp : pc + 3 = q) (hlk : am_lk μ.1.cls idx μ'.1) (hm : am_mS μ' n) (hC : CT μ' d' As M V f (RM v0 M1 V f)) (hn : As.length = n) (hst : st = As.reverse ++ rest) (hd9 : d' + 1 ≤ d) (hct : (rest.map fun v => v.category).sum ≤ 8)
    (k : A0 μ d q ls (v0.toList ++ rest) M1 V f Q) : A0 μ d pc ls st M V f Q :=
  ac_callSg q hd hp hlk hm hC hn hst hd9 hct (fun v M' V' f' ⟨h1, h2, h3, h4⟩ => by subst h1; subst h2; subst h3; subst h4; exact k)
end A0M
theorem row_up {α : Type} {M : Nat → Nat → α} {r k : Nat} {g : Nat → α} {v : α} : am_up (am_row M r g) r k v = am_row M r (fun i => if i = k then v else g i) := by
  funext i j
  by_cases hi : i = r
  · subst hi; simp [am_up, am_row]
  · simp [am_up, am_row, hi]
theorem up_row {α : Type} {M : Nat → Nat → α} {r k : Nat} {v : α} : am_up M r k v = am_row M r (fun i => if i = k then v else M r i) := by
  funext i j
  by_cases hi : i = r
  · subst hi; simp [am_up, am_row]
  · simp [am_up, am_row, hi]
theorem row_row {α : Type} {M : Nat → Nat → α} {r : Nat} {g g2 : Nat → α} : am_row (am_row M r g) r g2 = am_row M r g2 := by
  funext i j
  by_cases hi : i = r <;> simp [am_row, hi]
theorem row_id {α : Type} {M : Nat → Nat → α} {r : Nat} : am_row M r (M r) = M := by
  funext i j
  by_cases hi : i = r
  · subst hi; simp [am_row]
  · simp [am_row, hi]
theorem row_sw {α : Type} {M : Nat → Nat → α} {r s k : Nat} {g : Nat → α} {v : α} (h : r ≠ s) : am_row (am_up M s k v) r g = am_up (am_row M r g) s k v := by
  funext i j
  by_cases hi : i = r
  · subst hi; simp [am_row, am_up, h]
  · by_cases hs : i = s
    · subst hs; simp [am_row, am_up, hi]
    · simp [am_row, am_up, hi, hs]
theorem up_up {α : Type} {M : Nat → Nat → α} {r k : Nat} {v w : α} : am_up (am_up M r k v) r k w = am_up M r k w := by
  funext i j
  by_cases hi : i = r
  · by_cases hj : j = k <;> simp [am_up, hi, hj]
  · simp [am_up, hi]
theorem row_ext {α : Type} {M : Nat → Nat → α} {r : Nat} {g g2 : Nat → α} (h : ∀ i, g i = g2 i) : am_row M r g = am_row M r g2 := by rw [funext h]
theorem cp_0 {α : Type} {f g : Nat → α} {sp dp : Nat} : va_cpy f g sp dp 0 = g := by
  funext i
  simp [va_cpy]
  intro h1 h2
  omega
theorem cp_step {α : Type} {M : Nat → Nat → α} {r sp dp k i : Nat} {f g : Nat → α} {v : α} (hi : i = dp + k) (hv : v = f (sp + k)) : am_up (am_row M r (va_cpy f g sp dp k)) r i v = am_row M r (va_cpy f g sp dp (k + 1)) := by
  rw [row_up]
  refine row_ext (fun j => ?_)
  subst hi; subst hv
  by_cases hj : j = dp + k
  · subst hj
    simp only [va_cpy, if_true]
    rw [if_pos ⟨by omega, by omega⟩, show dp + k - dp = k by omega]
  · simp only [if_neg hj, va_cpy]
    by_cases h1 : dp ≤ j ∧ j < dp + k
    · rw [if_pos h1, if_pos ⟨h1.1, by omega⟩]
    · rw [if_neg h1, if_neg (fun q => h1 ⟨q.1, by omega⟩)]
theorem cp_row0 {α : Type} {M : Nat → Nat → α} {r sp dp : Nat} {f : Nat → α} : am_row M r (va_cpy f (M r) sp dp 0) = M := by rw [cp_0, row_id]
theorem cp_out {α : Type} {f g : Nat → α} {sp dp n i : Nat} (h : i < dp ∨ dp + n ≤ i) : va_cpy f g sp dp n i = g i := if_neg (fun q => by omega)
theorem cp_in {α : Type} {f g : Nat → α} {sp dp n i : Nat} (h : i < n) : va_cpy f g sp dp n (dp + i) = f (sp + i) := by
  unfold va_cpy
  rw [if_pos ⟨by omega, by omega⟩, show dp + i - dp = i by omega]
set_option maxRecDepth 20000 in
theorem c8_keeps {M : am_I} {V : am_J} {f : Nat → Option Nat} {u : Nat} (hu : M 121 3 = nI u) (hu6 : u < 6) : CT m8_keeps 1 [Value.ref 121] M V f (RM none (am_up (am_row M 124 (va_cpy (M 122) (M 124) 0 (69 * u) 69)) 121 3 (nI (u + 1))) V f) := by
  refine CT.of m8_keeps_V.1 _ (en_a_2 121) ?_
  refine ac_aload_n 1 dX8_keeps_0 rfl rfl ?_
  refine ac_getI 4 dX8_keeps_1 rfl fl8_108 ob121 ?_
  rw [show (M 121 3) = (nI u) from hu]
  refine ac_bipush 6 6 dX8_keeps_4 rfl (by decide) ?_
  refine ac_icmp_ne 49 9 dX8_keeps_6 (by decide) rfl (fun _ => ?_) (fun c_6 => absurd c_6 (fun e => by have := (nI_eq (b := 6) (by omega) (by decide)).mp e; omega))
  have hL : A0 m8_keeps 1 51 [some (Value.ref 121), some (Value.int (nI 0))] [] (am_row M 124 (va_cpy (M 122) (M 124) 0 (69 * u) 0)) V f (RM none (am_up (am_row M 124 (va_cpy (M 122) (M 124) 0 (69 * u) 69)) 121 3 (nI (u + 1))) V f) := by
    refine ac_down (n := 69) (P := fun k => A0 m8_keeps 1 51 [some (Value.ref 121), some (Value.int (nI k))] [] (am_row M 124 (va_cpy (M 122) (M 124) 0 (69 * u) k)) V f (RM none (am_up (am_row M 124 (va_cpy (M 122) (M 124) 0 (69 * u) 69)) 121 3 (nI (u + 1))) V f)) ?_ ?_ 0 (Nat.zero_le _) 
    · refine ac_iload_n 52 dX8_keeps_51 rfl rfl ?_
      refine ac_bipush 54 69 dX8_keeps_52 rfl (by decide) ?_
      refine ac_icmp_ge 83 57 dX8_keeps_54 (by decide) rfl (fun _ => ?_) (fun c_54 => absurd (by decide) c_54)
      refine ac_aload_n 84 dX8_keeps_83 rfl rfl ?_
      refine ac_dup 85 dX8_keeps_84 rfl rfl ?_
      refine ac_getI 88 dX8_keeps_85 rfl fl8_108 ob121 ?_
      rw [show ((am_row M 124 (va_cpy (M 122) (M 124) 0 (69 * u) 69)) 121 3) = (M 121 3) from rfl]
      rw [show (M 121 3) = (nI u) from hu]
      refine ac_iconst 89 1 dX8_keeps_88 rfl (by decide) ?_
      refine ac_iadd 90 dX8_keeps_89 rfl ?_
      refine ac_putI 93 dX8_keeps_90 rfl fl8_108 rfl rfl ob121 ?_
      refine ac_vret dX8_keeps_93 rfl ?_
      exact rm_mk (by rw [nI_1])
    · intro k hk ih
      refine ac_iload_n 52 dX8_keeps_51 rfl rfl ?_
      refine ac_bipush 54 69 dX8_keeps_52 rfl (by decide) ?_
      refine ac_icmp_ge 83 57 dX8_keeps_54 (by decide) rfl (fun c_54 => absurd c_54 (nI_ge (b := 69) hk (by decide))) (fun _ => ?_)
      refine ac_aload_n 58 dX8_keeps_57 rfl rfl ?_
      refine ac_getO 61 124 dX8_keeps_58 rfl fl8_16 ob121 rfl ?_
      refine ac_bipush 63 69 dX8_keeps_61 rfl (by decide) ?_
      refine ac_aload_n 64 dX8_keeps_63 rfl rfl ?_
      refine ac_getI 67 dX8_keeps_64 rfl fl8_108 ob121 ?_
      rw [show ((am_row M 124 (va_cpy (M 122) (M 124) 0 (69 * u) k)) 121 3) = (M 121 3) from rfl]
      rw [show (M 121 3) = (nI u) from hu]
      refine ac_imul 68 dX8_keeps_67 rfl ?_
      refine ac_iload_n 69 dX8_keeps_68 rfl rfl ?_
      refine ac_iadd 70 dX8_keeps_69 rfl ?_
      refine ac_aload_n 71 dX8_keeps_70 rfl rfl ?_
      refine ac_getO 74 122 dX8_keeps_71 rfl fl8_7 ob121 rfl ?_
      refine ac_iload_n 75 dX8_keeps_74 rfl rfl ?_
      refine ac_iald 76 dX8_keeps_75 rfl ar122 (ix_nI (by omega) (by decide)) ?_
      rw [show ((am_row M 124 (va_cpy (M 122) (M 124) 0 (69 * u) k)) 122 k) = (M 122 k) from rfl]
      refine ac_iast 77 dX8_keeps_76 rfl ar124 (ix_of (k := ((69 * (u)) + (k))) (by simp only [show (69 : Int32) = nI 69 from rfl, pk_mul, nI_add]) (by omega) (by decide)) ?_
      refine ac_iinc 80 (nI (k + 1)) [some (Value.ref 121), some (Value.int (nI (k + 1)))] dX8_keeps_77 rfl rfl (nI_1 _) rfl (by decide) rfl ?_
      refine ac_goto 51 dX8_keeps_80 (by decide) ?_
      rw [cp_step rfl (by rw [Nat.zero_add])]
      exact ih
  refine ac_iconst 50 0 dX8_keeps_49 rfl (by decide) ?_
  refine ac_istore_n 51 [some (Value.ref 121), some (Value.int 0)] dX8_keeps_50 rfl rfl (Nat.le_of_ble_eq_true rfl) (by decide) rfl ?_
  rw [cp_row0] at hL
  exact hL
set_option maxRecDepth 20000 in
theorem c8_keeps6 {M : am_I} {V : am_J} {f : Nat → Option Nat} (hu : M 121 3 = 6) : CT m8_keeps 1 [Value.ref 121] M V f (RM none (am_up (am_row M 124 (va_cpy (M 122) (va_cpy (M 124) (M 124) 69 0 345) 0 345 69)) 121 3 6) V f) := by
  refine CT.of m8_keeps_V.1 _ (en_a_2 121) ?_
  refine ac_aload_n 1 dX8_keeps_0 rfl rfl ?_
  refine ac_getI 4 dX8_keeps_1 rfl fl8_108 ob121 ?_
  rw [show (M 121 3) = 6 from hu]
  refine ac_bipush 6 6 dX8_keeps_4 rfl (by decide) ?_
  refine ac_icmp_ne 49 9 dX8_keeps_6 (by decide) rfl (fun c_6 => absurd (by decide) c_6) (fun _ => ?_)
  have hL : A0 m8_keeps 1 11 [some (Value.ref 121), some (Value.int (nI 0))] [] (am_row M 124 (va_cpy (M 124) (M 124) 69 0 0)) V f (RM none (am_up (am_row M 124 (va_cpy (M 122) (va_cpy (M 124) (M 124) 69 0 345) 0 345 69)) 121 3 6) V f) := by
    refine ac_down (n := 345) (P := fun k => A0 m8_keeps 1 11 [some (Value.ref 121), some (Value.int (nI k))] [] (am_row M 124 (va_cpy (M 124) (M 124) 69 0 k)) V f (RM none (am_up (am_row M 124 (va_cpy (M 122) (va_cpy (M 124) (M 124) 69 0 345) 0 345 69)) 121 3 6) V f)) ?_ ?_ 0 (Nat.zero_le _) 
    · refine ac_iload_n 12 dX8_keeps_11 rfl rfl ?_
      refine ac_sipush 15 345 dX8_keeps_12 rfl (by decide) ?_
      refine ac_icmp_ge 39 18 dX8_keeps_15 (by decide) rfl (fun _ => ?_) (fun c_15 => absurd (by decide) c_15)
      refine ac_aload_n 40 dX8_keeps_39 rfl rfl ?_
      refine ac_dup 41 dX8_keeps_40 rfl rfl ?_
      refine ac_getI 44 dX8_keeps_41 rfl fl8_108 ob121 ?_
      rw [show ((am_row M 124 (va_cpy (M 124) (M 124) 69 0 345)) 121 3) = (M 121 3) from rfl]
      rw [show (M 121 3) = 6 from hu]
      refine ac_iconst 45 1 dX8_keeps_44 rfl (by decide) ?_
      refine ac_isub 46 dX8_keeps_45 rfl ?_
      rw [show ((6 : Int32) - 1) = 5 from (by decide)]
      refine ac_putI 49 dX8_keeps_46 rfl fl8_108 rfl rfl ob121 ?_
      have hL : A0 m8_keeps 1 51 [some (Value.ref 121), some (Value.int (nI 0))] [] (am_row (am_up (am_row M 124 (va_cpy (M 124) (M 124) 69 0 345)) 121 3 5) 124 (va_cpy (M 122) (va_cpy (M 124) (M 124) 69 0 345) 0 345 0)) V f (RM none (am_up (am_row M 124 (va_cpy (M 122) (va_cpy (M 124) (M 124) 69 0 345) 0 345 69)) 121 3 6) V f) := by
        refine ac_down (n := 69) (P := fun k => A0 m8_keeps 1 51 [some (Value.ref 121), some (Value.int (nI k))] [] (am_row (am_up (am_row M 124 (va_cpy (M 124) (M 124) 69 0 345)) 121 3 5) 124 (va_cpy (M 122) (va_cpy (M 124) (M 124) 69 0 345) 0 345 k)) V f (RM none (am_up (am_row M 124 (va_cpy (M 122) (va_cpy (M 124) (M 124) 69 0 345) 0 345 69)) 121 3 6) V f)) ?_ ?_ 0 (Nat.zero_le _) 
        · refine ac_iload_n 52 dX8_keeps_51 rfl rfl ?_
          refine ac_bipush 54 69 dX8_keeps_52 rfl (by decide) ?_
          refine ac_icmp_ge 83 57 dX8_keeps_54 (by decide) rfl (fun _ => ?_) (fun c_54 => absurd (by decide) c_54)
          refine ac_aload_n 84 dX8_keeps_83 rfl rfl ?_
          refine ac_dup 85 dX8_keeps_84 rfl rfl ?_
          refine ac_getI 88 dX8_keeps_85 rfl fl8_108 ob121 ?_
          rw [show ((am_row (am_up (am_row M 124 (va_cpy (M 124) (M 124) 69 0 345)) 121 3 5) 124 (va_cpy (M 122) (va_cpy (M 124) (M 124) 69 0 345) 0 345 69)) 121 3) = 5 from rfl]
          refine ac_iconst 89 1 dX8_keeps_88 rfl (by decide) ?_
          refine ac_iadd 90 dX8_keeps_89 rfl ?_
          rw [show ((5 : Int32) + 1) = 6 from (by decide)]
          refine ac_putI 93 dX8_keeps_90 rfl fl8_108 rfl rfl ob121 ?_
          refine ac_vret dX8_keeps_93 rfl ?_
          exact rm_mk (by rw [row_sw (by decide), row_row, up_up])
        · intro k hk ih
          refine ac_iload_n 52 dX8_keeps_51 rfl rfl ?_
          refine ac_bipush 54 69 dX8_keeps_52 rfl (by decide) ?_
          refine ac_icmp_ge 83 57 dX8_keeps_54 (by decide) rfl (fun c_54 => absurd c_54 (nI_ge (b := 69) hk (by decide))) (fun _ => ?_)
          refine ac_aload_n 58 dX8_keeps_57 rfl rfl ?_
          refine ac_getO 61 124 dX8_keeps_58 rfl fl8_16 ob121 rfl ?_
          refine ac_bipush 63 69 dX8_keeps_61 rfl (by decide) ?_
          refine ac_aload_n 64 dX8_keeps_63 rfl rfl ?_
          refine ac_getI 67 dX8_keeps_64 rfl fl8_108 ob121 ?_
          rw [show ((am_row (am_up (am_row M 124 (va_cpy (M 124) (M 124) 69 0 345)) 121 3 5) 124 (va_cpy (M 122) (va_cpy (M 124) (M 124) 69 0 345) 0 345 k)) 121 3) = 5 from rfl]
          refine ac_imul 68 dX8_keeps_67 rfl ?_
          rw [show ((69 : Int32) * 5) = 345 from (by decide)]
          refine ac_iload_n 69 dX8_keeps_68 rfl rfl ?_
          refine ac_iadd 70 dX8_keeps_69 rfl ?_
          refine ac_aload_n 71 dX8_keeps_70 rfl rfl ?_
          refine ac_getO 74 122 dX8_keeps_71 rfl fl8_7 ob121 rfl ?_
          refine ac_iload_n 75 dX8_keeps_74 rfl rfl ?_
          refine ac_iald 76 dX8_keeps_75 rfl ar122 (ix_nI (by omega) (by decide)) ?_
          rw [show ((am_row (am_up (am_row M 124 (va_cpy (M 124) (M 124) 69 0 345)) 121 3 5) 124 (va_cpy (M 122) (va_cpy (M 124) (M 124) 69 0 345) 0 345 k)) 122 k) = (M 122 k) from rfl]
          refine ac_iast 77 dX8_keeps_76 rfl ar124 (ix_of (k := (345 + (k))) (by simp only [show (345 : Int32) = nI 345 from rfl, pk_mul, nI_add]) (by omega) (by decide)) ?_
          refine ac_iinc 80 (nI (k + 1)) [some (Value.ref 121), some (Value.int (nI (k + 1)))] dX8_keeps_77 rfl rfl (nI_1 _) rfl (by decide) rfl ?_
          refine ac_goto 51 dX8_keeps_80 (by decide) ?_
          rw [cp_step (by omega) (by rw [Nat.zero_add])]
          exact ih
      refine ac_iconst 50 0 dX8_keeps_49 rfl (by decide) ?_
      refine ac_istore_n 51 [some (Value.ref 121), some (Value.int 0)] dX8_keeps_50 rfl rfl (Nat.le_of_ble_eq_true rfl) (by decide) rfl ?_
      rw [show va_cpy (M 122) (va_cpy (M 124) (M 124) 69 0 345) 0 345 0 = (am_up (am_row M 124 (va_cpy (M 124) (M 124) 69 0 345)) 121 3 5) 124 from cp_0, row_id] at hL
      exact hL
    · intro k hk ih
      refine ac_iload_n 12 dX8_keeps_11 rfl rfl ?_
      refine ac_sipush 15 345 dX8_keeps_12 rfl (by decide) ?_
      refine ac_icmp_ge 39 18 dX8_keeps_15 (by decide) rfl (fun c_15 => absurd c_15 (nI_ge (b := 345) hk (by decide))) (fun _ => ?_)
      refine ac_aload_n 19 dX8_keeps_18 rfl rfl ?_
      refine ac_getO 22 124 dX8_keeps_19 rfl fl8_16 ob121 rfl ?_
      refine ac_iload_n 23 dX8_keeps_22 rfl rfl ?_
      refine ac_aload_n 24 dX8_keeps_23 rfl rfl ?_
      refine ac_getO 27 124 dX8_keeps_24 rfl fl8_16 ob121 rfl ?_
      refine ac_iload_n 28 dX8_keeps_27 rfl rfl ?_
      refine ac_bipush 30 69 dX8_keeps_28 rfl (by decide) ?_
      refine ac_iadd 31 dX8_keeps_30 rfl ?_
      refine ac_iald 32 dX8_keeps_31 rfl ar124 (ix_of (k := ((k) + 69)) (by simp only [show (69 : Int32) = nI 69 from rfl, pk_mul, nI_add]) (by omega) (by decide)) ?_
      rw [show ((am_row M 124 (va_cpy (M 124) (M 124) 69 0 k)) 124 ((k) + 69)) = (M 124 (k + 69)) from (by show va_cpy _ _ _ _ _ _ = _; exact cp_out (Or.inr (by omega)))]
      refine ac_iast 33 dX8_keeps_32 rfl ar124 (ix_nI (by omega) (by decide)) ?_
      refine ac_iinc 36 (nI (k + 1)) [some (Value.ref 121), some (Value.int (nI (k + 1)))] dX8_keeps_33 rfl rfl (nI_1 _) rfl (by decide) rfl ?_
      refine ac_goto 11 dX8_keeps_36 (by decide) ?_
      rw [cp_step (by omega) (by rw [Nat.add_comm])]
      exact ih
  refine ac_iconst 10 0 dX8_keeps_9 rfl (by decide) ?_
  refine ac_istore_n 11 [some (Value.ref 121), some (Value.int 0)] dX8_keeps_10 rfl rfl (Nat.le_of_ble_eq_true rfl) (by decide) rfl ?_
  rw [cp_row0] at hL
  exact hL
theorem nI_sub1 {n : Nat} (h : 0 < n) : nI n - 1 = nI (n - 1) := by
  obtain ⟨m, rfl⟩ : ∃ m, n = m + 1 := ⟨n - 1, by omega⟩
  exact nI_pred m
theorem row_at {α : Type} {M : Nat → Nat → α} {r : Nat} {g : Nat → α} : am_row M r g r = g := by simp [am_row]
theorem c8_hkX {M : am_I} {V : am_J} {f : Nat → Option Nat} {j : Nat} (hj : j < 5) (x : Int32) : CT m8_hookX 2 [.ref 121, .int (nI j), .int x] M V f (RV (hkX (M 122) j x) M V f) := c8_hookX hj x
theorem c8_hkY {M : am_I} {V : am_J} {f : Nat → Option Nat} {j : Nat} (hj : j < 5) : CT m8_hookY 2 [.ref 121, .int (nI j)] M V f (RV (hkY (M 122) j) M V f) := c8_hookY hj
theorem up_ne {α : Type} {M : Nat → Nat → α} {r k j : Nat} {v : α} (h : j ≠ k) : am_up M r k v r j = M r j := by simp [am_up, h]
theorem up_eq {α : Type} {M : Nat → Nat → α} {r k : Nat} {v : α} : am_up M r k v r k = v := by simp [am_up]
/-- the row of past walls behind keeps(); how many are known then -/
def kpr (P N : Nat → Int32) (u : Nat) : Nat → Int32 := if u = 6 then va_cpy N (va_cpy P P 69 0 345) 0 345 69 else va_cpy N P 0 (69 * u) 69
def kpn (u : Nat) : Nat := if u = 6 then 6 else u + 1
theorem c8_kp {M : am_I} {V : am_J} {f : Nat → Option Nat} {u : Nat} (hu : M 121 3 = nI u) (hu6 : u ≤ 6) : CT m8_keeps 1 [.ref 121] M V f (RM none (am_up (am_row M 124 (kpr (M 124) (M 122) u)) 121 3 (nI (kpn u))) V f) := by
  by_cases h : u = 6
  · subst h
    exact c8_keeps6 hu
  · have e1 : kpr (M 124) (M 122) u = va_cpy (M 122) (M 124) 0 (69 * u) 69 := if_neg h
    have e2 : kpn u = u + 1 := if_neg h
    rw [e1, e2]
    exact c8_keeps hu (by omega)
set_option maxRecDepth 20000 in
theorem q8_takF {M : am_I} {V : am_J} {f : Nat → Option Nat} {np nd nh : Nat} (hn : NC (M 122) np nd nh) {p : Int32} (hp : ¬ vI p np) : CT m8_takes 3 [Value.ref 121, Value.int p] M V f (RV (-1) M V f) := by
  refine CT.of m8_takes_V.1 _ (en_ai_3 121 p) ?_
  refine ac_aload_n 1 dX8_takes_0 rfl rfl ?_
  refine ac_iload_n 2 dX8_takes_1 rfl rfl ?_
  refine ac_callV (μ' := m8_isPicture) 5 dX8_takes_2 rfl lk8_136 m8_isPicture_V ob121 (c8_isPF hn hp) rfl rfl (by decide) (Nat.le_of_ble_eq_true rfl) ?_
  refine ac_if_ne 10 8 dX8_takes_5 (by decide) rfl (fun c_5 => absurd (by decide) c_5) (fun _ => ?_)
  refine ac_iconst 9 (-1) dX8_takes_8 rfl (by decide) ?_
  refine ac_iret dX8_takes_9 ⟨_, rfl, rfl⟩ ?_
  exact rv_mk rfl
set_option maxRecDepth 20000 in
theorem q8_takN {M : am_I} {V : am_J} {f : Nat → Option Nat} {np nd nh j : Nat} (hn : NC (M 122) np nd nh) (hj : j < np) (ha : M 122 (64 + j) = -9) : CT m8_takes 3 [Value.ref 121, Value.int (nI j)] M V f (RV (-2) M V f) := by
  have hnp := hn.2.1
  refine CT.of m8_takes_V.1 _ (en_ai_3 121 (nI j)) ?_
  refine ac_aload_n 1 dX8_takes_0 rfl rfl ?_
  refine ac_iload_n 2 dX8_takes_1 rfl rfl ?_
  refine ac_callV (μ' := m8_isPicture) 5 dX8_takes_2 rfl lk8_136 m8_isPicture_V ob121 (c8_isPT hn hj) rfl rfl (by decide) (Nat.le_of_ble_eq_true rfl) ?_
  refine ac_if_ne 10 8 dX8_takes_5 (by decide) rfl (fun _ => ?_) (fun c_5 => absurd c_5 (by decide))
  refine ac_aload_n 11 dX8_takes_10 rfl rfl ?_
  refine ac_iload_n 12 dX8_takes_11 rfl rfl ?_
  refine ac_callV (μ' := m8_hangsNow) 15 dX8_takes_12 rfl lk8_122 m8_hangsNow_V ob121 (c8_hangsNow (j := (j)) (by omega)) rfl rfl (by decide) (Nat.le_of_ble_eq_true rfl) ?_
  refine ac_if_ne 21 18 dX8_takes_15 (by decide) rfl (fun c_15 => absurd (bi_f (fun h => h ha)) c_15) (fun _ => ?_)
  refine ac_bipush 20 (-2) dX8_takes_18 rfl (by decide) ?_
  refine ac_iret dX8_takes_20 ⟨_, rfl, rfl⟩ ?_
  exact rv_mk rfl
set_option maxRecDepth 20000 in
theorem q8_tak {M : am_I} {V : am_J} {f : Nat → Option Nat} {np nd nh j : Nat} (hn : NC (M 122) np nd nh) (hj : j < np) (ha : M 122 (64 + j) ≠ -9) {u : Nat} (hu : M 121 3 = nI u) (hu6 : u ≤ 6) : CT m8_takes 3 [Value.ref 121, Value.int (nI j)] M V f (RM (some (.int (M 122 (64 + j)))) (am_up (am_up (am_row M 124 (kpr (M 124) (M 122) u)) 121 3 (nI (kpn u))) 122 (64 + j) (-9)) V f) := by
  have hnp := hn.2.1
  refine CT.of m8_takes_V.1 _ (en_ai_3 121 (nI j)) ?_
  refine ac_aload_n 1 dX8_takes_0 rfl rfl ?_
  refine ac_iload_n 2 dX8_takes_1 rfl rfl ?_
  refine ac_callV (μ' := m8_isPicture) 5 dX8_takes_2 rfl lk8_136 m8_isPicture_V ob121 (c8_isPT hn hj) rfl rfl (by decide) (Nat.le_of_ble_eq_true rfl) ?_
  refine ac_if_ne 10 8 dX8_takes_5 (by decide) rfl (fun _ => ?_) (fun c_5 => absurd c_5 (by decide))
  refine ac_aload_n 11 dX8_takes_10 rfl rfl ?_
  refine ac_iload_n 12 dX8_takes_11 rfl rfl ?_
  refine ac_callV (μ' := m8_hangsNow) 15 dX8_takes_12 rfl lk8_122 m8_hangsNow_V ob121 (c8_hangsNow (j := (j)) (by omega)) rfl rfl (by decide) (Nat.le_of_ble_eq_true rfl) ?_
  refine ac_if_ne 21 18 dX8_takes_15 (by decide) rfl (fun _ => ?_) (fun c_15 => absurd c_15 (by rw [bi_eq0]; exact fun h => h ha))
  refine ac_aload_n 22 dX8_takes_21 rfl rfl ?_
  refine ac_callVm (μ' := m8_keeps) 25 dX8_takes_22 rfl lk8_115 m8_keeps_V ob121 (c8_kp hu hu6) rfl rfl (by decide) (Nat.le_of_ble_eq_true rfl) ?_
  refine ac_aload_n 26 dX8_takes_25 rfl rfl ?_
  refine ac_getO 29 122 dX8_takes_26 rfl fl8_7 ob121 rfl ?_
  refine ac_bipush 31 64 dX8_takes_29 rfl (by decide) ?_
  refine ac_iload_n 32 dX8_takes_31 rfl rfl ?_
  refine ac_iadd 33 dX8_takes_32 rfl ?_
  refine ac_iald 34 dX8_takes_33 rfl ar122 (ix_of (k := (64 + (j))) (by simp only [show (64 : Int32) = nI 64 from rfl, pk_mul, nI_add]) (by omega) (by decide)) ?_
  rw [show ((am_up (am_row M 124 (kpr (M 124) (M 122) u)) 121 3 (nI (kpn u))) 122 (64 + (j))) = (M 122 (64 + (j))) from rfl]
  refine ac_istore_n 35 [some (Value.ref 121), some (Value.int (nI j)), some (Value.int (M 122 (64 + (j))))] dX8_takes_34 rfl rfl (Nat.le_of_ble_eq_true rfl) (by decide) rfl ?_
  refine ac_aload_n 36 dX8_takes_35 rfl rfl ?_
  refine ac_getO 39 122 dX8_takes_36 rfl fl8_7 ob121 rfl ?_
  refine ac_bipush 41 64 dX8_takes_39 rfl (by decide) ?_
  refine ac_iload_n 42 dX8_takes_41 rfl rfl ?_
  refine ac_iadd 43 dX8_takes_42 rfl ?_
  refine ac_bipush 45 (-9) dX8_takes_43 rfl (by decide) ?_
  refine ac_iast 46 dX8_takes_45 rfl ar122 (ix_of (k := (64 + (j))) (by simp only [show (64 : Int32) = nI 64 from rfl, pk_mul, nI_add]) (by omega) (by decide)) ?_
  refine ac_iload_n 47 dX8_takes_46 rfl rfl ?_
  refine ac_iret dX8_takes_47 ⟨_, rfl, rfl⟩ ?_
  exact rm_mk rfl
set_option maxRecDepth 20000 in
theorem q8_hanF {M : am_I} {V : am_J} {f : Nat → Option Nat} {np nd nh : Nat} (hn : NC (M 122) np nd nh) {p : Int32} (hp : ¬ vI p np) (x : Int32) : CT m8_hangs 4 [Value.ref 121, Value.int p, Value.int x] M V f (RV (-1) M V f) := by
  refine CT.of m8_hangs_V.1 _ (en_aii_5 121 p x) ?_
  refine ac_aload_n 1 dX8_hangs_0 rfl rfl ?_
  refine ac_iload_n 2 dX8_hangs_1 rfl rfl ?_
  refine ac_callV (μ' := m8_isPicture) 5 dX8_hangs_2 rfl lk8_136 m8_isPicture_V ob121 (c8_isPF hn hp) rfl rfl (by decide) (Nat.le_of_ble_eq_true rfl) ?_
  refine ac_if_eq 18 8 dX8_hangs_5 (by decide) rfl (fun _ => ?_) (fun c_5 => absurd (by decide) c_5)
  refine ac_iconst 19 (-1) dX8_hangs_18 rfl (by decide) ?_
  refine ac_iret dX8_hangs_19 ⟨_, rfl, rfl⟩ ?_
  exact rv_mk rfl
set_option maxRecDepth 20000 in
theorem q8_hanX {M : am_I} {V : am_J} {f : Nat → Option Nat} {np nd nh j : Nat} (hn : NC (M 122) np nd nh) (hj : j < np) {x : Int32} (hw : ¬ vI x 40) : CT m8_hangs 4 [Value.ref 121, Value.int (nI j), Value.int x] M V f (RV (-1) M V f) := by
  have hnp := hn.2.1
  refine CT.of m8_hangs_V.1 _ (en_aii_5 121 (nI j) x) ?_
  refine ac_aload_n 1 dX8_hangs_0 rfl rfl ?_
  refine ac_iload_n 2 dX8_hangs_1 rfl rfl ?_
  refine ac_callV (μ' := m8_isPicture) 5 dX8_hangs_2 rfl lk8_136 m8_isPicture_V ob121 (c8_isPT hn hj) rfl rfl (by decide) (Nat.le_of_ble_eq_true rfl) ?_
  refine ac_if_eq 18 8 dX8_hangs_5 (by decide) rfl (fun c_5 => absurd c_5 (by decide)) (fun _ => ?_)
  refine ac_iload_n 9 dX8_hangs_8 rfl rfl ?_
  refine ac_iconst 10 0 dX8_hangs_9 rfl (by decide) ?_
  refine ac_bipush 12 39 dX8_hangs_10 rfl (by decide) ?_
  refine ac_callS (μ' := m8_within) 15 dX8_hangs_12 rfl lk8_67 m8_within_S (c8_wF (wh_not (n := 40) (by decide) hw rfl)) rfl rfl (by decide) (Nat.le_of_ble_eq_true rfl) ?_
  refine ac_if_ne 20 18 dX8_hangs_15 (by decide) rfl (fun c_15 => absurd (by decide) c_15) (fun _ => ?_)
  refine ac_iconst 19 (-1) dX8_hangs_18 rfl (by decide) ?_
  refine ac_iret dX8_hangs_19 ⟨_, rfl, rfl⟩ ?_
  exact rv_mk rfl
set_option maxRecDepth 20000 in
theorem q8_hanU {M : am_I} {V : am_J} {f : Nat → Option Nat} {np nd nh j : Nat} (hn : NC (M 122) np nd nh) (hj : j < np) {x : Int32} (hx0 : 0 ≤ x) (hx1 : x ≤ 39) (ha : M 122 (64 + j) ≠ -9) : CT m8_hangs 4 [Value.ref 121, Value.int (nI j), Value.int x] M V f (RV (-2) M V f) := by
  have hnp := hn.2.1
  refine CT.of m8_hangs_V.1 _ (en_aii_5 121 (nI j) x) ?_
  refine ac_aload_n 1 dX8_hangs_0 rfl rfl ?_
  refine ac_iload_n 2 dX8_hangs_1 rfl rfl ?_
  refine ac_callV (μ' := m8_isPicture) 5 dX8_hangs_2 rfl lk8_136 m8_isPicture_V ob121 (c8_isPT hn hj) rfl rfl (by decide) (Nat.le_of_ble_eq_true rfl) ?_
  refine ac_if_eq 18 8 dX8_hangs_5 (by decide) rfl (fun c_5 => absurd c_5 (by decide)) (fun _ => ?_)
  refine ac_iload_n 9 dX8_hangs_8 rfl rfl ?_
  refine ac_iconst 10 0 dX8_hangs_9 rfl (by decide) ?_
  refine ac_bipush 12 39 dX8_hangs_10 rfl (by decide) ?_
  refine ac_callS (μ' := m8_within) 15 dX8_hangs_12 rfl lk8_67 m8_within_S (c8_wT ⟨hx0, hx1⟩) rfl rfl (by decide) (Nat.le_of_ble_eq_true rfl) ?_
  refine ac_if_ne 20 18 dX8_hangs_15 (by decide) rfl (fun _ => ?_) (fun c_15 => absurd c_15 (by decide))
  refine ac_aload_n 21 dX8_hangs_20 rfl rfl ?_
  refine ac_iload_n 22 dX8_hangs_21 rfl rfl ?_
  refine ac_callV (μ' := m8_hangsNow) 25 dX8_hangs_22 rfl lk8_122 m8_hangsNow_V ob121 (c8_hangsNow (j := (j)) (by omega)) rfl rfl (by decide) (Nat.le_of_ble_eq_true rfl) ?_
  refine ac_if_ne 46 28 dX8_hangs_25 (by decide) rfl (fun _ => ?_) (fun c_25 => absurd c_25 (by rw [bi_eq0]; exact fun h => h ha))
  refine ac_bipush 48 (-2) dX8_hangs_46 rfl (by decide) ?_
  refine ac_iret dX8_hangs_48 ⟨_, rfl, rfl⟩ ?_
  exact rv_mk rfl
set_option maxRecDepth 20000 in
theorem q8_hanN {M : am_I} {V : am_J} {f : Nat → Option Nat} {np nd nh j : Nat} (hn : NC (M 122) np nd nh) (hj : j < np) {x : Int32} (hx0 : 0 ≤ x) (hx1 : x ≤ 39) (ha : M 122 (64 + j) = -9) (hb : ¬ (fitN (M 122) nd j x ∧ apN (M 122) np j x)) : CT m8_hangs 4 [Value.ref 121, Value.int (nI j), Value.int x] M V f (RV (-2) M V f) := by
  have hnp := hn.2.1
  refine CT.of m8_hangs_V.1 _ (en_aii_5 121 (nI j) x) ?_
  refine ac_aload_n 1 dX8_hangs_0 rfl rfl ?_
  refine ac_iload_n 2 dX8_hangs_1 rfl rfl ?_
  refine ac_callV (μ' := m8_isPicture) 5 dX8_hangs_2 rfl lk8_136 m8_isPicture_V ob121 (c8_isPT hn hj) rfl rfl (by decide) (Nat.le_of_ble_eq_true rfl) ?_
  refine ac_if_eq 18 8 dX8_hangs_5 (by decide) rfl (fun c_5 => absurd c_5 (by decide)) (fun _ => ?_)
  refine ac_iload_n 9 dX8_hangs_8 rfl rfl ?_
  refine ac_iconst 10 0 dX8_hangs_9 rfl (by decide) ?_
  refine ac_bipush 12 39 dX8_hangs_10 rfl (by decide) ?_
  refine ac_callS (μ' := m8_within) 15 dX8_hangs_12 rfl lk8_67 m8_within_S (c8_wT ⟨hx0, hx1⟩) rfl rfl (by decide) (Nat.le_of_ble_eq_true rfl) ?_
  refine ac_if_ne 20 18 dX8_hangs_15 (by decide) rfl (fun _ => ?_) (fun c_15 => absurd c_15 (by decide))
  refine ac_aload_n 21 dX8_hangs_20 rfl rfl ?_
  refine ac_iload_n 22 dX8_hangs_21 rfl rfl ?_
  refine ac_callV (μ' := m8_hangsNow) 25 dX8_hangs_22 rfl lk8_122 m8_hangsNow_V ob121 (c8_hangsNow (j := (j)) (by omega)) rfl rfl (by decide) (Nat.le_of_ble_eq_true rfl) ?_
  refine ac_if_ne 46 28 dX8_hangs_25 (by decide) rfl (fun c_25 => absurd (bi_f (fun h => h ha)) c_25) (fun _ => ?_)
  refine ac_aload_n 29 dX8_hangs_28 rfl rfl ?_
  refine ac_iload_n 30 dX8_hangs_29 rfl rfl ?_
  refine ac_iload_n 31 dX8_hangs_30 rfl rfl ?_
  refine ac_callV (μ' := m8_doesFit) 34 dX8_hangs_31 rfl lk8_139 m8_doesFit_V ob121 (c8_doesFit hn (by omega) _) rfl rfl (by decide) (Nat.le_of_ble_eq_true rfl) ?_
  refine ac_if_eq 46 37 dX8_hangs_34 (by decide) rfl (fun c_34 => ?_) (fun c_34 => ?_)
  · refine ac_bipush 48 (-2) dX8_hangs_46 rfl (by decide) ?_
    refine ac_iret dX8_hangs_48 ⟨_, rfl, rfl⟩ ?_
    exact rv_mk rfl
  · have hf := bi_ne0.mp c_34
    refine ac_aload_n 38 dX8_hangs_37 rfl rfl ?_
    refine ac_iload_n 39 dX8_hangs_38 rfl rfl ?_
    refine ac_iload_n 40 dX8_hangs_39 rfl rfl ?_
    refine ac_callV (μ' := m8_isApart) 43 dX8_hangs_40 rfl lk8_142 m8_isApart_V ob121 (c8_isApart hn (by omega) _) rfl rfl (by decide) (Nat.le_of_ble_eq_true rfl) ?_
    refine ac_if_ne 49 46 dX8_hangs_43 (by decide) rfl (fun c_43 => ?_) (fun c_43 => ?_)
    · exact absurd ⟨hf, bi_ne0.mp c_43⟩ hb
    · refine ac_bipush 48 (-2) dX8_hangs_46 rfl (by decide) ?_
      refine ac_iret dX8_hangs_48 ⟨_, rfl, rfl⟩ ?_
      exact rv_mk rfl
set_option maxRecDepth 20000 in
theorem q8_hanO {M : am_I} {V : am_J} {f : Nat → Option Nat} {np nd nh j : Nat} (hn : NC (M 122) np nd nh) (hj : j < np) {x : Int32} (hx0 : 0 ≤ x) (hx1 : x ≤ 39) (ha : M 122 (64 + j) = -9) (hf : fitN (M 122) nd j x) (hap : apN (M 122) np j x) (hh : hoN (M 122) nh (hkX (M 122) j x) (hkY (M 122) j)) {u : Nat} (hu : M 121 3 = nI u) (hu6 : u ≤ 6) : CT m8_hangs 4 [Value.ref 121, Value.int (nI j), Value.int x] M V f (RM (some (.int 0)) (am_up (am_up (am_row M 124 (kpr (M 124) (M 122) u)) 121 3 (nI (kpn u))) 122 (64 + j) x) V f) := by
  have hnp := hn.2.1
  refine CT.of m8_hangs_V.1 _ (en_aii_5 121 (nI j) x) ?_
  refine ac_aload_n 1 dX8_hangs_0 rfl rfl ?_
  refine ac_iload_n 2 dX8_hangs_1 rfl rfl ?_
  refine ac_callV (μ' := m8_isPicture) 5 dX8_hangs_2 rfl lk8_136 m8_isPicture_V ob121 (c8_isPT hn hj) rfl rfl (by decide) (Nat.le_of_ble_eq_true rfl) ?_
  refine ac_if_eq 18 8 dX8_hangs_5 (by decide) rfl (fun c_5 => absurd c_5 (by decide)) (fun _ => ?_)
  refine ac_iload_n 9 dX8_hangs_8 rfl rfl ?_
  refine ac_iconst 10 0 dX8_hangs_9 rfl (by decide) ?_
  refine ac_bipush 12 39 dX8_hangs_10 rfl (by decide) ?_
  refine ac_callS (μ' := m8_within) 15 dX8_hangs_12 rfl lk8_67 m8_within_S (c8_wT ⟨hx0, hx1⟩) rfl rfl (by decide) (Nat.le_of_ble_eq_true rfl) ?_
  refine ac_if_ne 20 18 dX8_hangs_15 (by decide) rfl (fun _ => ?_) (fun c_15 => absurd c_15 (by decide))
  refine ac_aload_n 21 dX8_hangs_20 rfl rfl ?_
  refine ac_iload_n 22 dX8_hangs_21 rfl rfl ?_
  refine ac_callV (μ' := m8_hangsNow) 25 dX8_hangs_22 rfl lk8_122 m8_hangsNow_V ob121 (c8_hangsNow (j := (j)) (by omega)) rfl rfl (by decide) (Nat.le_of_ble_eq_true rfl) ?_
  refine ac_if_ne 46 28 dX8_hangs_25 (by decide) rfl (fun c_25 => absurd (bi_f (fun h => h ha)) c_25) (fun _ => ?_)
  refine ac_aload_n 29 dX8_hangs_28 rfl rfl ?_
  refine ac_iload_n 30 dX8_hangs_29 rfl rfl ?_
  refine ac_iload_n 31 dX8_hangs_30 rfl rfl ?_
  refine ac_callV (μ' := m8_doesFit) 34 dX8_hangs_31 rfl lk8_139 m8_doesFit_V ob121 (c8_doesFit hn (by omega) _) rfl rfl (by decide) (Nat.le_of_ble_eq_true rfl) ?_
  refine ac_if_eq 46 37 dX8_hangs_34 (by decide) rfl (fun c_34 => absurd c_34 (by rw [bi_eq0]; exact fun h => h hf)) (fun _ => ?_)
  refine ac_aload_n 38 dX8_hangs_37 rfl rfl ?_
  refine ac_iload_n 39 dX8_hangs_38 rfl rfl ?_
  refine ac_iload_n 40 dX8_hangs_39 rfl rfl ?_
  refine ac_callV (μ' := m8_isApart) 43 dX8_hangs_40 rfl lk8_142 m8_isApart_V ob121 (c8_isApart hn (by omega) _) rfl rfl (by decide) (Nat.le_of_ble_eq_true rfl) ?_
  refine ac_if_ne 49 46 dX8_hangs_43 (by decide) rfl (fun _ => ?_) (fun c_43 => absurd c_43 (by rw [bi_eq0]; exact fun h => h hap))
  refine ac_aload_n 50 dX8_hangs_49 rfl rfl ?_
  refine ac_iload_n 51 dX8_hangs_50 rfl rfl ?_
  refine ac_iload_n 52 dX8_hangs_51 rfl rfl ?_
  refine ac_callV (μ' := m8_hasHole) 55 dX8_hangs_52 rfl lk8_145 m8_hasHole_V ob121 (c8_hasHole hn (by omega) _) rfl rfl (by decide) (Nat.le_of_ble_eq_true rfl) ?_
  refine ac_if_ne 62 58 dX8_hangs_55 (by decide) rfl (fun _ => ?_) (fun c_55 => absurd c_55 (by rw [bi_eq0]; exact fun h => h hh))
  refine ac_iconst 63 0 dX8_hangs_62 rfl (by decide) ?_
  refine ac_istore_n 64 [some (Value.ref 121), some (Value.int (nI j)), some (Value.int x), some (Value.int 0), none] dX8_hangs_63 rfl rfl (Nat.le_of_ble_eq_true rfl) (by decide) rfl ?_
  refine ac_iload_n 65 dX8_hangs_64 rfl rfl ?_
  refine ac_if_eq 83 68 dX8_hangs_65 (by decide) rfl (fun _ => ?_) (fun c_65 => absurd (by decide) c_65)
  refine ac_aload_n 84 dX8_hangs_83 rfl rfl ?_
  refine ac_callVm (μ' := m8_keeps) 87 dX8_hangs_84 rfl lk8_115 m8_keeps_V ob121 (c8_kp hu hu6) rfl rfl (by decide) (Nat.le_of_ble_eq_true rfl) ?_
  refine ac_aload_n 88 dX8_hangs_87 rfl rfl ?_
  refine ac_getO 91 122 dX8_hangs_88 rfl fl8_7 ob121 rfl ?_
  refine ac_bipush 93 64 dX8_hangs_91 rfl (by decide) ?_
  refine ac_iload_n 94 dX8_hangs_93 rfl rfl ?_
  refine ac_iadd 95 dX8_hangs_94 rfl ?_
  refine ac_iload_n 96 dX8_hangs_95 rfl rfl ?_
  refine ac_iast 97 dX8_hangs_96 rfl ar122 (ix_of (k := (64 + (j))) (by simp only [show (64 : Int32) = nI 64 from rfl, pk_mul, nI_add]) (by omega) (by decide)) ?_
  refine ac_iload_n 98 dX8_hangs_97 rfl rfl ?_
  refine ac_if_eq 153 101 dX8_hangs_98 (by decide) rfl (fun _ => ?_) (fun c_98 => absurd (by decide) c_98)
  refine ac_iload_n 154 dX8_hangs_153 rfl rfl ?_
  refine ac_if_eq 161 157 dX8_hangs_154 (by decide) rfl (fun _ => ?_) (fun c_154 => absurd (by decide) c_154)
  refine ac_iconst 162 0 dX8_hangs_161 rfl (by decide) ?_
  refine ac_iret dX8_hangs_162 ⟨_, rfl, rfl⟩ ?_
  exact rm_mk rfl
set_option maxRecDepth 20000 in
theorem q8_hanL {M : am_I} {V : am_J} {f : Nat → Option Nat} {np nd nh j : Nat} (hn : NC (M 122) np nd nh) (hj : j < np) {x : Int32} (hx0 : 0 ≤ x) (hx1 : x ≤ 39) (ha : M 122 (64 + j) = -9) (hf : fitN (M 122) nd j x) (hap : apN (M 122) np j x) (hh : ¬ hoN (M 122) nh (hkX (M 122) j x) (hkY (M 122) j)) (hfull : nh = 16) : CT m8_hangs 4 [Value.ref 121, Value.int (nI j), Value.int x] M V f (RV (-3) M V f) := by
  have hnp := hn.2.1
  refine CT.of m8_hangs_V.1 _ (en_aii_5 121 (nI j) x) ?_
  refine ac_aload_n 1 dX8_hangs_0 rfl rfl ?_
  refine ac_iload_n 2 dX8_hangs_1 rfl rfl ?_
  refine ac_callV (μ' := m8_isPicture) 5 dX8_hangs_2 rfl lk8_136 m8_isPicture_V ob121 (c8_isPT hn hj) rfl rfl (by decide) (Nat.le_of_ble_eq_true rfl) ?_
  refine ac_if_eq 18 8 dX8_hangs_5 (by decide) rfl (fun c_5 => absurd c_5 (by decide)) (fun _ => ?_)
  refine ac_iload_n 9 dX8_hangs_8 rfl rfl ?_
  refine ac_iconst 10 0 dX8_hangs_9 rfl (by decide) ?_
  refine ac_bipush 12 39 dX8_hangs_10 rfl (by decide) ?_
  refine ac_callS (μ' := m8_within) 15 dX8_hangs_12 rfl lk8_67 m8_within_S (c8_wT ⟨hx0, hx1⟩) rfl rfl (by decide) (Nat.le_of_ble_eq_true rfl) ?_
  refine ac_if_ne 20 18 dX8_hangs_15 (by decide) rfl (fun _ => ?_) (fun c_15 => absurd c_15 (by decide))
  refine ac_aload_n 21 dX8_hangs_20 rfl rfl ?_
  refine ac_iload_n 22 dX8_hangs_21 rfl rfl ?_
  refine ac_callV (μ' := m8_hangsNow) 25 dX8_hangs_22 rfl lk8_122 m8_hangsNow_V ob121 (c8_hangsNow (j := (j)) (by omega)) rfl rfl (by decide) (Nat.le_of_ble_eq_true rfl) ?_
  refine ac_if_ne 46 28 dX8_hangs_25 (by decide) rfl (fun c_25 => absurd (bi_f (fun h => h ha)) c_25) (fun _ => ?_)
  refine ac_aload_n 29 dX8_hangs_28 rfl rfl ?_
  refine ac_iload_n 30 dX8_hangs_29 rfl rfl ?_
  refine ac_iload_n 31 dX8_hangs_30 rfl rfl ?_
  refine ac_callV (μ' := m8_doesFit) 34 dX8_hangs_31 rfl lk8_139 m8_doesFit_V ob121 (c8_doesFit hn (by omega) _) rfl rfl (by decide) (Nat.le_of_ble_eq_true rfl) ?_
  refine ac_if_eq 46 37 dX8_hangs_34 (by decide) rfl (fun c_34 => absurd c_34 (by rw [bi_eq0]; exact fun h => h hf)) (fun _ => ?_)
  refine ac_aload_n 38 dX8_hangs_37 rfl rfl ?_
  refine ac_iload_n 39 dX8_hangs_38 rfl rfl ?_
  refine ac_iload_n 40 dX8_hangs_39 rfl rfl ?_
  refine ac_callV (μ' := m8_isApart) 43 dX8_hangs_40 rfl lk8_142 m8_isApart_V ob121 (c8_isApart hn (by omega) _) rfl rfl (by decide) (Nat.le_of_ble_eq_true rfl) ?_
  refine ac_if_ne 49 46 dX8_hangs_43 (by decide) rfl (fun _ => ?_) (fun c_43 => absurd c_43 (by rw [bi_eq0]; exact fun h => h hap))
  refine ac_aload_n 50 dX8_hangs_49 rfl rfl ?_
  refine ac_iload_n 51 dX8_hangs_50 rfl rfl ?_
  refine ac_iload_n 52 dX8_hangs_51 rfl rfl ?_
  refine ac_callV (μ' := m8_hasHole) 55 dX8_hangs_52 rfl lk8_145 m8_hasHole_V ob121 (c8_hasHole hn (by omega) _) rfl rfl (by decide) (Nat.le_of_ble_eq_true rfl) ?_
  refine ac_if_ne 62 58 dX8_hangs_55 (by decide) rfl (fun c_55 => absurd (bi_f hh) c_55) (fun _ => ?_)
  refine ac_iconst 59 1 dX8_hangs_58 rfl (by decide) ?_
  refine ac_goto 63 dX8_hangs_59 (by decide) ?_
  refine ac_istore_n 64 [some (Value.ref 121), some (Value.int (nI j)), some (Value.int x), some (Value.int 1), none] dX8_hangs_63 rfl rfl (Nat.le_of_ble_eq_true rfl) (by decide) rfl ?_
  refine ac_iload_n 65 dX8_hangs_64 rfl rfl ?_
  refine ac_if_eq 83 68 dX8_hangs_65 (by decide) rfl (fun c_65 => absurd c_65 (by decide)) (fun _ => ?_)
  refine ac_aload_n 69 dX8_hangs_68 rfl rfl ?_
  refine ac_getO 72 122 dX8_hangs_69 rfl fl8_7 ob121 rfl ?_
  refine ac_bipush 74 31 dX8_hangs_72 rfl (by decide) ?_
  refine ac_iald 75 dX8_hangs_74 rfl ar122 (ix_nI (k := 31) (by decide) (by decide)) ?_
  refine ac_bipush 77 16 dX8_hangs_75 rfl (by decide) ?_
  refine ac_icmp_ne 83 80 dX8_hangs_77 (by decide) rfl (fun c_77 => absurd (by rw [hn.2.2.2.2.1, hfull]; rfl) c_77) (fun _ => ?_)
  refine ac_bipush 82 (-3) dX8_hangs_80 rfl (by decide) ?_
  refine ac_iret dX8_hangs_82 ⟨_, rfl, rfl⟩ ?_
  exact rv_mk rfl
set_option maxRecDepth 20000 in
theorem q8_hanM {M : am_I} {V : am_J} {f : Nat → Option Nat} {np nd nh j : Nat} (hn : NC (M 122) np nd nh) (hj : j < np) {x : Int32} (hx0 : 0 ≤ x) (hx1 : x ≤ 39) (ha : M 122 (64 + j) = -9) (hf : fitN (M 122) nd j x) (hap : apN (M 122) np j x) (hh : ¬ hoN (M 122) nh (hkX (M 122) j x) (hkY (M 122) j)) (hroom : nh < 16) {u : Nat} (hu : M 121 3 = nI u) (hu6 : u ≤ 6) : CT m8_hangs 4 [Value.ref 121, Value.int (nI j), Value.int x] M V f (RM (some (.int 1)) (am_up (am_up (am_up (am_up (am_up (am_row M 124 (kpr (M 124) (M 122) u)) 121 3 (nI (kpn u))) 122 (64 + j) x) 122 (32 + 2 * nh) (hkX (M 122) j x)) 122 (32 + 2 * nh + 1) (hkY (M 122) j)) 122 31 (nI (nh + 1))) V f) := by
  have hnp := hn.2.1
  refine CT.of m8_hangs_V.1 _ (en_aii_5 121 (nI j) x) ?_
  refine ac_aload_n 1 dX8_hangs_0 rfl rfl ?_
  refine ac_iload_n 2 dX8_hangs_1 rfl rfl ?_
  refine ac_callV (μ' := m8_isPicture) 5 dX8_hangs_2 rfl lk8_136 m8_isPicture_V ob121 (c8_isPT hn hj) rfl rfl (by decide) (Nat.le_of_ble_eq_true rfl) ?_
  refine ac_if_eq 18 8 dX8_hangs_5 (by decide) rfl (fun c_5 => absurd c_5 (by decide)) (fun _ => ?_)
  refine ac_iload_n 9 dX8_hangs_8 rfl rfl ?_
  refine ac_iconst 10 0 dX8_hangs_9 rfl (by decide) ?_
  refine ac_bipush 12 39 dX8_hangs_10 rfl (by decide) ?_
  refine ac_callS (μ' := m8_within) 15 dX8_hangs_12 rfl lk8_67 m8_within_S (c8_wT ⟨hx0, hx1⟩) rfl rfl (by decide) (Nat.le_of_ble_eq_true rfl) ?_
  refine ac_if_ne 20 18 dX8_hangs_15 (by decide) rfl (fun _ => ?_) (fun c_15 => absurd c_15 (by decide))
  refine ac_aload_n 21 dX8_hangs_20 rfl rfl ?_
  refine ac_iload_n 22 dX8_hangs_21 rfl rfl ?_
  refine ac_callV (μ' := m8_hangsNow) 25 dX8_hangs_22 rfl lk8_122 m8_hangsNow_V ob121 (c8_hangsNow (j := (j)) (by omega)) rfl rfl (by decide) (Nat.le_of_ble_eq_true rfl) ?_
  refine ac_if_ne 46 28 dX8_hangs_25 (by decide) rfl (fun c_25 => absurd (bi_f (fun h => h ha)) c_25) (fun _ => ?_)
  refine ac_aload_n 29 dX8_hangs_28 rfl rfl ?_
  refine ac_iload_n 30 dX8_hangs_29 rfl rfl ?_
  refine ac_iload_n 31 dX8_hangs_30 rfl rfl ?_
  refine ac_callV (μ' := m8_doesFit) 34 dX8_hangs_31 rfl lk8_139 m8_doesFit_V ob121 (c8_doesFit hn (by omega) _) rfl rfl (by decide) (Nat.le_of_ble_eq_true rfl) ?_
  refine ac_if_eq 46 37 dX8_hangs_34 (by decide) rfl (fun c_34 => absurd c_34 (by rw [bi_eq0]; exact fun h => h hf)) (fun _ => ?_)
  refine ac_aload_n 38 dX8_hangs_37 rfl rfl ?_
  refine ac_iload_n 39 dX8_hangs_38 rfl rfl ?_
  refine ac_iload_n 40 dX8_hangs_39 rfl rfl ?_
  refine ac_callV (μ' := m8_isApart) 43 dX8_hangs_40 rfl lk8_142 m8_isApart_V ob121 (c8_isApart hn (by omega) _) rfl rfl (by decide) (Nat.le_of_ble_eq_true rfl) ?_
  refine ac_if_ne 49 46 dX8_hangs_43 (by decide) rfl (fun _ => ?_) (fun c_43 => absurd c_43 (by rw [bi_eq0]; exact fun h => h hap))
  refine ac_aload_n 50 dX8_hangs_49 rfl rfl ?_
  refine ac_iload_n 51 dX8_hangs_50 rfl rfl ?_
  refine ac_iload_n 52 dX8_hangs_51 rfl rfl ?_
  refine ac_callV (μ' := m8_hasHole) 55 dX8_hangs_52 rfl lk8_145 m8_hasHole_V ob121 (c8_hasHole hn (by omega) _) rfl rfl (by decide) (Nat.le_of_ble_eq_true rfl) ?_
  refine ac_if_ne 62 58 dX8_hangs_55 (by decide) rfl (fun c_55 => absurd (bi_f hh) c_55) (fun _ => ?_)
  refine ac_iconst 59 1 dX8_hangs_58 rfl (by decide) ?_
  refine ac_goto 63 dX8_hangs_59 (by decide) ?_
  refine ac_istore_n 64 [some (Value.ref 121), some (Value.int (nI j)), some (Value.int x), some (Value.int 1), none] dX8_hangs_63 rfl rfl (Nat.le_of_ble_eq_true rfl) (by decide) rfl ?_
  refine ac_iload_n 65 dX8_hangs_64 rfl rfl ?_
  refine ac_if_eq 83 68 dX8_hangs_65 (by decide) rfl (fun c_65 => absurd c_65 (by decide)) (fun _ => ?_)
  refine ac_aload_n 69 dX8_hangs_68 rfl rfl ?_
  refine ac_getO 72 122 dX8_hangs_69 rfl fl8_7 ob121 rfl ?_
  refine ac_bipush 74 31 dX8_hangs_72 rfl (by decide) ?_
  refine ac_iald 75 dX8_hangs_74 rfl ar122 (ix_nI (k := 31) (by decide) (by decide)) ?_
  refine ac_bipush 77 16 dX8_hangs_75 rfl (by decide) ?_
  refine ac_icmp_ne 83 80 dX8_hangs_77 (by decide) rfl (fun _ => ?_) (fun c_77 => absurd c_77 (by rw [hn.2.2.2.2.1]; intro e; have := (nI_eq (b := 16) (by omega) (by decide)).mp e; omega))
  refine ac_aload_n 84 dX8_hangs_83 rfl rfl ?_
  refine ac_callVm (μ' := m8_keeps) 87 dX8_hangs_84 rfl lk8_115 m8_keeps_V ob121 (c8_kp hu hu6) rfl rfl (by decide) (Nat.le_of_ble_eq_true rfl) ?_
  refine ac_aload_n 88 dX8_hangs_87 rfl rfl ?_
  refine ac_getO 91 122 dX8_hangs_88 rfl fl8_7 ob121 rfl ?_
  refine ac_bipush 93 64 dX8_hangs_91 rfl (by decide) ?_
  refine ac_iload_n 94 dX8_hangs_93 rfl rfl ?_
  refine ac_iadd 95 dX8_hangs_94 rfl ?_
  refine ac_iload_n 96 dX8_hangs_95 rfl rfl ?_
  refine ac_iast 97 dX8_hangs_96 rfl ar122 (ix_of (k := (64 + (j))) (by simp only [show (64 : Int32) = nI 64 from rfl, pk_mul, nI_add]) (by omega) (by decide)) ?_
  refine ac_iload_n 98 dX8_hangs_97 rfl rfl ?_
  refine ac_if_eq 153 101 dX8_hangs_98 (by decide) rfl (fun c_98 => absurd c_98 (by decide)) (fun _ => ?_)
  refine ac_bipush 103 32 dX8_hangs_101 rfl (by decide) ?_
  refine ac_iconst 104 2 dX8_hangs_103 rfl (by decide) ?_
  refine ac_aload_n 105 dX8_hangs_104 rfl rfl ?_
  refine ac_getO 108 122 dX8_hangs_105 rfl fl8_7 ob121 rfl ?_
  refine ac_bipush 110 31 dX8_hangs_108 rfl (by decide) ?_
  refine ac_iald 111 dX8_hangs_110 rfl ar122 (ix_nI (k := 31) (by decide) (by decide)) ?_
  rw [show ((am_up (am_up (am_row M 124 (kpr (M 124) (M 122) u)) 121 3 (nI (kpn u))) 122 (64 + (j)) x) 122 31) = (nI nh) from ((up_ne (by omega)).trans hn.2.2.2.2.1)]
  refine ac_imul 112 dX8_hangs_111 rfl ?_
  refine ac_iadd 113 dX8_hangs_112 rfl ?_
  refine ac_istore 115 [some (Value.ref 121), some (Value.int (nI j)), some (Value.int x), some (Value.int 1), some (Value.int (32 + (2 * (nI nh))))] dX8_hangs_113 rfl rfl (Nat.le_of_ble_eq_true rfl) (by decide) rfl ?_
  refine ac_aload_n 116 dX8_hangs_115 rfl rfl ?_
  refine ac_getO 119 122 dX8_hangs_116 rfl fl8_7 ob121 rfl ?_
  refine ac_iload 121 dX8_hangs_119 rfl rfl ?_
  refine ac_aload_n 122 dX8_hangs_121 rfl rfl ?_
  refine ac_iload_n 123 dX8_hangs_122 rfl rfl ?_
  refine ac_iload_n 124 dX8_hangs_123 rfl rfl ?_
  refine ac_callV (μ' := m8_hookX) 127 dX8_hangs_124 rfl lk8_126 m8_hookX_V ob121 (c8_hkX (M := (am_up (am_up (am_row M 124 (kpr (M 124) (M 122) u)) 121 3 (nI (kpn u))) 122 (64 + (j)) x)) (j := j) (by omega) x) rfl rfl (by decide) (Nat.le_of_ble_eq_true rfl) ?_
  rw [show (hkX ((am_up (am_up (am_row M 124 (kpr (M 124) (M 122) u)) 121 3 (nI (kpn u))) 122 (64 + (j)) x) 122) j x) = (hkX (M 122) j x) from (by simp (disch := omega) only [hkX, up_ne]; rfl)]
  refine ac_iast 128 dX8_hangs_127 rfl ar122 (ix_of (k := (32 + (2 * (nh)))) (by simp only [show (2 : Int32) = nI 2 from rfl, show (32 : Int32) = nI 32 from rfl, pk_mul, nI_add]) (by omega) (by decide)) ?_
  refine ac_aload_n 129 dX8_hangs_128 rfl rfl ?_
  refine ac_getO 132 122 dX8_hangs_129 rfl fl8_7 ob121 rfl ?_
  refine ac_iload 134 dX8_hangs_132 rfl rfl ?_
  refine ac_iconst 135 1 dX8_hangs_134 rfl (by decide) ?_
  refine ac_iadd 136 dX8_hangs_135 rfl ?_
  refine ac_aload_n 137 dX8_hangs_136 rfl rfl ?_
  refine ac_iload_n 138 dX8_hangs_137 rfl rfl ?_
  refine ac_callV (μ' := m8_hookY) 141 dX8_hangs_138 rfl lk8_129 m8_hookY_V ob121 (c8_hkY (M := (am_up (am_up (am_up (am_row M 124 (kpr (M 124) (M 122) u)) 121 3 (nI (kpn u))) 122 (64 + (j)) x) 122 (32 + (2 * (nh))) (hkX (M 122) j x))) (j := j) (by omega)) rfl rfl (by decide) (Nat.le_of_ble_eq_true rfl) ?_
  rw [show (hkY ((am_up (am_up (am_up (am_row M 124 (kpr (M 124) (M 122) u)) 121 3 (nI (kpn u))) 122 (64 + (j)) x) 122 (32 + (2 * (nh))) (hkX (M 122) j x)) 122) j) = (hkY (M 122) j) from (by simp (disch := omega) only [hkY, up_ne]; rfl)]
  refine ac_iast 142 dX8_hangs_141 rfl ar122 (ix_of (k := ((32 + (2 * (nh))) + 1)) (by simp only [show (1 : Int32) = nI 1 from rfl, show (2 : Int32) = nI 2 from rfl, show (32 : Int32) = nI 32 from rfl, pk_mul, nI_add]) (by omega) (by decide)) ?_
  refine ac_aload_n 143 dX8_hangs_142 rfl rfl ?_
  refine ac_getO 146 122 dX8_hangs_143 rfl fl8_7 ob121 rfl ?_
  refine ac_bipush 148 31 dX8_hangs_146 rfl (by decide) ?_
  refine ac_dup2 149 dX8_hangs_148 rfl rfl rfl ?_
  refine ac_iald 150 dX8_hangs_149 rfl ar122 (ix_nI (k := 31) (by decide) (by decide)) ?_
  rw [show ((am_up (am_up (am_up (am_up (am_row M 124 (kpr (M 124) (M 122) u)) 121 3 (nI (kpn u))) 122 (64 + (j)) x) 122 (32 + (2 * (nh))) (hkX (M 122) j x)) 122 ((32 + (2 * (nh))) + 1) (hkY (M 122) j)) 122 31) = (nI nh) from ((up_ne (by omega)).trans ((up_ne (by omega)).trans ((up_ne (by omega)).trans hn.2.2.2.2.1)))]
  refine ac_iconst 151 1 dX8_hangs_150 rfl (by decide) ?_
  refine ac_iadd 152 dX8_hangs_151 rfl ?_
  refine ac_iast 153 dX8_hangs_152 rfl ar122 (ix_nI (k := 31) (by decide) (by decide)) ?_
  refine ac_iload_n 154 dX8_hangs_153 rfl rfl ?_
  refine ac_if_eq 161 157 dX8_hangs_154 (by decide) rfl (fun c_154 => absurd c_154 (by decide)) (fun _ => ?_)
  refine ac_iconst 158 1 dX8_hangs_157 rfl (by decide) ?_
  refine ac_goto 162 dX8_hangs_158 (by decide) ?_
  refine ac_iret dX8_hangs_162 ⟨_, rfl, rfl⟩ ?_
  exact rm_mk (by rw [nI_1])
set_option maxRecDepth 20000 in
theorem q8_filF {M : am_I} {V : am_J} {f : Nat → Option Nat} {np nd nh : Nat} (hn : NC (M 122) np nd nh) {p : Int32} (hp : ¬ vI p nh) : CT m8_fills 4 [Value.ref 121, Value.int p] M V f (RV (-1) M V f) := by
  refine CT.of m8_fills_V.1 _ (en_ai_3 121 p) ?_
  refine ac_aload_n 1 dX8_fills_0 rfl rfl ?_
  refine ac_iload_n 2 dX8_fills_1 rfl rfl ?_
  refine ac_callV (μ' := m8_isHole) 5 dX8_fills_2 rfl lk8_148 m8_isHole_V ob121 (c8_isHF hn hp) rfl rfl (by decide) (Nat.le_of_ble_eq_true rfl) ?_
  refine ac_if_ne 10 8 dX8_fills_5 (by decide) rfl (fun c_5 => absurd (by decide) c_5) (fun _ => ?_)
  refine ac_iconst 9 (-1) dX8_fills_8 rfl (by decide) ?_
  refine ac_iret dX8_fills_9 ⟨_, rfl, rfl⟩ ?_
  exact rv_mk rfl
set_option maxRecDepth 20000 in
theorem q8_filU {M : am_I} {V : am_J} {f : Nat → Option Nat} {np nd nh j : Nat} (hn : NC (M 122) np nd nh) (hj : j < nh) (ha : laN (onN (M 122) j) np ≠ -9) : CT m8_fills 4 [Value.ref 121, Value.int (nI j)] M V f (RV (-2) M V f) := by
  have hnh := hn.2.2.2.2.2
  refine CT.of m8_fills_V.1 _ (en_ai_3 121 (nI j)) ?_
  refine ac_aload_n 1 dX8_fills_0 rfl rfl ?_
  refine ac_iload_n 2 dX8_fills_1 rfl rfl ?_
  refine ac_callV (μ' := m8_isHole) 5 dX8_fills_2 rfl lk8_148 m8_isHole_V ob121 (c8_isHT hn hj) rfl rfl (by decide) (Nat.le_of_ble_eq_true rfl) ?_
  refine ac_if_ne 10 8 dX8_fills_5 (by decide) rfl (fun _ => ?_) (fun c_5 => absurd c_5 (by decide))
  refine ac_aload_n 11 dX8_fills_10 rfl rfl ?_
  refine ac_iload_n 12 dX8_fills_11 rfl rfl ?_
  refine ac_callV (μ' := m8_hangingAt) 15 dX8_fills_12 rfl lk8_151 m8_hangingAt_V ob121 (c8_hangingAt hn (by omega)) rfl rfl (by decide) (Nat.le_of_ble_eq_true rfl) ?_
  refine ac_bipush 17 (-9) dX8_fills_15 rfl (by decide) ?_
  refine ac_icmp_eq 23 20 dX8_fills_17 (by decide) rfl (fun c_17 => absurd c_17 ha) (fun _ => ?_)
  refine ac_bipush 22 (-2) dX8_fills_20 rfl (by decide) ?_
  refine ac_iret dX8_fills_22 ⟨_, rfl, rfl⟩ ?_
  exact rv_mk rfl
set_option maxRecDepth 20000 in
theorem q8_fil {M : am_I} {V : am_J} {f : Nat → Option Nat} {np nd nh j : Nat} (hn : NC (M 122) np nd nh) (hj : j < nh) (ha : laN (onN (M 122) j) np = -9) {u : Nat} (hu : M 121 3 = nI u) (hu6 : u ≤ 6) : CT m8_fills 4 [Value.ref 121, Value.int (nI j)] M V f (RM (some (.int (nI (nh - 1)))) (am_row (am_up (am_row M 124 (kpr (M 124) (M 122) u)) 121 3 (nI (kpn u))) 122 (va_cpy (fun i => if i = 31 then nI (nh - 1) else M 122 i) (fun i => if i = 31 then nI (nh - 1) else M 122 i) (32 + 2 * j + 2) (32 + 2 * j) (2 * (nh - 1 - j)))) V f) := by
  have hnh := hn.2.2.2.2.2
  refine CT.of m8_fills_V.1 _ (en_ai_3 121 (nI j)) ?_
  refine ac_aload_n 1 dX8_fills_0 rfl rfl ?_
  refine ac_iload_n 2 dX8_fills_1 rfl rfl ?_
  refine ac_callV (μ' := m8_isHole) 5 dX8_fills_2 rfl lk8_148 m8_isHole_V ob121 (c8_isHT hn hj) rfl rfl (by decide) (Nat.le_of_ble_eq_true rfl) ?_
  refine ac_if_ne 10 8 dX8_fills_5 (by decide) rfl (fun _ => ?_) (fun c_5 => absurd c_5 (by decide))
  refine ac_aload_n 11 dX8_fills_10 rfl rfl ?_
  refine ac_iload_n 12 dX8_fills_11 rfl rfl ?_
  refine ac_callV (μ' := m8_hangingAt) 15 dX8_fills_12 rfl lk8_151 m8_hangingAt_V ob121 (c8_hangingAt hn (by omega)) rfl rfl (by decide) (Nat.le_of_ble_eq_true rfl) ?_
  refine ac_bipush 17 (-9) dX8_fills_15 rfl (by decide) ?_
  refine ac_icmp_eq 23 20 dX8_fills_17 (by decide) rfl (fun _ => ?_) (fun c_17 => absurd ha c_17)
  refine ac_aload_n 24 dX8_fills_23 rfl rfl ?_
  refine ac_callVm (μ' := m8_keeps) 27 dX8_fills_24 rfl lk8_115 m8_keeps_V ob121 (c8_kp hu hu6) rfl rfl (by decide) (Nat.le_of_ble_eq_true rfl) ?_
  refine ac_aload_n 28 dX8_fills_27 rfl rfl ?_
  refine ac_getO 31 122 dX8_fills_28 rfl fl8_7 ob121 rfl ?_
  refine ac_bipush 33 31 dX8_fills_31 rfl (by decide) ?_
  refine ac_dup2 34 dX8_fills_33 rfl rfl rfl ?_
  refine ac_iald 35 dX8_fills_34 rfl ar122 (ix_nI (k := 31) (by decide) (by decide)) ?_
  rw [show ((am_up (am_row M 124 (kpr (M 124) (M 122) u)) 121 3 (nI (kpn u))) 122 31) = (M 122 31) from rfl]
  rw [show (M 122 31) = (nI nh) from hn.2.2.2.2.1]
  refine ac_iconst 36 1 dX8_fills_35 rfl (by decide) ?_
  refine ac_isub 37 dX8_fills_36 rfl ?_
  rw [show ((nI nh) - 1) = (nI (nh - 1)) from (nI_sub1 (by omega))]
  refine ac_iast 38 dX8_fills_37 rfl ar122 (ix_nI (k := 31) (by decide) (by decide)) ?_
  have hL : A0 m8_fills 4 45 [some (Value.ref 121), some (Value.int (nI j)), some (Value.int (nI (32 + 2 * j + 0)))] [] (am_row (am_up (am_row M 124 (kpr (M 124) (M 122) u)) 121 3 (nI (kpn u))) 122 (va_cpy (fun i => if i = 31 then nI (nh - 1) else M 122 i) (fun i => if i = 31 then nI (nh - 1) else M 122 i) (32 + 2 * j + 2) (32 + 2 * j) 0)) V f (RM (some (.int (nI (nh - 1)))) (am_row (am_up (am_row M 124 (kpr (M 124) (M 122) u)) 121 3 (nI (kpn u))) 122 (va_cpy (fun i => if i = 31 then nI (nh - 1) else M 122 i) (fun i => if i = 31 then nI (nh - 1) else M 122 i) (32 + 2 * j + 2) (32 + 2 * j) (2 * (nh - 1 - j)))) V f) := by
    refine ac_down (n := (2 * (nh - 1 - j))) (P := fun k => A0 m8_fills 4 45 [some (Value.ref 121), some (Value.int (nI j)), some (Value.int (nI (32 + 2 * j + k)))] [] (am_row (am_up (am_row M 124 (kpr (M 124) (M 122) u)) 121 3 (nI (kpn u))) 122 (va_cpy (fun i => if i = 31 then nI (nh - 1) else M 122 i) (fun i => if i = 31 then nI (nh - 1) else M 122 i) (32 + 2 * j + 2) (32 + 2 * j) k)) V f (RM (some (.int (nI (nh - 1)))) (am_row (am_up (am_row M 124 (kpr (M 124) (M 122) u)) 121 3 (nI (kpn u))) 122 (va_cpy (fun i => if i = 31 then nI (nh - 1) else M 122 i) (fun i => if i = 31 then nI (nh - 1) else M 122 i) (32 + 2 * j + 2) (32 + 2 * j) (2 * (nh - 1 - j)))) V f)) ?_ ?_ 0 (Nat.zero_le _) 
    · refine ac_iload_n 46 dX8_fills_45 rfl rfl ?_
      refine ac_bipush 48 32 dX8_fills_46 rfl (by decide) ?_
      refine ac_iconst 49 2 dX8_fills_48 rfl (by decide) ?_
      refine ac_aload_n 50 dX8_fills_49 rfl rfl ?_
      refine ac_getO 53 122 dX8_fills_50 rfl fl8_7 ob121 rfl ?_
      refine ac_bipush 55 31 dX8_fills_53 rfl (by decide) ?_
      refine ac_iald 56 dX8_fills_55 rfl ar122 (ix_nI (k := 31) (by decide) (by decide)) ?_
      rw [show ((am_row (am_up (am_row M 124 (kpr (M 124) (M 122) u)) 121 3 (nI (kpn u))) 122 (va_cpy (fun i => if i = 31 then nI (nh - 1) else M 122 i) (fun i => if i = 31 then nI (nh - 1) else M 122 i) (32 + 2 * j + 2) (32 + 2 * j) (2 * (nh - 1 - j)))) 122 31) = (nI (nh - 1)) from (by rw [row_at, cp_out (Or.inl (by omega))]; rfl)]
      refine ac_imul 57 dX8_fills_56 rfl ?_
      refine ac_iadd 58 dX8_fills_57 rfl ?_
      refine ac_icmp_ge 81 61 dX8_fills_58 (by decide) rfl (fun _ => ?_) (fun c_58 => absurd (by simp only [show (32 : Int32) = nI 32 from rfl, show (2 : Int32) = nI 2 from rfl, pk_mul, nI_add]; exact nI_le (by omega) (by omega)) c_58)
      refine ac_aload_n 82 dX8_fills_81 rfl rfl ?_
      refine ac_getO 85 122 dX8_fills_82 rfl fl8_7 ob121 rfl ?_
      refine ac_bipush 87 31 dX8_fills_85 rfl (by decide) ?_
      refine ac_iald 88 dX8_fills_87 rfl ar122 (ix_nI (k := 31) (by decide) (by decide)) ?_
      rw [show ((am_row (am_up (am_row M 124 (kpr (M 124) (M 122) u)) 121 3 (nI (kpn u))) 122 (va_cpy (fun i => if i = 31 then nI (nh - 1) else M 122 i) (fun i => if i = 31 then nI (nh - 1) else M 122 i) (32 + 2 * j + 2) (32 + 2 * j) (2 * (nh - 1 - j)))) 122 31) = (nI (nh - 1)) from (by rw [row_at, cp_out (Or.inl (by omega))]; rfl)]
      refine ac_iret dX8_fills_88 ⟨_, rfl, rfl⟩ ?_
      exact rm_mk rfl
    · intro k hk ih
      refine ac_iload_n 46 dX8_fills_45 rfl rfl ?_
      refine ac_bipush 48 32 dX8_fills_46 rfl (by decide) ?_
      refine ac_iconst 49 2 dX8_fills_48 rfl (by decide) ?_
      refine ac_aload_n 50 dX8_fills_49 rfl rfl ?_
      refine ac_getO 53 122 dX8_fills_50 rfl fl8_7 ob121 rfl ?_
      refine ac_bipush 55 31 dX8_fills_53 rfl (by decide) ?_
      refine ac_iald 56 dX8_fills_55 rfl ar122 (ix_nI (k := 31) (by decide) (by decide)) ?_
      rw [show ((am_row (am_up (am_row M 124 (kpr (M 124) (M 122) u)) 121 3 (nI (kpn u))) 122 (va_cpy (fun i => if i = 31 then nI (nh - 1) else M 122 i) (fun i => if i = 31 then nI (nh - 1) else M 122 i) (32 + 2 * j + 2) (32 + 2 * j) k)) 122 31) = (nI (nh - 1)) from (by rw [row_at, cp_out (Or.inl (by omega))]; rfl)]
      refine ac_imul 57 dX8_fills_56 rfl ?_
      refine ac_iadd 58 dX8_fills_57 rfl ?_
      refine ac_icmp_ge 81 61 dX8_fills_58 (by decide) rfl (fun c_58 => absurd c_58 (by simp only [show (32 : Int32) = nI 32 from rfl, show (2 : Int32) = nI 2 from rfl, pk_mul, nI_add]; exact nI_ge (by omega) (by omega))) (fun _ => ?_)
      refine ac_aload_n 62 dX8_fills_61 rfl rfl ?_
      refine ac_getO 65 122 dX8_fills_62 rfl fl8_7 ob121 rfl ?_
      refine ac_iload_n 66 dX8_fills_65 rfl rfl ?_
      refine ac_aload_n 67 dX8_fills_66 rfl rfl ?_
      refine ac_getO 70 122 dX8_fills_67 rfl fl8_7 ob121 rfl ?_
      refine ac_iload_n 71 dX8_fills_70 rfl rfl ?_
      refine ac_iconst 72 2 dX8_fills_71 rfl (by decide) ?_
      refine ac_iadd 73 dX8_fills_72 rfl ?_
      refine ac_iald 74 dX8_fills_73 rfl ar122 (ix_of (k := 32 + 2 * j + k + 2) (by simp only [show (2 : Int32) = nI 2 from rfl, nI_add]) (by omega) (by decide)) ?_
      rw [show ((am_row (am_up (am_row M 124 (kpr (M 124) (M 122) u)) 121 3 (nI (kpn u))) 122 (va_cpy (fun i => if i = 31 then nI (nh - 1) else M 122 i) (fun i => if i = 31 then nI (nh - 1) else M 122 i) (32 + 2 * j + 2) (32 + 2 * j) k)) 122 (32 + 2 * j + k + 2)) = ((fun i => if i = 31 then nI (nh - 1) else M 122 i) (32 + 2 * j + 2 + k)) from (by rw [row_at, cp_out (Or.inr (by omega)), show 32 + 2 * j + k + 2 = 32 + 2 * j + 2 + k by omega])]
      refine ac_iast 75 dX8_fills_74 rfl ar122 (ix_nI (by omega) (by decide)) ?_
      refine ac_iinc 78 (nI (32 + 2 * j + k + 1)) [some (Value.ref 121), some (Value.int (nI j)), some (Value.int (nI (32 + 2 * j + k + 1)))] dX8_fills_75 rfl rfl (nI_1 _) rfl (by decide) rfl ?_
      refine ac_goto 45 dX8_fills_78 (by decide) ?_
      rw [cp_step rfl rfl]
      exact A0.lse rfl ih
  refine ac_bipush 40 32 dX8_fills_38 rfl (by decide) ?_
  refine ac_iconst 41 2 dX8_fills_40 rfl (by decide) ?_
  refine ac_iload_n 42 dX8_fills_41 rfl rfl ?_
  refine ac_imul 43 dX8_fills_42 rfl ?_
  refine ac_iadd 44 dX8_fills_43 rfl ?_
  refine ac_istore_n 45 [some (Value.ref 121), some (Value.int (nI j)), some (Value.int (32 + (2 * (nI j))))] dX8_fills_44 rfl rfl (Nat.le_of_ble_eq_true rfl) (by decide) rfl ?_
  rw [cp_0, show am_row (am_up (am_row M 124 (kpr (M 124) (M 122) u)) 121 3 (nI (kpn u))) 122 (fun i => if i = 31 then nI (nh - 1) else M 122 i) = am_up (am_up (am_row M 124 (kpr (M 124) (M 122) u)) 121 3 (nI (kpn u))) 122 31 (nI (nh - 1)) from (up_row (M := (am_up (am_row M 124 (kpr (M 124) (M 122) u)) 121 3 (nI (kpn u)))) (r := 122) (k := 31) (v := nI (nh - 1))).symm] at hL
  refine A0.lse (by rw [show nI (32 + 2 * j + 0) = (32 + 2 * nI j : Int32) from by simp only [show (32 : Int32) = nI 32 from rfl, show (2 : Int32) = nI 2 from rfl, pk_mul, nI_add, Nat.add_zero]]) hL
set_option maxRecDepth 20000 in
theorem q8_linF {M : am_I} {V : am_J} {f : Nat → Option Nat} {l : Int32} (hl : ¬ (5 ≤ l ∧ l ≤ 20)) : CT m8_lines 2 [Value.ref 121, Value.int l] M V f (RV (-1) M V f) := by
  refine CT.of m8_lines_V.1 _ (en_ai_4 121 l) ?_
  refine ac_iload_n 1 dX8_lines_0 rfl rfl ?_
  refine ac_iconst 2 5 dX8_lines_1 rfl (by decide) ?_
  refine ac_bipush 4 20 dX8_lines_2 rfl (by decide) ?_
  refine ac_callS (μ' := m8_within) 7 dX8_lines_4 rfl lk8_67 m8_within_S (c8_wF hl) rfl rfl (by decide) (Nat.le_of_ble_eq_true rfl) ?_
  refine ac_if_ne 12 10 dX8_lines_7 (by decide) rfl (fun c_7 => absurd (by decide) c_7) (fun _ => ?_)
  refine ac_iconst 11 (-1) dX8_lines_10 rfl (by decide) ?_
  refine ac_iret dX8_lines_11 ⟨_, rfl, rfl⟩ ?_
  exact rv_mk rfl
set_option maxRecDepth 20000 in
theorem q8_linS {M : am_I} {V : am_J} {f : Nat → Option Nat} {l : Int32} (hl : 5 ≤ l ∧ l ≤ 20) (he : M 122 1 = l) : CT m8_lines 2 [Value.ref 121, Value.int l] M V f (RV (-2) M V f) := by
  refine CT.of m8_lines_V.1 _ (en_ai_4 121 l) ?_
  refine ac_iload_n 1 dX8_lines_0 rfl rfl ?_
  refine ac_iconst 2 5 dX8_lines_1 rfl (by decide) ?_
  refine ac_bipush 4 20 dX8_lines_2 rfl (by decide) ?_
  refine ac_callS (μ' := m8_within) 7 dX8_lines_4 rfl lk8_67 m8_within_S (c8_wT hl) rfl rfl (by decide) (Nat.le_of_ble_eq_true rfl) ?_
  refine ac_if_ne 12 10 dX8_lines_7 (by decide) rfl (fun _ => ?_) (fun c_7 => absurd c_7 (by decide))
  refine ac_aload_n 13 dX8_lines_12 rfl rfl ?_
  refine ac_getO 16 122 dX8_lines_13 rfl fl8_7 ob121 rfl ?_
  refine ac_iconst 17 1 dX8_lines_16 rfl (by decide) ?_
  refine ac_iald 18 dX8_lines_17 rfl ar122 (ix_nI (k := 1) (by decide) (by decide)) ?_
  refine ac_istore_n 19 [some (Value.ref 121), some (Value.int l), some (Value.int (M 122 1)), none] dX8_lines_18 rfl rfl (Nat.le_of_ble_eq_true rfl) (by decide) rfl ?_
  refine ac_iload_n 20 dX8_lines_19 rfl rfl ?_
  refine ac_iload_n 21 dX8_lines_20 rfl rfl ?_
  refine ac_icmp_ne 27 24 dX8_lines_21 (by decide) rfl (fun c_21 => absurd he c_21) (fun _ => ?_)
  refine ac_bipush 26 (-2) dX8_lines_24 rfl (by decide) ?_
  refine ac_iret dX8_lines_26 ⟨_, rfl, rfl⟩ ?_
  exact rv_mk rfl
set_option maxRecDepth 20000 in
theorem q8_lin {M : am_I} {V : am_J} {f : Nat → Option Nat} {l : Int32} (hl : 5 ≤ l ∧ l ≤ 20) (he : M 122 1 ≠ l) {u : Nat} (hu : M 121 3 = nI u) (hu6 : u ≤ 6) : CT m8_lines 2 [Value.ref 121, Value.int l] M V f (RM (some (.int (M 122 1))) (am_row (am_up (am_row M 124 (kpr (M 124) (M 122) u)) 121 3 (nI (kpn u))) 122 (va_cpy (fun _ => -9) (fun i => if i = 1 then l else M 122 i) 0 64 5)) V f) := by
  refine CT.of m8_lines_V.1 _ (en_ai_4 121 l) ?_
  refine ac_iload_n 1 dX8_lines_0 rfl rfl ?_
  refine ac_iconst 2 5 dX8_lines_1 rfl (by decide) ?_
  refine ac_bipush 4 20 dX8_lines_2 rfl (by decide) ?_
  refine ac_callS (μ' := m8_within) 7 dX8_lines_4 rfl lk8_67 m8_within_S (c8_wT hl) rfl rfl (by decide) (Nat.le_of_ble_eq_true rfl) ?_
  refine ac_if_ne 12 10 dX8_lines_7 (by decide) rfl (fun _ => ?_) (fun c_7 => absurd c_7 (by decide))
  refine ac_aload_n 13 dX8_lines_12 rfl rfl ?_
  refine ac_getO 16 122 dX8_lines_13 rfl fl8_7 ob121 rfl ?_
  refine ac_iconst 17 1 dX8_lines_16 rfl (by decide) ?_
  refine ac_iald 18 dX8_lines_17 rfl ar122 (ix_nI (k := 1) (by decide) (by decide)) ?_
  refine ac_istore_n 19 [some (Value.ref 121), some (Value.int l), some (Value.int (M 122 1)), none] dX8_lines_18 rfl rfl (Nat.le_of_ble_eq_true rfl) (by decide) rfl ?_
  refine ac_iload_n 20 dX8_lines_19 rfl rfl ?_
  refine ac_iload_n 21 dX8_lines_20 rfl rfl ?_
  refine ac_icmp_ne 27 24 dX8_lines_21 (by decide) rfl (fun _ => ?_) (fun c_21 => absurd c_21 he)
  refine ac_aload_n 28 dX8_lines_27 rfl rfl ?_
  refine ac_callVm (μ' := m8_keeps) 31 dX8_lines_28 rfl lk8_115 m8_keeps_V ob121 (c8_kp hu hu6) rfl rfl (by decide) (Nat.le_of_ble_eq_true rfl) ?_
  refine ac_aload_n 32 dX8_lines_31 rfl rfl ?_
  refine ac_getO 35 122 dX8_lines_32 rfl fl8_7 ob121 rfl ?_
  refine ac_iconst 36 1 dX8_lines_35 rfl (by decide) ?_
  refine ac_iload_n 37 dX8_lines_36 rfl rfl ?_
  refine ac_iast 38 dX8_lines_37 rfl ar122 (ix_nI (k := 1) (by decide) (by decide)) ?_
  have hL : A0 m8_lines 2 40 [some (Value.ref 121), some (Value.int l), some (Value.int (M 122 1)), some (Value.int (nI 0))] [] (am_row (am_up (am_row M 124 (kpr (M 124) (M 122) u)) 121 3 (nI (kpn u))) 122 (va_cpy (fun _ => -9) (fun i => if i = 1 then l else M 122 i) 0 64 0)) V f (RM (some (.int (M 122 1))) (am_row (am_up (am_row M 124 (kpr (M 124) (M 122) u)) 121 3 (nI (kpn u))) 122 (va_cpy (fun _ => -9) (fun i => if i = 1 then l else M 122 i) 0 64 5)) V f) := by
    refine ac_down (n := 5) (P := fun k => A0 m8_lines 2 40 [some (Value.ref 121), some (Value.int l), some (Value.int (M 122 1)), some (Value.int (nI k))] [] (am_row (am_up (am_row M 124 (kpr (M 124) (M 122) u)) 121 3 (nI (kpn u))) 122 (va_cpy (fun _ => -9) (fun i => if i = 1 then l else M 122 i) 0 64 k)) V f (RM (some (.int (M 122 1))) (am_row (am_up (am_row M 124 (kpr (M 124) (M 122) u)) 121 3 (nI (kpn u))) 122 (va_cpy (fun _ => -9) (fun i => if i = 1 then l else M 122 i) 0 64 5)) V f)) ?_ ?_ 0 (Nat.zero_le _) 
    · refine ac_iload_n 41 dX8_lines_40 rfl rfl ?_
      refine ac_iconst 42 5 dX8_lines_41 rfl (by decide) ?_
      refine ac_icmp_ge 62 45 dX8_lines_42 (by decide) rfl (fun _ => ?_) (fun c_42 => absurd (by decide) c_42)
      refine ac_iload_n 63 dX8_lines_62 rfl rfl ?_
      refine ac_iret dX8_lines_63 ⟨_, rfl, rfl⟩ ?_
      exact rm_mk rfl
    · intro k hk ih
      refine ac_iload_n 41 dX8_lines_40 rfl rfl ?_
      refine ac_iconst 42 5 dX8_lines_41 rfl (by decide) ?_
      refine ac_icmp_ge 62 45 dX8_lines_42 (by decide) rfl (fun c_42 => absurd c_42 (nI_ge (b := 5) hk (by decide))) (fun _ => ?_)
      refine ac_aload_n 46 dX8_lines_45 rfl rfl ?_
      refine ac_getO 49 122 dX8_lines_46 rfl fl8_7 ob121 rfl ?_
      refine ac_bipush 51 64 dX8_lines_49 rfl (by decide) ?_
      refine ac_iload_n 52 dX8_lines_51 rfl rfl ?_
      refine ac_iadd 53 dX8_lines_52 rfl ?_
      refine ac_bipush 55 (-9) dX8_lines_53 rfl (by decide) ?_
      refine ac_iast 56 dX8_lines_55 rfl ar122 (ix_of (k := (64 + (k))) (by simp only [show (64 : Int32) = nI 64 from rfl, pk_mul, nI_add]) (by omega) (by decide)) ?_
      refine ac_iinc 59 (nI (k + 1)) [some (Value.ref 121), some (Value.int l), some (Value.int (M 122 1)), some (Value.int (nI (k + 1)))] dX8_lines_56 rfl rfl (nI_1 _) rfl (by decide) rfl ?_
      refine ac_goto 40 dX8_lines_59 (by decide) ?_
      rw [cp_step rfl rfl]
      exact ih
  refine ac_iconst 39 0 dX8_lines_38 rfl (by decide) ?_
  refine ac_istore_n 40 [some (Value.ref 121), some (Value.int l), some (Value.int (M 122 1)), some (Value.int 0)] dX8_lines_39 rfl rfl (Nat.le_of_ble_eq_true rfl) (by decide) rfl ?_
  rw [cp_0, show am_row (am_up (am_row M 124 (kpr (M 124) (M 122) u)) 121 3 (nI (kpn u))) 122 (fun i => if i = 1 then l else M 122 i) = am_up (am_up (am_row M 124 (kpr (M 124) (M 122) u)) 121 3 (nI (kpn u))) 122 1 l from (up_row (M := (am_up (am_row M 124 (kpr (M 124) (M 122) u)) 121 3 (nI (kpn u)))) (r := 122) (k := 1) (v := l)).symm] at hL
  exact hL
set_option maxRecDepth 20000 in
theorem q8_undF {M : am_I} {V : am_J} {f : Nat → Option Nat} (hu : M 121 3 = 0) : CT m8_undo 1 [Value.ref 121] M V f (RV (-2) M V f) := by
  refine CT.of m8_undo_V.1 _ (en_a_2 121) ?_
  refine ac_aload_n 1 dX8_undo_0 rfl rfl ?_
  refine ac_getI 4 dX8_undo_1 rfl fl8_108 ob121 ?_
  rw [show (M 121 3) = 0 from hu]
  refine ac_if_ne 10 7 dX8_undo_4 (by decide) rfl (fun c_4 => absurd (by decide) c_4) (fun _ => ?_)
  refine ac_bipush 9 (-2) dX8_undo_7 rfl (by decide) ?_
  refine ac_iret dX8_undo_9 ⟨_, rfl, rfl⟩ ?_
  exact rv_mk rfl
set_option maxRecDepth 20000 in
theorem q8_und {M : am_I} {V : am_J} {f : Nat → Option Nat} {u : Nat} (hu : M 121 3 = nI (u + 1)) (hu6 : u < 6) : CT m8_undo 1 [Value.ref 121] M V f (RM (some (.int (nI u))) (am_row (am_up M 121 3 (nI u)) 122 (va_cpy (M 124) (M 122) (69 * u) 0 69)) V f) := by
  refine CT.of m8_undo_V.1 _ (en_a_2 121) ?_
  refine ac_aload_n 1 dX8_undo_0 rfl rfl ?_
  refine ac_getI 4 dX8_undo_1 rfl fl8_108 ob121 ?_
  rw [show (M 121 3) = (nI (u + 1)) from hu]
  refine ac_if_ne 10 7 dX8_undo_4 (by decide) rfl (fun _ => ?_) (fun c_4 => absurd c_4 (nI_ne0 (by omega) (by omega)))
  refine ac_aload_n 11 dX8_undo_10 rfl rfl ?_
  refine ac_dup 12 dX8_undo_11 rfl rfl ?_
  refine ac_getI 15 dX8_undo_12 rfl fl8_108 ob121 ?_
  rw [show (M 121 3) = (nI (u + 1)) from hu]
  refine ac_iconst 16 1 dX8_undo_15 rfl (by decide) ?_
  refine ac_isub 17 dX8_undo_16 rfl ?_
  rw [show ((nI (u + 1)) - 1) = (nI u) from (nI_pred u)]
  refine ac_putI 20 dX8_undo_17 rfl fl8_108 rfl rfl ob121 ?_
  have hL : A0 m8_undo 1 22 [some (Value.ref 121), some (Value.int (nI 0))] [] (am_row (am_up M 121 3 (nI u)) 122 (va_cpy (M 124) (M 122) (69 * u) 0 0)) V f (RM (some (.int (nI u))) (am_row (am_up M 121 3 (nI u)) 122 (va_cpy (M 124) (M 122) (69 * u) 0 69)) V f) := by
    refine ac_down (n := 69) (P := fun k => A0 m8_undo 1 22 [some (Value.ref 121), some (Value.int (nI k))] [] (am_row (am_up M 121 3 (nI u)) 122 (va_cpy (M 124) (M 122) (69 * u) 0 k)) V f (RM (some (.int (nI u))) (am_row (am_up M 121 3 (nI u)) 122 (va_cpy (M 124) (M 122) (69 * u) 0 69)) V f)) ?_ ?_ 0 (Nat.zero_le _) 
    · refine ac_iload_n 23 dX8_undo_22 rfl rfl ?_
      refine ac_bipush 25 69 dX8_undo_23 rfl (by decide) ?_
      refine ac_icmp_ge 54 28 dX8_undo_25 (by decide) rfl (fun _ => ?_) (fun c_25 => absurd (by decide) c_25)
      refine ac_aload_n 55 dX8_undo_54 rfl rfl ?_
      refine ac_getI 58 dX8_undo_55 rfl fl8_108 ob121 ?_
      rw [show ((am_row (am_up M 121 3 (nI u)) 122 (va_cpy (M 124) (M 122) (69 * u) 0 69)) 121 3) = (nI u) from rfl]
      refine ac_iret dX8_undo_58 ⟨_, rfl, rfl⟩ ?_
      exact rm_mk rfl
    · intro k hk ih
      refine ac_iload_n 23 dX8_undo_22 rfl rfl ?_
      refine ac_bipush 25 69 dX8_undo_23 rfl (by decide) ?_
      refine ac_icmp_ge 54 28 dX8_undo_25 (by decide) rfl (fun c_25 => absurd c_25 (nI_ge (b := 69) hk (by decide))) (fun _ => ?_)
      refine ac_aload_n 29 dX8_undo_28 rfl rfl ?_
      refine ac_getO 32 122 dX8_undo_29 rfl fl8_7 ob121 rfl ?_
      refine ac_iload_n 33 dX8_undo_32 rfl rfl ?_
      refine ac_aload_n 34 dX8_undo_33 rfl rfl ?_
      refine ac_getO 37 124 dX8_undo_34 rfl fl8_16 ob121 rfl ?_
      refine ac_bipush 39 69 dX8_undo_37 rfl (by decide) ?_
      refine ac_aload_n 40 dX8_undo_39 rfl rfl ?_
      refine ac_getI 43 dX8_undo_40 rfl fl8_108 ob121 ?_
      rw [show ((am_row (am_up M 121 3 (nI u)) 122 (va_cpy (M 124) (M 122) (69 * u) 0 k)) 121 3) = (nI u) from rfl]
      refine ac_imul 44 dX8_undo_43 rfl ?_
      refine ac_iload_n 45 dX8_undo_44 rfl rfl ?_
      refine ac_iadd 46 dX8_undo_45 rfl ?_
      refine ac_iald 47 dX8_undo_46 rfl ar124 (ix_of (k := ((69 * (u)) + (k))) (by simp only [show (69 : Int32) = nI 69 from rfl, pk_mul, nI_add]) (by omega) (by decide)) ?_
      rw [show ((am_row (am_up M 121 3 (nI u)) 122 (va_cpy (M 124) (M 122) (69 * u) 0 k)) 124 ((69 * (u)) + (k))) = (M 124 ((69 * (u)) + (k))) from rfl]
      refine ac_iast 48 dX8_undo_47 rfl ar122 (ix_nI (by omega) (by decide)) ?_
      refine ac_iinc 51 (nI (k + 1)) [some (Value.ref 121), some (Value.int (nI (k + 1)))] dX8_undo_48 rfl rfl (nI_1 _) rfl (by decide) rfl ?_
      refine ac_goto 22 dX8_undo_51 (by decide) ?_
      rw [cp_step (by omega) rfl]
      exact ih
  refine ac_iconst 21 0 dX8_undo_20 rfl (by decide) ?_
  refine ac_istore_n 22 [some (Value.ref 121), some (Value.int 0)] dX8_undo_21 rfl rfl (Nat.le_of_ble_eq_true rfl) (by decide) rfl ?_
  rw [cp_0, show am_row (am_up M 121 3 (nI u)) 122 (M 122) = (am_up M 121 3 (nI u)) from row_id] at hL
  exact hL
set_option maxRecDepth 20000 in
theorem q8_typF {M : am_I} {V : am_J} {f : Nat → Option Nat} {x : Int32} (hx : ¬ (0 ≤ x ∧ x ≤ 255)) : CT m8_type 2 [Value.ref 121, Value.int x] M V f (RV (-1) M V f) := by
  refine CT.of m8_type_V.1 _ (en_ai_2 121 x) ?_
  refine ac_iload_n 1 dX8_type_0 rfl rfl ?_
  refine ac_iconst 2 0 dX8_type_1 rfl (by decide) ?_
  refine ac_sipush 5 255 dX8_type_2 rfl (by decide) ?_
  refine ac_callS (μ' := m8_within) 8 dX8_type_5 rfl lk8_67 m8_within_S (c8_wF hx) rfl rfl (by decide) (Nat.le_of_ble_eq_true rfl) ?_
  refine ac_if_ne 13 11 dX8_type_8 (by decide) rfl (fun c_8 => absurd (by decide) c_8) (fun _ => ?_)
  refine ac_iconst 12 (-1) dX8_type_11 rfl (by decide) ?_
  refine ac_iret dX8_type_12 ⟨_, rfl, rfl⟩ ?_
  exact rv_mk rfl
set_option maxRecDepth 20000 in
theorem q8_typL {M : am_I} {V : am_J} {f : Nat → Option Nat} {x : Int32} (hx : 0 ≤ x ∧ x ≤ 255) (hl : M 121 10 = 120) : CT m8_type 2 [Value.ref 121, Value.int x] M V f (RV (-3) M V f) := by
  refine CT.of m8_type_V.1 _ (en_ai_2 121 x) ?_
  refine ac_iload_n 1 dX8_type_0 rfl rfl ?_
  refine ac_iconst 2 0 dX8_type_1 rfl (by decide) ?_
  refine ac_sipush 5 255 dX8_type_2 rfl (by decide) ?_
  refine ac_callS (μ' := m8_within) 8 dX8_type_5 rfl lk8_67 m8_within_S (c8_wT hx) rfl rfl (by decide) (Nat.le_of_ble_eq_true rfl) ?_
  refine ac_if_ne 13 11 dX8_type_8 (by decide) rfl (fun _ => ?_) (fun c_8 => absurd c_8 (by decide))
  refine ac_aload_n 14 dX8_type_13 rfl rfl ?_
  refine ac_getI 17 dX8_type_14 rfl fl8_61 ob121 ?_
  refine ac_bipush 19 120 dX8_type_17 rfl (by decide) ?_
  refine ac_icmp_ne 25 22 dX8_type_19 (by decide) rfl (fun c_19 => absurd hl c_19) (fun _ => ?_)
  refine ac_bipush 24 (-3) dX8_type_22 rfl (by decide) ?_
  refine ac_iret dX8_type_24 ⟨_, rfl, rfl⟩ ?_
  exact rv_mk rfl
set_option maxRecDepth 20000 in
theorem q8_typ {M : am_I} {V : am_J} {f : Nat → Option Nat} {x : Int32} {nl : Nat} (hx : 0 ≤ x ∧ x ≤ 255) (hl : M 121 10 = nI nl) (hn : nl < 120) : CT m8_type 2 [Value.ref 121, Value.int x] M V f (RM (some (.int (nI (nl + 1)))) (am_up (am_up M 129 nl x) 121 10 (nI (nl + 1))) V f) := by
  refine CT.of m8_type_V.1 _ (en_ai_2 121 x) ?_
  refine ac_iload_n 1 dX8_type_0 rfl rfl ?_
  refine ac_iconst 2 0 dX8_type_1 rfl (by decide) ?_
  refine ac_sipush 5 255 dX8_type_2 rfl (by decide) ?_
  refine ac_callS (μ' := m8_within) 8 dX8_type_5 rfl lk8_67 m8_within_S (c8_wT hx) rfl rfl (by decide) (Nat.le_of_ble_eq_true rfl) ?_
  refine ac_if_ne 13 11 dX8_type_8 (by decide) rfl (fun _ => ?_) (fun c_8 => absurd c_8 (by decide))
  refine ac_aload_n 14 dX8_type_13 rfl rfl ?_
  refine ac_getI 17 dX8_type_14 rfl fl8_61 ob121 ?_
  rw [show (M 121 10) = (nI nl) from hl]
  refine ac_bipush 19 120 dX8_type_17 rfl (by decide) ?_
  refine ac_icmp_ne 25 22 dX8_type_19 (by decide) rfl (fun _ => ?_) (fun c_19 => absurd c_19 (fun e => by have := (nI_eq (b := 120) (by omega) (by decide)).mp e; omega))
  refine ac_aload_n 26 dX8_type_25 rfl rfl ?_
  refine ac_getO 29 129 dX8_type_26 rfl fl8_32 ob121 rfl ?_
  refine ac_aload_n 30 dX8_type_29 rfl rfl ?_
  refine ac_getI 33 dX8_type_30 rfl fl8_61 ob121 ?_
  rw [show (M 121 10) = (nI nl) from hl]
  refine ac_iload_n 34 dX8_type_33 rfl rfl ?_
  refine ac_iast 35 dX8_type_34 rfl ar129 (ix_nI (by omega) (by decide)) ?_
  refine ac_aload_n 36 dX8_type_35 rfl rfl ?_
  refine ac_dup 37 dX8_type_36 rfl rfl ?_
  refine ac_getI 40 dX8_type_37 rfl fl8_61 ob121 ?_
  rw [show ((am_up M 129 nl x) 121 10) = (M 121 10) from rfl]
  rw [show (M 121 10) = (nI nl) from hl]
  refine ac_iconst 41 1 dX8_type_40 rfl (by decide) ?_
  refine ac_iadd 42 dX8_type_41 rfl ?_
  rw [show ((nI nl) + 1) = (nI (nl + 1)) from (nI_1 nl)]
  refine ac_putI 45 dX8_type_42 rfl fl8_61 rfl rfl ob121 ?_
  refine ac_aload_n 46 dX8_type_45 rfl rfl ?_
  refine ac_getI 49 dX8_type_46 rfl fl8_61 ob121 ?_
  rw [show ((am_up (am_up M 129 nl x) 121 10 (nI (nl + 1))) 121 10) = (nI (nl + 1)) from rfl]
  refine ac_iret dX8_type_49 ⟨_, rfl, rfl⟩ ?_
  exact rm_mk rfl
set_option maxRecDepth 20000 in
theorem q8_seeF {M : am_I} {V : am_J} {f : Nat → Option Nat} {a n : Int32} (ha : ¬ (0 ≤ a ∧ a ≤ 3)) : CT m8_sees 2 [Value.ref 121, Value.int a, Value.int n] M V f (RV (-1) M V f) := by
  refine CT.of m8_sees_V.1 _ (en_aii_3 121 a n) ?_
  refine ac_iload_n 1 dX8_sees_0 rfl rfl ?_
  refine ac_iconst 2 0 dX8_sees_1 rfl (by decide) ?_
  refine ac_iconst 3 3 dX8_sees_2 rfl (by decide) ?_
  refine ac_callS (μ' := m8_within) 6 dX8_sees_3 rfl lk8_67 m8_within_S (c8_wF ha) rfl rfl (by decide) (Nat.le_of_ble_eq_true rfl) ?_
  refine ac_if_eq 20 9 dX8_sees_6 (by decide) rfl (fun _ => ?_) (fun c_6 => absurd (by decide) c_6)
  refine ac_iconst 21 (-1) dX8_sees_20 rfl (by decide) ?_
  refine ac_iret dX8_sees_21 ⟨_, rfl, rfl⟩ ?_
  exact rv_mk rfl
set_option maxRecDepth 20000 in
theorem q8_seeG {M : am_I} {V : am_J} {f : Nat → Option Nat} {a n : Int32} (ha : 0 ≤ a ∧ a ≤ 3) (hb : ¬ (-99 ≤ n ∧ n ≤ 99)) : CT m8_sees 2 [Value.ref 121, Value.int a, Value.int n] M V f (RV (-1) M V f) := by
  refine CT.of m8_sees_V.1 _ (en_aii_3 121 a n) ?_
  refine ac_iload_n 1 dX8_sees_0 rfl rfl ?_
  refine ac_iconst 2 0 dX8_sees_1 rfl (by decide) ?_
  refine ac_iconst 3 3 dX8_sees_2 rfl (by decide) ?_
  refine ac_callS (μ' := m8_within) 6 dX8_sees_3 rfl lk8_67 m8_within_S (c8_wT ha) rfl rfl (by decide) (Nat.le_of_ble_eq_true rfl) ?_
  refine ac_if_eq 20 9 dX8_sees_6 (by decide) rfl (fun c_6 => absurd c_6 (by decide)) (fun _ => ?_)
  refine ac_iload_n 10 dX8_sees_9 rfl rfl ?_
  refine ac_bipush 12 (-99) dX8_sees_10 rfl (by decide) ?_
  refine ac_bipush 14 99 dX8_sees_12 rfl (by decide) ?_
  refine ac_callS (μ' := m8_within) 17 dX8_sees_14 rfl lk8_67 m8_within_S (c8_wF hb) rfl rfl (by decide) (Nat.le_of_ble_eq_true rfl) ?_
  refine ac_if_ne 22 20 dX8_sees_17 (by decide) rfl (fun c_17 => absurd (by decide) c_17) (fun _ => ?_)
  refine ac_iconst 21 (-1) dX8_sees_20 rfl (by decide) ?_
  refine ac_iret dX8_sees_21 ⟨_, rfl, rfl⟩ ?_
  exact rv_mk rfl
set_option maxRecDepth 20000 in
theorem q8_seeL {M : am_I} {V : am_J} {f : Nat → Option Nat} {a n : Int32} (ha : 0 ≤ a ∧ a ≤ 3) (hb : -99 ≤ n ∧ n ≤ 99) (hl : M 121 6 = 6) : CT m8_sees 2 [Value.ref 121, Value.int a, Value.int n] M V f (RV (-3) M V f) := by
  refine CT.of m8_sees_V.1 _ (en_aii_3 121 a n) ?_
  refine ac_iload_n 1 dX8_sees_0 rfl rfl ?_
  refine ac_iconst 2 0 dX8_sees_1 rfl (by decide) ?_
  refine ac_iconst 3 3 dX8_sees_2 rfl (by decide) ?_
  refine ac_callS (μ' := m8_within) 6 dX8_sees_3 rfl lk8_67 m8_within_S (c8_wT ha) rfl rfl (by decide) (Nat.le_of_ble_eq_true rfl) ?_
  refine ac_if_eq 20 9 dX8_sees_6 (by decide) rfl (fun c_6 => absurd c_6 (by decide)) (fun _ => ?_)
  refine ac_iload_n 10 dX8_sees_9 rfl rfl ?_
  refine ac_bipush 12 (-99) dX8_sees_10 rfl (by decide) ?_
  refine ac_bipush 14 99 dX8_sees_12 rfl (by decide) ?_
  refine ac_callS (μ' := m8_within) 17 dX8_sees_14 rfl lk8_67 m8_within_S (c8_wT hb) rfl rfl (by decide) (Nat.le_of_ble_eq_true rfl) ?_
  refine ac_if_ne 22 20 dX8_sees_17 (by decide) rfl (fun _ => ?_) (fun c_17 => absurd c_17 (by decide))
  refine ac_aload_n 23 dX8_sees_22 rfl rfl ?_
  refine ac_getI 26 dX8_sees_23 rfl fl8_189 ob121 ?_
  refine ac_bipush 28 6 dX8_sees_26 rfl (by decide) ?_
  refine ac_icmp_ne 34 31 dX8_sees_28 (by decide) rfl (fun c_28 => absurd hl c_28) (fun _ => ?_)
  refine ac_bipush 33 (-3) dX8_sees_31 rfl (by decide) ?_
  refine ac_iret dX8_sees_33 ⟨_, rfl, rfl⟩ ?_
  exact rv_mk rfl
set_option maxRecDepth 20000 in
theorem q8_see {M : am_I} {V : am_J} {f : Nat → Option Nat} {a n : Int32} {ns : Nat} (ha : 0 ≤ a ∧ a ≤ 3) (hb : -99 ≤ n ∧ n ≤ 99) (hl : M 121 6 = nI ns) (hn : ns < 6) : CT m8_sees 2 [Value.ref 121, Value.int a, Value.int n] M V f (RM (some (.int (nI (ns + 1)))) (am_up (am_up (am_up M 127 ns a) 128 ns n) 121 6 (nI (ns + 1))) V f) := by
  refine CT.of m8_sees_V.1 _ (en_aii_3 121 a n) ?_
  refine ac_iload_n 1 dX8_sees_0 rfl rfl ?_
  refine ac_iconst 2 0 dX8_sees_1 rfl (by decide) ?_
  refine ac_iconst 3 3 dX8_sees_2 rfl (by decide) ?_
  refine ac_callS (μ' := m8_within) 6 dX8_sees_3 rfl lk8_67 m8_within_S (c8_wT ha) rfl rfl (by decide) (Nat.le_of_ble_eq_true rfl) ?_
  refine ac_if_eq 20 9 dX8_sees_6 (by decide) rfl (fun c_6 => absurd c_6 (by decide)) (fun _ => ?_)
  refine ac_iload_n 10 dX8_sees_9 rfl rfl ?_
  refine ac_bipush 12 (-99) dX8_sees_10 rfl (by decide) ?_
  refine ac_bipush 14 99 dX8_sees_12 rfl (by decide) ?_
  refine ac_callS (μ' := m8_within) 17 dX8_sees_14 rfl lk8_67 m8_within_S (c8_wT hb) rfl rfl (by decide) (Nat.le_of_ble_eq_true rfl) ?_
  refine ac_if_ne 22 20 dX8_sees_17 (by decide) rfl (fun _ => ?_) (fun c_17 => absurd c_17 (by decide))
  refine ac_aload_n 23 dX8_sees_22 rfl rfl ?_
  refine ac_getI 26 dX8_sees_23 rfl fl8_189 ob121 ?_
  rw [show (M 121 6) = (nI ns) from hl]
  refine ac_bipush 28 6 dX8_sees_26 rfl (by decide) ?_
  refine ac_icmp_ne 34 31 dX8_sees_28 (by decide) rfl (fun _ => ?_) (fun c_28 => absurd c_28 (fun e => by have := (nI_eq (b := 6) (by omega) (by decide)).mp e; omega))
  refine ac_aload_n 35 dX8_sees_34 rfl rfl ?_
  refine ac_getO 38 127 dX8_sees_35 rfl fl8_26 ob121 rfl ?_
  refine ac_aload_n 39 dX8_sees_38 rfl rfl ?_
  refine ac_getI 42 dX8_sees_39 rfl fl8_189 ob121 ?_
  rw [show (M 121 6) = (nI ns) from hl]
  refine ac_iload_n 43 dX8_sees_42 rfl rfl ?_
  refine ac_iast 44 dX8_sees_43 rfl ar127 (ix_nI (by omega) (by decide)) ?_
  refine ac_aload_n 45 dX8_sees_44 rfl rfl ?_
  refine ac_getO 48 128 dX8_sees_45 rfl fl8_29 ob121 rfl ?_
  refine ac_aload_n 49 dX8_sees_48 rfl rfl ?_
  refine ac_getI 52 dX8_sees_49 rfl fl8_189 ob121 ?_
  rw [show ((am_up M 127 ns a) 121 6) = (M 121 6) from rfl]
  rw [show (M 121 6) = (nI ns) from hl]
  refine ac_iload_n 53 dX8_sees_52 rfl rfl ?_
  refine ac_iast 54 dX8_sees_53 rfl ar128 (ix_nI (by omega) (by decide)) ?_
  refine ac_aload_n 55 dX8_sees_54 rfl rfl ?_
  refine ac_dup 56 dX8_sees_55 rfl rfl ?_
  refine ac_getI 59 dX8_sees_56 rfl fl8_189 ob121 ?_
  rw [show ((am_up (am_up M 127 ns a) 128 ns n) 121 6) = (M 121 6) from rfl]
  rw [show (M 121 6) = (nI ns) from hl]
  refine ac_iconst 60 1 dX8_sees_59 rfl (by decide) ?_
  refine ac_iadd 61 dX8_sees_60 rfl ?_
  rw [show ((nI ns) + 1) = (nI (ns + 1)) from (nI_1 ns)]
  refine ac_putI 64 dX8_sees_61 rfl fl8_189 rfl rfl ob121 ?_
  refine ac_aload_n 65 dX8_sees_64 rfl rfl ?_
  refine ac_getI 68 dX8_sees_65 rfl fl8_189 ob121 ?_
  rw [show ((am_up (am_up (am_up M 127 ns a) 128 ns n) 121 6 (nI (ns + 1))) 121 6) = (nI (ns + 1)) from rfl]
  refine ac_iret dX8_sees_68 ⟨_, rfl, rfl⟩ ?_
  exact rm_mk rfl
set_option maxRecDepth 20000 in
theorem q8_keeF {M : am_I} {V : am_J} {f : Nat → Option Nat} {i : Int32} (hw : ¬ vI i 2) : CT m8_keep 3 [Value.ref 121, Value.int i] M V f (RV (-1) M V f) := by
  refine CT.of m8_keep_V.1 _ (en_ai_3 121 i) ?_
  refine ac_iload_n 1 dX8_keep_0 rfl rfl ?_
  refine ac_iconst 2 0 dX8_keep_1 rfl (by decide) ?_
  refine ac_iconst 3 1 dX8_keep_2 rfl (by decide) ?_
  refine ac_callS (μ' := m8_within) 6 dX8_keep_3 rfl lk8_67 m8_within_S (c8_wF (wh_not (n := 2) (by decide) hw rfl)) rfl rfl (by decide) (Nat.le_of_ble_eq_true rfl) ?_
  refine ac_if_ne 11 9 dX8_keep_6 (by decide) rfl (fun c_6 => absurd (by decide) c_6) (fun _ => ?_)
  refine ac_iconst 10 (-1) dX8_keep_9 rfl (by decide) ?_
  refine ac_iret dX8_keep_10 ⟨_, rfl, rfl⟩ ?_
  exact rv_mk rfl
set_option maxRecDepth 20000 in
theorem q8_kee {M : am_I} {V : am_J} {f : Nat → Option Nat} {np nd nh i : Nat} (hn : NC (M 122) np nd nh) (hi : i < 2) : CT m8_keep 3 [Value.ref 121, Value.int (nI i)] M V f (RM (some (.int (upN (M 122) np))) (am_up (am_row M 125 (va_cpy (M 122) (M 125) 0 (69 * i) 69)) 126 i 1) V f) := by
  refine CT.of m8_keep_V.1 _ (en_ai_3 121 (nI i)) ?_
  refine ac_iload_n 1 dX8_keep_0 rfl rfl ?_
  refine ac_iconst 2 0 dX8_keep_1 rfl (by decide) ?_
  refine ac_iconst 3 1 dX8_keep_2 rfl (by decide) ?_
  refine ac_callS (μ' := m8_within) 6 dX8_keep_3 rfl lk8_67 m8_within_S (c8_wT ⟨nI_pos0 (by omega), nI_le (b := 1) (by omega) (by decide)⟩) rfl rfl (by decide) (Nat.le_of_ble_eq_true rfl) ?_
  refine ac_if_ne 11 9 dX8_keep_6 (by decide) rfl (fun _ => ?_) (fun c_6 => absurd c_6 (by decide))
  have hL : A0 m8_keep 3 13 [some (Value.ref 121), some (Value.int (nI i)), some (Value.int (nI 0))] [] (am_row M 125 (va_cpy (M 122) (M 125) 0 (69 * i) 0)) V f (RM (some (.int (upN (M 122) np))) (am_up (am_row M 125 (va_cpy (M 122) (M 125) 0 (69 * i) 69)) 126 i 1) V f) := by
    refine ac_down (n := 69) (P := fun k => A0 m8_keep 3 13 [some (Value.ref 121), some (Value.int (nI i)), some (Value.int (nI k))] [] (am_row M 125 (va_cpy (M 122) (M 125) 0 (69 * i) k)) V f (RM (some (.int (upN (M 122) np))) (am_up (am_row M 125 (va_cpy (M 122) (M 125) 0 (69 * i) 69)) 126 i 1) V f)) ?_ ?_ 0 (Nat.zero_le _) 
    · refine ac_iload_n 14 dX8_keep_13 rfl rfl ?_
      refine ac_bipush 16 69 dX8_keep_14 rfl (by decide) ?_
      refine ac_icmp_ge 42 19 dX8_keep_16 (by decide) rfl (fun _ => ?_) (fun c_16 => absurd (by decide) c_16)
      refine ac_aload_n 43 dX8_keep_42 rfl rfl ?_
      refine ac_getO 46 126 dX8_keep_43 rfl fl8_22 ob121 rfl ?_
      refine ac_iload_n 47 dX8_keep_46 rfl rfl ?_
      refine ac_iconst 48 1 dX8_keep_47 rfl (by decide) ?_
      refine ac_zast 49 dX8_keep_48 rfl ar126 (ix_nI (by omega) (by decide)) rfl ?_
      refine ac_aload_n 50 dX8_keep_49 rfl rfl ?_
      refine ac_callV (μ' := m8_hanging) 53 dX8_keep_50 rfl lk8_195 m8_hanging_V ob121 (c8_hanging (M := (am_up (am_row M 125 (va_cpy (M 122) (M 125) 0 (69 * i) 69)) 126 i 1)) hn) rfl rfl (by decide) (Nat.le_of_ble_eq_true rfl) ?_
      refine ac_iret dX8_keep_53 ⟨_, rfl, rfl⟩ ?_
      exact rm_mk rfl
    · intro k hk ih
      refine ac_iload_n 14 dX8_keep_13 rfl rfl ?_
      refine ac_bipush 16 69 dX8_keep_14 rfl (by decide) ?_
      refine ac_icmp_ge 42 19 dX8_keep_16 (by decide) rfl (fun c_16 => absurd c_16 (nI_ge (b := 69) hk (by decide))) (fun _ => ?_)
      refine ac_aload_n 20 dX8_keep_19 rfl rfl ?_
      refine ac_getO 23 125 dX8_keep_20 rfl fl8_19 ob121 rfl ?_
      refine ac_bipush 25 69 dX8_keep_23 rfl (by decide) ?_
      refine ac_iload_n 26 dX8_keep_25 rfl rfl ?_
      refine ac_imul 27 dX8_keep_26 rfl ?_
      refine ac_iload_n 28 dX8_keep_27 rfl rfl ?_
      refine ac_iadd 29 dX8_keep_28 rfl ?_
      refine ac_aload_n 30 dX8_keep_29 rfl rfl ?_
      refine ac_getO 33 122 dX8_keep_30 rfl fl8_7 ob121 rfl ?_
      refine ac_iload_n 34 dX8_keep_33 rfl rfl ?_
      refine ac_iald 35 dX8_keep_34 rfl ar122 (ix_nI (by omega) (by decide)) ?_
      rw [show ((am_row M 125 (va_cpy (M 122) (M 125) 0 (69 * i) k)) 122 k) = (M 122 k) from rfl]
      refine ac_iast 36 dX8_keep_35 rfl ar125 (ix_of (k := ((69 * (i)) + (k))) (by simp only [show (69 : Int32) = nI 69 from rfl, pk_mul, nI_add]) (by omega) (by decide)) ?_
      refine ac_iinc 39 (nI (k + 1)) [some (Value.ref 121), some (Value.int (nI i)), some (Value.int (nI (k + 1)))] dX8_keep_36 rfl rfl (nI_1 _) rfl (by decide) rfl ?_
      refine ac_goto 13 dX8_keep_39 (by decide) ?_
      rw [cp_step rfl (by rw [Nat.zero_add])]
      exact ih
  refine ac_iconst 12 0 dX8_keep_11 rfl (by decide) ?_
  refine ac_istore_n 13 [some (Value.ref 121), some (Value.int (nI i)), some (Value.int 0)] dX8_keep_12 rfl rfl (Nat.le_of_ble_eq_true rfl) (by decide) rfl ?_
  rw [cp_row0] at hL
  exact hL
set_option maxRecDepth 20000 in
theorem q8_bacF {M : am_I} {V : am_J} {f : Nat → Option Nat} {i : Int32} (hw : ¬ vI i 2) : CT m8_back 3 [Value.ref 121, Value.int i] M V f (RV (-1) M V f) := by
  refine CT.of m8_back_V.1 _ (en_ai_3 121 i) ?_
  refine ac_iload_n 1 dX8_back_0 rfl rfl ?_
  refine ac_iconst 2 0 dX8_back_1 rfl (by decide) ?_
  refine ac_iconst 3 1 dX8_back_2 rfl (by decide) ?_
  refine ac_callS (μ' := m8_within) 6 dX8_back_3 rfl lk8_67 m8_within_S (c8_wF (wh_not (n := 2) (by decide) hw rfl)) rfl rfl (by decide) (Nat.le_of_ble_eq_true rfl) ?_
  refine ac_if_ne 11 9 dX8_back_6 (by decide) rfl (fun c_6 => absurd (by decide) c_6) (fun _ => ?_)
  refine ac_iconst 10 (-1) dX8_back_9 rfl (by decide) ?_
  refine ac_iret dX8_back_10 ⟨_, rfl, rfl⟩ ?_
  exact rv_mk rfl
set_option maxRecDepth 20000 in
theorem q8_bacN {M : am_I} {V : am_J} {f : Nat → Option Nat} {i : Nat} (hi : i < 2) (hk : M 126 i = 0) : CT m8_back 3 [Value.ref 121, Value.int (nI i)] M V f (RV (-2) M V f) := by
  refine CT.of m8_back_V.1 _ (en_ai_3 121 (nI i)) ?_
  refine ac_iload_n 1 dX8_back_0 rfl rfl ?_
  refine ac_iconst 2 0 dX8_back_1 rfl (by decide) ?_
  refine ac_iconst 3 1 dX8_back_2 rfl (by decide) ?_
  refine ac_callS (μ' := m8_within) 6 dX8_back_3 rfl lk8_67 m8_within_S (c8_wT ⟨nI_pos0 (by omega), nI_le (b := 1) (by omega) (by decide)⟩) rfl rfl (by decide) (Nat.le_of_ble_eq_true rfl) ?_
  refine ac_if_ne 11 9 dX8_back_6 (by decide) rfl (fun _ => ?_) (fun c_6 => absurd c_6 (by decide))
  refine ac_aload_n 12 dX8_back_11 rfl rfl ?_
  refine ac_getO 15 126 dX8_back_12 rfl fl8_22 ob121 rfl ?_
  refine ac_iload_n 16 dX8_back_15 rfl rfl ?_
  refine ac_zald 17 dX8_back_16 rfl ar126 (ix_nI (by omega) (by decide)) ?_
  refine ac_if_ne 23 20 dX8_back_17 (by decide) rfl (fun c_17 => absurd hk c_17) (fun _ => ?_)
  refine ac_bipush 22 (-2) dX8_back_20 rfl (by decide) ?_
  refine ac_iret dX8_back_22 ⟨_, rfl, rfl⟩ ?_
  exact rv_mk rfl
set_option maxRecDepth 20000 in
theorem q8_bac {M : am_I} {V : am_J} {f : Nat → Option Nat} {np nd nh i : Nat} (hi : i < 2) (hk : M 126 i = 1) (hn : NC (va_cpy (M 125) (M 122) (69 * i) 0 69) np nd nh) : CT m8_back 3 [Value.ref 121, Value.int (nI i)] M V f (RM (some (.int (upN (va_cpy (M 125) (M 122) (69 * i) 0 69) np))) (am_up (am_row M 122 (va_cpy (M 125) (M 122) (69 * i) 0 69)) 121 3 0) V f) := by
  refine CT.of m8_back_V.1 _ (en_ai_3 121 (nI i)) ?_
  refine ac_iload_n 1 dX8_back_0 rfl rfl ?_
  refine ac_iconst 2 0 dX8_back_1 rfl (by decide) ?_
  refine ac_iconst 3 1 dX8_back_2 rfl (by decide) ?_
  refine ac_callS (μ' := m8_within) 6 dX8_back_3 rfl lk8_67 m8_within_S (c8_wT ⟨nI_pos0 (by omega), nI_le (b := 1) (by omega) (by decide)⟩) rfl rfl (by decide) (Nat.le_of_ble_eq_true rfl) ?_
  refine ac_if_ne 11 9 dX8_back_6 (by decide) rfl (fun _ => ?_) (fun c_6 => absurd c_6 (by decide))
  refine ac_aload_n 12 dX8_back_11 rfl rfl ?_
  refine ac_getO 15 126 dX8_back_12 rfl fl8_22 ob121 rfl ?_
  refine ac_iload_n 16 dX8_back_15 rfl rfl ?_
  refine ac_zald 17 dX8_back_16 rfl ar126 (ix_nI (by omega) (by decide)) ?_
  refine ac_if_ne 23 20 dX8_back_17 (by decide) rfl (fun _ => ?_) (fun c_17 => absurd c_17 (by rw [hk]; decide))
  have hL : A0 m8_back 3 25 [some (Value.ref 121), some (Value.int (nI i)), some (Value.int (nI 0))] [] (am_row M 122 (va_cpy (M 125) (M 122) (69 * i) 0 0)) V f (RM (some (.int (upN (va_cpy (M 125) (M 122) (69 * i) 0 69) np))) (am_up (am_row M 122 (va_cpy (M 125) (M 122) (69 * i) 0 69)) 121 3 0) V f) := by
    refine ac_down (n := 69) (P := fun k => A0 m8_back 3 25 [some (Value.ref 121), some (Value.int (nI i)), some (Value.int (nI k))] [] (am_row M 122 (va_cpy (M 125) (M 122) (69 * i) 0 k)) V f (RM (some (.int (upN (va_cpy (M 125) (M 122) (69 * i) 0 69) np))) (am_up (am_row M 122 (va_cpy (M 125) (M 122) (69 * i) 0 69)) 121 3 0) V f)) ?_ ?_ 0 (Nat.zero_le _) 
    · refine ac_iload_n 26 dX8_back_25 rfl rfl ?_
      refine ac_bipush 28 69 dX8_back_26 rfl (by decide) ?_
      refine ac_icmp_ge 54 31 dX8_back_28 (by decide) rfl (fun _ => ?_) (fun c_28 => absurd (by decide) c_28)
      refine ac_aload_n 55 dX8_back_54 rfl rfl ?_
      refine ac_iconst 56 0 dX8_back_55 rfl (by decide) ?_
      refine ac_putI 59 dX8_back_56 rfl fl8_108 rfl rfl ob121 ?_
      refine ac_aload_n 60 dX8_back_59 rfl rfl ?_
      refine ac_callV (μ' := m8_hanging) 63 dX8_back_60 rfl lk8_195 m8_hanging_V ob121 (c8_hanging (M := (am_up (am_row M 122 (va_cpy (M 125) (M 122) (69 * i) 0 69)) 121 3 0)) hn) rfl rfl (by decide) (Nat.le_of_ble_eq_true rfl) ?_
      refine ac_iret dX8_back_63 ⟨_, rfl, rfl⟩ ?_
      exact rm_mk rfl
    · intro k hk ih
      have hk2 := hk
      refine ac_iload_n 26 dX8_back_25 rfl rfl ?_
      refine ac_bipush 28 69 dX8_back_26 rfl (by decide) ?_
      refine ac_icmp_ge 54 31 dX8_back_28 (by decide) rfl (fun c_28 => absurd c_28 (nI_ge (b := 69) hk2 (by decide))) (fun _ => ?_)
      refine ac_aload_n 32 dX8_back_31 rfl rfl ?_
      refine ac_getO 35 122 dX8_back_32 rfl fl8_7 ob121 rfl ?_
      refine ac_iload_n 36 dX8_back_35 rfl rfl ?_
      refine ac_aload_n 37 dX8_back_36 rfl rfl ?_
      refine ac_getO 40 125 dX8_back_37 rfl fl8_19 ob121 rfl ?_
      refine ac_bipush 42 69 dX8_back_40 rfl (by decide) ?_
      refine ac_iload_n 43 dX8_back_42 rfl rfl ?_
      refine ac_imul 44 dX8_back_43 rfl ?_
      refine ac_iload_n 45 dX8_back_44 rfl rfl ?_
      refine ac_iadd 46 dX8_back_45 rfl ?_
      refine ac_iald 47 dX8_back_46 rfl ar125 (ix_of (k := ((69 * (i)) + (k))) (by simp only [show (69 : Int32) = nI 69 from rfl, pk_mul, nI_add]) (by omega) (by decide)) ?_
      rw [show ((am_row M 122 (va_cpy (M 125) (M 122) (69 * i) 0 k)) 125 ((69 * (i)) + (k))) = (M 125 ((69 * (i)) + (k))) from rfl]
      refine ac_iast 48 dX8_back_47 rfl ar122 (ix_nI (by omega) (by decide)) ?_
      refine ac_iinc 51 (nI (k + 1)) [some (Value.ref 121), some (Value.int (nI i)), some (Value.int (nI (k + 1)))] dX8_back_48 rfl rfl (nI_1 _) rfl (by decide) rfl ?_
      refine ac_goto 25 dX8_back_51 (by decide) ?_
      rw [cp_step (by omega) rfl]
      exact ih
  refine ac_iconst 24 0 dX8_back_23 rfl (by decide) ?_
  refine ac_istore_n 25 [some (Value.ref 121), some (Value.int (nI i)), some (Value.int 0)] dX8_back_24 rfl rfl (Nat.le_of_ble_eq_true rfl) (by decide) rfl ?_
  rw [cp_row0] at hL
  exact hL
set_option maxRecDepth 20000 in
theorem c8_bares122 {M : am_I} {V : am_J} {f : Nat → Option Nat}  : CT m8_bares 1 [Value.ref 122] M V f (RM none (am_up (am_up (am_row M 122 (va_cpy (fun i => if i < 64 then 0 else -9) (M 122) 0 0 69)) 122 0 20) 122 1 10) V f) := by
  refine CT.of m8_bares_S.1 _ (en_a_2 122) ?_
  have hL : A0 m8_bares 1 2 [some (Value.ref 122), some (Value.int (nI 0))] [] (am_row M 122 (va_cpy (fun i => if i < 64 then 0 else -9) (M 122) 0 0 0)) V f (RM none (am_up (am_up (am_row M 122 (va_cpy (fun i => if i < 64 then 0 else -9) (M 122) 0 0 69)) 122 0 20) 122 1 10) V f) := by
    refine ac_down (n := 69) (P := fun k => A0 m8_bares 1 2 [some (Value.ref 122), some (Value.int (nI k))] [] (am_row M 122 (va_cpy (fun i => if i < 64 then 0 else -9) (M 122) 0 0 k)) V f (RM none (am_up (am_up (am_row M 122 (va_cpy (fun i => if i < 64 then 0 else -9) (M 122) 0 0 69)) 122 0 20) 122 1 10) V f)) ?_ ?_ 0 (Nat.zero_le _) 
    · refine ac_iload_n 3 dX8_bares_2 rfl rfl ?_
      refine ac_bipush 5 69 dX8_bares_3 rfl (by decide) ?_
      refine ac_icmp_ge 29 8 dX8_bares_5 (by decide) rfl (fun _ => ?_) (fun c_5 => absurd (by decide) c_5)
      refine ac_aload_n 30 dX8_bares_29 rfl rfl ?_
      refine ac_iconst 31 0 dX8_bares_30 rfl (by decide) ?_
      refine ac_bipush 33 20 dX8_bares_31 rfl (by decide) ?_
      refine ac_iast 34 dX8_bares_33 rfl ar122 (ix_nI (k := 0) (by decide) (by decide)) ?_
      refine ac_aload_n 35 dX8_bares_34 rfl rfl ?_
      refine ac_iconst 36 1 dX8_bares_35 rfl (by decide) ?_
      refine ac_bipush 38 10 dX8_bares_36 rfl (by decide) ?_
      refine ac_iast 39 dX8_bares_38 rfl ar122 (ix_nI (k := 1) (by decide) (by decide)) ?_
      refine ac_vret dX8_bares_39 rfl ?_
      exact rm_mk rfl
    · intro k hk ih
      refine ac_iload_n 3 dX8_bares_2 rfl rfl ?_
      refine ac_bipush 5 69 dX8_bares_3 rfl (by decide) ?_
      refine ac_icmp_ge 29 8 dX8_bares_5 (by decide) rfl (fun c_5 => absurd c_5 (nI_ge (b := 69) hk (by decide))) (fun _ => ?_)
      refine ac_aload_n 9 dX8_bares_8 rfl rfl ?_
      refine ac_iload_n 10 dX8_bares_9 rfl rfl ?_
      refine ac_iload_n 11 dX8_bares_10 rfl rfl ?_
      refine ac_bipush 13 64 dX8_bares_11 rfl (by decide) ?_
      refine ac_icmp_ge 20 16 dX8_bares_13 (by decide) rfl (fun c_13 => ?_) (fun c_13 => ?_)
      · refine ac_bipush 22 (-9) dX8_bares_20 rfl (by decide) ?_
        refine ac_iast 23 dX8_bares_22 rfl ar122 (ix_nI (by omega) (by decide)) ?_
        refine ac_iinc 26 (nI (k + 1)) [some (Value.ref 122), some (Value.int (nI (k + 1)))] dX8_bares_23 rfl rfl (nI_1 _) rfl (by decide) rfl ?_
        refine ac_goto 2 dX8_bares_26 (by decide) ?_
        rw [cp_step (by omega) (by first | exact (if_pos (show 0 + k < 64 by have := Int32.not_le.mp c_13; have h9 := (nI_ltI (by omega) (by decide : 64 < 2 ^ 31)).mp this; omega)).symm | exact (if_neg (show ¬ 0 + k < 64 by have h9 := (nI_leI (a := 64) (by decide) (by omega)).mp c_13; omega)).symm)]
        exact ih
      · refine ac_iconst 17 0 dX8_bares_16 rfl (by decide) ?_
        refine ac_goto 22 dX8_bares_17 (by decide) ?_
        refine ac_iast 23 dX8_bares_22 rfl ar122 (ix_nI (by omega) (by decide)) ?_
        refine ac_iinc 26 (nI (k + 1)) [some (Value.ref 122), some (Value.int (nI (k + 1)))] dX8_bares_23 rfl rfl (nI_1 _) rfl (by decide) rfl ?_
        refine ac_goto 2 dX8_bares_26 (by decide) ?_
        rw [cp_step (by omega) (by first | exact (if_pos (show 0 + k < 64 by have := Int32.not_le.mp c_13; have h9 := (nI_ltI (by omega) (by decide : 64 < 2 ^ 31)).mp this; omega)).symm | exact (if_neg (show ¬ 0 + k < 64 by have h9 := (nI_leI (a := 64) (by decide) (by omega)).mp c_13; omega)).symm)]
        exact ih
  refine ac_iconst 1 0 dX8_bares_0 rfl (by decide) ?_
  refine ac_istore_n 2 [some (Value.ref 122), some (Value.int 0)] dX8_bares_1 rfl rfl (Nat.le_of_ble_eq_true rfl) (by decide) rfl ?_
  rw [cp_row0] at hL
  exact hL
set_option maxRecDepth 20000 in
theorem c8_bares123 {M : am_I} {V : am_J} {f : Nat → Option Nat}  : CT m8_bares 1 [Value.ref 123] M V f (RM none (am_up (am_up (am_row M 123 (va_cpy (fun i => if i < 64 then 0 else -9) (M 123) 0 0 69)) 123 0 20) 123 1 10) V f) := by
  refine CT.of m8_bares_S.1 _ (en_a_2 123) ?_
  have hL : A0 m8_bares 1 2 [some (Value.ref 123), some (Value.int (nI 0))] [] (am_row M 123 (va_cpy (fun i => if i < 64 then 0 else -9) (M 123) 0 0 0)) V f (RM none (am_up (am_up (am_row M 123 (va_cpy (fun i => if i < 64 then 0 else -9) (M 123) 0 0 69)) 123 0 20) 123 1 10) V f) := by
    refine ac_down (n := 69) (P := fun k => A0 m8_bares 1 2 [some (Value.ref 123), some (Value.int (nI k))] [] (am_row M 123 (va_cpy (fun i => if i < 64 then 0 else -9) (M 123) 0 0 k)) V f (RM none (am_up (am_up (am_row M 123 (va_cpy (fun i => if i < 64 then 0 else -9) (M 123) 0 0 69)) 123 0 20) 123 1 10) V f)) ?_ ?_ 0 (Nat.zero_le _) 
    · refine ac_iload_n 3 dX8_bares_2 rfl rfl ?_
      refine ac_bipush 5 69 dX8_bares_3 rfl (by decide) ?_
      refine ac_icmp_ge 29 8 dX8_bares_5 (by decide) rfl (fun _ => ?_) (fun c_5 => absurd (by decide) c_5)
      refine ac_aload_n 30 dX8_bares_29 rfl rfl ?_
      refine ac_iconst 31 0 dX8_bares_30 rfl (by decide) ?_
      refine ac_bipush 33 20 dX8_bares_31 rfl (by decide) ?_
      refine ac_iast 34 dX8_bares_33 rfl ar123 (ix_nI (k := 0) (by decide) (by decide)) ?_
      refine ac_aload_n 35 dX8_bares_34 rfl rfl ?_
      refine ac_iconst 36 1 dX8_bares_35 rfl (by decide) ?_
      refine ac_bipush 38 10 dX8_bares_36 rfl (by decide) ?_
      refine ac_iast 39 dX8_bares_38 rfl ar123 (ix_nI (k := 1) (by decide) (by decide)) ?_
      refine ac_vret dX8_bares_39 rfl ?_
      exact rm_mk rfl
    · intro k hk ih
      refine ac_iload_n 3 dX8_bares_2 rfl rfl ?_
      refine ac_bipush 5 69 dX8_bares_3 rfl (by decide) ?_
      refine ac_icmp_ge 29 8 dX8_bares_5 (by decide) rfl (fun c_5 => absurd c_5 (nI_ge (b := 69) hk (by decide))) (fun _ => ?_)
      refine ac_aload_n 9 dX8_bares_8 rfl rfl ?_
      refine ac_iload_n 10 dX8_bares_9 rfl rfl ?_
      refine ac_iload_n 11 dX8_bares_10 rfl rfl ?_
      refine ac_bipush 13 64 dX8_bares_11 rfl (by decide) ?_
      refine ac_icmp_ge 20 16 dX8_bares_13 (by decide) rfl (fun c_13 => ?_) (fun c_13 => ?_)
      · refine ac_bipush 22 (-9) dX8_bares_20 rfl (by decide) ?_
        refine ac_iast 23 dX8_bares_22 rfl ar123 (ix_nI (by omega) (by decide)) ?_
        refine ac_iinc 26 (nI (k + 1)) [some (Value.ref 123), some (Value.int (nI (k + 1)))] dX8_bares_23 rfl rfl (nI_1 _) rfl (by decide) rfl ?_
        refine ac_goto 2 dX8_bares_26 (by decide) ?_
        rw [cp_step (by omega) (by first | exact (if_pos (show 0 + k < 64 by have := Int32.not_le.mp c_13; have h9 := (nI_ltI (by omega) (by decide : 64 < 2 ^ 31)).mp this; omega)).symm | exact (if_neg (show ¬ 0 + k < 64 by have h9 := (nI_leI (a := 64) (by decide) (by omega)).mp c_13; omega)).symm)]
        exact ih
      · refine ac_iconst 17 0 dX8_bares_16 rfl (by decide) ?_
        refine ac_goto 22 dX8_bares_17 (by decide) ?_
        refine ac_iast 23 dX8_bares_22 rfl ar123 (ix_nI (by omega) (by decide)) ?_
        refine ac_iinc 26 (nI (k + 1)) [some (Value.ref 123), some (Value.int (nI (k + 1)))] dX8_bares_23 rfl rfl (nI_1 _) rfl (by decide) rfl ?_
        refine ac_goto 2 dX8_bares_26 (by decide) ?_
        rw [cp_step (by omega) (by first | exact (if_pos (show 0 + k < 64 by have := Int32.not_le.mp c_13; have h9 := (nI_ltI (by omega) (by decide : 64 < 2 ^ 31)).mp this; omega)).symm | exact (if_neg (show ¬ 0 + k < 64 by have h9 := (nI_leI (a := 64) (by decide) (by omega)).mp c_13; omega)).symm)]
        exact ih
  refine ac_iconst 1 0 dX8_bares_0 rfl (by decide) ?_
  refine ac_istore_n 2 [some (Value.ref 123), some (Value.int 0)] dX8_bares_1 rfl rfl (Nat.le_of_ble_eq_true rfl) (by decide) rfl ?_
  rw [cp_row0] at hL
  exact hL
