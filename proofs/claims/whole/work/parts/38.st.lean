/-! The String constants of Tokens: cell 1000 + i is constant i, 1006 + i its bytes. -/
theorem as_s {z : Nat} {sk : Nat → Nat} (i : Nat) : am_as z sk (1000 + i) = sk i := by
  unfold am_as
  rw [if_neg (by omega), Nat.add_sub_cancel_left]
def am_mT (μ : am_M) (n : Nat) : Prop := am_m μ n ∧ μ.1.cls = RJ0 ∧ Cond.instanceMethod μ.1 ∈ am_g ∧ Cond.selects RJ0 μ.1 μ.1 ∈ am_g
section ST
variable {μ : am_M} {d : Nat} {pc : Nat} {ls : List (Option Value)} {st : List Value} {M : am_I} {V : am_J} {f : Nat → Option Nat} {Q : a0_Po}
theorem ac_ldcS (q i : Nat) {idx : Nat} (hd : decode μ.2.1 pc = .ok (.ldc idx, 2)) (hp : pc + 2 = q) (hc : μ.1.cls = RX5) (hi : i < 6) (hx9 : am_sx.getD i 0 = idx) (k : A0 μ d q ls (.ref (1000 + i) :: st) M V f Q) : A0 μ d pc ls st M V f Q := by
  subst hp
  intro p l e Rm s m args below meth c H locs cells slots mc ms n0 z sk D cy lo S h1 h2 h3 hR hS hL
  obtain ⟨hx, hb, hret, hml, hown, hts, hlks, hnm, hfr, hlc, hU⟩ := id S
  subst hx9
  rw [hc] at hown
  refine va_ldcS hx hb hown (hU.2.2.1.2.1 i hi) hd ?_
  have k2 := k p l e Rm s m args below meth c H locs cells slots mc ms n0 z sk D cy lo S h1 h2 h3 hR hS hL
  simp only [List.map_cons, am_cv, as_s] at k2
  exact k2
theorem ac_sval (q : Nat) {i : Nat} (hd : decode μ.2.1 pc = .ok (.getfield 9, 3)) (hp : pc + 3 = q) (hc : μ.1.cls = RJ0) (hi : i < 6) (k : A0 μ d q ls (.ref (1006 + i) :: st) M V f Q) : A0 μ d pc ls (.ref (1000 + i) :: st) M V f Q := by
  subst hp
  intro p l e Rm s m args below meth c H locs cells slots mc ms n0 z sk D cy lo S h1 h2 h3 hR hS hL
  obtain ⟨hx, hb, hret, hml, hown, hts, hlks, hnm, hfr, hlc, hU⟩ := id S
  rw [hc] at hown
  have hl : (Cond.fieldLink RJ0 9 RJ0 "value" "[B").before args s = true := hts _ (am_gi 1019 (by decide +kernel) rfl)
  show W p l e Rm s m args below meth c H locs cells slots _ (F0 m pc lo (.ref (am_as z sk (1000 + i)) :: st.map (am_cv (am_as z sk))))
  rw [as_s]
  refine vk_getf hx hb (hU.2.2.1.1.1 i hi).2.2.1 hS hown hl (fun _ h => h) hd ?_
  have k2 := k p l e Rm s m args below meth c H locs cells slots mc ms n0 z sk D cy lo S h1 h2 h3 hR hS hL
  simp only [List.map_cons, am_cv, show 1006 + i = 1000 + (i + 6) from by omega, as_s] at k2
  exact k2
theorem ac_scod (q : Nat) {i : Nat} (hd : decode μ.2.1 pc = .ok (.getfield 15, 3)) (hp : pc + 3 = q) (hc : μ.1.cls = RJ0) (hi : i < 6) (k : A0 μ d q ls (.int 0 :: st) M V f Q) : A0 μ d pc ls (.ref (1000 + i) :: st) M V f Q := by
  subst hp
  intro p l e Rm s m args below meth c H locs cells slots mc ms n0 z sk D cy lo S h1 h2 h3 hR hS hL
  obtain ⟨hx, hb, hret, hml, hown, hts, hlks, hnm, hfr, hlc, hU⟩ := id S
  rw [hc] at hown
  have hl : (Cond.fieldLink RJ0 15 RJ0 "coder" "B").before args s = true := hts _ (am_gi 1020 (by decide +kernel) rfl)
  show W p l e Rm s m args below meth c H locs cells slots _ (F0 m pc lo (.ref (am_as z sk (1000 + i)) :: st.map (am_cv (am_as z sk))))
  rw [as_s]
  refine vk_getf hx hb (hU.2.2.1.1.1 i hi).2.1 hS hown hl (fun _ h => h) hd ?_
  have k2 := k p l e Rm s m args below meth c H locs cells slots mc ms n0 z sk D cy lo S h1 h2 h3 hR hS hL
  simp only [List.map_cons, am_cv] at k2
  exact k2
theorem ac_scmp (q : Nat) (hd : decode μ.2.1 pc = .ok (.getstatic 38, 3)) (hp : pc + 3 = q) (hc : μ.1.cls = RJ0) (k : A0 μ d q ls (.int 1 :: st) M V f Q) : A0 μ d pc ls st M V f Q := by
  subst hp
  intro p l e Rm s m args below meth c H locs cells slots mc ms n0 z sk D cy lo S h1 h2 h3 hR hS hL
  obtain ⟨hx, hb, hret, hml, hown, hts, hlks, hnm, hfr, hlc, hU⟩ := id S
  rw [hc] at hown
  have hl : (Cond.fieldLink RJ0 38 RJ0 "COMPACT_STRINGS" "Z").before args s = true := hts _ (am_gi 339 (by decide +kernel) rfl)
  exact va_gets hx hb hU.2.2.1.2.2.1 hS hown hl (fun _ h => h) hd (k p l e Rm s m args below meth c H locs cells slots mc ms n0 z sk D cy lo S h1 h2 h3 hR hS hL)
theorem ac_sfmt (q : Nat) (hd : decode μ.2.1 pc = .ok (.getstatic 1053, 3)) (hp : pc + 3 = q) (hc : μ.1.cls = RJ0) (k : ∀ v : Value, v.category = 1 → A0 μ d q ls (v :: st) M V f Q) : A0 μ d pc ls st M V f Q := by
  subst hp
  intro p l e Rm s m args below meth c H locs cells slots mc ms n0 z sk D cy lo S h1 h2 h3 hR hS hL
  obtain ⟨hx, hb, hret, hml, hown, hts, hlks, hnm, hfr, hlc, hU⟩ := id S
  rw [hc] at hown
  have hl : (Cond.fieldLink RJ0 1053 RJ3 "SIOOBE_FORMATTER" "Ljava/util/function/BiFunction;").before args s = true := hts _ (am_gi 355 (by decide +kernel) rfl)
  rcases hU.2.2.1.2.2.2 with hz | hz
  · exact va_gets hx hb hz hS hown hl (fun _ h => h) hd (k .null rfl p l e Rm s m args below meth c H locs cells slots mc ms n0 z sk D cy lo S h1 h2 h3 hR hS hL)
  · refine va_gets hx hb hz hS hown hl (fun _ h => h) hd ?_
    have k2 := k (.ref (1000 + 12)) rfl p l e Rm s m args below meth c H locs cells slots mc ms n0 z sk D cy lo S h1 h2 h3 hR hS hL
    simp only [List.map_cons, am_cv, as_s] at k2
    exact k2
theorem ac_slen (q : Nat) {i : Nat} {v : Int32} (hd : decode μ.2.1 pc = .ok (.arraylength, 1)) (hp : pc + 1 = q) (hi : i < 6) (hv : Int32.ofNat (am_sl.getD i 0) = v) (k : A0 μ d q ls (.int v :: st) M V f Q) : A0 μ d pc ls (.ref (1006 + i) :: st) M V f Q := by
  subst hp
  intro p l e Rm s m args below meth c H locs cells slots mc ms n0 z sk D cy lo S h1 h2 h3 hR hS hL
  obtain ⟨hx, hb, hret, hml, hown, hts, hlks, hnm, hfr, hlc, hU⟩ := id S
  show W p l e Rm s m args below meth c H locs cells slots _ (F0 m pc lo (.ref (am_as z sk (1006 + i)) :: st.map (am_cv (am_as z sk))))
  rw [show 1006 + i = 1000 + (i + 6) from by omega, as_s]
  exact va_tlen hx hb (hU.2.2.1.1.1 i hi).2.2.2 hS hv hd (k p l e Rm s m args below meth c H locs cells slots mc ms n0 z sk D cy lo S h1 h2 h3 hR hS hL)
theorem ac_sbld (q : Nat) {i j : Nat} (hd : decode μ.2.1 pc = .ok (.baload, 1)) (hp : pc + 1 = q) (hi : i < 6) (hj : j < am_sl.getD i 0) (h31 : am_sl.getD i 0 < 2 ^ 31) (k : A0 μ d q ls (.int ((am_sb.getD i []).getD j 0) :: st) M V f Q) : A0 μ d pc ls (.int (nI j) :: .ref (1006 + i) :: st) M V f Q := by
  subst hp
  intro p l e Rm s m args below meth c H locs cells slots mc ms n0 z sk D cy lo S h1 h2 h3 hR hS hL
  obtain ⟨hx, hb, hret, hml, hown, hts, hlks, hnm, hfr, hlc, hU⟩ := id S
  show W p l e Rm s m args below meth c H locs cells slots _ (F0 m pc lo (.int (nI j) :: .ref (am_as z sk (1006 + i)) :: st.map (am_cv (am_as z sk))))
  rw [show 1006 + i = 1000 + (i + 6) from by omega, as_s]
  exact va_tb hx hb (hU.2.2.1.1.1 i hi).2.2.2 hS (vp_in_nI hj h31) (by rw [nI_clamp (by omega)]; rfl) hd (k p l e Rm s m args below meth c H locs cells slots mc ms n0 z sk D cy lo S h1 h2 h3 hR hS hL)
theorem ac_i2c (q : Nat) {x v : Int32} (hd : decode μ.2.1 pc = .ok (.i2c, 1)) (hp : pc + 1 = q) (hv : (x.toUInt32 % 65536).toInt32 = v) (k : A0 μ d q ls (.int v :: st) M V f Q) : A0 μ d pc ls (.int x :: st) M V f Q := by
  subst hp
  intro p l e Rm s m args below meth c H locs cells slots mc ms n0 z sk D cy lo S h1 h2 h3 hR hS hL
  obtain ⟨hx, hb, hret, hml, hown, hts, hlks, hnm, hfr, hlc, hU⟩ := id S
  exact lv_i2c hx hb hd hv (k p l e Rm s m args below meth c H locs cells slots mc ms n0 z sk D cy lo S h1 h2 h3 hR hS hL)
theorem ac_pop (q : Nat) {v : Value} (hd : decode μ.2.1 pc = .ok (.pop, 1)) (hp : pc + 1 = q) (hv : v.category = 1) (k : A0 μ d q ls st M V f Q) : A0 μ d pc ls (v :: st) M V f Q := by
  subst hp
  intro p l e Rm s m args below meth c H locs cells slots mc ms n0 z sk D cy lo S h1 h2 h3 hR hS hL
  obtain ⟨hx, hb, hret, hml, hown, hts, hlks, hnm, hfr, hlc, hU⟩ := id S
  exact lv_pop hx hb hd (by rw [am_cv_cat]; exact hv) (k p l e Rm s m args below meth c H locs cells slots mc ms n0 z sk D cy lo S h1 h2 h3 hR hS hL)
theorem ac_callT (q : Nat) {μ' : am_M} {idx n d' i : Nat} {As rest : List Value} {Q' : a0_Po} (hd : decode μ.2.1 pc = .ok (.invokevirtual idx, 3)) (hp : pc + 3 = q) (hlk : Cond.methodLink μ.1.cls idx μ'.1 ∈ am_g) (hm : am_mT μ' n) (hi : i < 6) (hC9 : CT μ' d' (.ref (1000 + i) :: As) M V f Q') (hn : As.length = n) (hst : st = As.reverse ++ .ref (1000 + i) :: rest) (hd9 : d' + 1 ≤ d) (hct : (rest.map fun v => v.category).sum ≤ 8)
    (k : ∀ v M' V' f', Q' v M' V' f' → A0 μ d q ls (v.toList ++ rest) M' V' f' Q) : A0 μ d pc ls st M V f Q := by
  subst hp
  intro p l e Rm s m args below meth c H locs cells slots mc ms n0 z sk D cy lo S h1 h2 h3 hR hS hL
  obtain ⟨hx, hb, hret, hml, hown, hts, hlks, hnm, hfr, hlc, hU⟩ := id S
  obtain ⟨⟨hpl, hcw, hin9, hdd, hml9⟩, hC, hinst, hsel⟩ := hm
  refine am_size h3 hR hS (fun hsz => ?_)
  have hpre : ∀ U : State, U.heap = H → s.WarmedH U.vm → am_P z sk D cy (.ref (1000 + i) :: As) G0 M V (RR f) ((.ref (sk i) :: As.map (am_cv (am_as z sk))) : List Value).toArray U := fun U hUh hW => ⟨by simp only [List.map_cons, am_cv, as_s], hU.warm hW (by rw [hUh]; exact hS), by rw [hUh]; exact hsz, by rw [hUh]; exact hR⟩
  have hg9 := am_good hcw
  have hR9 : (am_rm d' 0 0).frames + 1 ≤ Rm.frames ∧ 8 + (μ'.2.2.1 + 11) + (am_rm d' 0 0).locals ≤ Rm.locals := ⟨Nat.le_trans hd9 hfr, by show 8 + (μ'.2.2.1 + 11) + 64 * d' ≤ Rm.locals; omega⟩
  have hrec := vk_recv hU.2.2.1.1 hi hS
  refine am_after (va_runV (C := RJ0) (b := sk i) (As := As.map (am_cv (am_as z sk))) (rest := rest.map (am_cv (am_as z sk))) ⟨hx, hb, hml, hown, hts⟩ (hC9 l z sk D cy) ⟨callB_of n hts hg9 rfl rfl rfl (hts _ hin9) (hts _ hlk) hdd hR9, hts _ hinst, hts _ hsel⟩ ⟨am_blind, hrec, hpre⟩ rfl (by rw [List.length_map]; exact hn) hL.1 (by rw [hst]; simp only [List.map_append, List.map_reverse, List.map_cons, am_cv, as_s]) (by show 2 * 0 + _ ≤ 8; rw [am_cat]; omega) hd ⟨by omega, by omega⟩) hS (fun v g' M' V' R' H1 locs1 hg hq hR1 hS1 => ?_)
  rw [am_otl]
  obtain ⟨q1, f', q2, q3⟩ := hq
  subst q1
  subst q2
  exact k v M' V' f' q3 p l e Rm s m args below meth c H1 locs1 (cells + 0) (slots + 0) mc ms n0 z sk D cy lo S ⟨by omega, by omega⟩ h2 ⟨h3.1, by omega⟩ hR1 hS1 hL
end ST
theorem j0_length_8abf5_T : am_mT j0_length_8abf5 0 := ⟨⟨by decide, am_gi 334 (by decide +kernel) rfl, am_gi 10 (by decide +kernel) rfl, by decide +kernel, by decide⟩, rfl, am_gi 332 (by decide +kernel) rfl, am_gi 333 (by decide +kernel) rfl⟩
theorem j0_coder_7d493_T : am_mT j0_coder_7d493 0 := ⟨⟨by decide, am_gi 338 (by decide +kernel) rfl, am_gi 10 (by decide +kernel) rfl, by decide +kernel, by decide⟩, rfl, am_gi 336 (by decide +kernel) rfl, am_gi 337 (by decide +kernel) rfl⟩
theorem j0_charAt_5068e_T : am_mT j0_charAt_5068e 1 := ⟨⟨by decide, am_gi 344 (by decide +kernel) rfl, am_gi 10 (by decide +kernel) rfl, by decide +kernel, by decide⟩, rfl, am_gi 342 (by decide +kernel) rfl, am_gi 343 (by decide +kernel) rfl⟩
theorem j0_isLatin1_aae02_T : am_mT j0_isLatin1_aae02 0 := ⟨⟨by decide, am_gi 348 (by decide +kernel) rfl, am_gi 10 (by decide +kernel) rfl, by decide +kernel, by decide⟩, rfl, am_gi 346 (by decide +kernel) rfl, am_gi 347 (by decide +kernel) rfl⟩
theorem en_iiv (x0 x1 : Int32) (v : Value) (hv : v.category = 1) (g : Nat → Nat) : am_ent 3 (([Value.int x0, Value.int x1, v] : List Value).map (am_cv g)) (([some (Value.int x0), some (Value.int x1), none] : List (Option Value)).map (fun o => o.map (am_cv g))) := by
  refine ⟨by simp, ?_, fun i w h => ?_⟩
  · cases v <;> first | (simp [lg_sl, am_cv]; done) | (exact absurd hv (by decide)) | (simp [lg_sl, am_cv, Value.category] at *)
  · match i with
    | 0 => simp [am_cv] at h; subst h; simp [am_cv, lv_args]
    | 1 => simp [am_cv] at h; subst h; simp [am_cv, lv_args, Value.category]
    | 2 => simp at h
    | i + 3 => simp at h
theorem t0_coder {M : am_I} {V : am_J} {f : Nat → Option Nat} {i : Nat} (hi : i < 6) : CT j0_coder_7d493 1 [.ref (1000 + i)] M V f (RV 0 M V f) := by
  refine CT.of j0_coder_7d493_T.1 _ (en_a_1 (1000 + i)) ?_
  refine ac_scmp 3 dJ0_coder_7d493_0 rfl rfl ?_
  refine ac_if_eq 13 6 dJ0_coder_7d493_3 (by decide) rfl (fun h => absurd h (by decide)) (fun _ => ?_)
  refine ac_aload_n 7 dJ0_coder_7d493_6 rfl rfl ?_
  refine ac_scod 10 dJ0_coder_7d493_7 rfl rfl hi ?_
  refine ac_goto 14 dJ0_coder_7d493_10 (by decide) ?_
  exact ac_iret dJ0_coder_7d493_14 ⟨_, rfl, rfl⟩ (rv_mk rfl)
theorem t0_isLatin1 {M : am_I} {V : am_J} {f : Nat → Option Nat} {i : Nat} (hi : i < 6) : CT j0_isLatin1_aae02 1 [.ref (1000 + i)] M V f (RV 1 M V f) := by
  refine CT.of j0_isLatin1_aae02_T.1 _ (en_a_1 (1000 + i)) ?_
  refine ac_scmp 3 dJ0_isLatin1_aae02_0 rfl rfl ?_
  refine ac_if_eq 17 6 dJ0_isLatin1_aae02_3 (by decide) rfl (fun h => absurd h (by decide)) (fun _ => ?_)
  refine ac_aload_n 7 dJ0_isLatin1_aae02_6 rfl rfl ?_
  refine ac_scod 10 dJ0_isLatin1_aae02_7 rfl rfl hi ?_
  refine ac_if_ne 17 13 dJ0_isLatin1_aae02_10 (by decide) rfl (fun h => absurd rfl h) (fun _ => ?_)
  refine ac_iconst 14 1 dJ0_isLatin1_aae02_13 rfl (by decide) ?_
  refine ac_goto 18 dJ0_isLatin1_aae02_14 (by decide) ?_
  exact ac_iret dJ0_isLatin1_aae02_18 ⟨_, rfl, rfl⟩ (rv_mk rfl)
theorem am_sl_all : ∀ i, i < 6 → am_sl.getD i 0 < 5 ∧ Int32.ofNat (am_sl.getD i 0) >>> ((0 : Int32) &&& 31) = nI (am_sl.getD i 0) := by decide
theorem t0_length {M : am_I} {V : am_J} {f : Nat → Option Nat} {i : Nat} (hi : i < 6) : CT j0_length_8abf5 2 [.ref (1000 + i)] M V f (RV (nI (am_sl.getD i 0)) M V f) := by
  refine CT.of j0_length_8abf5_T.1 _ (en_a_1 (1000 + i)) ?_
  refine ac_aload_n 1 dJ0_length_8abf5_0 rfl rfl ?_
  refine ac_sval 4 dJ0_length_8abf5_1 rfl rfl hi ?_
  refine ac_slen 5 dJ0_length_8abf5_4 rfl hi rfl ?_
  refine ac_aload_n 6 dJ0_length_8abf5_5 rfl rfl ?_
  refine ac_callT (μ' := j0_coder_7d493) (i := i) (As := []) 9 dJ0_length_8abf5_6 rfl (am_gi 335 (by decide +kernel) rfl) j0_coder_7d493_T hi (t0_coder hi) rfl rfl (by decide) (by simp [Value.category]) (fun v M' V' f' h => ?_)
  obtain ⟨c1, c2, c3, c4⟩ := h
  subst c1; subst c2; subst c3; subst c4
  refine ac_ishr 10 dJ0_length_8abf5_9 rfl ?_
  exact ac_iret dJ0_length_8abf5_10 ⟨_, rfl, rfl⟩ (rv_mk (am_sl_all i hi).2)
theorem t3_check {M : am_I} {V : am_J} {f : Nat → Option Nat} {a n : Nat} (h : a < n) (hn : n < 2 ^ 31) {v : Value} (hv : v.category = 1) : CT j3_checkIndex_8e157 1 [.int (nI a), .int (nI n), v] M V f (RV (nI a) M V f) := by
  refine CT.of j3_checkIndex_8e157_S.1 _ (en_iiv (nI a) (nI n) v hv) ?_
  refine ac_iload_n 1 dJ3_checkIndex_8e157_0 rfl rfl ?_
  refine ac_if_lt 9 4 dJ3_checkIndex_8e157_1 (by decide) rfl (fun h => absurd h (nI_pos (by omega))) (fun _ => ?_)
  refine ac_iload_n 5 dJ3_checkIndex_8e157_4 rfl rfl ?_
  refine ac_iload_n 6 dJ3_checkIndex_8e157_5 rfl rfl ?_
  refine ac_icmp_lt 16 9 dJ3_checkIndex_8e157_6 (by decide) rfl (fun _ => ?_) (fun h2 => absurd (nI_lt h hn) h2)
  refine ac_iload_n 17 dJ3_checkIndex_8e157_16 rfl rfl ?_
  exact ac_iret dJ3_checkIndex_8e157_17 ⟨_, rfl, rfl⟩ (rv_mk rfl)
theorem t0_check {M : am_I} {V : am_J} {f : Nat → Option Nat} {a n : Nat} (h : a < n) (hn : n < 2 ^ 31) : CT j0_checkIndex_df160 2 [.int (nI a), .int (nI n)] M V f (fun v M' V' f' => v = none ∧ M' = M ∧ V' = V ∧ f' = f) := by
  refine CT.of j0_checkIndex_df160_S.1 _ (en_ii_2 (nI a) (nI n)) ?_
  refine ac_iload_n 1 dJ0_checkIndex_df160_0 rfl rfl ?_
  refine ac_iload_n 2 dJ0_checkIndex_df160_1 rfl rfl ?_
  refine ac_sfmt 5 dJ0_checkIndex_df160_2 rfl rfl (fun v hv => ?_)
  refine ac_callS (μ' := j3_checkIndex_8e157) (As := [.int (nI a), .int (nI n), v]) (rest := []) 8 dJ0_checkIndex_df160_5 rfl (Or.inl (am_gi 357 (by decide +kernel) rfl)) j3_checkIndex_8e157_S (t3_check h hn hv) rfl rfl (by decide) (by simp) ?_
  refine ac_pop 9 dJ0_checkIndex_df160_8 rfl rfl ?_
  exact ac_vret dJ0_checkIndex_df160_9 rfl ⟨rfl, rfl, rfl, rfl⟩
theorem am_sb_all : ∀ i, i < 6 → ∀ j, j < 5 → ((((am_sb.getD i []).getD j 0 &&& 255).toUInt32 % 65536).toInt32 = (am_sb.getD i []).getD j 0) ∧ narrow .char (.int ((am_sb.getD i []).getD j 0)) = .int ((am_sb.getD i []).getD j 0) := by decide
theorem t1_charAt {M : am_I} {V : am_J} {f : Nat → Option Nat} {i j : Nat} (hi : i < 6) (hj : j < am_sl.getD i 0) : CT j1_charAt_3b067 3 [.ref (1006 + i), .int (nI j)] M V f (RV ((am_sb.getD i []).getD j 0) M V f) := by
  have h5 := (am_sl_all i hi).1
  refine CT.of j1_charAt_3b067_S.1 _ (en_ai_2 (1006 + i) (nI j)) ?_
  refine ac_iload_n 1 dJ1_charAt_3b067_0 rfl rfl ?_
  refine ac_aload_n 2 dJ1_charAt_3b067_1 rfl rfl ?_
  refine ac_slen (v := nI (am_sl.getD i 0)) 3 dJ1_charAt_3b067_2 rfl hi rfl ?_
  refine ac_callSg (μ' := j0_checkIndex_df160) (As := [.int (nI j), .int (nI (am_sl.getD i 0))]) (rest := []) 6 dJ1_charAt_3b067_3 rfl (Or.inl (am_gi 352 (by decide +kernel) rfl)) j0_checkIndex_df160_S (t0_check hj (by omega)) rfl rfl (by decide) (by simp) (fun v M' V' f' h => ?_)
  obtain ⟨c1, c2, c3, c4⟩ := h
  subst c1; subst c2; subst c3; subst c4
  refine ac_aload_n 7 dJ1_charAt_3b067_6 rfl rfl ?_
  refine ac_iload_n 8 dJ1_charAt_3b067_7 rfl rfl ?_
  refine ac_sbld 9 dJ1_charAt_3b067_8 rfl hi hj (by omega) ?_
  refine ac_sipush 12 255 dJ1_charAt_3b067_9 rfl (by decide) ?_
  refine ac_iand 13 dJ1_charAt_3b067_12 rfl ?_
  refine ac_i2c 14 dJ1_charAt_3b067_13 rfl (am_sb_all i hi j (by omega)).1 ?_
  exact ac_iret dJ1_charAt_3b067_14 ⟨_, rfl, (am_sb_all i hi j (by omega)).2⟩ (rv_mk rfl)
theorem t0_charAt {M : am_I} {V : am_J} {f : Nat → Option Nat} {i j : Nat} (hi : i < 6) (hj : j < am_sl.getD i 0) : CT j0_charAt_5068e 4 [.ref (1000 + i), .int (nI j)] M V f (RV ((am_sb.getD i []).getD j 0) M V f) := by
  have h5 := (am_sl_all i hi).1
  refine CT.of j0_charAt_5068e_T.1 _ (en_ai_2 (1000 + i) (nI j)) ?_
  refine ac_aload_n 1 dJ0_charAt_5068e_0 rfl rfl ?_
  refine ac_callT (μ' := j0_isLatin1_aae02) (i := i) (As := []) 4 dJ0_charAt_5068e_1 rfl (am_gi 345 (by decide +kernel) rfl) j0_isLatin1_aae02_T hi (t0_isLatin1 hi) rfl rfl (by decide) (by simp [Value.category]) (fun v M' V' f' h => ?_)
  obtain ⟨c1, c2, c3, c4⟩ := h
  subst c1; subst c2; subst c3; subst c4
  refine ac_if_eq 16 7 dJ0_charAt_5068e_4 (by decide) rfl (fun h => absurd h (by decide)) (fun _ => ?_)
  refine ac_aload_n 8 dJ0_charAt_5068e_7 rfl rfl ?_
  refine ac_sval 11 dJ0_charAt_5068e_8 rfl rfl hi ?_
  refine ac_iload_n 12 dJ0_charAt_5068e_11 rfl rfl ?_
  refine ac_callS (μ' := j1_charAt_3b067) (As := [.ref (1006 + i), .int (nI j)]) (rest := []) 15 dJ0_charAt_5068e_12 rfl (Or.inl (am_gi 349 (by decide +kernel) rfl)) j1_charAt_3b067_S (t1_charAt hi hj) rfl rfl (by decide) (by simp) ?_
  exact ac_iret dJ0_charAt_5068e_15 ⟨_, rfl, (am_sb_all i hi j (by omega)).2⟩ (rv_mk rfl)
