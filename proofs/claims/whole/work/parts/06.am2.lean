/-! Fields, arrays, what is made, calls, returns of the abstract machine. -/
section AS
variable {μ : am_M} {d b1 b2 : Nat} {g : am_G} {pc : Nat} {ls : List (Option Value)} {st : List Value} {M : am_I} {V : am_J} {R : am_O} {Q : am_Po}

theorem aw_getI (q : Nat) {idx c0 j r : Nat} (hd : decode μ.2.1 pc = .ok (.getfield idx, 3)) (hp : pc + 3 = q) (hf : am_F μ.1.cls idx c0 j false) (ho : am_ob g r c0)  (k : AW μ d b1 b2 g q ls (.int (M r j) :: st) M V R Q) : AW μ d b1 b2 g pc ls (.ref r :: st) M V R Q := by
  subst hp
  intro p l e Rm s m args below meth c H locs cells slots mc ms n0 z sk D cy lo S h1 h2 h3 hR hS hL
  obtain ⟨hx, hb, hret, hml, hown, hts, hlk, hnm, hfr, hlc, hU⟩ := id S
  obtain ⟨hc9, hkN, hrf, hl⟩ := hf
  have he := am_get (z := z) (f := am_as z sk) (cy := cy) (M := M) (V := V) (R := R) ho.1
  rw [am_ce_ob ho.2] at he
  have hv : (am_fs (am_as z sk) c0 (M r) (R r))[j]? = some (.int (M r j)) := by rw [am_fs_get hkN, if_neg (by rw [hrf]; decide)]
  have e1 : am_as z sk r = z + r := am_as_lt (Nat.lt_of_lt_of_le ho.1 hR.1)
  show W p l e Rm s m args below meth c H locs cells slots _ (F0 m pc lo (.ref (am_as z sk r) :: st.map (am_cv (am_as z sk))))
  rw [e1]
  rcases hl with hl | ⟨host, hl⟩
  · exact va_get hx hb hts (am_in c0 hc9) hown hU.1 hR.2 r he (am_cl c0 hc9) j hkN (hts _ hl) (fun _ h => h) hv hd (k p l e Rm s m args below meth c H locs cells slots mc ms n0 z sk D cy lo S h1 h2 h3 hR hS hL)
  · exact va_getN hx hb hts (am_in c0 hc9) hown hU.1 hR.2 r he (am_cl c0 hc9) j hkN (va_Nw.use (am_NW_on _ hl) (hU.2.1 _ hl)) (fun _ h => h) hv hd (k p l e Rm s m args below meth c H locs cells slots mc ms n0 z sk D cy lo S h1 h2 h3 hR hS hL)
theorem aw_getO (q : Nat) {idx c0 j r : Nat} (hd : decode μ.2.1 pc = .ok (.getfield idx, 3)) (hp : pc + 3 = q) (hf : am_F μ.1.cls idx c0 j true) (ho : am_ob g r c0) {i : Nat} (hi : R r j = some i) (k : AW μ d b1 b2 g q ls (.ref i :: st) M V R Q) : AW μ d b1 b2 g pc ls (.ref r :: st) M V R Q := by
  subst hp
  intro p l e Rm s m args below meth c H locs cells slots mc ms n0 z sk D cy lo S h1 h2 h3 hR hS hL
  obtain ⟨hx, hb, hret, hml, hown, hts, hlk, hnm, hfr, hlc, hU⟩ := id S
  obtain ⟨hc9, hkN, hrf, hl⟩ := hf
  have he := am_get (z := z) (f := am_as z sk) (cy := cy) (M := M) (V := V) (R := R) ho.1
  rw [am_ce_ob ho.2] at he
  have hv : (am_fs (am_as z sk) c0 (M r) (R r))[j]? = some (.ref (am_as z sk i)) := by rw [am_fs_get hkN, if_pos hrf, hi]; rfl
  have e1 : am_as z sk r = z + r := am_as_lt (Nat.lt_of_lt_of_le ho.1 hR.1)
  show W p l e Rm s m args below meth c H locs cells slots _ (F0 m pc lo (.ref (am_as z sk r) :: st.map (am_cv (am_as z sk))))
  rw [e1]
  rcases hl with hl | ⟨host, hl⟩
  · exact va_get hx hb hts (am_in c0 hc9) hown hU.1 hR.2 r he (am_cl c0 hc9) j hkN (hts _ hl) (fun _ h => h) hv hd (k p l e Rm s m args below meth c H locs cells slots mc ms n0 z sk D cy lo S h1 h2 h3 hR hS hL)
  · exact va_getN hx hb hts (am_in c0 hc9) hown hU.1 hR.2 r he (am_cl c0 hc9) j hkN (va_Nw.use (am_NW_on _ hl) (hU.2.1 _ hl)) (fun _ h => h) hv hd (k p l e Rm s m args below meth c H locs cells slots mc ms n0 z sk D cy lo S h1 h2 h3 hR hS hL)
theorem aw_putI (q : Nat) {idx c0 j r : Nat} {x : Int32} (hd : decode μ.2.1 pc = .ok (.putfield idx, 3)) (hp : pc + 3 = q) (hf : am_F μ.1.cls idx c0 j false) (hfin : (am_T c0 j).2.2.2 = false) (hft : fits (am_ty c0 j) (.int x) = true) (ho : am_ob g r c0) (k : AW μ d b1 b2 g q ls st (am_up M r j x) V R Q) : AW μ d b1 b2 g pc ls (.int x :: .ref r :: st) M V R Q := by
  subst hp
  intro p l e Rm s m args below meth c H locs cells slots mc ms n0 z sk D cy lo S h1 h2 h3 hR hS hL
  obtain ⟨hx, hb, hret, hml, hown, hts, hlk, hnm, hfr, hlc, hU⟩ := id S
  obtain ⟨hc9, hkN, hrf, hl⟩ := hf
  have he := am_get (z := z) (f := am_as z sk) (cy := cy) (M := M) (V := V) (R := R) ho.1
  rw [am_ce_ob ho.2] at he
  have e1 : am_as z sk r = z + r := am_as_lt (Nat.lt_of_lt_of_le ho.1 hR.1)
  have hw : (am_ws z (am_as z sk) cy g M V R).set r (z + r, .inr (c0, (am_fs (am_as z sk) c0 (M r) (R r)).set j (.int x))) = am_ws z (am_as z sk) cy g (am_up M r j x) V R := by
    refine am_set ho.1 ?_ (fun i hi => am_ceM (am_up_ne hi))
    rw [am_ce_ob ho.2, ← am_fs_set (I := M r) (I' := am_up M r j x r) (O := R r) (O' := R r) (v := .int x) hkN (by rw [if_neg (by rw [hrf]; decide)]; simp [am_up]) (fun i hi => by simp [am_up, hi]) (fun i _ => rfl)]
  show W p l e Rm s m args below meth c H locs cells slots _ (F0 m pc lo (.int x :: .ref (am_as z sk r) :: st.map (am_cv (am_as z sk))))
  rw [e1]
  rcases hl with hl | ⟨host, hl⟩
  · refine va_put hx hb hts (am_in c0 hc9) (am_ty c0) (am_tyok c0 hc9) (am_nm c0 hc9) hown hU.1 hR.2 am_D hS r he (am_cl c0 hc9) j hkN (hts _ hl) (fun _ h => h) hfin (am_tyok c0 hc9 j hkN) (narrow_of_fits hft) hft (by rw [am_fs_len]; exact hkN) hd (fun H1 locs1 hP1 _ hS1 => ?_)
    rw [hw] at hP1
    exact (k p l e Rm s m args below meth c H1 locs1 cells slots mc ms n0 z sk D cy lo S h1 h2 h3 ⟨hR.1, hP1⟩ hS1 hL)
  · refine va_putN hx hb hts (am_in c0 hc9) (am_ty c0) (am_tyok c0 hc9) (am_nm c0 hc9) hown hU.1 hR.2 am_D hS r he (am_cl c0 hc9) j hkN (va_Nw.use (am_NW_on _ hl) (hU.2.1 _ hl)) (fun _ h => h) hfin (am_tyok c0 hc9 j hkN) (narrow_of_fits hft) hft (by rw [am_fs_len]; exact hkN) hd (fun H1 locs1 hP1 _ hS1 => ?_)
    rw [hw] at hP1
    exact (k p l e Rm s m args below meth c H1 locs1 cells slots mc ms n0 z sk D cy lo S h1 h2 h3 ⟨hR.1, hP1⟩ hS1 hL)
theorem aw_putF (q : Nat) {idx c0 j r i : Nat} (hd : decode μ.2.1 pc = .ok (.putfield idx, 3)) (hp : pc + 3 = q) (hf : am_F μ.1.cls idx c0 j true) (hl : Cond.fieldLink μ.1.cls idx (am_T c0 j).1 (am_T c0 j).2.1 (am_T c0 j).2.2.1 ∈ am_g) (hfin : (am_T c0 j).2.2.2 = true) (hi9 : μ.1.name = "<init>") (hdc : (am_T c0 j).1 = μ.1.cls) (ho : am_ob g r c0) (k : AW μ d b1 b2 g q ls st M V (am_up R r j (some i)) Q) : AW μ d b1 b2 g pc ls (.ref i :: .ref r :: st) M V R Q := by
  subst hp
  intro p l e Rm s m args below meth c H locs cells slots mc ms n0 z sk D cy lo S h1 h2 h3 hR hS hL
  obtain ⟨hx, hb, hret, hml, hown, hts, hlk, hnm, hfr, hlc, hU⟩ := id S
  obtain ⟨hc9, hkN, hrf, -⟩ := hf
  have he := am_get (z := z) (f := am_as z sk) (cy := cy) (M := M) (V := V) (R := R) ho.1
  rw [am_ce_ob ho.2] at he
  have e1 : am_as z sk r = z + r := am_as_lt (Nat.lt_of_lt_of_le ho.1 hR.1)
  have hft : fits (am_ty c0 j) (.ref (am_as z sk i)) = true := by
    unfold am_rf at hrf
    cases hty : am_ty c0 j <;> rw [hty] at hrf <;> first | rfl | cases hrf
  have hw : (am_ws z (am_as z sk) cy g M V R).set r (z + r, .inr (c0, (am_fs (am_as z sk) c0 (M r) (R r)).set j (.ref (am_as z sk i)))) = am_ws z (am_as z sk) cy g M V (am_up R r j (some i)) := by
    refine am_set ho.1 ?_ (fun i hi => am_ceR (am_up_ne hi))
    rw [am_ce_ob ho.2, ← am_fs_set (I := M r) (I' := M r) (O := R r) (O' := am_up R r j (some i) r) (v := .ref (am_as z sk i)) hkN (by rw [if_pos hrf]; simp [am_up, va_rf]) (fun i _ => rfl) (fun i hi => by simp [am_up, hi])]
  show W p l e Rm s m args below meth c H locs cells slots _ (F0 m pc lo (.ref (am_as z sk i) :: .ref (am_as z sk r) :: st.map (am_cv (am_as z sk))))
  rw [e1]
  refine va_putF hx hb hts (am_in c0 hc9) (am_ty c0) (am_tyok c0 hc9) (am_nm c0 hc9) hown hU.1 hR.2 am_D hS r he (am_cl c0 hc9) j hkN (hts _ hl) (fun _ h => h) hfin (hnm.trans hi9) hdc (am_tyok c0 hc9 j hkN) (narrow_of_fits hft) hft (by rw [am_fs_len]; exact hkN) hd (fun H1 locs1 hP1 _ hS1 => ?_)
  rw [hw] at hP1
  exact (k p l e Rm s m args below meth c H1 locs1 cells slots mc ms n0 z sk D cy lo S h1 h2 h3 ⟨hR.1, hP1⟩ hS1 hL)
theorem aw_iald (q : Nat) {r n : Nat} {i : Int32} (hd : decode μ.2.1 pc = .ok (.iaload, 1)) (hp : pc + 1 = q) (ha : am_ar g r 0 n) (hi : vp_in i n) (k : AW μ d b1 b2 g q ls (.int (M r i.toNatClampNeg) :: st) M V R Q) : AW μ d b1 b2 g pc ls (.int i :: .ref r :: st) M V R Q := by
  subst hp
  intro p l e Rm s m args below meth c H locs cells slots mc ms n0 z sk D cy lo S h1 h2 h3 hR hS hL
  obtain ⟨hx, hb, hret, hml, hown, hts, hlk, hnm, hfr, hlc, hU⟩ := id S
  have he := am_get (z := z) (f := am_as z sk) (cy := cy) (M := M) (V := V) (R := R) ha.1
  rw [am_ce_0 ha.2.1, ha.2.2] at he
  have e1 : am_as z sk r = z + r := am_as_lt (Nat.lt_of_lt_of_le ha.1 hR.1)
  show W p l e Rm s m args below meth c H locs cells slots _ (F0 m pc lo (.int i :: .ref (am_as z sk r) :: st.map (am_cv (am_as z sk))))
  rw [e1]
  exact va_iald hx hb hU.1 hR.2 r 0 he rfl hi hd (k p l e Rm s m args below meth c H locs cells slots mc ms n0 z sk D cy lo S h1 h2 h3 hR hS hL)
theorem aw_zald (q : Nat) {r n : Nat} {i : Int32} (hd : decode μ.2.1 pc = .ok (.baload, 1)) (hp : pc + 1 = q) (ha : am_ar g r 2 n) (hi : vp_in i n) (k : AW μ d b1 b2 g q ls (.int (M r i.toNatClampNeg) :: st) M V R Q) : AW μ d b1 b2 g pc ls (.int i :: .ref r :: st) M V R Q := by
  subst hp
  intro p l e Rm s m args below meth c H locs cells slots mc ms n0 z sk D cy lo S h1 h2 h3 hR hS hL
  obtain ⟨hx, hb, hret, hml, hown, hts, hlk, hnm, hfr, hlc, hU⟩ := id S
  have he := am_get (z := z) (f := am_as z sk) (cy := cy) (M := M) (V := V) (R := R) ha.1
  rw [am_ce_2 ha.2.1, ha.2.2] at he
  have e1 : am_as z sk r = z + r := am_as_lt (Nat.lt_of_lt_of_le ha.1 hR.1)
  show W p l e Rm s m args below meth c H locs cells slots _ (F0 m pc lo (.int i :: .ref (am_as z sk r) :: st.map (am_cv (am_as z sk))))
  rw [e1]
  exact va_zald hx hb hU.1 hR.2 r 2 he rfl hi hd (k p l e Rm s m args below meth c H locs cells slots mc ms n0 z sk D cy lo S h1 h2 h3 hR hS hL)
theorem aw_lald (q : Nat) {r n : Nat} {i : Int32} (hd : decode μ.2.1 pc = .ok (.laload, 1)) (hp : pc + 1 = q) (ha : am_ar g r 1 n) (hi : vp_in i n) (k : AW μ d b1 b2 g q ls (.long (V r i.toNatClampNeg) :: st) M V R Q) : AW μ d b1 b2 g pc ls (.int i :: .ref r :: st) M V R Q := by
  subst hp
  intro p l e Rm s m args below meth c H locs cells slots mc ms n0 z sk D cy lo S h1 h2 h3 hR hS hL
  obtain ⟨hx, hb, hret, hml, hown, hts, hlk, hnm, hfr, hlc, hU⟩ := id S
  have he := am_get (z := z) (f := am_as z sk) (cy := cy) (M := M) (V := V) (R := R) ha.1
  rw [am_ce_1 ha.2.1, ha.2.2] at he
  have e1 : am_as z sk r = z + r := am_as_lt (Nat.lt_of_lt_of_le ha.1 hR.1)
  show W p l e Rm s m args below meth c H locs cells slots _ (F0 m pc lo (.int i :: .ref (am_as z sk r) :: st.map (am_cv (am_as z sk))))
  rw [e1]
  exact va_lald hx hb hU.1 hR.2 r 1 he rfl hi hd (k p l e Rm s m args below meth c H locs cells slots mc ms n0 z sk D cy lo S h1 h2 h3 hR hS hL)
theorem aw_aald (q : Nat) {r n a : Nat} {i : Int32} (hd : decode μ.2.1 pc = .ok (.aaload, 1)) (hp : pc + 1 = q) (ha : am_ar g r 3 n) (hi : vp_in i n) (hv : R r i.toNatClampNeg = some a) (k : AW μ d b1 b2 g q ls (.ref a :: st) M V R Q) : AW μ d b1 b2 g pc ls (.int i :: .ref r :: st) M V R Q := by
  subst hp
  intro p l e Rm s m args below meth c H locs cells slots mc ms n0 z sk D cy lo S h1 h2 h3 hR hS hL
  obtain ⟨hx, hb, hret, hml, hown, hts, hlk, hnm, hfr, hlc, hU⟩ := id S
  have he := am_get (z := z) (f := am_as z sk) (cy := cy) (M := M) (V := V) (R := R) ha.1
  rw [am_ce_3 ha.2.1, ha.2.2] at he
  have e1 : am_as z sk r = z + r := am_as_lt (Nat.lt_of_lt_of_le ha.1 hR.1)
  have hk := (k p l e Rm s m args below meth c H locs cells slots mc ms n0 z sk D cy lo S h1 h2 h3 hR hS hL)
  show W p l e Rm s m args below meth c H locs cells slots _ (F0 m pc lo (.int i :: .ref (am_as z sk r) :: st.map (am_cv (am_as z sk))))
  rw [e1]
  refine va_aldq hx hb hU.1 hR.2 r 3 he rfl hi hd ?_
  rw [hv]
  exact hk
theorem aw_alen (q : Nat) {r t n : Nat} {v : Int32} (hd : decode μ.2.1 pc = .ok (.arraylength, 1)) (hp : pc + 1 = q) (ha : am_ar g r t n) (ht : t = 0 ∨ t = 2) (hv : Int32.ofNat n = v) (k : AW μ d b1 b2 g q ls (.int v :: st) M V R Q) : AW μ d b1 b2 g pc ls (.ref r :: st) M V R Q := by
  subst hp
  intro p l e Rm s m args below meth c H locs cells slots mc ms n0 z sk D cy lo S h1 h2 h3 hR hS hL
  obtain ⟨hx, hb, hret, hml, hown, hts, hlk, hnm, hfr, hlc, hU⟩ := id S
  have he := am_get (z := z) (f := am_as z sk) (cy := cy) (M := M) (V := V) (R := R) ha.1
  have e1 : am_as z sk r = z + r := am_as_lt (Nat.lt_of_lt_of_le ha.1 hR.1)
  show W p l e Rm s m args below meth c H locs cells slots _ (F0 m pc lo (.ref (am_as z sk r) :: st.map (am_cv (am_as z sk))))
  rw [e1]
  rcases ht with rfl | rfl
  · rw [am_ce_0 ha.2.1, ha.2.2] at he
    exact va_alen hx hb hU.1 hR.2 r 0 he rfl hv hd (k p l e Rm s m args below meth c H locs cells slots mc ms n0 z sk D cy lo S h1 h2 h3 hR hS hL)
  · rw [am_ce_2 ha.2.1, ha.2.2] at he
    exact va_alen hx hb hU.1 hR.2 r 2 he rfl hv hd (k p l e Rm s m args below meth c H locs cells slots mc ms n0 z sk D cy lo S h1 h2 h3 hR hS hL)
theorem aw_iast (q : Nat) {r n : Nat} {i : Int32} {x : Int32} (hd : decode μ.2.1 pc = .ok (.iastore, 1)) (hp : pc + 1 = q) (ha : am_ar g r 0 n) (hi : vp_in i n) (k : AW μ d b1 b2 g q ls st (am_up M r i.toNatClampNeg x) V R Q) : AW μ d b1 b2 g pc ls ((.int x) :: .int i :: .ref r :: st) M V R Q := by
  subst hp
  intro p l e Rm s m args below meth c H locs cells slots mc ms n0 z sk D cy lo S h1 h2 h3 hR hS hL
  obtain ⟨hx, hb, hret, hml, hown, hts, hlk, hnm, hfr, hlc, hU⟩ := id S
  have he := am_get (z := z) (f := am_as z sk) (cy := cy) (M := M) (V := V) (R := R) ha.1
  rw [am_ce_0 ha.2.1, ha.2.2] at he
  have e1 : am_as z sk r = z + r := am_as_lt (Nat.lt_of_lt_of_le ha.1 hR.1)
  have hw : (am_ws z (am_as z sk) cy g M V R).set r (z + r, .inl (cy 0, n, .inl (upd (M r) i.toNatClampNeg x))) = am_ws z (am_as z sk) cy g (am_up M r i.toNatClampNeg x) V R := by
    refine am_set ha.1 ?_ (fun i hi => am_ceM (am_up_ne hi))
    rw [am_ce_0 ha.2.1, ha.2.2, am_up_self]
    rfl
  show W p l e Rm s m args below meth c H locs cells slots _ (F0 m pc lo ((.int x) :: .int i :: .ref (am_as z sk r) :: st.map (am_cv (am_as z sk))))
  rw [e1]
  refine va_iast hx hb hU.1 hR.2 am_D hS r 0 he rfl hi hd (fun H1 locs1 hP1 _ hS1 => ?_)
  rw [hw] at hP1
  exact (k p l e Rm s m args below meth c H1 locs1 cells slots mc ms n0 z sk D cy lo S h1 h2 h3 ⟨hR.1, hP1⟩ hS1 hL)
theorem aw_zast (q : Nat) {r n : Nat} {i : Int32} {x : Int32} (hx9 : vp_nar .boolean x = x) (hd : decode μ.2.1 pc = .ok (.bastore, 1)) (hp : pc + 1 = q) (ha : am_ar g r 2 n) (hi : vp_in i n) (k : AW μ d b1 b2 g q ls st (am_up M r i.toNatClampNeg x) V R Q) : AW μ d b1 b2 g pc ls ((.int x) :: .int i :: .ref r :: st) M V R Q := by
  subst hp
  intro p l e Rm s m args below meth c H locs cells slots mc ms n0 z sk D cy lo S h1 h2 h3 hR hS hL
  obtain ⟨hx, hb, hret, hml, hown, hts, hlk, hnm, hfr, hlc, hU⟩ := id S
  have he := am_get (z := z) (f := am_as z sk) (cy := cy) (M := M) (V := V) (R := R) ha.1
  rw [am_ce_2 ha.2.1, ha.2.2] at he
  have e1 : am_as z sk r = z + r := am_as_lt (Nat.lt_of_lt_of_le ha.1 hR.1)
  have hw : (am_ws z (am_as z sk) cy g M V R).set r (z + r, .inl (cy 2, n, .inl (upd (M r) i.toNatClampNeg x))) = am_ws z (am_as z sk) cy g (am_up M r i.toNatClampNeg x) V R := by
    refine am_set ha.1 ?_ (fun i hi => am_ceM (am_up_ne hi))
    rw [am_ce_2 ha.2.1, ha.2.2, am_up_self]
    rfl
  show W p l e Rm s m args below meth c H locs cells slots _ (F0 m pc lo ((.int x) :: .int i :: .ref (am_as z sk r) :: st.map (am_cv (am_as z sk))))
  rw [e1]
  refine va_zast hx hb hU.1 hR.2 am_D hS r 2 he rfl hi hd (fun H1 locs1 hP1 _ hS1 => ?_)
  rw [hx9] at hP1
  rw [hw] at hP1
  exact (k p l e Rm s m args below meth c H1 locs1 cells slots mc ms n0 z sk D cy lo S h1 h2 h3 ⟨hR.1, hP1⟩ hS1 hL)
theorem aw_last (q : Nat) {r n : Nat} {i : Int32} {x : Int64} (hd : decode μ.2.1 pc = .ok (.lastore, 1)) (hp : pc + 1 = q) (ha : am_ar g r 1 n) (hi : vp_in i n) (k : AW μ d b1 b2 g q ls st M (am_up V r i.toNatClampNeg x) R Q) : AW μ d b1 b2 g pc ls ((.long x) :: .int i :: .ref r :: st) M V R Q := by
  subst hp
  intro p l e Rm s m args below meth c H locs cells slots mc ms n0 z sk D cy lo S h1 h2 h3 hR hS hL
  obtain ⟨hx, hb, hret, hml, hown, hts, hlk, hnm, hfr, hlc, hU⟩ := id S
  have he := am_get (z := z) (f := am_as z sk) (cy := cy) (M := M) (V := V) (R := R) ha.1
  rw [am_ce_1 ha.2.1, ha.2.2] at he
  have e1 : am_as z sk r = z + r := am_as_lt (Nat.lt_of_lt_of_le ha.1 hR.1)
  have hw : (am_ws z (am_as z sk) cy g M V R).set r (z + r, .inl (cy 1, n, .inr (.inl (vp_updL (V r) i.toNatClampNeg x)))) = am_ws z (am_as z sk) cy g M (am_up V r i.toNatClampNeg x) R := by
    refine am_set ha.1 ?_ (fun i hi => am_ceV (am_up_ne hi))
    rw [am_ce_1 ha.2.1, ha.2.2, am_up_self]
    rfl
  show W p l e Rm s m args below meth c H locs cells slots _ (F0 m pc lo ((.long x) :: .int i :: .ref (am_as z sk r) :: st.map (am_cv (am_as z sk))))
  rw [e1]
  refine va_last hx hb hU.1 hR.2 am_D hS r 1 he rfl hi hd (fun H1 locs1 hP1 _ hS1 => ?_)
  rw [hw] at hP1
  exact (k p l e Rm s m args below meth c H1 locs1 cells slots mc ms n0 z sk D cy lo S h1 h2 h3 ⟨hR.1, hP1⟩ hS1 hL)
theorem aw_aast (q : Nat) {r n a : Nat} {i : Int32} (hd : decode μ.2.1 pc = .ok (.aastore, 1)) (hp : pc + 1 = q) (ha : am_ar g r 3 n) (hi : vp_in i n) (ho : am_ob g a 6) (k : AW μ d b1 b2 g q ls st M V (am_up R r i.toNatClampNeg (some a)) Q) : AW μ d b1 b2 g pc ls (.ref a :: .int i :: .ref r :: st) M V R Q := by
  subst hp
  intro p l e Rm s m args below meth c H locs cells slots mc ms n0 z sk D cy lo S h1 h2 h3 hR hS hL
  obtain ⟨hx, hb, hret, hml, hown, hts, hlk, hnm, hfr, hlc, hU⟩ := id S
  have he := am_get (z := z) (f := am_as z sk) (cy := cy) (M := M) (V := V) (R := R) ha.1
  rw [am_ce_3 ha.2.1, ha.2.2] at he
  have hv := am_get (z := z) (f := am_as z sk) (cy := cy) (M := M) (V := V) (R := R) ho.1
  rw [am_ce_ob ho.2] at hv
  have e1 : am_as z sk r = z + r := am_as_lt (Nat.lt_of_lt_of_le ha.1 hR.1)
  have e2 : am_as z sk a = z + a := am_as_lt (Nat.lt_of_lt_of_le ho.1 hR.1)
  have hw : (am_ws z (am_as z sk) cy g M V R).set r (z + r, .inl (cy 3, n, .inr (.inr (.inr (.inr (va_up (fun k => (R r k).map (am_as z sk)) i.toNatClampNeg (some (z + a)))))))) = am_ws z (am_as z sk) cy g M V (am_up R r i.toNatClampNeg (some a)) := by
    refine am_set ha.1 ?_ (fun i hi => am_ceR (am_up_ne hi))
    rw [am_ce_3 ha.2.1, ha.2.2, am_up_self]
    refine congrArg (fun F => Sum.inl (cy 3, n, Sum.inr (Sum.inr (Sum.inr (Sum.inr F))))) (funext fun q => ?_)
    by_cases hq : q = i.toNatClampNeg
    · simp [va_up, hq, e2]
    · simp [va_up, hq]
  show W p l e Rm s m args below meth c H locs cells slots _ (F0 m pc lo (.ref (am_as z sk a) :: .int i :: .ref (am_as z sk r) :: st.map (am_cv (am_as z sk))))
  rw [e1, e2]
  refine va_astq hx hb hU.1 hR.2 am_D hS r 3 a 6 he rfl hv rfl hi hd (fun H1 locs1 hP1 _ hS1 => ?_)
  rw [hw] at hP1
  exact (k p l e Rm s m args below meth c H1 locs1 cells slots mc ms n0 z sk D cy lo S h1 h2 h3 ⟨hR.1, hP1⟩ hS1 hL)
theorem aw_copy (q : Nat) {idx r0 r1 n0 n1 : Nat} {sp dp n : Int32} (hd : decode μ.2.1 pc = .ok (.invokestatic idx, 3)) (hp : pc + 3 = q) (hlk : Cond.methodLink μ.1.cls idx arraycopyName ∈ am_g) (ha0 : am_ar g r0 0 n0) (ha1 : am_ar g r1 0 n1) (g1 : ¬ sp < 0) (g2 : ¬ dp < 0) (g3 : ¬ n < 0) (g4 : sp.toNatClampNeg + n.toNatClampNeg ≤ n0) (g5 : dp.toNatClampNeg + n.toNatClampNeg ≤ n1) (hd1 : 1 ≤ d) (hst : (st.map fun v => v.category).sum ≤ 8) (k : AW μ d b1 b2 g q ls st (am_row M r1 (va_cpy (M r0) (M r1) sp.toNatClampNeg dp.toNatClampNeg n.toNatClampNeg)) V R Q) : AW μ d b1 b2 g pc ls (.int n :: .int dp :: .ref r1 :: .int sp :: .ref r0 :: st) M V R Q := by
  subst hp
  intro p l e Rm s m args below meth c H locs cells slots mc ms nn z sk D cy lo S h1 h2 h3 hR hS hL
  obtain ⟨hx, hb, hret, hml, hown, hts, -, hnm, hfr, hlc, hU⟩ := id S
  have he0 := am_get (z := z) (f := am_as z sk) (cy := cy) (M := M) (V := V) (R := R) ha0.1
  rw [am_ce_0 ha0.2.1, ha0.2.2] at he0
  have he1 := am_get (z := z) (f := am_as z sk) (cy := cy) (M := M) (V := V) (R := R) ha1.1
  rw [am_ce_0 ha1.2.1, ha1.2.2] at he1
  have e0 : am_as z sk r0 = z + r0 := am_as_lt (Nat.lt_of_lt_of_le ha0.1 hR.1)
  have e1 : am_as z sk r1 = z + r1 := am_as_lt (Nat.lt_of_lt_of_le ha1.1 hR.1)
  have hw : (am_ws z (am_as z sk) cy g M V R).set r1 (z + r1, .inl (cy 0, n1, .inl (va_cpy (M r0) (M r1) sp.toNatClampNeg dp.toNatClampNeg n.toNatClampNeg))) = am_ws z (am_as z sk) cy g (am_row M r1 (va_cpy (M r0) (M r1) sp.toNatClampNeg dp.toNatClampNeg n.toNatClampNeg)) V R := by
    refine am_set ha1.1 ?_ (fun i hi => am_ceM (by simp [am_row, hi]))
    rw [am_ce_0 ha1.2.1, ha1.2.2]
    simp [am_row]
  have hcs : ((st.map (am_cv (am_as z sk))).map fun v => v.category).sum = (st.map fun v => v.category).sum := by
    rw [List.map_map]
    congr 1
    exact List.map_congr_left (fun v _ => am_cv_cat _ v)
  show W p l e Rm s m args below meth c H locs cells slots _ (F0 m pc lo (.int n :: .int dp :: .ref (am_as z sk r1) :: .int sp :: .ref (am_as z sk r0) :: st.map (am_cv (am_as z sk))))
  rw [e0, e1]
  refine va_copyi hx hb (hml.trans hL.1.symm) hown (hts _ hlk) (hts _ jm_copy.1) (hts _ jm_copy.2.1) (hts _ jm_copy.2.2) hU.1 hR.2 am_D hS r0 r1 0 0 he0 he1 rfl rfl rfl g1 g2 g3 g4 g5 (fun _ _ => rfl) (Nat.le_trans hd1 hfr) (by rw [hcs]; have e9 : nativeFrameWords "java/lang/System" "arraycopy" 5 = 7 := (by decide); rw [e9]; omega) hd (fun H1 locs1 hP1 _ hS1 => ?_)
  rw [hw] at hP1
  exact k p l e Rm s m args below meth c H1 locs1 cells slots mc ms nn z sk D cy lo S h1 h2 h3 ⟨hR.1, hP1⟩ hS1 hL
theorem aw_abs (q : Nat) {idx : Nat} {x : Int32} (hd : decode μ.2.1 pc = .ok (.invokestatic idx, 3)) (hp : pc + 3 = q) (hlk : Cond.methodLink μ.1.cls idx Lib.Math.abs.name ∈ am_g) (hd1 : 1 ≤ d) (hst : (st.map fun v => v.category).sum ≤ 8) (k : AW μ d b1 b2 g q ls (.int (if 0 ≤ x then x else 0 - x) :: st) M V R Q) : AW μ d b1 b2 g pc ls (.int x :: st) M V R Q := by
  subst hp
  intro p l e Rm s m args below meth c H locs cells slots mc ms n0 z sk D cy lo S h1 h2 h3 hR hS hL
  obtain ⟨hx, hb, hret, hml, hown, hts, -, hnm, hfr, hlc, hU⟩ := id S
  have hcs : ((st.map (am_cv (am_as z sk))).map fun v => v.category).sum = (st.map fun v => v.category).sum := by
    rw [List.map_map]
    congr 1
    exact List.map_congr_left (fun v _ => am_cv_cat _ v)
  exact va_mabs hx hb (hml.trans hL.1.symm) hown (hts _ hlk) (hts _ jm_abs.1) (hts _ jm_abs.2.1) (hts _ jm_abs.2.2) (Nat.le_trans hd1 hfr) (by rw [hcs]; omega) (by omega) (by omega) hd (k p l e Rm s m args below meth c H locs cells slots mc ms n0 z sk D cy lo S h1 h2 h3 hR hS hL)
theorem aw_min (q : Nat) {idx : Nat} {x y : Int32} (hd : decode μ.2.1 pc = .ok (.invokestatic idx, 3)) (hp : pc + 3 = q) (hlk : Cond.methodLink μ.1.cls idx Lib.Math.min.name ∈ am_g) (hd1 : 1 ≤ d) (hst : (st.map fun v => v.category).sum ≤ 8) (k : AW μ d b1 b2 g q ls (.int (if y < x then y else x) :: st) M V R Q) : AW μ d b1 b2 g pc ls (.int y :: .int x :: st) M V R Q := by
  subst hp
  intro p l e Rm s m args below meth c H locs cells slots mc ms n0 z sk D cy lo S h1 h2 h3 hR hS hL
  obtain ⟨hx, hb, hret, hml, hown, hts, -, hnm, hfr, hlc, hU⟩ := id S
  have hcs : ((st.map (am_cv (am_as z sk))).map fun v => v.category).sum = (st.map fun v => v.category).sum := by
    rw [List.map_map]
    congr 1
    exact List.map_congr_left (fun v _ => am_cv_cat _ v)
  exact va_mmin hx hb (hml.trans hL.1.symm) hown (hts _ hlk) (hts _ jm_min.1) (hts _ jm_min.2.1) (hts _ jm_min.2.2) (Nat.le_trans hd1 hfr) (by rw [hcs]; omega) (by omega) (by omega) hd (k p l e Rm s m args below meth c H locs cells slots mc ms n0 z sk D cy lo S h1 h2 h3 hR hS hL)
theorem aw_max (q : Nat) {idx : Nat} {x y : Int32} (hd : decode μ.2.1 pc = .ok (.invokestatic idx, 3)) (hp : pc + 3 = q) (hlk : Cond.methodLink μ.1.cls idx Lib.Math.max.name ∈ am_g) (hd1 : 1 ≤ d) (hst : (st.map fun v => v.category).sum ≤ 8) (k : AW μ d b1 b2 g q ls (.int (if x < y then y else x) :: st) M V R Q) : AW μ d b1 b2 g pc ls (.int y :: .int x :: st) M V R Q := by
  subst hp
  intro p l e Rm s m args below meth c H locs cells slots mc ms n0 z sk D cy lo S h1 h2 h3 hR hS hL
  obtain ⟨hx, hb, hret, hml, hown, hts, -, hnm, hfr, hlc, hU⟩ := id S
  have hcs : ((st.map (am_cv (am_as z sk))).map fun v => v.category).sum = (st.map fun v => v.category).sum := by
    rw [List.map_map]
    congr 1
    exact List.map_congr_left (fun v _ => am_cv_cat _ v)
  exact va_mmax hx hb (hml.trans hL.1.symm) hown (hts _ hlk) (hts _ jm_max.1) (hts _ jm_max.2.1) (hts _ jm_max.2.2) (Nat.le_trans hd1 hfr) (by rw [hcs]; omega) (by omega) (by omega) hd (k p l e Rm s m args below meth c H locs cells slots mc ms n0 z sk D cy lo S h1 h2 h3 hR hS hL)
end AS
