/-! What holds at the law's entry. -/
theorem le_inst : ∀ c, c < 9 → Cond.instantiable (am_C c) (am_N c) ∈ am_g := am_lt9 (am_gi 231 (by decide +kernel) rfl) (am_gi 164 (by decide +kernel) rfl) (am_gi 26 (by decide +kernel) rfl) (am_gi 181 (by decide +kernel) rfl) (am_gi 241 (by decide +kernel) rfl) (am_gi 32 (by decide +kernel) rfl) (am_gi 75 (by decide +kernel) rfl) (am_gi 18 (by decide +kernel) rfl) (am_gi 721 (by decide +kernel) rfl)
theorem le_i {w : Cond} (i : Nat) (h : tables_1[i]? = some w) : w ∈ lw_tbl := List.mem_append_right _ (List.mem_of_getElem? h)
theorem le_K {s : State} {A : Array Value} (htl : ∀ w ∈ lw_tbl, w.before A s = true) : ∃ (D : va_G) (cy : Nat → ClassId), va_K D vwCl (am_tys cy) s := by
  have hts : ∀ w ∈ am_g, w.before A s = true := fun w hw => htl w (am_ga hw).1
  have h1 : ∀ c : Nat, ∃ q : ClassId × (Nat → Nat), c < 9 → u_Kn s (am_C c) (am_T c) (am_N c) q.1 q.2 := fun c => by
    by_cases hc : c < 9
    · obtain ⟨cC, iS, h⟩ := u_known (C := am_C c) (T := am_T c) (N := am_N c) hts (am_in c hc) (hts _ (le_inst c hc))
      exact ⟨(cC, iS), fun _ => h⟩
    · exact ⟨(0, fun _ => 0), fun h => absurd h hc⟩
  obtain ⟨dd, hd⟩ := Classical.axiomOfChoice h1
  obtain ⟨c0, k0, p0, f0, g0, i0⟩ := Cond.arrayClass_spec (args := A) (first := s) (o := none) (s := s) (idx := []) (hts (Cond.arrayClass .int) (am_gi 54 (by decide +kernel) rfl))
  obtain ⟨c1, k1, p1, f1, g1, i1⟩ := Cond.arrayClass_spec (args := A) (first := s) (o := none) (s := s) (idx := []) (hts (Cond.arrayClass .long) (am_gi 229 (by decide +kernel) rfl))
  obtain ⟨c2, k2, p2, f2, g2, i2⟩ := Cond.arrayClass_spec (args := A) (first := s) (o := none) (s := s) (idx := []) (hts (Cond.arrayClass .boolean) (am_gi 294 (by decide +kernel) rfl))
  obtain ⟨p3, c3, k3, f3, -, g3, i3, j3⟩ := Cond.arrayOver_spec (args := A) (first := s) (o := none) (s := s) (idx := []) (htl (Cond.arrayOver (.object RX6)) (le_i 170 (by decide +kernel)))
  refine ⟨(fun c => (dd c).1, fun c => (dd c).2), fun k => if k = 0 then c0 else if k = 1 then c1 else if k = 2 then c2 else c3, fun c q hq => ?_, fun k q hq => ?_⟩
  · have hc : c < 9 := (List.getElem?_eq_some_iff.mp hq).1
    rw [am_cl c hc] at hq
    cases hq
    exact hd c hc
  · have hk : k < 4 := (List.getElem?_eq_some_iff.mp hq).1
    match k, hk, hq with
    | 0, _, hq => cases hq; exact ⟨fun n z => ⟨fun k h => (by cases h), k0, g0, p0, i0⟩, f0⟩
    | 1, _, hq => cases hq; exact ⟨fun n z => ⟨fun k h => (by cases h), k1, g1, p1, i1⟩, f1⟩
    | 2, _, hq => cases hq; exact ⟨fun n z => ⟨fun k h => (by cases h), k2, g2, p2, i2⟩, f2⟩
    | 3, _, hq => cases hq; exact ⟨fun n z => ⟨fun k h => (by cases h), k3, g3, p3, i3⟩, k3, p3, g3, i3, f3, j3⟩
theorem le_sref : ∀ i, i < 6 → Cond.stringRef RX5 (am_sx.getD i 0) (am_st.getD i "") ∈ lw_tbl := by
  intro i hi
  match i, hi with
  | 0, _ => exact List.mem_append_right _ (List.mem_of_getElem? (i := 327) (by decide +kernel))
  | 1, _ => exact List.mem_append_right _ (List.mem_of_getElem? (i := 388) (by decide +kernel))
  | 2, _ => exact List.mem_append_right _ (List.mem_of_getElem? (i := 389) (by decide +kernel))
  | 3, _ => exact List.mem_append_right _ (List.mem_of_getElem? (i := 390) (by decide +kernel))
  | 4, _ => exact List.mem_append_right _ (List.mem_of_getElem? (i := 391) (by decide +kernel))
  | 5, _ => exact List.mem_append_right _ (List.mem_of_getElem? (i := 392) (by decide +kernel))
def le_t (i : Nat) : Term := .string RX5 (am_sx.getD i 0)
def le_f (i : Nat) : Term := .field (le_t i) "java/lang/String" "value" "[B"
theorem le_m1 : ∀ i, i < 6 → Cond.exactly (le_t i) "java/lang/String" ∈ flatC (Jvm.Cond.and given_1 narrow_1) := by decide +kernel
theorem le_m2 : ∀ i, i < 6 → Cond.eq (.field (le_t i) "java/lang/String" "coder" "B") (.int 0) ∈ flatC (Jvm.Cond.and given_1 narrow_1) := by decide +kernel
theorem le_m3 : ∀ i, i < 6 → Cond.arrayOf (le_f i) .byte ∈ flatC (Jvm.Cond.and given_1 narrow_1) := by decide +kernel
theorem le_m4 : ∀ i, i < 6 → Cond.eq (.length (le_f i)) (.int (Int32.ofNat (am_sl.getD i 0))) ∈ flatC (Jvm.Cond.and given_1 narrow_1) := by decide +kernel
theorem le_m5 : ∀ i, i < 6 → ∀ j, j < am_sl.getD i 0 → Cond.eq (.elem (le_f i) (.int (Int32.ofNat j))) (.int ((am_sb.getD i []).getD j 0)) ∈ flatC (Jvm.Cond.and given_1 narrow_1) := by decide +kernel
theorem le_m6 : ∀ i, i < 6 → ∀ j, j < 6 → i ≠ j → Cond.not (Cond.eq (le_t i) (le_t j)) ∈ flatC (Jvm.Cond.and given_1 narrow_1) ∨ Cond.not (Cond.eq (le_t j) (le_t i)) ∈ flatC (Jvm.Cond.and given_1 narrow_1) := by decide +kernel
theorem le_X {s : State} {A : Array Value} (b : Nat) (hts : ∀ w ∈ lw_tbl, w.before A s = true) (hgv : (Jvm.Cond.and given_1 narrow_1).before A s = true) : ∃ sk : Nat → Nat, sk 13 = b ∧ am_X s.heap.size sk s s.heap := by
  have hf := flat_of_before _ hgv
  have hA : ∀ a : Nat, a < s.heap.size → ¬ am_A s.heap.size a := fun a h q => absurd h (Nat.not_lt.mpr q)
  have hg : ∀ w ∈ am_g, w.before A s = true := fun w hw => hts w (am_ga hw).1
  obtain ⟨adK, adV, hS, hE⟩ := vk_Sof (args := A) (s := s) (N := 6) (tm := le_t) (len := am_sl) (byt := am_sb) (A := am_A s.heap.size) (by decide) (fun i hi => hf _ (le_m1 i hi)) (fun i hi => hf _ (le_m2 i hi)) (fun i hi => hf _ (le_m3 i hi)) (fun i hi => hf _ (le_m4 i hi)) (fun i hi j hj => hf _ (le_m5 i hi j hj)) (fun i j hi hj hij => (le_m6 i hi j hj hij).imp (fun h => hf _ h) (fun h => hf _ h)) hA
  have hC : va_Z "java/lang/String" "COMPACT_STRINGS" "Z" (.int 1) (am_A s.heap.size) s s.heap := va_Zof (args := A) (hts _ (le_i 340 (by decide +kernel))) (hts _ (le_i 10 (by decide +kernel))) (va_eqt (hf _ (by decide +kernel))) hA
  have hQ : va_Zq "jdk/internal/util/Preconditions" "SIOOBE_FORMATTER" "Ljava/util/function/BiFunction;" (am_A s.heap.size) s s.heap := va_Zqof (args := A) (hts _ (le_i 356 (by decide +kernel))) (hts _ (le_i 12 (by decide +kernel))) (hf _ (by decide +kernel)) hA
  obtain ⟨t, hQ2⟩ : ∃ t : Nat, va_Z "jdk/internal/util/Preconditions" "SIOOBE_FORMATTER" "Ljava/util/function/BiFunction;" .null (am_A s.heap.size) s s.heap ∨ va_Z "jdk/internal/util/Preconditions" "SIOOBE_FORMATTER" "Ljava/util/function/BiFunction;" (.ref t) (am_A s.heap.size) s s.heap := by
    rcases hQ with h | ⟨t, h⟩
    · exact ⟨0, Or.inl h⟩
    · exact ⟨t, Or.inr h⟩
  have e1 : ∀ i, i < 6 → (fun i => if i < 6 then adK i else if i < 12 then adV (i - 6) else if i = 12 then t else b) i = adK i := fun i hi => if_pos hi
  have e2 : ∀ i, i < 6 → (fun i => if i < 6 then adK i else if i < 12 then adV (i - 6) else if i = 12 then t else b) (i + 6) = adV i := fun i hi => by
    show (if i + 6 < 6 then adK (i + 6) else if i + 6 < 12 then adV (i + 6 - 6) else if i + 6 = 12 then t else b) = adV i
    rw [if_neg (by omega), if_pos (by omega), Nat.add_sub_cancel]
  refine ⟨fun i => if i < 6 then adK i else if i < 12 then adV (i - 6) else if i = 12 then t else b, rfl, ⟨fun i hi => ?_, fun i j hi hj e => ?_⟩, fun i hi => ?_, hC, hQ2⟩
  · rw [e1 i hi, e2 i hi]
    exact hS.1 i hi
  · rw [e1 i hi, e1 j hj] at e
    exact hS.2 i j hi hj e
  · rw [e1 i hi]
    exact vk_R.of (hts _ (le_sref i hi)) (hE i hi)
theorem le_U {s : State} {A : Array Value} (b : Nat) (hts : ∀ w ∈ lw_tbl, w.before A s = true) (hgv : (Jvm.Cond.and given_1 narrow_1).before A s = true) : ∃ (sk : Nat → Nat) (D : va_G) (cy : Nat → ClassId), sk 13 = b ∧ am_U s.heap.size sk D cy s := by
  have hg : ∀ w ∈ am_g, w.before A s = true := fun w hw => hts w (am_ga hw).1
  obtain ⟨sk, h1, h2⟩ := le_X b hts hgv
  obtain ⟨D, cy, h3⟩ := le_K hts
  exact ⟨sk, D, cy, h1, h3, fun w hw => va_Nw.of (am_NW_on w hw) (hts w (am_NW_in w hw)), h2, va_AO.of (hts _ (le_i 170 (by decide +kernel)))⟩
