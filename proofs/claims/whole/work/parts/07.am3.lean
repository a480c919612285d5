/-! What is made, calls, returns, contracts of the abstract machine. -/
section AT
variable {μ : am_M} {d b1 b2 : Nat} {g : am_G} {pc : Nat} {ls : List (Option Value)} {st : List Value} {M : am_I} {V : am_J} {R : am_O} {Q : am_Po}
theorem am_size {p : Program} {l : Launch} {e : Env} {Rm : Room} {s : State} {m : MethodId} {args : Array Value} {below : List Frame} {meth : Method} {c : Code} {H : Heap} {locs : List Loc} {cells slots n0 z : Nat} {sk : Nat → Nat} {D : va_G} {cy : Nat → ClassId} {Z : State → Prop} {fr : JFrame} (h3 : s.heap.size = z + n0 ∧ cells + n0 = g.1) (hR : am_R z sk D cy g M V R H) (hS : va_S (am_A z) s.heap H locs) (k : H.size = z + g.1 → W p l e Rm s m args below meth c H locs cells slots Z fr) : W p l e Rm s m args below meth c H locs cells slots Z fr := by
  intro T hT X
  refine k ?_ T hT X
  have h1 := X.heapSize
  rw [hT] at h1
  have h2 : z + g.1 ≤ H.size := by
    by_cases h0 : g.1 = 0
    · have := hS.1
      omega
    · have hl : g.1 - 1 < g.1 := by omega
      have h4 := (hR.2 (g.1 - 1) _ (am_get hl)).lt
      have h5 : z + (g.1 - 1) < H.size := h4
      omega
  omega
/-- one more cell -/
def am_gN (g : am_G) (t n : Nat) : am_G := (g.1 + 1, (fun i => if i = g.1 then t else g.2.1 i), (fun i => if i = g.1 then n else g.2.2 i))
theorem am_ws_push {z : Nat} {f : Nat → Nat} {cy : Nat → ClassId} {t n : Nat} {M' : am_I} {V' : am_J} {R' : am_O} (hM : ∀ i, i < g.1 → M' i = M i) (hV : ∀ i, i < g.1 → V' i = V i) (hO : ∀ i, i < g.1 → R' i = R i) : am_ws z f cy (am_gN g t n) M' V' R' = am_ws z f cy g M V R ++ [(z + g.1, am_ce f cy (am_gN g t n) M' V' R' g.1)] := by
  unfold am_ws
  rw [show (am_gN g t n).1 = g.1 + 1 from rfl, List.range_succ, List.map_append]
  congr 1
  apply List.map_congr_left
  intro i hi
  have hlt : i < g.1 := List.mem_range.mp hi
  have hne : i ≠ g.1 := Nat.ne_of_lt hlt
  simp only [am_ce, am_gN, if_neg hne, hM i hlt, hV i hlt, hO i hlt]
theorem am_push {z : Nat} {sk : Nat → Nat} {D : va_G} {cy : Nat → ClassId} {t n : Nat} {M' : am_I} {V' : am_J} {R' : am_O} {H H1 : Heap} (hR : am_R z sk D cy g M V R H) (hsz : H.size = z + g.1) (hlt : g.1 < 1000) (hM : ∀ i, i < g.1 → M' i = M i) (hV : ∀ i, i < g.1 → V' i = V i) (hO : ∀ i, i < g.1 → R' i = R i) (o1 : ∀ q : Nat, q < H.size → H1[q]? = H[q]?) (hn : va_at D vwCl (z + g.1, am_ce (am_as z sk) cy (am_gN g t n) M' V' R' g.1) H1) : am_R z sk D cy (am_gN g t n) M' V' R' H1 := by
  refine ⟨hlt, ?_⟩
  rw [am_ws_push hM hV hO]
  refine (hR.2.kept (fun k q hk => ?_)).app (fun k q hk => ?_)
  · exact o1 q.1 ((hR.2 k q hk).lt)
  · have hz : k < 1 := (List.getElem?_eq_some_iff.mp hk).1
    rw [show k = 0 by omega] at hk
    cases hk
    exact hn
theorem am_S_push {z : Nat} {s : State} {H H1 : Heap} {locs : List Loc} (hS : va_S (am_A z) s.heap H locs) (z1 : H1.size = H.size + 1) (o1 : ∀ q : Nat, q < H.size → H1[q]? = H[q]?) : va_S (am_A z) s.heap H1 locs :=
  ⟨Nat.le_trans hS.1 (by omega), fun x g1 g2 => (o1 x (Nat.lt_of_lt_of_le g1 hS.1)).trans (hS.2.1 x g1 g2), hS.2.2⟩
theorem am_tyk : ∀ c0, c0 < 9 → ∀ k, k < am_N c0 → am_ty c0 k = .int ∨ am_ty c0 k = .boolean ∨ am_rf c0 k = true := am_lt9 (by decide +kernel) (by decide +kernel) (by decide +kernel) (by decide +kernel) (by decide +kernel) (by decide +kernel) (by decide +kernel) (by decide +kernel) (by decide +kernel)
theorem am_dflt {c0 k : Nat} (hk : k < am_N c0) (hc9 : c0 < 9) (f : Nat → Nat) : defaultValue (am_ty c0 k) = vp_V (am_fs f c0 (fun _ => 0) (fun _ => none)) k := by
  unfold vp_V
  rw [List.getD_eq_getElem?_getD, am_fs_get hk]
  have h : am_ty c0 k = .int ∨ am_ty c0 k = .boolean ∨ am_rf c0 k = true := am_tyk c0 hc9 k hk
  rcases h with h | h | h
  · simp [am_rf, h, defaultValue]
  · simp [am_rf, h, defaultValue]
  · simp only [h, if_true, Option.map_none, va_rf]
    unfold am_rf at h
    cases hty : am_ty c0 k <;> rw [hty] at h <;> first | rfl | cases h
theorem aw_new (q : Nat) {idx c0 : Nat} (hd : decode μ.2.1 pc = .ok (.new idx, 3)) (hp : pc + 3 = q) (hw : am_nw μ.1.cls idx c0) (hlt : g.1 < 1000) (k : AW μ d b1 b2 (am_gN g (c0 + 4) 0) q ls (.ref g.1 :: st) (am_row M g.1 (fun _ => 0)) V (am_row R g.1 (fun _ => none)) Q) : AW μ d (b1 + 1) (b2 + am_N c0) g pc ls st M V R Q := by
  subst hp
  intro p l e Rm s m args below meth c H locs cells slots mc ms n0 z sk D cy lo S h1 h2 h3 hR hS hL
  obtain ⟨hx, hb, hret, hml, hown, hts, hlk, hnm, hfr, hlc, hU⟩ := id S
  obtain ⟨hc9, w1, w2, w3⟩ := hw
  refine am_size h3 hR hS (fun hsz => ?_)
  have hKn := hU.1.1 c0 _ (am_cl c0 hc9)
  refine W.newcK hx hb hown (hts _ w1) (hts _ w2) (hts _ w3) rfl hd (by omega) (by omega) hKn.2.1 hsz fun H1 kC hkC e1 z1 o1 => ?_
  have e9 : am_as z sk g.1 = z + g.1 := am_as_lt hlt
  have hk := k p l e Rm s m args below meth c H1 locs (cells + 1) (slots + am_N c0) mc ms n0 z sk D cy lo S ⟨by omega, by omega⟩ h2 ⟨h3.1, by show cells + 1 + n0 = g.1 + 1; omega⟩ (am_push hR hsz hlt (fun i hi => by simp [am_row, Nat.ne_of_lt hi]) (fun i _ => rfl) (fun i hi => by simp [am_row, Nat.ne_of_lt hi]) (by rw [hsz]; exact o1) (by
    rw [am_ce_ob (c := c0) (by simp [am_gN])]
    refine ⟨_, am_cl c0 hc9, (u_born (am_ty c0) hts (am_in c0 hc9) hKn hkC e1 (am_tyok c0 hc9)).to (fun j hj => ?_)⟩
    simp only [am_row, if_true]
    exact am_dflt hj hc9 _)) (am_S_push hS (by omega) (by rw [hsz]; exact o1)) hL
  rw [show ((Value.ref g.1 :: st).map (am_cv (am_as z sk))) = .ref (z + g.1) :: st.map (am_cv (am_as z sk)) by rw [← e9]; rfl] at hk
  exact hk

theorem aw_newI (q : Nat) {n : Int32} {N' : Nat} (hd : decode μ.2.1 pc = .ok (.newarray .int, 2)) (hp : pc + 2 = q) (hn : ¬ n < 0) (hN : n.toNatClampNeg = N') (hN9 : N' ≤ 1000) (hlt : g.1 < 1000) (k : AW μ d b1 b2 (am_gN g 0 N') q ls (.ref g.1 :: st) (am_row M g.1 (fun _ => 0)) (V) R Q) : AW μ d (b1 + 1) (b2 + N') g pc ls (.int n :: st) M V R Q := by
  subst hp
  intro p l e Rm s m args below meth c H locs cells slots mc ms n0 z sk D cy lo S h1 h2 h3 hR hS hL
  obtain ⟨hx, hb, hret, hml, hown, hts, hlk, hnm, hfr, hlc, hU⟩ := id S
  refine am_size h3 hR hS (fun hsz => ?_)
  refine va_newaK hx hb (atype := .int) (hts _ jm_aint) rfl hd rfl hn hN (by show N' * 4 ≤ _; omega) (by omega) (by omega) hsz fun H1 cA e1 z1 o1 hAr hNm => ?_
  have e9 : am_as z sk g.1 = z + g.1 := am_as_lt hlt
  have hcy : cA = cy 0 := by
    have h8 := (hU.1.2 0 (cy 0, .int) rfl).2
    exact Option.some.inj (hNm.symm.trans h8)
  subst hcy
  have hk := k p l e Rm s m args below meth c H1 locs (cells + 1) (slots + N') mc ms n0 z sk D cy lo S ⟨by omega, by omega⟩ h2 ⟨h3.1, by show cells + 1 + n0 = g.1 + 1; omega⟩ (am_push hR hsz hlt (fun i hi => by simp [am_row, Nat.ne_of_lt hi]) (fun i hi => by simp [am_row, Nat.ne_of_lt hi]) (fun i hi => by simp [am_row, Nat.ne_of_lt hi]) (by rw [hsz]; exact o1) (by
    rw [am_ce_0 (by simp [am_gN])]
    show H1[z + g.1]? = some (vp_cell _ _)
    rw [e1]
    simp only [am_row, am_gN, if_true]
    rfl)) (am_S_push hS (by omega) (by rw [hsz]; exact o1)) hL
  rw [show ((Value.ref g.1 :: st).map (am_cv (am_as z sk))) = .ref (z + g.1) :: st.map (am_cv (am_as z sk)) by rw [← e9]; rfl] at hk
  exact hk

theorem aw_newZ (q : Nat) {n : Int32} {N' : Nat} (hd : decode μ.2.1 pc = .ok (.newarray .boolean, 2)) (hp : pc + 2 = q) (hn : ¬ n < 0) (hN : n.toNatClampNeg = N') (hN9 : N' ≤ 1000) (hlt : g.1 < 1000) (k : AW μ d b1 b2 (am_gN g 2 N') q ls (.ref g.1 :: st) (am_row M g.1 (fun _ => 0)) (V) R Q) : AW μ d (b1 + 1) (b2 + N') g pc ls (.int n :: st) M V R Q := by
  subst hp
  intro p l e Rm s m args below meth c H locs cells slots mc ms n0 z sk D cy lo S h1 h2 h3 hR hS hL
  obtain ⟨hx, hb, hret, hml, hown, hts, hlk, hnm, hfr, hlc, hU⟩ := id S
  refine am_size h3 hR hS (fun hsz => ?_)
  refine va_newaK hx hb (atype := .boolean) (hts _ jm_aboolean) rfl hd rfl hn hN (by show N' * 1 ≤ _; omega) (by omega) (by omega) hsz fun H1 cA e1 z1 o1 hAr hNm => ?_
  have e9 : am_as z sk g.1 = z + g.1 := am_as_lt hlt
  have hcy : cA = cy 2 := by
    have h8 := (hU.1.2 2 (cy 2, .boolean) rfl).2
    exact Option.some.inj (hNm.symm.trans h8)
  subst hcy
  have hk := k p l e Rm s m args below meth c H1 locs (cells + 1) (slots + N') mc ms n0 z sk D cy lo S ⟨by omega, by omega⟩ h2 ⟨h3.1, by show cells + 1 + n0 = g.1 + 1; omega⟩ (am_push hR hsz hlt (fun i hi => by simp [am_row, Nat.ne_of_lt hi]) (fun i hi => by simp [am_row, Nat.ne_of_lt hi]) (fun i hi => by simp [am_row, Nat.ne_of_lt hi]) (by rw [hsz]; exact o1) (by
    rw [am_ce_2 (by simp [am_gN])]
    show H1[z + g.1]? = some (vp_cell _ _)
    rw [e1]
    simp only [am_row, am_gN, if_true]
    rfl)) (am_S_push hS (by omega) (by rw [hsz]; exact o1)) hL
  rw [show ((Value.ref g.1 :: st).map (am_cv (am_as z sk))) = .ref (z + g.1) :: st.map (am_cv (am_as z sk)) by rw [← e9]; rfl] at hk
  exact hk

theorem aw_newJ (q : Nat) {n : Int32} {N' : Nat} (hd : decode μ.2.1 pc = .ok (.newarray .long, 2)) (hp : pc + 2 = q) (hn : ¬ n < 0) (hN : n.toNatClampNeg = N') (hN9 : N' ≤ 1000) (hlt : g.1 < 1000) (k : AW μ d b1 b2 (am_gN g 1 N') q ls (.ref g.1 :: st) (M) (am_row V g.1 (fun _ => 0)) R Q) : AW μ d (b1 + 1) (b2 + N') g pc ls (.int n :: st) M V R Q := by
  subst hp
  intro p l e Rm s m args below meth c H locs cells slots mc ms n0 z sk D cy lo S h1 h2 h3 hR hS hL
  obtain ⟨hx, hb, hret, hml, hown, hts, hlk, hnm, hfr, hlc, hU⟩ := id S
  refine am_size h3 hR hS (fun hsz => ?_)
  refine va_newaK hx hb (atype := .long) (hts _ jm_along) rfl hd rfl hn hN (by show N' * 8 ≤ _; omega) (by omega) (by omega) hsz fun H1 cA e1 z1 o1 hAr hNm => ?_
  have e9 : am_as z sk g.1 = z + g.1 := am_as_lt hlt
  have hcy : cA = cy 1 := by
    have h8 := (hU.1.2 1 (cy 1, .long) rfl).2
    exact Option.some.inj (hNm.symm.trans h8)
  subst hcy
  have hk := k p l e Rm s m args below meth c H1 locs (cells + 1) (slots + N') mc ms n0 z sk D cy lo S ⟨by omega, by omega⟩ h2 ⟨h3.1, by show cells + 1 + n0 = g.1 + 1; omega⟩ (am_push hR hsz hlt (fun i hi => by simp [am_row, Nat.ne_of_lt hi]) (fun i hi => by simp [am_row, Nat.ne_of_lt hi]) (fun i hi => by simp [am_row, Nat.ne_of_lt hi]) (by rw [hsz]; exact o1) (by
    rw [am_ce_1 (by simp [am_gN])]
    show H1[z + g.1]? = some (vp_cell _ _)
    rw [e1]
    simp only [am_row, am_gN, if_true]
    rfl)) (am_S_push hS (by omega) (by rw [hsz]; exact o1)) hL
  rw [show ((Value.ref g.1 :: st).map (am_cv (am_as z sk))) = .ref (z + g.1) :: st.map (am_cv (am_as z sk)) by rw [← e9]; rfl] at hk
  exact hk

theorem aw_newA (q : Nat) {idx : Nat} {n : Int32} {N' : Nat} (hd : decode μ.2.1 pc = .ok (.anewarray idx, 3)) (hp : pc + 3 = q) (hw : am_nw μ.1.cls idx 6) (hn : ¬ n < 0) (hN : n.toNatClampNeg = N') (hN9 : N' ≤ 1000) (hlt : g.1 < 1000) (k : AW μ d b1 b2 (am_gN g 3 N') q ls (.ref g.1 :: st) M V (am_row R g.1 (fun _ => none)) Q) : AW μ d (b1 + 1) (b2 + N') g pc ls (.int n :: st) M V R Q := by
  subst hp
  intro p l e Rm s m args below meth c H locs cells slots mc ms n0 z sk D cy lo S h1 h2 h3 hR hS hL
  obtain ⟨hx, hb, hret, hml, hown, hts, hlk, hnm, hfr, hlc, hU⟩ := id S
  refine am_size h3 hR hS (fun hsz => ?_)
  subst hN
  refine W.anew (C := RX6) hx hb hown (hts _ hw.2.1) (va_AO.use hU.2.2.2) rfl hd rfl hn (by omega) (by omega) (by omega) fun cA kA comp f1 f2 f3 f4 => ?_
  generalize hH1 : H.push ({ cls := cA, slots := Array.replicate n.toNatClampNeg .null, vm := .none } : Cell) = H1
  have z1 : H1.size = H.size + 1 := by rw [← hH1, Array.size_push]
  have e1 : H1[H.size]? = some (arrV cA n.toNatClampNeg (fun _ => .null)) := by rw [← hH1, Array.getElem?_push_size, ← arrV_new]
  have o1 : ∀ q : Nat, q < H.size → H1[q]? = H[q]? := fun q hq => by rw [← hH1, Array.getElem?_push, if_neg (Nat.ne_of_lt hq)]
  have e9 : am_as z sk g.1 = z + g.1 := am_as_lt hlt
  have hcy : cA = cy 3 := by
    obtain ⟨kA', comp', g1, g2, g3, g4⟩ := (hU.1.2 3 (cy 3, .object RX6) rfl).2
    exact Option.some.inj (f1.symm.trans g4)
  subst hcy
  have hk := k p l e Rm s m args below meth c H1 locs (cells + 1) (slots + n.toNatClampNeg) mc ms n0 z sk D cy lo S ⟨by omega, by omega⟩ h2 ⟨h3.1, by show cells + 1 + n0 = g.1 + 1; omega⟩ (am_push hR hsz hlt (fun i hi => rfl) (fun i hi => rfl) (fun i hi => by simp [am_row, Nat.ne_of_lt hi]) o1 (by
    rw [am_ce_3 (by simp [am_gN])]
    show H1[z + g.1]? = some (vp_cell _ _)
    rw [← hsz, e1]
    simp only [am_row, am_gN, if_true]
    rfl)) (am_S_push hS z1 o1) hL
  rw [show ((Value.ref g.1 :: st).map (am_cv (am_as z sk))) = .ref H.size :: st.map (am_cv (am_as z sk)) by rw [hsz, ← e9]; rfl] at hk
  exact hk
/-- Object's constructor -/
theorem aw_obj (q : Nat) {idx r : Nat} (hd : decode μ.2.1 pc = .ok (.invokespecial idx, 3)) (hp : pc + 3 = q) (hlk : Cond.methodLink μ.1.cls idx objectInit ∈ am_g) (hd1 : 1 ≤ d) (hst : (st.map fun v => v.category).sum ≤ 8) (k : AW μ d b1 b2 g q ls st M V R Q) : AW μ d b1 b2 g pc ls (.ref r :: st) M V R Q := by
  subst hp
  intro p l e Rm s m args below meth c H locs cells slots mc ms n0 z sk D cy lo S h1 h2 h3 hR hS hL
  obtain ⟨hx, hb, hret, hml, hown, hts, -, hnm, hfr, hlc, hU⟩ := id S
  have hcs : ((st.map (am_cv (am_as z sk))).map fun v => v.category).sum = (st.map fun v => v.category).sum := by
    rw [List.map_map]
    congr 1
    exact List.map_congr_left (fun v _ => am_cv_cat _ v)
  exact W.objInit hx hb hown (hts _ hlk) (hts _ jm_obj.1) (hts _ jm_obj.2) rfl (by rw [hml]; exact hL.1) rfl hd (Nat.le_trans hd1 hfr) (by show 2 * 0 + _ + 12 ≤ _; rw [hcs]; omega) (k p l e Rm s m args below meth c H locs cells slots mc ms n0 z sk D cy lo S h1 h2 h3 hR hS hL)
/-- returns -/
def am_nr (μ : am_M) (x : Int32) : Prop := ∃ ty, μ.2.2.2 = some ty ∧ narrow ty (.int x) = .int x
theorem aw_iret {x : Int32} (hd : decode μ.2.1 pc = .ok (.ireturn, 1)) (hn : am_nr μ x) (hQ : Q (some (.int x)) g M V R) : AW μ d 0 b2 g pc ls [.int x] M V R Q := by
  intro p l e Rm s m args below meth c H locs cells slots mc ms n0 z sk D cy lo S h1 h2 h3 hR hS hL
  obtain ⟨hx, hb, hret, hml, hown, hts, hlk, hnm, hfr, hlc, hU⟩ := id S
  obtain ⟨ty, hty, hnr⟩ := hn
  refine W.widen (k := mc) (n := ms) (by omega) (by omega) ?_
  exact W.zret hx hb (hret.trans hty) hnr (fun t ht hW => ⟨⟨some (.int x), g, M, V, R, rfl, by omega, hQ, by rw [ht]; exact hR⟩, hS.F ht⟩) hS.2.2 hd hlk
theorem aw_vret (hd : decode μ.2.1 pc = .ok (.return_, 1)) (hn : μ.2.2.2 = none) (hQ : Q none g M V R) : AW μ d 0 b2 g pc ls [] M V R Q := by
  intro p l e Rm s m args below meth c H locs cells slots mc ms n0 z sk D cy lo S h1 h2 h3 hR hS hL
  obtain ⟨hx, hb, hret, hml, hown, hts, hlk, hnm, hfr, hlc, hU⟩ := id S
  refine W.widen (k := mc) (n := ms) (by omega) (by omega) ?_
  exact W.vret hx hb (hret.trans hn) (fun t ht hW => ⟨⟨none, g, M, V, R, rfl, by omega, hQ, by rw [ht]; exact hR⟩, hS.F ht⟩) hS.2.2 hd hlk
/-- behind a call -/
theorem am_after {p : Program} {l : Launch} {e : Env} {Rm : Room} {s : State} {m : MethodId} {args : Array Value} {below : List Frame} {meth : Method} {c : Code} {H : Heap} {locs : List Loc} {cells slots mc ms n1 z : Nat} {sk : Nat → Nat} {D : va_G} {cy : Nat → ClassId} {Z : State → Prop} {lo : Array Slot} {st0 rest : List Value} {a : Array Value} {Q' : am_Po}
    (hr : va_Run p l e Rm s m args below meth c H locs cells slots mc ms (F0 m pc lo st0) rest (am_Q z sk D cy n1 Q' a) (am_A z)) (hS : va_S (am_A z) s.heap H locs)
    (kk : ∀ (v : Option Value) (g' : am_G) (M' : am_I) (V' : am_J) (R' : am_O) (H1 : Heap) (locs1 : List Loc), g'.1 = n1 → Q' v g' M' V' R' → am_R z sk D cy g' M' V' R' H1 → va_S (am_A z) s.heap H1 locs1 → W p l e Rm s m args below meth c H1 locs1 (cells + mc) (slots + ms) Z (F0 m (pc + 3) lo ((v.map (am_cv (am_as z sk))).toList ++ rest))) : W p l e Rm s m args below meth c H locs cells slots Z (F0 m pc lo st0) := by
  intro T hT X
  obtain ⟨v, st₀, t, T', L, h0, X', hL, e1, e2, ⟨⟨w, g', M', V', R', hv, hg, hq, hR'⟩, hz, hk⟩, sp⟩ := hr T hT X
  cases hv
  rw [h0] at hz hk
  obtain ⟨t2, a1, b1⟩ := kk w g' M' V' R' T'.heap (locs ++ L) hg hq (by rw [e1]; exact hR')
    ⟨Nat.le_trans hS.1 (by rw [e1]; exact hz), fun q g1 g2 => by rw [e1, hk q (Nat.lt_of_lt_of_le g1 hS.1) g2]; exact hS.2.1 q g1 g2, fun q hq => by
      rcases List.mem_append.mp hq with h | h
      · exact hS.2.2 q h
      · exact hL q h⟩ T' rfl X'
  exact ⟨t2, sp t2 a1, b1⟩
theorem am_blind {z : Nat} {sk : Nat → Nat} {D : va_G} {cy : Nat → ClassId} {av : List Value} : FrameBlind (am_P z sk D cy av g M V R) := fun a U gf mk q => ⟨q.1, q.2.1.calling, q.2.2.1, q.2.2.2⟩
theorem am_good {μ' : am_M} (h : Cond.code μ'.1 μ'.2.1 μ'.2.2.1 μ'.2.2.2 ∈ am_g) : GoodIn am_g (am_w μ') := by
  intro w hw
  rcases List.mem_cons.mp hw with rfl | hw
  · exact ⟨h, good_of_word (am_ga h).2⟩
  · exact ⟨hw, good_of_word (am_ga hw).2⟩
theorem am_cat {f : Nat → Nat} (st : List Value) : ((st.map (am_cv f)).map fun v => v.category).sum = (st.map fun v => v.category).sum := by
  rw [List.map_map]
  congr 1
  exact List.map_congr_left (fun v _ => am_cv_cat _ v)
theorem am_otl {f : Nat → Nat} (v : Option Value) (rest : List Value) : (v.map (am_cv f)).toList ++ rest.map (am_cv f) = (v.toList ++ rest).map (am_cv f) := by cases v <;> rfl

theorem aw_callV (q : Nat) {μ' : am_M} {idx n d' mc' ms' : Nat} {c0 : Nat} {r : Nat} {As rest : List Value} {Q' : am_Po} (hd : decode μ.2.1 pc = .ok (.invokevirtual idx, 3)) (hp : pc + 3 = q) (hlk : am_lk μ.1.cls idx μ'.1) (hm : am_mV μ' n c0) (ho : am_ob g r c0) (hC9 : Ct μ' d' mc' ms' (.ref r :: As) g M V R Q') (hn : As.length = n) (hst : st = As.reverse ++ .ref r :: rest) (hd9 : d' + 1 ≤ d) (hct : (rest.map fun v => v.category).sum ≤ 8)
    (k : ∀ (v : Option Value) (g' : am_G) (M' : am_I) (V' : am_J) (R' : am_O), g'.1 = g.1 + mc' → Q' v g' M' V' R' → AW μ d b1 b2 g' q ls (v.toList ++ rest) M' V' R' Q) : AW μ d (b1 + mc') (b2 + ms') g pc ls st M V R Q := by
  subst hp
  intro p l e Rm s m args below meth c H locs cells slots mc ms n0 z sk D cy lo S h1 h2 h3 hR hS hL
  obtain ⟨hx, hb, hret, hml, hown, hts, hlks, hnm, hfr, hlc, hU⟩ := id S
  obtain ⟨⟨hpl, hcw, hin9, hdd, hml9⟩, hc9, hC, hinst, hsel⟩ := hm
  refine am_size h3 hR hS (fun hsz => ?_)
  have hpre : ∀ U : State, U.heap = H → s.WarmedH U.vm → am_P z sk D cy (.ref r :: As) g M V R (((.ref r :: As)).map (am_cv (am_as z sk))).toArray U := fun U hUh hW => ⟨rfl, hU.warm hW (by rw [hUh]; exact hS), by rw [hUh]; exact hsz, by rw [hUh]; exact hR⟩
  have hg9 := am_good hcw
  have hR9 : (am_rm d' mc' ms').frames + 1 ≤ Rm.frames ∧ 8 + (μ'.2.2.1 + 11) + (am_rm d' mc' ms').locals ≤ Rm.locals := ⟨Nat.le_trans hd9 hfr, by show 8 + (μ'.2.2.1 + 11) + 64 * d' ≤ Rm.locals; omega⟩
  have e9 : am_as z sk r = z + r := am_as_lt (Nat.lt_of_lt_of_le ho.1 hR.1)
  have hrec := va_recv hU.1 hR.2 (am_cl c0 hc9) (by have he := am_get (z := z) (f := am_as z sk) (cy := cy) (M := M) (V := V) (R := R) ho.1; rw [am_ce_ob ho.2] at he; exact he)
  have hrec2 : ∃ cell : Cell, H[am_as z sk r]? = some cell ∧ cell.vm.isStatics = false ∧ s.vm.findClass (am_C c0) = some cell.cls := by rw [e9]; exact hrec
  have hsel2 : (Cond.selects (am_C c0) μ'.1 μ'.1).before args s = true := by rw [← hC]; exact hts _ hsel
  rcases hlk with hl | ⟨host, hl⟩
  · refine am_after (va_runV (C := am_C c0) (b := am_as z sk r) (As := As.map (am_cv (am_as z sk))) (rest := rest.map (am_cv (am_as z sk))) ⟨hx, hb, hml, hown, hts⟩ (hC9 l z sk D cy) ⟨callB_of n hts hg9 rfl rfl rfl (hts _ hin9) (hts _ hl) hdd hR9, hts _ hinst, hsel2⟩ ⟨am_blind, hrec2, hpre⟩ rfl (by rw [List.length_map]; exact hn) hL.1 (by rw [hst]; simp only [List.map_append, List.map_reverse, List.map_cons]; rfl) (by show 2 * 0 + _ ≤ 8; rw [am_cat]; omega) hd ⟨by omega, by omega⟩) hS (fun v g' M' V' R' H1 locs1 hg hq hR1 hS1 => ?_) <;>
    · rw [am_otl]
      exact k v g' M' V' R' hg hq p l e Rm s m args below meth c H1 locs1 (cells + mc') (slots + ms') mc ms n0 z sk D cy lo S ⟨by omega, by omega⟩ h2 ⟨h3.1, by omega⟩ hR1 hS1 hL
  · refine am_after (va_runVN (C := am_C c0) (b := am_as z sk r) (As := As.map (am_cv (am_as z sk))) (rest := rest.map (am_cv (am_as z sk))) ⟨hx, hb, hml, hown, hts⟩ (hC9 l z sk D cy) ⟨va_cnB n hts hg9 rfl rfl rfl (hU.2.1 _ hl) (hts _ hin9) hdd hR9, hts _ hinst, hsel2⟩ ⟨am_blind, hrec2, hpre⟩ rfl (by rw [List.length_map]; exact hn) hL.1 (by rw [hst]; simp only [List.map_append, List.map_reverse, List.map_cons]; rfl) (by show 2 * 0 + _ ≤ 8; rw [am_cat]; omega) hd ⟨by omega, by omega⟩) hS (fun v g' M' V' R' H1 locs1 hg hq hR1 hS1 => ?_) <;>
    · rw [am_otl]
      exact k v g' M' V' R' hg hq p l e Rm s m args below meth c H1 locs1 (cells + mc') (slots + ms') mc ms n0 z sk D cy lo S ⟨by omega, by omega⟩ h2 ⟨h3.1, by omega⟩ hR1 hS1 hL
theorem aw_callS (q : Nat) {μ' : am_M} {idx n d' mc' ms' : Nat}   {As rest : List Value} {Q' : am_Po} (hd : decode μ.2.1 pc = .ok (.invokestatic idx, 3)) (hp : pc + 3 = q) (hlk : am_lk μ.1.cls idx μ'.1) (hm : am_mS μ' n) (hC9 : Ct μ' d' mc' ms' As g M V R Q') (hn : As.length = n) (hst : st = As.reverse ++ rest) (hd9 : d' + 1 ≤ d) (hct : (rest.map fun v => v.category).sum ≤ 8)
    (k : ∀ (v : Option Value) (g' : am_G) (M' : am_I) (V' : am_J) (R' : am_O), g'.1 = g.1 + mc' → Q' v g' M' V' R' → AW μ d b1 b2 g' q ls (v.toList ++ rest) M' V' R' Q) : AW μ d (b1 + mc') (b2 + ms') g pc ls st M V R Q := by
  subst hp
  intro p l e Rm s m args below meth c H locs cells slots mc ms n0 z sk D cy lo S h1 h2 h3 hR hS hL
  obtain ⟨hx, hb, hret, hml, hown, hts, hlks, hnm, hfr, hlc, hU⟩ := id S
  obtain ⟨⟨hpl, hcw, hin9, hdd, hml9⟩, hstat⟩ := hm
  refine am_size h3 hR hS (fun hsz => ?_)
  have hpre : ∀ U : State, U.heap = H → s.WarmedH U.vm → am_P z sk D cy As g M V R ((As).map (am_cv (am_as z sk))).toArray U := fun U hUh hW => ⟨rfl, hU.warm hW (by rw [hUh]; exact hS), by rw [hUh]; exact hsz, by rw [hUh]; exact hR⟩
  have hg9 := am_good hcw
  have hR9 : (am_rm d' mc' ms').frames + 1 ≤ Rm.frames ∧ 8 + (μ'.2.2.1 + 11) + (am_rm d' mc' ms').locals ≤ Rm.locals := ⟨Nat.le_trans hd9 hfr, by show 8 + (μ'.2.2.1 + 11) + 64 * d' ≤ Rm.locals; omega⟩
  rcases hlk with hl | ⟨host, hl⟩
  · refine am_after (va_runS (As := As.map (am_cv (am_as z sk))) (rest := rest.map (am_cv (am_as z sk))) ⟨hx, hb, hml, hown, hts⟩ (hC9 l z sk D cy) ⟨callB_of n hts hg9 rfl rfl rfl (hts _ hin9) (hts _ hl) hdd hR9, hts _ hstat⟩ ⟨am_blind, hpre⟩ rfl (by rw [List.length_map]; exact hn) hL.1 (by rw [hst]; simp only [List.map_append, List.map_reverse]) (by show 2 * 0 + _ ≤ 8; rw [am_cat]; omega) hd ⟨by omega, by omega⟩) hS (fun v g' M' V' R' H1 locs1 hg hq hR1 hS1 => ?_) <;>
    · rw [am_otl]
      exact k v g' M' V' R' hg hq p l e Rm s m args below meth c H1 locs1 (cells + mc') (slots + ms') mc ms n0 z sk D cy lo S ⟨by omega, by omega⟩ h2 ⟨h3.1, by omega⟩ hR1 hS1 hL
  · refine am_after (va_runSN (As := As.map (am_cv (am_as z sk))) (rest := rest.map (am_cv (am_as z sk))) ⟨hx, hb, hml, hown, hts⟩ (hC9 l z sk D cy) ⟨va_cnB n hts hg9 rfl rfl rfl (hU.2.1 _ hl) (hts _ hin9) hdd hR9, hts _ hstat, trivial⟩ ⟨am_blind, hpre⟩ rfl (by rw [List.length_map]; exact hn) hL.1 (by rw [hst]; simp only [List.map_append, List.map_reverse]) (by show 2 * 0 + _ ≤ 8; rw [am_cat]; omega) hd ⟨by omega, by omega⟩) hS (fun v g' M' V' R' H1 locs1 hg hq hR1 hS1 => ?_) <;>
    · rw [am_otl]
      exact k v g' M' V' R' hg hq p l e Rm s m args below meth c H1 locs1 (cells + mc') (slots + ms') mc ms n0 z sk D cy lo S ⟨by omega, by omega⟩ h2 ⟨h3.1, by omega⟩ hR1 hS1 hL
theorem aw_callI (q : Nat) {μ' : am_M} {idx n d' mc' ms' : Nat}  {r : Nat} {As rest : List Value} {Q' : am_Po} (hd : decode μ.2.1 pc = .ok (.invokespecial idx, 3)) (hp : pc + 3 = q) (hlk : am_lk μ.1.cls idx μ'.1) (hm : am_mI μ' n) (ho : r < g.1) (hC9 : Ct μ' d' mc' ms' (.ref r :: As) g M V R Q') (hn : As.length = n) (hst : st = As.reverse ++ .ref r :: rest) (hd9 : d' + 1 ≤ d) (hct : (rest.map fun v => v.category).sum ≤ 8)
    (k : ∀ (v : Option Value) (g' : am_G) (M' : am_I) (V' : am_J) (R' : am_O), g'.1 = g.1 + mc' → Q' v g' M' V' R' → AW μ d b1 b2 g' q ls (v.toList ++ rest) M' V' R' Q) : AW μ d (b1 + mc') (b2 + ms') g pc ls st M V R Q := by
  subst hp
  intro p l e Rm s m args below meth c H locs cells slots mc ms n0 z sk D cy lo S h1 h2 h3 hR hS hL
  obtain ⟨hx, hb, hret, hml, hown, hts, hlks, hnm, hfr, hlc, hU⟩ := id S
  obtain ⟨⟨hpl, hcw, hin9, hdd, hml9⟩, hnI, hrI, hinst⟩ := hm
  refine am_size h3 hR hS (fun hsz => ?_)
  have hpre : ∀ U : State, U.heap = H → s.WarmedH U.vm → am_P z sk D cy (.ref r :: As) g M V R (((.ref r :: As)).map (am_cv (am_as z sk))).toArray U := fun U hUh hW => ⟨rfl, hU.warm hW (by rw [hUh]; exact hS), by rw [hUh]; exact hsz, by rw [hUh]; exact hR⟩
  have hg9 := am_good hcw
  have hR9 : (am_rm d' mc' ms').frames + 1 ≤ Rm.frames ∧ 8 + (μ'.2.2.1 + 11) + (am_rm d' mc' ms').locals ≤ Rm.locals := ⟨Nat.le_trans hd9 hfr, by show 8 + (μ'.2.2.1 + 11) + 64 * d' ≤ Rm.locals; omega⟩
  have e9 : am_as z sk r = z + r := am_as_lt (Nat.lt_of_lt_of_le ho hR.1)
  have hw9 : am_w μ' = Cond.code μ'.1 μ'.2.1 μ'.2.2.1 none :: am_g := by rw [← hrI]; rfl
  rcases hlk with hl | ⟨host, hl⟩
  · refine am_after (va_runI (b := am_as z sk r) (As := As.map (am_cv (am_as z sk))) (rest := rest.map (am_cv (am_as z sk))) ⟨hx, hb, hml, hown, hts⟩ (hC9 l z sk D cy) ⟨callB_of n hts hg9 hw9 rfl rfl (hts _ hin9) (hts _ hl) hdd hR9, hnI, hts _ hinst⟩ ⟨am_blind, hpre⟩ rfl (by rw [List.length_map]; exact hn) hL.1 (by rw [hst]; simp only [List.map_append, List.map_reverse, List.map_cons]; rfl) (by show 2 * 0 + _ ≤ 8; rw [am_cat]; omega) hd ⟨by omega, by omega⟩) hS (fun v g' M' V' R' H1 locs1 hg hq hR1 hS1 => ?_) <;>
    · rw [am_otl]
      exact k v g' M' V' R' hg hq p l e Rm s m args below meth c H1 locs1 (cells + mc') (slots + ms') mc ms n0 z sk D cy lo S ⟨by omega, by omega⟩ h2 ⟨h3.1, by omega⟩ hR1 hS1 hL
  · refine am_after (va_runIN (b := am_as z sk r) (As := As.map (am_cv (am_as z sk))) (rest := rest.map (am_cv (am_as z sk))) ⟨hx, hb, hml, hown, hts⟩ (hC9 l z sk D cy) ⟨va_cnB n hts hg9 hw9 rfl rfl (hU.2.1 _ hl) (hts _ hin9) hdd hR9, hnI, hts _ hinst⟩ ⟨am_blind, hpre⟩ rfl (by rw [List.length_map]; exact hn) hL.1 (by rw [hst]; simp only [List.map_append, List.map_reverse, List.map_cons]; rfl) (by show 2 * 0 + _ ≤ 8; rw [am_cat]; omega) hd ⟨by omega, by omega⟩) hS (fun v g' M' V' R' H1 locs1 hg hq hR1 hS1 => ?_) <;>
    · rw [am_otl]
      exact k v g' M' V' R' hg hq p l e Rm s m args below meth c H1 locs1 (cells + mc') (slots + ms') mc ms n0 z sk D cy lo S ⟨by omega, by omega⟩ h2 ⟨h3.1, by omega⟩ hR1 hS1 hL
/-- a contract out of a walk -/
def am_ent (n : Nat) (av : List Value) (ls : List (Option Value)) : Prop := ls.length ≤ n ∧ (lg_sl av).length ≤ n ∧ ∀ (i : Nat) (v : Value), ls[i]? = some (some v) → (i, v) ∈ lv_args 0 av
theorem Ct.of {mc ms : Nat} {av : List Value} (hpl : plainName μ.1.cls = true) (hw : Cond.code μ.1 μ.2.1 μ.2.2.1 μ.2.2.2 ∈ am_g) (ls : List (Option Value)) (hl : ∀ f : Nat → Nat, am_ent μ.2.2.1 (av.map (am_cv f)) (ls.map (fun o => o.map (am_cv f)))) (k : AW μ d mc ms g 0 ls [] M V R Q) : Ct μ d mc ms av g M V R Q := by
  intro l z sk D cy
  refine Met.ofW (cc := μ.2.1) (maxL := μ.2.2.1) (ret := μ.2.2.2) hpl rfl ?_
  intro p e s m args below meth c s₁ B hml hv
  obtain ⟨rfl, hU, hsz, hR⟩ := hv
  have hts := atoms_spec (ws := am_w μ) B.pre
  have hown : s.vm.findClass μ.1.cls = some m.cls := findClass_of_methodNamed B.named
  obtain ⟨e1, e2, e3⟩ := hl (am_as z sk)
  have hl9 := lv_entry (av.map (am_cv (am_as z sk))) (n := μ.2.2.1) e2
  rw [lg_entry_eq]
  refine k p l e _ s m _ below meth c s.heap [] 0 0 mc ms g.1 z sk D cy _ ⟨B.exec, B.bytes, B.returns, hml, hown, fun w h => hts w (List.mem_cons_of_mem _ h), B.notSynchronized, (name_of_methodNamed B.named B.method).1, Nat.le_refl _, Nat.le_refl _, hU⟩ ⟨by omega, by omega⟩ ⟨Nat.le_refl _, Nat.le_refl _⟩ ⟨hsz, by omega⟩ hR va_S.rf ⟨hl9.1, hl9.2.1, fun n v hn => ?_⟩
  have h8 : (ls.map (fun o => o.map (am_cv (am_as z sk))))[n]? = some (some (am_cv (am_as z sk) v)) := by rw [List.getElem?_map, hn]; rfl
  exact hl9.2.2 _ (e3 n _ h8)
theorem Ct.weaken {mc ms : Nat} {av : List Value} {Q2 : am_Po} (h : Ct μ d mc ms av g M V R Q) (hq : ∀ v g' M' V' R', Q v g' M' V' R' → Q2 v g' M' V' R') : Ct μ d mc ms av g M V R Q2 := by
  intro l z sk D cy p e ha hc hk s m args below hf h1 h2 h3
  obtain ⟨k, o, a1, a2, a3, ⟨⟨v, g', M', V', R', q1, q2, q3, q4⟩, q5⟩, a5⟩ := h l z sk D cy p e ha hc hk s m args below hf h1 h2 h3
  exact ⟨k, o, a1, a2, a3, ⟨⟨v, g', M', V', R', q1, q2, hq _ _ _ _ _ q3, q4⟩, q5⟩, a5⟩
end AT
