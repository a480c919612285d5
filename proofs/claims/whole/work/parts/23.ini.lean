/-! The constructors: from an empty world to the shape G0. -/
def f0 (k : Nat) : Option Nat := ([some 29, some 39, some 49, some 59, some 69, some 79] : List (Option Nat)).getD k none
def GS (n : Nat) : am_G := (n, fun i => g0K.getD i 0, fun i => g0L.getD i 0)
/-- which cells are put where they belong -/
def XS (n : Nat) (O : List Nat) (t : Nat) : Bool := decide (t < n) && !(O.contains t)
def RF (X : Nat → Bool) : am_O := fun i k => match RR f0 i k with
  | some t => if X t = true then some t else none
  | none => none
def MZ (m : Nat) : am_I := fun i k => if i < m ∧ ([7, 17, 29, 39, 49, 59, 69, 79, 100, 110] : List Nat).contains i = true then (if k = 0 then 20 else if k = 1 then 10 else 0) else 0
def VZ : am_J := fun _ _ => 0
/-- where a cell belongs -/
def prT : List (Nat × Nat) := [(999, 0), (0, 0), (0, 2), (2, 0), (3, 0), (3, 1), (3, 2), (0, 3), (7, 6), (7, 7), (7, 8), (7, 9), (7, 10), (7, 11), (7, 12), (7, 13), (7, 14), (0, 4), (17, 6), (17, 7), (17, 8), (17, 9), (17, 10), (17, 11), (17, 12), (17, 13), (17, 14), (0, 5), (27, 0), (28, 0), (29, 6), (29, 7), (29, 8), (29, 9), (29, 10), (29, 11), (29, 12), (29, 13), (29, 14), (28, 1), (39, 6), (39, 7), (39, 8), (39, 9), (39, 10), (39, 11), (39, 12), (39, 13), (39, 14), (28, 2), (49, 6), (49, 7), (49, 8), (49, 9), (49, 10), (49, 11), (49, 12), (49, 13), (49, 14), (28, 3), (59, 6), (59, 7), (59, 8), (59, 9), (59, 10), (59, 11), (59, 12), (59, 13), (59, 14), (28, 4), (69, 6), (69, 7), (69, 8), (69, 9), (69, 10), (69, 11), (69, 12), (69, 13), (69, 14), (28, 5), (79, 6), (79, 7), (79, 8), (79, 9), (79, 10), (79, 11), (79, 12), (79, 13), (79, 14), (0, 6), (89, 0), (89, 1), (89, 2), (89, 3), (0, 8), (94, 0), (0, 9), (96, 0), (96, 1), (0, 10), (99, 0), (100, 6), (100, 7), (100, 8), (100, 9), (100, 10), (100, 11), (100, 12), (100, 13), (100, 14), (99, 1), (110, 6), (110, 7), (110, 8), (110, 9), (110, 10), (110, 11), (110, 12), (110, 13), (110, 14), (0, 11), (999, 0), (121, 0), (121, 1), (121, 2), (121, 4), (121, 5), (121, 7), (121, 8), (121, 9), (121, 14), (121, 15), (121, 16), (121, 18), (121, 19), (121, 20)]
theorem pr_ok : ∀ i, i < 136 → ∀ k, k < 21 → ((RR f0 i k).all (fun t => decide (prT.getD t (999, 0) = (i, k) ∧ t < 136)) = true) := by decide +kernel
theorem RR_out {i k : Nat} (h : 136 ≤ i ∨ 21 ≤ k) : RR f0 i k = none := by
  unfold RR
  by_cases h28 : i = 28
  · subst h28
    rw [if_pos rfl]
    have hk : 21 ≤ k := h.elim (fun q => by omega) id
    unfold f0
    rw [List.getD_eq_getElem?_getD, List.getElem?_eq_none (by show 6 ≤ k; omega)]
    rfl
  · rw [if_neg h28]
    rcases h with h | h
    · rw [show g0R.getD i [] = [] from by rw [List.getD_eq_getElem?_getD, List.getElem?_eq_none (l := g0R) (by show 136 ≤ i; exact h)]; rfl]
      rfl
    · by_cases hi : i < 136
      · have h9 := (by decide +kernel : ∀ i, i < 136 → (g0R.getD i []).length ≤ 21) i hi
        rw [List.getD_eq_getElem?_getD, List.getElem?_eq_none (by omega)]
        rfl
      · rw [show g0R.getD i [] = [] from by rw [List.getD_eq_getElem?_getD, List.getElem?_eq_none (l := g0R) (by show 136 ≤ i; omega)]; rfl]
        rfl
theorem pr_un {i k t : Nat} (h : RR f0 i k = some t) : prT.getD t (999, 0) = (i, k) ∧ t < 136 := by
  by_cases hi : i < 136
  · by_cases hk : k < 21
    · have h1 := pr_ok i hi k hk
      rw [h] at h1
      simpa using h1
    · rw [RR_out (Or.inr (by omega))] at h; cases h
  · rw [RR_out (Or.inl (by omega))] at h; cases h
theorem RF_put {X X' : Nat → Bool} {r k t : Nat} (hr : RR f0 r k = some t) (h1 : X' t = true) (h2 : ∀ u, u ≠ t → X' u = X u) : am_up (RF X) r k (some t) = RF X' := by
  funext i j
  unfold am_up
  by_cases hi : i = r
  · by_cases hj : j = k
    · subst hi; subst hj
      rw [if_pos rfl, if_pos rfl]
      unfold RF
      rw [hr]
      simp [h1]
    · rw [if_pos hi, if_neg hj]
      unfold RF
      cases hc : RR f0 i j with
      | none => rfl
      | some u =>
        have hu : u ≠ t := fun e => by
          subst e
          have e1 := (pr_un hc).1.symm.trans (pr_un hr).1
          cases e1
          exact hj rfl
        simp [h2 u hu]
  · rw [if_neg hi]
    unfold RF
    cases hc : RR f0 i j with
    | none => rfl
    | some u =>
      have hu : u ≠ t := fun e => by
        subst e
        have e1 := (pr_un hc).1.symm.trans (pr_un hr).1
        cases e1
        exact hi rfl
      simp [h2 u hu]
theorem RF_none {X : Nat → Bool} {i : Nat} (h : ∀ k t, RR f0 i k = some t → X t = false) : RF X i = fun _ => none := by
  funext k
  unfold RF
  cases hc : RR f0 i k with
  | none => rfl
  | some t => simp [h k t hc]
theorem RF_get {X : Nat → Bool} {i k t : Nat} (h : RR f0 i k = some t) (hx : X t = true) : RF X i k = some t := by
  unfold RF
  rw [h]
  simp [hx]
theorem XS_lt {n : Nat} {O : List Nat} {t : Nat} (h : n ≤ t) : XS n O t = false := by unfold XS; rw [decide_eq_false (by omega)]; rfl
/-- a new cell's row is empty: what it points to comes later -/
theorem pr_later : ∀ i, i < 136 → ∀ k, k < 21 → ((RR f0 i k).all (fun t => decide (i < t)) = true) := by decide +kernel
theorem RF_new {n : Nat} {O : List Nat} : RF (XS n O) n = fun _ => none := by
  refine RF_none (fun k t h => XS_lt ?_)
  by_cases hi : n < 136
  · by_cases hk : k < 21
    · have h1 := pr_later n hi k hk
      rw [h] at h1
      have h2 : n < t := by simpa using h1
      omega
    · rw [RR_out (Or.inr (by omega))] at h; cases h
  · rw [RR_out (Or.inl (by omega))] at h; cases h
theorem MZ_row {m n : Nat} (h : m ≤ n) : MZ m n = fun _ => 0 := by
  funext k
  unfold MZ
  rw [if_neg (fun q => by omega)]
theorem gs_gN {n t N : Nat} (h1 : g0K.getD n 0 = t) (h2 : g0L.getD n 0 = N) : am_gN (GS n) t N = GS (n + 1) := by
  unfold am_gN GS
  dsimp only
  have e1 : (fun i => if i = n then t else g0K.getD i 0) = fun i => g0K.getD i 0 := by
    funext i
    by_cases hi : i = n
    · subst hi; rw [if_pos rfl, h1]
    · rw [if_neg hi]
  have e2 : (fun i => if i = n then N else g0L.getD i 0) = fun i => g0L.getD i 0 := by
    funext i
    by_cases hi : i = n
    · subst hi; rw [if_pos rfl, h2]
    · rw [if_neg hi]
  rw [e1, e2]
def C0 (μ : am_M) (d b1 b2 n : Nat) (X : Nat → Bool) (m pc : Nat) (ls : List (Option Value)) (st : List Value) (Q : am_Po) : Prop := AW μ d b1 b2 (GS n) pc ls st (MZ m) VZ (RF X) Q
/-- a constructor's contract: n, X, m before and behind -/
def CC (μ : am_M) (d mc ms : Nat) (av : List Value) (n : Nat) (X : Nat → Bool) (m n' : Nat) (X' : Nat → Bool) (m' : Nat) : Prop := Ct μ d mc ms av (GS n) (MZ m) VZ (RF X) (fun v g' M' V' R' => v = none ∧ g' = GS n' ∧ M' = MZ m' ∧ V' = VZ ∧ R' = RF X')
section C0R
variable {μ : am_M} {d b1 b2 n m pc : Nat} {X : Nat → Bool} {O : List Nat} {ls : List (Option Value)} {st : List Value} {Q : am_Po}
theorem cz_iconst (q : Nat) {j : Int} (v : Int32) (hd : decode μ.2.1 pc = .ok (.iconst j, 1)) (hp : pc + 1 = q) (hv : Int32.ofInt j = v) (k : C0 μ d b1 b2 n X m q ls (.int v :: st) Q) : C0 μ d b1 b2 n X m pc ls st Q := aw_iconst q hd hp hv k
theorem cz_bipush (q : Nat) {j : Int} (v : Int32) (hd : decode μ.2.1 pc = .ok (.bipush j, 2)) (hp : pc + 2 = q) (hv : (Int8.ofInt j).toInt32 = v) (k : C0 μ d b1 b2 n X m q ls (.int v :: st) Q) : C0 μ d b1 b2 n X m pc ls st Q := aw_bipush q hd hp hv k
theorem cz_sipush (q : Nat) {j : Int} (v : Int32) (hd : decode μ.2.1 pc = .ok (.sipush j, 3)) (hp : pc + 3 = q) (hv : (Int16.ofInt j).toInt32 = v) (k : C0 μ d b1 b2 n X m q ls (.int v :: st) Q) : C0 μ d b1 b2 n X m pc ls st Q := aw_sipush q hd hp hv k
theorem cz_aload_n (q : Nat) {i : Fin 4} {x : Nat} (hd : decode μ.2.1 pc = .ok (.aload_n i, 1)) (hp : pc + 1 = q) (hl : ls[(i : Nat)]? = some (some (.ref x))) (k : C0 μ d b1 b2 n X m q ls (.ref x :: st) Q) : C0 μ d b1 b2 n X m pc ls st Q := aw_aload_n q hd hp hl k
theorem cz_iload_n (q : Nat) {i : Fin 4} {x : Int32} (hd : decode μ.2.1 pc = .ok (.iload_n i, 1)) (hp : pc + 1 = q) (hl : ls[(i : Nat)]? = some (some (.int x))) (k : C0 μ d b1 b2 n X m q ls (.int x :: st) Q) : C0 μ d b1 b2 n X m pc ls st Q := aw_iload_n q hd hp hl k
theorem cz_istore_n (q : Nat) {i : Fin 4} {x : Int32} (ls' : List (Option Value)) (hd : decode μ.2.1 pc = .ok (.istore_n i, 1)) (hp : pc + 1 = q) (hc : am_c1 ls = true) (hi : (i : Nat) < ls.length) (hm : (i : Nat) < μ.2.2.1) (hs : ls.set (i : Nat) (some (.int x)) = ls') (k : C0 μ d b1 b2 n X m q ls' st Q) : C0 μ d b1 b2 n X m pc ls (.int x :: st) Q := by
  subst hs
  exact aw_istore_n q hd hp hc hi hm k
theorem cz_iinc (q : Nat) {i : Nat} {j : Int} {x : Int32} (v : Int32) (ls' : List (Option Value)) (hd : decode μ.2.1 pc = .ok (.iinc i j, 3)) (hp : pc + 3 = q) (hl : ls[i]? = some (some (.int x))) (hv : x + Int32.ofInt j = v) (hc : am_c1 ls = true) (hm : i < μ.2.2.1) (hs : ls.set i (some (.int v)) = ls') (k : C0 μ d b1 b2 n X m q ls' st Q) : C0 μ d b1 b2 n X m pc ls st Q := by
  subst hs
  exact aw_iinc q hd hp hl hv hc hm k
theorem cz_dup (q : Nat) {v : Value} (hd : decode μ.2.1 pc = .ok (.dup, 1)) (hp : pc + 1 = q) (hv : v.category = 1) (k : C0 μ d b1 b2 n X m q ls (v :: v :: st) Q) : C0 μ d b1 b2 n X m pc ls (v :: st) Q := aw_dup q hd hp hv k
theorem cz_icmp_ge (t q : Nat) {x y : Int32} {off : Int} (hd : decode μ.2.1 pc = .ok (.if_icmp .ge off, 3)) (ht : (pc : Int) + off = (t : Int)) (hp : pc + 3 = q) (kt : y ≤ x → C0 μ d b1 b2 n X m t ls st Q) (kf : ¬ y ≤ x → C0 μ d b1 b2 n X m q ls st Q) : C0 μ d b1 b2 n X m pc ls (.int y :: .int x :: st) Q := aw_icmp_ge t q hd ht hp kt kf
theorem cz_goto (t : Nat) {off : Int} (hd : decode μ.2.1 pc = .ok (.goto off, 3)) (ht : (pc : Int) + off = (t : Int)) (k : C0 μ d b1 b2 n X m t ls st Q) : C0 μ d b1 b2 n X m pc ls st Q := aw_goto t hd ht k
theorem cz_obj (q : Nat) {idx r : Nat} (hd : decode μ.2.1 pc = .ok (.invokespecial idx, 3)) (hp : pc + 3 = q) (hlk : Cond.methodLink μ.1.cls idx objectInit ∈ am_g) (hd1 : 1 ≤ d) (hst : (st.map fun v => v.category).sum ≤ 8) (k : C0 μ d b1 b2 n X m q ls st Q) : C0 μ d b1 b2 n X m pc ls (.ref r :: st) Q := aw_obj q hd hp hlk hd1 hst k
theorem cz_new (q b1 b2 c0 : Nat) {idx : Nat} (hd : decode μ.2.1 pc = .ok (.new idx, 3)) (hp : pc + 3 = q) (hw : am_nw μ.1.cls idx c0) (hlt : n < 1000) (h1 : g0K.getD n 0 = c0 + 4) (h2 : g0L.getD n 0 = 0) (hm : m ≤ n) (k : C0 μ d b1 b2 (n + 1) (XS n O) m q ls (.ref n :: st) Q) : C0 μ d (b1 + 1) (b2 + am_N c0) n (XS n O) m pc ls st Q := by
  refine aw_new q hd hp hw hlt ?_
  rw [gs_gN h1 h2, show (GS n).1 = n from rfl, ← MZ_row hm, row_id, ← RF_new (n := n) (O := O), row_id]
  exact k
theorem cz_newI (q b1 b2 N' : Nat) {z : Int32} (hd : decode μ.2.1 pc = .ok (.newarray .int, 2)) (hp : pc + 2 = q) (hn : ¬ z < 0) (hN : z.toNatClampNeg = N') (hN9 : N' ≤ 1000) (hlt : n < 1000) (h1 : g0K.getD n 0 = 0) (h2 : g0L.getD n 0 = N') (hm : m ≤ n) (k : C0 μ d b1 b2 (n + 1) X m q ls (.ref n :: st) Q) : C0 μ d (b1 + 1) (b2 + N') n X m pc ls (.int z :: st) Q := by
  refine aw_newI q hd hp hn hN hN9 hlt ?_
  rw [gs_gN h1 h2, show (GS n).1 = n from rfl, ← MZ_row hm, row_id]
  exact k
theorem cz_newZ (q b1 b2 N' : Nat) {z : Int32} (hd : decode μ.2.1 pc = .ok (.newarray .boolean, 2)) (hp : pc + 2 = q) (hn : ¬ z < 0) (hN : z.toNatClampNeg = N') (hN9 : N' ≤ 1000) (hlt : n < 1000) (h1 : g0K.getD n 0 = 2) (h2 : g0L.getD n 0 = N') (hm : m ≤ n) (k : C0 μ d b1 b2 (n + 1) X m q ls (.ref n :: st) Q) : C0 μ d (b1 + 1) (b2 + N') n X m pc ls (.int z :: st) Q := by
  refine aw_newZ q hd hp hn hN hN9 hlt ?_
  rw [gs_gN h1 h2, show (GS n).1 = n from rfl, ← MZ_row hm, row_id]
  exact k
theorem cz_newJ (q b1 b2 N' : Nat) {z : Int32} (hd : decode μ.2.1 pc = .ok (.newarray .long, 2)) (hp : pc + 2 = q) (hn : ¬ z < 0) (hN : z.toNatClampNeg = N') (hN9 : N' ≤ 1000) (hlt : n < 1000) (h1 : g0K.getD n 0 = 1) (h2 : g0L.getD n 0 = N') (hm : m ≤ n) (k : C0 μ d b1 b2 (n + 1) X m q ls (.ref n :: st) Q) : C0 μ d (b1 + 1) (b2 + N') n X m pc ls (.int z :: st) Q := by
  refine aw_newJ q hd hp hn hN hN9 hlt ?_
  rw [gs_gN h1 h2, show (GS n).1 = n from rfl, show (fun _ => (0 : Int64)) = VZ n from rfl, row_id]
  exact k
theorem cz_newA (q b1 b2 N' : Nat) {idx : Nat} {z : Int32} (hd : decode μ.2.1 pc = .ok (.anewarray idx, 3)) (hp : pc + 3 = q) (hw : am_nw μ.1.cls idx 6) (hn : ¬ z < 0) (hN : z.toNatClampNeg = N') (hN9 : N' ≤ 1000) (hlt : n < 1000) (h1 : g0K.getD n 0 = 3) (h2 : g0L.getD n 0 = N') (k : C0 μ d b1 b2 (n + 1) (XS n O) m q ls (.ref n :: st) Q) : C0 μ d (b1 + 1) (b2 + N') n (XS n O) m pc ls (.int z :: st) Q := by
  refine aw_newA q hd hp hw hn hN hN9 hlt ?_
  rw [gs_gN h1 h2, show (GS n).1 = n from rfl, ← RF_new (n := n) (O := O), row_id]
  exact k
theorem cz_putF (q : Nat) (X' : Nat → Bool) {idx c0 j r i : Nat} (hd : decode μ.2.1 pc = .ok (.putfield idx, 3)) (hp : pc + 3 = q) (hf : am_F μ.1.cls idx c0 j true) (hl : Cond.fieldLink μ.1.cls idx (am_T c0 j).1 (am_T c0 j).2.1 (am_T c0 j).2.2.1 ∈ am_g) (hfin : (am_T c0 j).2.2.2 = true) (hi9 : μ.1.name = "<init>") (hdc : (am_T c0 j).1 = μ.1.cls) (ho : am_ob (GS n) r c0) (hr : RR f0 r j = some i) (h1 : X' i = true) (h2 : ∀ u, u ≠ i → X' u = X u) (k : C0 μ d b1 b2 n X' m q ls st Q) : C0 μ d b1 b2 n X m pc ls (.ref i :: .ref r :: st) Q := by
  refine aw_putF q hd hp hf hl hfin hi9 hdc ho ?_
  rw [RF_put hr h1 h2]
  exact k
theorem cz_aast (q : Nat) (X' : Nat → Bool) {r N a : Nat} {i : Int32} {j : Nat} (hd : decode μ.2.1 pc = .ok (.aastore, 1)) (hp : pc + 1 = q) (ha : am_ar (GS n) r 3 N) (hi : ix i N j) (ho : am_ob (GS n) a 6) (hr : RR f0 r j = some a) (h1 : X' a = true) (h2 : ∀ u, u ≠ a → X' u = X u) (k : C0 μ d b1 b2 n X' m q ls st Q) : C0 μ d b1 b2 n X m pc ls (.ref a :: .int i :: .ref r :: st) Q := by
  refine aw_aast q hd hp ha hi.1 ho ?_
  rw [hi.2, RF_put hr h1 h2]
  exact k
theorem cz_getO (q : Nat) {idx c0 j r : Nat} (i : Nat) (hd : decode μ.2.1 pc = .ok (.getfield idx, 3)) (hp : pc + 3 = q) (hf : am_F μ.1.cls idx c0 j true) (ho : am_ob (GS n) r c0) (hr : RR f0 r j = some i) (hx : X i = true) (k : C0 μ d b1 b2 n X m q ls (.ref i :: st) Q) : C0 μ d b1 b2 n X m pc ls (.ref r :: st) Q := aw_getO q hd hp hf ho (RF_get hr hx) k
theorem cz_putI (q m' : Nat) {idx c0 j r : Nat} {x : Int32} (hd : decode μ.2.1 pc = .ok (.putfield idx, 3)) (hp : pc + 3 = q) (hf : am_F μ.1.cls idx c0 j false) (hfin : (am_T c0 j).2.2.2 = false) (hft : fits (am_ty c0 j) (.int x) = true) (ho : am_ob (GS n) r c0) (hM : am_up (MZ m) r j x = MZ m') (k : C0 μ d b1 b2 n X m' q ls st Q) : C0 μ d b1 b2 n X m pc ls (.int x :: .ref r :: st) Q := by
  refine aw_putI q hd hp hf hfin hft ho ?_
  rw [hM]
  exact k
theorem cz_callI (q b1 b2 : Nat) {μ' : am_M} {idx d' mc' ms' r n' m' : Nat} {X' : Nat → Bool} {rest : List Value} (hd : decode μ.2.1 pc = .ok (.invokespecial idx, 3)) (hp : pc + 3 = q) (hlk : am_lk μ.1.cls idx μ'.1) (hm : am_mI μ' 0) (ho : r < n) (hC : CC μ' d' mc' ms' [.ref r] n X m n' X' m') (hst : st = .ref r :: rest) (hd9 : d' + 1 ≤ d) (hct : (rest.map fun v => v.category).sum ≤ 8) (k : C0 μ d b1 b2 n' X' m' q ls rest Q) : C0 μ d (b1 + mc') (b2 + ms') n X m pc ls st Q :=
  aw_callI q hd hp hlk hm ho hC rfl hst hd9 hct (fun v g' M' V' R' _ ⟨h1, h2, h3, h4, h5⟩ => by subst h1; subst h2; subst h3; subst h4; subst h5; exact k)
theorem cz_callV (q b1 b2 : Nat) {μ' : am_M} {idx d' mc' ms' c0 r n' m' : Nat} {X' : Nat → Bool} {rest : List Value} (hd : decode μ.2.1 pc = .ok (.invokevirtual idx, 3)) (hp : pc + 3 = q) (hlk : am_lk μ.1.cls idx μ'.1) (hm : am_mV μ' 0 c0) (ho : am_ob (GS n) r c0) (hC : CC μ' d' mc' ms' [.ref r] n X m n' X' m') (hst : st = .ref r :: rest) (hd9 : d' + 1 ≤ d) (hct : (rest.map fun v => v.category).sum ≤ 8) (k : C0 μ d b1 b2 n' X' m' q ls rest Q) : C0 μ d (b1 + mc') (b2 + ms') n X m pc ls st Q :=
  aw_callV q hd hp hlk hm ho hC rfl hst hd9 hct (fun v g' M' V' R' _ ⟨h1, h2, h3, h4, h5⟩ => by subst h1; subst h2; subst h3; subst h4; subst h5; exact k)
theorem cz_vret {n' m' : Nat} {X' : Nat → Bool} (hd : decode μ.2.1 pc = .ok (.return_, 1)) (hn : μ.2.2.2 = none) (h1 : n = n') (h2 : m = m') (h3 : X = X') : C0 μ d 0 b2 n X m pc ls [] (fun v g' M' V' R' => v = none ∧ g' = GS n' ∧ M' = MZ m' ∧ V' = VZ ∧ R' = RF X') := by
  subst h1; subst h2; subst h3
  exact aw_vret hd hn ⟨rfl, rfl, rfl, rfl, rfl⟩
theorem CC.of {mc ms n' m' k9 : Nat} {X' : Nat → Bool} {av : List Value} (hm : am_m μ k9) (ls : List (Option Value)) (hl : ∀ g : Nat → Nat, am_ent μ.2.2.1 (av.map (am_cv g)) (ls.map (fun o => o.map (am_cv g)))) (k : C0 μ d mc ms n X m 0 ls [] (fun v g' M' V' R' => v = none ∧ g' = GS n' ∧ M' = MZ m' ∧ V' = VZ ∧ R' = RF X')) : CC μ d mc ms av n X m n' X' m' := Ct.of hm.1 hm.2.1 ls hl k
end C0R
theorem XS_put {n : Nat} {O : List Nat} (h : O.contains n = false) : XS (n + 1) O n = true ∧ ∀ u, u ≠ n → XS (n + 1) O u = XS n O u := by
  unfold XS
  refine ⟨by rw [h]; simp, fun u hu => ?_⟩
  by_cases h1 : u < n
  · rw [decide_eq_true h1, decide_eq_true (show u < n + 1 by omega)]
  · rw [decide_eq_false h1, decide_eq_false (show ¬ u < n + 1 by omega)]
theorem XS_pop {n t : Nat} {O : List Nat} (h : t < n) (h2 : O.contains t = false) : XS n O t = true ∧ ∀ u, u ≠ t → XS n O u = XS n (t :: O) u := by
  unfold XS
  refine ⟨by rw [h2, decide_eq_true h]; rfl, fun u hu => ?_⟩
  rw [List.contains_cons, show (u == t) = false from beq_eq_false_iff_ne.mpr hu, Bool.false_or]
theorem XS_op {n : Nat} {O : List Nat} (h : O.contains n = false) : XS n O = XS (n + 1) (n :: O) := by
  funext u
  unfold XS
  rw [List.contains_cons]
  by_cases hu : u = n
  · subst hu
    rw [decide_eq_false (Nat.lt_irrefl u)]
    simp
  · rw [show (u == n) = false from beq_eq_false_iff_ne.mpr hu, Bool.false_or]
    by_cases h1 : u < n
    · rw [decide_eq_true h1, decide_eq_true (show u < n + 1 by omega)]
    · rw [decide_eq_false h1, decide_eq_false (show ¬ u < n + 1 by omega)]
theorem MZ_put0 {m r j : Nat} (h : m ≤ r ∨ ([7, 17, 29, 39, 49, 59, 69, 79, 100, 110] : List Nat).contains r = false) (h9 : True) : am_up (MZ m) r j 0 = MZ m := by
  funext i k
  unfold am_up
  by_cases hi : i = r
  · by_cases hk : k = j
    · rw [if_pos hi, if_pos hk]
      unfold MZ
      rw [if_neg]
      subst hi
      rintro ⟨q1, q2⟩
      rcases h with h | h
      · omega
      · rw [h] at q2; cases q2
    · rw [if_pos hi, if_neg hk]
  · rw [if_neg hi]
theorem MZ_bare {m b : Nat} (hm : m ≤ b) (hb : ([7, 17, 29, 39, 49, 59, 69, 79, 100, 110] : List Nat).contains b = true) (hn : ∀ i, i < b → m ≤ i → ([7, 17, 29, 39, 49, 59, 69, 79, 100, 110] : List Nat).contains i = false) : am_up (am_up (am_up (am_up (am_up (am_up (MZ m) b 0 20) b 1 10) b 2 0) b 3 0) b 4 0) b 5 0 = MZ (b + 1) := by
  funext i k
  by_cases hi : i = b
  · subst hi
    have e1 : MZ (i + 1) i k = if k = 0 then 20 else if k = 1 then 10 else 0 := by unfold MZ; rw [if_pos ⟨by omega, hb⟩]
    rw [e1]
    simp only [am_up, if_true]
    rw [MZ_row hm]
    rcases (show k = 0 ∨ k = 1 ∨ k = 2 ∨ k = 3 ∨ k = 4 ∨ k = 5 ∨ 6 ≤ k by omega) with rfl | rfl | rfl | rfl | rfl | rfl | h
    · rfl
    · rfl
    · rfl
    · rfl
    · rfl
    · rfl
    · rw [if_neg (by omega), if_neg (by omega), if_neg (by omega), if_neg (by omega), if_neg (by omega), if_neg (by omega), if_neg (by omega), if_neg (by omega)]
  · simp only [am_up, if_neg hi]
    unfold MZ
    by_cases h1 : i < m
    · simp [h1, show i < b + 1 by omega]
    · by_cases h2 : i < b
      · rw [if_neg (fun q => h1 q.1), if_neg (fun q => by have := hn i h2 (by omega); rw [this] at q; cases q.2)]
      · rw [if_neg (fun q => h1 q.1), if_neg (fun q => by omega)]
theorem z6_bare_7 {O : List Nat} : CC m6_makeBare 1 0 0 [.ref 7] 17 (XS 17 O) 0 17 (XS 17 O) 8 := by
  refine Ct.of m6_makeBare_V.1.1 m6_makeBare_V.1.2.1 _ (en_a_1 7) ?_
  refine aw_aload_n 1 dX6_makeBare_0 rfl rfl ?_
  refine aw_bipush 3 dX6_makeBare_1 rfl (v := 20) (by decide) ?_
  refine aw_putI 6 dX6_makeBare_3 rfl fl6_42 rfl rfl ⟨by decide, rfl⟩ ?_
  refine aw_aload_n 7 dX6_makeBare_6 rfl rfl ?_
  refine aw_bipush 9 dX6_makeBare_7 rfl (v := 10) (by decide) ?_
  refine aw_putI 12 dX6_makeBare_9 rfl fl6_46 rfl rfl ⟨by decide, rfl⟩ ?_
  refine aw_aload_n 13 dX6_makeBare_12 rfl rfl ?_
  refine aw_iconst 14 dX6_makeBare_13 rfl (v := 0) (by decide) ?_
  refine aw_putI 17 dX6_makeBare_14 rfl fl6_49 rfl rfl ⟨by decide, rfl⟩ ?_
  refine aw_aload_n 18 dX6_makeBare_17 rfl rfl ?_
  refine aw_iconst 19 dX6_makeBare_18 rfl (v := 0) (by decide) ?_
  refine aw_putI 22 dX6_makeBare_19 rfl fl6_52 rfl rfl ⟨by decide, rfl⟩ ?_
  refine aw_aload_n 23 dX6_makeBare_22 rfl rfl ?_
  refine aw_iconst 24 dX6_makeBare_23 rfl (v := 0) (by decide) ?_
  refine aw_putI 27 dX6_makeBare_24 rfl fl6_55 rfl rfl ⟨by decide, rfl⟩ ?_
  refine aw_aload_n 28 dX6_makeBare_27 rfl rfl ?_
  refine aw_iconst 29 dX6_makeBare_28 rfl (v := 0) (by decide) ?_
  refine aw_putI 32 dX6_makeBare_29 rfl fl6_58 rfl rfl ⟨by decide, rfl⟩ ?_
  exact aw_vret dX6_makeBare_32 rfl ⟨rfl, rfl, MZ_bare (by decide) (by decide) (by decide), rfl, rfl⟩
theorem z6_bare_17 {O : List Nat} : CC m6_makeBare 1 0 0 [.ref 17] 27 (XS 27 O) 8 27 (XS 27 O) 18 := by
  refine Ct.of m6_makeBare_V.1.1 m6_makeBare_V.1.2.1 _ (en_a_1 17) ?_
  refine aw_aload_n 1 dX6_makeBare_0 rfl rfl ?_
  refine aw_bipush 3 dX6_makeBare_1 rfl (v := 20) (by decide) ?_
  refine aw_putI 6 dX6_makeBare_3 rfl fl6_42 rfl rfl ⟨by decide, rfl⟩ ?_
  refine aw_aload_n 7 dX6_makeBare_6 rfl rfl ?_
  refine aw_bipush 9 dX6_makeBare_7 rfl (v := 10) (by decide) ?_
  refine aw_putI 12 dX6_makeBare_9 rfl fl6_46 rfl rfl ⟨by decide, rfl⟩ ?_
  refine aw_aload_n 13 dX6_makeBare_12 rfl rfl ?_
  refine aw_iconst 14 dX6_makeBare_13 rfl (v := 0) (by decide) ?_
  refine aw_putI 17 dX6_makeBare_14 rfl fl6_49 rfl rfl ⟨by decide, rfl⟩ ?_
  refine aw_aload_n 18 dX6_makeBare_17 rfl rfl ?_
  refine aw_iconst 19 dX6_makeBare_18 rfl (v := 0) (by decide) ?_
  refine aw_putI 22 dX6_makeBare_19 rfl fl6_52 rfl rfl ⟨by decide, rfl⟩ ?_
  refine aw_aload_n 23 dX6_makeBare_22 rfl rfl ?_
  refine aw_iconst 24 dX6_makeBare_23 rfl (v := 0) (by decide) ?_
  refine aw_putI 27 dX6_makeBare_24 rfl fl6_55 rfl rfl ⟨by decide, rfl⟩ ?_
  refine aw_aload_n 28 dX6_makeBare_27 rfl rfl ?_
  refine aw_iconst 29 dX6_makeBare_28 rfl (v := 0) (by decide) ?_
  refine aw_putI 32 dX6_makeBare_29 rfl fl6_58 rfl rfl ⟨by decide, rfl⟩ ?_
  exact aw_vret dX6_makeBare_32 rfl ⟨rfl, rfl, MZ_bare (by decide) (by decide) (by decide), rfl, rfl⟩
theorem z6_bare_29 {O : List Nat} : CC m6_makeBare 1 0 0 [.ref 29] 39 (XS 39 O) 18 39 (XS 39 O) 30 := by
  refine Ct.of m6_makeBare_V.1.1 m6_makeBare_V.1.2.1 _ (en_a_1 29) ?_
  refine aw_aload_n 1 dX6_makeBare_0 rfl rfl ?_
  refine aw_bipush 3 dX6_makeBare_1 rfl (v := 20) (by decide) ?_
  refine aw_putI 6 dX6_makeBare_3 rfl fl6_42 rfl rfl ⟨by decide, rfl⟩ ?_
  refine aw_aload_n 7 dX6_makeBare_6 rfl rfl ?_
  refine aw_bipush 9 dX6_makeBare_7 rfl (v := 10) (by decide) ?_
  refine aw_putI 12 dX6_makeBare_9 rfl fl6_46 rfl rfl ⟨by decide, rfl⟩ ?_
  refine aw_aload_n 13 dX6_makeBare_12 rfl rfl ?_
  refine aw_iconst 14 dX6_makeBare_13 rfl (v := 0) (by decide) ?_
  refine aw_putI 17 dX6_makeBare_14 rfl fl6_49 rfl rfl ⟨by decide, rfl⟩ ?_
  refine aw_aload_n 18 dX6_makeBare_17 rfl rfl ?_
  refine aw_iconst 19 dX6_makeBare_18 rfl (v := 0) (by decide) ?_
  refine aw_putI 22 dX6_makeBare_19 rfl fl6_52 rfl rfl ⟨by decide, rfl⟩ ?_
  refine aw_aload_n 23 dX6_makeBare_22 rfl rfl ?_
  refine aw_iconst 24 dX6_makeBare_23 rfl (v := 0) (by decide) ?_
  refine aw_putI 27 dX6_makeBare_24 rfl fl6_55 rfl rfl ⟨by decide, rfl⟩ ?_
  refine aw_aload_n 28 dX6_makeBare_27 rfl rfl ?_
  refine aw_iconst 29 dX6_makeBare_28 rfl (v := 0) (by decide) ?_
  refine aw_putI 32 dX6_makeBare_29 rfl fl6_58 rfl rfl ⟨by decide, rfl⟩ ?_
  exact aw_vret dX6_makeBare_32 rfl ⟨rfl, rfl, MZ_bare (by decide) (by decide) (by decide), rfl, rfl⟩
theorem z6_bare_39 {O : List Nat} : CC m6_makeBare 1 0 0 [.ref 39] 49 (XS 49 O) 30 49 (XS 49 O) 40 := by
  refine Ct.of m6_makeBare_V.1.1 m6_makeBare_V.1.2.1 _ (en_a_1 39) ?_
  refine aw_aload_n 1 dX6_makeBare_0 rfl rfl ?_
  refine aw_bipush 3 dX6_makeBare_1 rfl (v := 20) (by decide) ?_
  refine aw_putI 6 dX6_makeBare_3 rfl fl6_42 rfl rfl ⟨by decide, rfl⟩ ?_
  refine aw_aload_n 7 dX6_makeBare_6 rfl rfl ?_
  refine aw_bipush 9 dX6_makeBare_7 rfl (v := 10) (by decide) ?_
  refine aw_putI 12 dX6_makeBare_9 rfl fl6_46 rfl rfl ⟨by decide, rfl⟩ ?_
  refine aw_aload_n 13 dX6_makeBare_12 rfl rfl ?_
  refine aw_iconst 14 dX6_makeBare_13 rfl (v := 0) (by decide) ?_
  refine aw_putI 17 dX6_makeBare_14 rfl fl6_49 rfl rfl ⟨by decide, rfl⟩ ?_
  refine aw_aload_n 18 dX6_makeBare_17 rfl rfl ?_
  refine aw_iconst 19 dX6_makeBare_18 rfl (v := 0) (by decide) ?_
  refine aw_putI 22 dX6_makeBare_19 rfl fl6_52 rfl rfl ⟨by decide, rfl⟩ ?_
  refine aw_aload_n 23 dX6_makeBare_22 rfl rfl ?_
  refine aw_iconst 24 dX6_makeBare_23 rfl (v := 0) (by decide) ?_
  refine aw_putI 27 dX6_makeBare_24 rfl fl6_55 rfl rfl ⟨by decide, rfl⟩ ?_
  refine aw_aload_n 28 dX6_makeBare_27 rfl rfl ?_
  refine aw_iconst 29 dX6_makeBare_28 rfl (v := 0) (by decide) ?_
  refine aw_putI 32 dX6_makeBare_29 rfl fl6_58 rfl rfl ⟨by decide, rfl⟩ ?_
  exact aw_vret dX6_makeBare_32 rfl ⟨rfl, rfl, MZ_bare (by decide) (by decide) (by decide), rfl, rfl⟩
theorem z6_bare_49 {O : List Nat} : CC m6_makeBare 1 0 0 [.ref 49] 59 (XS 59 O) 40 59 (XS 59 O) 50 := by
  refine Ct.of m6_makeBare_V.1.1 m6_makeBare_V.1.2.1 _ (en_a_1 49) ?_
  refine aw_aload_n 1 dX6_makeBare_0 rfl rfl ?_
  refine aw_bipush 3 dX6_makeBare_1 rfl (v := 20) (by decide) ?_
  refine aw_putI 6 dX6_makeBare_3 rfl fl6_42 rfl rfl ⟨by decide, rfl⟩ ?_
  refine aw_aload_n 7 dX6_makeBare_6 rfl rfl ?_
  refine aw_bipush 9 dX6_makeBare_7 rfl (v := 10) (by decide) ?_
  refine aw_putI 12 dX6_makeBare_9 rfl fl6_46 rfl rfl ⟨by decide, rfl⟩ ?_
  refine aw_aload_n 13 dX6_makeBare_12 rfl rfl ?_
  refine aw_iconst 14 dX6_makeBare_13 rfl (v := 0) (by decide) ?_
  refine aw_putI 17 dX6_makeBare_14 rfl fl6_49 rfl rfl ⟨by decide, rfl⟩ ?_
  refine aw_aload_n 18 dX6_makeBare_17 rfl rfl ?_
  refine aw_iconst 19 dX6_makeBare_18 rfl (v := 0) (by decide) ?_
  refine aw_putI 22 dX6_makeBare_19 rfl fl6_52 rfl rfl ⟨by decide, rfl⟩ ?_
  refine aw_aload_n 23 dX6_makeBare_22 rfl rfl ?_
  refine aw_iconst 24 dX6_makeBare_23 rfl (v := 0) (by decide) ?_
  refine aw_putI 27 dX6_makeBare_24 rfl fl6_55 rfl rfl ⟨by decide, rfl⟩ ?_
  refine aw_aload_n 28 dX6_makeBare_27 rfl rfl ?_
  refine aw_iconst 29 dX6_makeBare_28 rfl (v := 0) (by decide) ?_
  refine aw_putI 32 dX6_makeBare_29 rfl fl6_58 rfl rfl ⟨by decide, rfl⟩ ?_
  exact aw_vret dX6_makeBare_32 rfl ⟨rfl, rfl, MZ_bare (by decide) (by decide) (by decide), rfl, rfl⟩
theorem z6_bare_59 {O : List Nat} : CC m6_makeBare 1 0 0 [.ref 59] 69 (XS 69 O) 50 69 (XS 69 O) 60 := by
  refine Ct.of m6_makeBare_V.1.1 m6_makeBare_V.1.2.1 _ (en_a_1 59) ?_
  refine aw_aload_n 1 dX6_makeBare_0 rfl rfl ?_
  refine aw_bipush 3 dX6_makeBare_1 rfl (v := 20) (by decide) ?_
  refine aw_putI 6 dX6_makeBare_3 rfl fl6_42 rfl rfl ⟨by decide, rfl⟩ ?_
  refine aw_aload_n 7 dX6_makeBare_6 rfl rfl ?_
  refine aw_bipush 9 dX6_makeBare_7 rfl (v := 10) (by decide) ?_
  refine aw_putI 12 dX6_makeBare_9 rfl fl6_46 rfl rfl ⟨by decide, rfl⟩ ?_
  refine aw_aload_n 13 dX6_makeBare_12 rfl rfl ?_
  refine aw_iconst 14 dX6_makeBare_13 rfl (v := 0) (by decide) ?_
  refine aw_putI 17 dX6_makeBare_14 rfl fl6_49 rfl rfl ⟨by decide, rfl⟩ ?_
  refine aw_aload_n 18 dX6_makeBare_17 rfl rfl ?_
  refine aw_iconst 19 dX6_makeBare_18 rfl (v := 0) (by decide) ?_
  refine aw_putI 22 dX6_makeBare_19 rfl fl6_52 rfl rfl ⟨by decide, rfl⟩ ?_
  refine aw_aload_n 23 dX6_makeBare_22 rfl rfl ?_
  refine aw_iconst 24 dX6_makeBare_23 rfl (v := 0) (by decide) ?_
  refine aw_putI 27 dX6_makeBare_24 rfl fl6_55 rfl rfl ⟨by decide, rfl⟩ ?_
  refine aw_aload_n 28 dX6_makeBare_27 rfl rfl ?_
  refine aw_iconst 29 dX6_makeBare_28 rfl (v := 0) (by decide) ?_
  refine aw_putI 32 dX6_makeBare_29 rfl fl6_58 rfl rfl ⟨by decide, rfl⟩ ?_
  exact aw_vret dX6_makeBare_32 rfl ⟨rfl, rfl, MZ_bare (by decide) (by decide) (by decide), rfl, rfl⟩
theorem z6_bare_69 {O : List Nat} : CC m6_makeBare 1 0 0 [.ref 69] 79 (XS 79 O) 60 79 (XS 79 O) 70 := by
  refine Ct.of m6_makeBare_V.1.1 m6_makeBare_V.1.2.1 _ (en_a_1 69) ?_
  refine aw_aload_n 1 dX6_makeBare_0 rfl rfl ?_
  refine aw_bipush 3 dX6_makeBare_1 rfl (v := 20) (by decide) ?_
  refine aw_putI 6 dX6_makeBare_3 rfl fl6_42 rfl rfl ⟨by decide, rfl⟩ ?_
  refine aw_aload_n 7 dX6_makeBare_6 rfl rfl ?_
  refine aw_bipush 9 dX6_makeBare_7 rfl (v := 10) (by decide) ?_
  refine aw_putI 12 dX6_makeBare_9 rfl fl6_46 rfl rfl ⟨by decide, rfl⟩ ?_
  refine aw_aload_n 13 dX6_makeBare_12 rfl rfl ?_
  refine aw_iconst 14 dX6_makeBare_13 rfl (v := 0) (by decide) ?_
  refine aw_putI 17 dX6_makeBare_14 rfl fl6_49 rfl rfl ⟨by decide, rfl⟩ ?_
  refine aw_aload_n 18 dX6_makeBare_17 rfl rfl ?_
  refine aw_iconst 19 dX6_makeBare_18 rfl (v := 0) (by decide) ?_
  refine aw_putI 22 dX6_makeBare_19 rfl fl6_52 rfl rfl ⟨by decide, rfl⟩ ?_
  refine aw_aload_n 23 dX6_makeBare_22 rfl rfl ?_
  refine aw_iconst 24 dX6_makeBare_23 rfl (v := 0) (by decide) ?_
  refine aw_putI 27 dX6_makeBare_24 rfl fl6_55 rfl rfl ⟨by decide, rfl⟩ ?_
  refine aw_aload_n 28 dX6_makeBare_27 rfl rfl ?_
  refine aw_iconst 29 dX6_makeBare_28 rfl (v := 0) (by decide) ?_
  refine aw_putI 32 dX6_makeBare_29 rfl fl6_58 rfl rfl ⟨by decide, rfl⟩ ?_
  exact aw_vret dX6_makeBare_32 rfl ⟨rfl, rfl, MZ_bare (by decide) (by decide) (by decide), rfl, rfl⟩
theorem z6_bare_79 {O : List Nat} : CC m6_makeBare 1 0 0 [.ref 79] 89 (XS 89 O) 70 89 (XS 89 O) 80 := by
  refine Ct.of m6_makeBare_V.1.1 m6_makeBare_V.1.2.1 _ (en_a_1 79) ?_
  refine aw_aload_n 1 dX6_makeBare_0 rfl rfl ?_
  refine aw_bipush 3 dX6_makeBare_1 rfl (v := 20) (by decide) ?_
  refine aw_putI 6 dX6_makeBare_3 rfl fl6_42 rfl rfl ⟨by decide, rfl⟩ ?_
  refine aw_aload_n 7 dX6_makeBare_6 rfl rfl ?_
  refine aw_bipush 9 dX6_makeBare_7 rfl (v := 10) (by decide) ?_
  refine aw_putI 12 dX6_makeBare_9 rfl fl6_46 rfl rfl ⟨by decide, rfl⟩ ?_
  refine aw_aload_n 13 dX6_makeBare_12 rfl rfl ?_
  refine aw_iconst 14 dX6_makeBare_13 rfl (v := 0) (by decide) ?_
  refine aw_putI 17 dX6_makeBare_14 rfl fl6_49 rfl rfl ⟨by decide, rfl⟩ ?_
  refine aw_aload_n 18 dX6_makeBare_17 rfl rfl ?_
  refine aw_iconst 19 dX6_makeBare_18 rfl (v := 0) (by decide) ?_
  refine aw_putI 22 dX6_makeBare_19 rfl fl6_52 rfl rfl ⟨by decide, rfl⟩ ?_
  refine aw_aload_n 23 dX6_makeBare_22 rfl rfl ?_
  refine aw_iconst 24 dX6_makeBare_23 rfl (v := 0) (by decide) ?_
  refine aw_putI 27 dX6_makeBare_24 rfl fl6_55 rfl rfl ⟨by decide, rfl⟩ ?_
  refine aw_aload_n 28 dX6_makeBare_27 rfl rfl ?_
  refine aw_iconst 29 dX6_makeBare_28 rfl (v := 0) (by decide) ?_
  refine aw_putI 32 dX6_makeBare_29 rfl fl6_58 rfl rfl ⟨by decide, rfl⟩ ?_
  exact aw_vret dX6_makeBare_32 rfl ⟨rfl, rfl, MZ_bare (by decide) (by decide) (by decide), rfl, rfl⟩
theorem z6_bare_100 {O : List Nat} : CC m6_makeBare 1 0 0 [.ref 100] 110 (XS 110 O) 80 110 (XS 110 O) 101 := by
  refine Ct.of m6_makeBare_V.1.1 m6_makeBare_V.1.2.1 _ (en_a_1 100) ?_
  refine aw_aload_n 1 dX6_makeBare_0 rfl rfl ?_
  refine aw_bipush 3 dX6_makeBare_1 rfl (v := 20) (by decide) ?_
  refine aw_putI 6 dX6_makeBare_3 rfl fl6_42 rfl rfl ⟨by decide, rfl⟩ ?_
  refine aw_aload_n 7 dX6_makeBare_6 rfl rfl ?_
  refine aw_bipush 9 dX6_makeBare_7 rfl (v := 10) (by decide) ?_
  refine aw_putI 12 dX6_makeBare_9 rfl fl6_46 rfl rfl ⟨by decide, rfl⟩ ?_
  refine aw_aload_n 13 dX6_makeBare_12 rfl rfl ?_
  refine aw_iconst 14 dX6_makeBare_13 rfl (v := 0) (by decide) ?_
  refine aw_putI 17 dX6_makeBare_14 rfl fl6_49 rfl rfl ⟨by decide, rfl⟩ ?_
  refine aw_aload_n 18 dX6_makeBare_17 rfl rfl ?_
  refine aw_iconst 19 dX6_makeBare_18 rfl (v := 0) (by decide) ?_
  refine aw_putI 22 dX6_makeBare_19 rfl fl6_52 rfl rfl ⟨by decide, rfl⟩ ?_
  refine aw_aload_n 23 dX6_makeBare_22 rfl rfl ?_
  refine aw_iconst 24 dX6_makeBare_23 rfl (v := 0) (by decide) ?_
  refine aw_putI 27 dX6_makeBare_24 rfl fl6_55 rfl rfl ⟨by decide, rfl⟩ ?_
  refine aw_aload_n 28 dX6_makeBare_27 rfl rfl ?_
  refine aw_iconst 29 dX6_makeBare_28 rfl (v := 0) (by decide) ?_
  refine aw_putI 32 dX6_makeBare_29 rfl fl6_58 rfl rfl ⟨by decide, rfl⟩ ?_
  exact aw_vret dX6_makeBare_32 rfl ⟨rfl, rfl, MZ_bare (by decide) (by decide) (by decide), rfl, rfl⟩
theorem z6_bare_110 {O : List Nat} : CC m6_makeBare 1 0 0 [.ref 110] 120 (XS 120 O) 101 120 (XS 120 O) 111 := by
  refine Ct.of m6_makeBare_V.1.1 m6_makeBare_V.1.2.1 _ (en_a_1 110) ?_
  refine aw_aload_n 1 dX6_makeBare_0 rfl rfl ?_
  refine aw_bipush 3 dX6_makeBare_1 rfl (v := 20) (by decide) ?_
  refine aw_putI 6 dX6_makeBare_3 rfl fl6_42 rfl rfl ⟨by decide, rfl⟩ ?_
  refine aw_aload_n 7 dX6_makeBare_6 rfl rfl ?_
  refine aw_bipush 9 dX6_makeBare_7 rfl (v := 10) (by decide) ?_
  refine aw_putI 12 dX6_makeBare_9 rfl fl6_46 rfl rfl ⟨by decide, rfl⟩ ?_
  refine aw_aload_n 13 dX6_makeBare_12 rfl rfl ?_
  refine aw_iconst 14 dX6_makeBare_13 rfl (v := 0) (by decide) ?_
  refine aw_putI 17 dX6_makeBare_14 rfl fl6_49 rfl rfl ⟨by decide, rfl⟩ ?_
  refine aw_aload_n 18 dX6_makeBare_17 rfl rfl ?_
  refine aw_iconst 19 dX6_makeBare_18 rfl (v := 0) (by decide) ?_
  refine aw_putI 22 dX6_makeBare_19 rfl fl6_52 rfl rfl ⟨by decide, rfl⟩ ?_
  refine aw_aload_n 23 dX6_makeBare_22 rfl rfl ?_
  refine aw_iconst 24 dX6_makeBare_23 rfl (v := 0) (by decide) ?_
  refine aw_putI 27 dX6_makeBare_24 rfl fl6_55 rfl rfl ⟨by decide, rfl⟩ ?_
  refine aw_aload_n 28 dX6_makeBare_27 rfl rfl ?_
  refine aw_iconst 29 dX6_makeBare_28 rfl (v := 0) (by decide) ?_
  refine aw_putI 32 dX6_makeBare_29 rfl fl6_58 rfl rfl ⟨by decide, rfl⟩ ?_
  exact aw_vret dX6_makeBare_32 rfl ⟨rfl, rfl, MZ_bare (by decide) (by decide) (by decide), rfl, rfl⟩
set_option maxRecDepth 20000 in
theorem z_m5_init_3 : CC m5_init 2 3 363 [.ref 3] 4 (XS 4 [3, 2]) 0 7 (XS 7 [3, 2]) 0 := by
  refine CC.of m5_init_I.1 _ (en_a_1 3) ?_
  refine cz_aload_n 1 dX5_init_0 rfl rfl ?_
  refine cz_obj 4 dX5_init_1 rfl lkj5_3 (by decide) (Nat.le_of_ble_eq_true rfl) ?_
  refine cz_aload_n 5 dX5_init_4 rfl rfl ?_
  refine cz_bipush 7 121 dX5_init_5 rfl (by decide) ?_
  refine cz_newI 9 2 242 121 dX5_init_7 rfl (by decide) (by decide) (by decide) (by decide) rfl rfl (by decide) ?_
  refine cz_putF 12 (XS 5 [3, 2]) dX5_init_9 rfl fl5_11 flo5_11 rfl rfl rfl ⟨by decide, rfl⟩ rfl (XS_put (n := 4) (by decide)).1 (XS_put (n := 4) (by decide)).2 ?_
  refine cz_aload_n 13 dX5_init_12 rfl rfl ?_
  refine cz_bipush 15 121 dX5_init_13 rfl (by decide) ?_
  refine cz_newI 17 1 121 121 dX5_init_15 rfl (by decide) (by decide) (by decide) (by decide) rfl rfl (by decide) ?_
  refine cz_putF 20 (XS 6 [3, 2]) dX5_init_17 rfl fl5_15 flo5_15 rfl rfl rfl ⟨by decide, rfl⟩ rfl (XS_put (n := 5) (by decide)).1 (XS_put (n := 5) (by decide)).2 ?_
  refine cz_aload_n 21 dX5_init_20 rfl rfl ?_
  refine cz_bipush 23 121 dX5_init_21 rfl (by decide) ?_
  refine cz_newI 25 0 0 121 dX5_init_23 rfl (by decide) (by decide) (by decide) (by decide) rfl rfl (by decide) ?_
  refine cz_putF 28 (XS 7 [3, 2]) dX5_init_25 rfl fl5_18 flo5_18 rfl rfl rfl ⟨by decide, rfl⟩ rfl (XS_put (n := 6) (by decide)).1 (XS_put (n := 6) (by decide)).2 ?_
  exact cz_vret dX5_init_28 rfl rfl rfl rfl
set_option maxRecDepth 20000 in
theorem z_m2_init_2 : CC m2_init 3 4 367 [.ref 2] 3 (XS 3 [2]) 0 7 (XS 7 [2]) 0 := by
  refine CC.of m2_init_I.1 _ (en_a_1 2) ?_
  refine cz_aload_n 1 dX2_init_0 rfl rfl ?_
  refine cz_obj 4 dX2_init_1 rfl lkj2_3 (by decide) (Nat.le_of_ble_eq_true rfl) ?_
  refine cz_aload_n 5 dX2_init_4 rfl rfl ?_
  refine cz_new (O := [2]) 8 3 363 5 dX2_init_5 rfl nw2_9 (by decide) rfl rfl (by decide) ?_
  rw [XS_op (n := 3) (O := [2]) (by decide)]
  refine cz_dup 9 dX2_init_8 rfl rfl ?_
  refine cz_callI (μ' := m5_init) 12 0 0 dX2_init_9 rfl lk2_11 m5_init_I (by decide) z_m5_init_3 rfl (by decide) (Nat.le_of_ble_eq_true rfl) ?_
  refine cz_putF 15 (XS 7 [2]) dX2_init_12 rfl fl2_12 flo2_12 rfl rfl rfl ⟨by decide, rfl⟩ rfl (XS_pop (t := 3) (by decide) (by decide)).1 (XS_pop (t := 3) (by decide) (by decide)).2 ?_
  exact cz_vret dX2_init_15 rfl rfl rfl rfl
set_option maxRecDepth 20000 in
theorem z_m6_init_7 : CC m6_init 2 9 63 [.ref 7] 8 (XS 8 [7]) 0 17 (XS 17 [7]) 8 := by
  refine CC.of m6_init_I.1 _ (en_a_1 7) ?_
  refine cz_aload_n 1 dX6_init_0 rfl rfl ?_
  refine cz_obj 4 dX6_init_1 rfl lkj6_3 (by decide) (Nat.le_of_ble_eq_true rfl) ?_
  refine cz_aload_n 5 dX6_init_4 rfl rfl ?_
  refine cz_iconst 6 5 dX6_init_5 rfl (by decide) ?_
  refine cz_newI 8 8 58 5 dX6_init_6 rfl (by decide) (by decide) (by decide) (by decide) rfl rfl (by decide) ?_
  refine cz_putF 11 (XS 9 [7]) dX6_init_8 rfl fl6_9 flo6_9 rfl rfl rfl ⟨by decide, rfl⟩ rfl (XS_put (n := 8) (by decide)).1 (XS_put (n := 8) (by decide)).2 ?_
  refine cz_aload_n 12 dX6_init_11 rfl rfl ?_
  refine cz_iconst 13 5 dX6_init_12 rfl (by decide) ?_
  refine cz_newI 15 7 53 5 dX6_init_13 rfl (by decide) (by decide) (by decide) (by decide) rfl rfl (by decide) ?_
  refine cz_putF 18 (XS 10 [7]) dX6_init_15 rfl fl6_15 flo6_15 rfl rfl rfl ⟨by decide, rfl⟩ rfl (XS_put (n := 9) (by decide)).1 (XS_put (n := 9) (by decide)).2 ?_
  refine cz_aload_n 19 dX6_init_18 rfl rfl ?_
  refine cz_iconst 20 5 dX6_init_19 rfl (by decide) ?_
  refine cz_newI 22 6 48 5 dX6_init_20 rfl (by decide) (by decide) (by decide) (by decide) rfl rfl (by decide) ?_
  refine cz_putF 25 (XS 11 [7]) dX6_init_22 rfl fl6_18 flo6_18 rfl rfl rfl ⟨by decide, rfl⟩ rfl (XS_put (n := 10) (by decide)).1 (XS_put (n := 10) (by decide)).2 ?_
  refine cz_aload_n 26 dX6_init_25 rfl rfl ?_
  refine cz_iconst 27 5 dX6_init_26 rfl (by decide) ?_
  refine cz_newI 29 5 43 5 dX6_init_27 rfl (by decide) (by decide) (by decide) (by decide) rfl rfl (by decide) ?_
  refine cz_putF 32 (XS 12 [7]) dX6_init_29 rfl fl6_21 flo6_21 rfl rfl rfl ⟨by decide, rfl⟩ rfl (XS_put (n := 11) (by decide)).1 (XS_put (n := 11) (by decide)).2 ?_
  refine cz_aload_n 33 dX6_init_32 rfl rfl ?_
  refine cz_iconst 34 5 dX6_init_33 rfl (by decide) ?_
  refine cz_newI 36 4 38 5 dX6_init_34 rfl (by decide) (by decide) (by decide) (by decide) rfl rfl (by decide) ?_
  refine cz_putF 39 (XS 13 [7]) dX6_init_36 rfl fl6_24 flo6_24 rfl rfl rfl ⟨by decide, rfl⟩ rfl (XS_put (n := 12) (by decide)).1 (XS_put (n := 12) (by decide)).2 ?_
  refine cz_aload_n 40 dX6_init_39 rfl rfl ?_
  refine cz_iconst 41 3 dX6_init_40 rfl (by decide) ?_
  refine cz_newI 43 3 35 3 dX6_init_41 rfl (by decide) (by decide) (by decide) (by decide) rfl rfl (by decide) ?_
  refine cz_putF 46 (XS 14 [7]) dX6_init_43 rfl fl6_27 flo6_27 rfl rfl rfl ⟨by decide, rfl⟩ rfl (XS_put (n := 13) (by decide)).1 (XS_put (n := 13) (by decide)).2 ?_
  refine cz_aload_n 47 dX6_init_46 rfl rfl ?_
  refine cz_iconst 48 3 dX6_init_47 rfl (by decide) ?_
  refine cz_newI 50 2 32 3 dX6_init_48 rfl (by decide) (by decide) (by decide) (by decide) rfl rfl (by decide) ?_
  refine cz_putF 53 (XS 15 [7]) dX6_init_50 rfl fl6_30 flo6_30 rfl rfl rfl ⟨by decide, rfl⟩ rfl (XS_put (n := 14) (by decide)).1 (XS_put (n := 14) (by decide)).2 ?_
  refine cz_aload_n 54 dX6_init_53 rfl rfl ?_
  refine cz_bipush 56 16 dX6_init_54 rfl (by decide) ?_
  refine cz_newI 58 1 16 16 dX6_init_56 rfl (by decide) (by decide) (by decide) (by decide) rfl rfl (by decide) ?_
  refine cz_putF 61 (XS 16 [7]) dX6_init_58 rfl fl6_33 flo6_33 rfl rfl rfl ⟨by decide, rfl⟩ rfl (XS_put (n := 15) (by decide)).1 (XS_put (n := 15) (by decide)).2 ?_
  refine cz_aload_n 62 dX6_init_61 rfl rfl ?_
  refine cz_bipush 64 16 dX6_init_62 rfl (by decide) ?_
  refine cz_newI 66 0 0 16 dX6_init_64 rfl (by decide) (by decide) (by decide) (by decide) rfl rfl (by decide) ?_
  refine cz_putF 69 (XS 17 [7]) dX6_init_66 rfl fl6_36 flo6_36 rfl rfl rfl ⟨by decide, rfl⟩ rfl (XS_put (n := 16) (by decide)).1 (XS_put (n := 16) (by decide)).2 ?_
  refine cz_aload_n 70 dX6_init_69 rfl rfl ?_
  refine cz_callV (μ' := m6_makeBare) 73 0 0 dX6_init_70 rfl lk6_39 m6_makeBare_V ⟨by decide, rfl⟩ (z6_bare_7 (O := [7])) rfl (by decide) (Nat.le_of_ble_eq_true rfl) ?_
  exact cz_vret dX6_init_73 rfl rfl rfl rfl
set_option maxRecDepth 20000 in
theorem z_m6_init_17 : CC m6_init 2 9 63 [.ref 17] 18 (XS 18 [17]) 8 27 (XS 27 [17]) 18 := by
  refine CC.of m6_init_I.1 _ (en_a_1 17) ?_
  refine cz_aload_n 1 dX6_init_0 rfl rfl ?_
  refine cz_obj 4 dX6_init_1 rfl lkj6_3 (by decide) (Nat.le_of_ble_eq_true rfl) ?_
  refine cz_aload_n 5 dX6_init_4 rfl rfl ?_
  refine cz_iconst 6 5 dX6_init_5 rfl (by decide) ?_
  refine cz_newI 8 8 58 5 dX6_init_6 rfl (by decide) (by decide) (by decide) (by decide) rfl rfl (by decide) ?_
  refine cz_putF 11 (XS 19 [17]) dX6_init_8 rfl fl6_9 flo6_9 rfl rfl rfl ⟨by decide, rfl⟩ rfl (XS_put (n := 18) (by decide)).1 (XS_put (n := 18) (by decide)).2 ?_
  refine cz_aload_n 12 dX6_init_11 rfl rfl ?_
  refine cz_iconst 13 5 dX6_init_12 rfl (by decide) ?_
  refine cz_newI 15 7 53 5 dX6_init_13 rfl (by decide) (by decide) (by decide) (by decide) rfl rfl (by decide) ?_
  refine cz_putF 18 (XS 20 [17]) dX6_init_15 rfl fl6_15 flo6_15 rfl rfl rfl ⟨by decide, rfl⟩ rfl (XS_put (n := 19) (by decide)).1 (XS_put (n := 19) (by decide)).2 ?_
  refine cz_aload_n 19 dX6_init_18 rfl rfl ?_
  refine cz_iconst 20 5 dX6_init_19 rfl (by decide) ?_
  refine cz_newI 22 6 48 5 dX6_init_20 rfl (by decide) (by decide) (by decide) (by decide) rfl rfl (by decide) ?_
  refine cz_putF 25 (XS 21 [17]) dX6_init_22 rfl fl6_18 flo6_18 rfl rfl rfl ⟨by decide, rfl⟩ rfl (XS_put (n := 20) (by decide)).1 (XS_put (n := 20) (by decide)).2 ?_
  refine cz_aload_n 26 dX6_init_25 rfl rfl ?_
  refine cz_iconst 27 5 dX6_init_26 rfl (by decide) ?_
  refine cz_newI 29 5 43 5 dX6_init_27 rfl (by decide) (by decide) (by decide) (by decide) rfl rfl (by decide) ?_
  refine cz_putF 32 (XS 22 [17]) dX6_init_29 rfl fl6_21 flo6_21 rfl rfl rfl ⟨by decide, rfl⟩ rfl (XS_put (n := 21) (by decide)).1 (XS_put (n := 21) (by decide)).2 ?_
  refine cz_aload_n 33 dX6_init_32 rfl rfl ?_
  refine cz_iconst 34 5 dX6_init_33 rfl (by decide) ?_
  refine cz_newI 36 4 38 5 dX6_init_34 rfl (by decide) (by decide) (by decide) (by decide) rfl rfl (by decide) ?_
  refine cz_putF 39 (XS 23 [17]) dX6_init_36 rfl fl6_24 flo6_24 rfl rfl rfl ⟨by decide, rfl⟩ rfl (XS_put (n := 22) (by decide)).1 (XS_put (n := 22) (by decide)).2 ?_
  refine cz_aload_n 40 dX6_init_39 rfl rfl ?_
  refine cz_iconst 41 3 dX6_init_40 rfl (by decide) ?_
  refine cz_newI 43 3 35 3 dX6_init_41 rfl (by decide) (by decide) (by decide) (by decide) rfl rfl (by decide) ?_
  refine cz_putF 46 (XS 24 [17]) dX6_init_43 rfl fl6_27 flo6_27 rfl rfl rfl ⟨by decide, rfl⟩ rfl (XS_put (n := 23) (by decide)).1 (XS_put (n := 23) (by decide)).2 ?_
  refine cz_aload_n 47 dX6_init_46 rfl rfl ?_
  refine cz_iconst 48 3 dX6_init_47 rfl (by decide) ?_
  refine cz_newI 50 2 32 3 dX6_init_48 rfl (by decide) (by decide) (by decide) (by decide) rfl rfl (by decide) ?_
  refine cz_putF 53 (XS 25 [17]) dX6_init_50 rfl fl6_30 flo6_30 rfl rfl rfl ⟨by decide, rfl⟩ rfl (XS_put (n := 24) (by decide)).1 (XS_put (n := 24) (by decide)).2 ?_
  refine cz_aload_n 54 dX6_init_53 rfl rfl ?_
  refine cz_bipush 56 16 dX6_init_54 rfl (by decide) ?_
  refine cz_newI 58 1 16 16 dX6_init_56 rfl (by decide) (by decide) (by decide) (by decide) rfl rfl (by decide) ?_
  refine cz_putF 61 (XS 26 [17]) dX6_init_58 rfl fl6_33 flo6_33 rfl rfl rfl ⟨by decide, rfl⟩ rfl (XS_put (n := 25) (by decide)).1 (XS_put (n := 25) (by decide)).2 ?_
  refine cz_aload_n 62 dX6_init_61 rfl rfl ?_
  refine cz_bipush 64 16 dX6_init_62 rfl (by decide) ?_
  refine cz_newI 66 0 0 16 dX6_init_64 rfl (by decide) (by decide) (by decide) (by decide) rfl rfl (by decide) ?_
  refine cz_putF 69 (XS 27 [17]) dX6_init_66 rfl fl6_36 flo6_36 rfl rfl rfl ⟨by decide, rfl⟩ rfl (XS_put (n := 26) (by decide)).1 (XS_put (n := 26) (by decide)).2 ?_
  refine cz_aload_n 70 dX6_init_69 rfl rfl ?_
  refine cz_callV (μ' := m6_makeBare) 73 0 0 dX6_init_70 rfl lk6_39 m6_makeBare_V ⟨by decide, rfl⟩ (z6_bare_17 (O := [17])) rfl (by decide) (Nat.le_of_ble_eq_true rfl) ?_
  exact cz_vret dX6_init_73 rfl rfl rfl rfl
set_option maxRecDepth 20000 in
theorem z_m6_init_29 : CC m6_init 2 9 63 [.ref 29] 30 (XS 30 [29, 27]) 18 39 (XS 39 [29, 27]) 30 := by
  refine CC.of m6_init_I.1 _ (en_a_1 29) ?_
  refine cz_aload_n 1 dX6_init_0 rfl rfl ?_
  refine cz_obj 4 dX6_init_1 rfl lkj6_3 (by decide) (Nat.le_of_ble_eq_true rfl) ?_
  refine cz_aload_n 5 dX6_init_4 rfl rfl ?_
  refine cz_iconst 6 5 dX6_init_5 rfl (by decide) ?_
  refine cz_newI 8 8 58 5 dX6_init_6 rfl (by decide) (by decide) (by decide) (by decide) rfl rfl (by decide) ?_
  refine cz_putF 11 (XS 31 [29, 27]) dX6_init_8 rfl fl6_9 flo6_9 rfl rfl rfl ⟨by decide, rfl⟩ rfl (XS_put (n := 30) (by decide)).1 (XS_put (n := 30) (by decide)).2 ?_
  refine cz_aload_n 12 dX6_init_11 rfl rfl ?_
  refine cz_iconst 13 5 dX6_init_12 rfl (by decide) ?_
  refine cz_newI 15 7 53 5 dX6_init_13 rfl (by decide) (by decide) (by decide) (by decide) rfl rfl (by decide) ?_
  refine cz_putF 18 (XS 32 [29, 27]) dX6_init_15 rfl fl6_15 flo6_15 rfl rfl rfl ⟨by decide, rfl⟩ rfl (XS_put (n := 31) (by decide)).1 (XS_put (n := 31) (by decide)).2 ?_
  refine cz_aload_n 19 dX6_init_18 rfl rfl ?_
  refine cz_iconst 20 5 dX6_init_19 rfl (by decide) ?_
  refine cz_newI 22 6 48 5 dX6_init_20 rfl (by decide) (by decide) (by decide) (by decide) rfl rfl (by decide) ?_
  refine cz_putF 25 (XS 33 [29, 27]) dX6_init_22 rfl fl6_18 flo6_18 rfl rfl rfl ⟨by decide, rfl⟩ rfl (XS_put (n := 32) (by decide)).1 (XS_put (n := 32) (by decide)).2 ?_
  refine cz_aload_n 26 dX6_init_25 rfl rfl ?_
  refine cz_iconst 27 5 dX6_init_26 rfl (by decide) ?_
  refine cz_newI 29 5 43 5 dX6_init_27 rfl (by decide) (by decide) (by decide) (by decide) rfl rfl (by decide) ?_
  refine cz_putF 32 (XS 34 [29, 27]) dX6_init_29 rfl fl6_21 flo6_21 rfl rfl rfl ⟨by decide, rfl⟩ rfl (XS_put (n := 33) (by decide)).1 (XS_put (n := 33) (by decide)).2 ?_
  refine cz_aload_n 33 dX6_init_32 rfl rfl ?_
  refine cz_iconst 34 5 dX6_init_33 rfl (by decide) ?_
  refine cz_newI 36 4 38 5 dX6_init_34 rfl (by decide) (by decide) (by decide) (by decide) rfl rfl (by decide) ?_
  refine cz_putF 39 (XS 35 [29, 27]) dX6_init_36 rfl fl6_24 flo6_24 rfl rfl rfl ⟨by decide, rfl⟩ rfl (XS_put (n := 34) (by decide)).1 (XS_put (n := 34) (by decide)).2 ?_
  refine cz_aload_n 40 dX6_init_39 rfl rfl ?_
  refine cz_iconst 41 3 dX6_init_40 rfl (by decide) ?_
  refine cz_newI 43 3 35 3 dX6_init_41 rfl (by decide) (by decide) (by decide) (by decide) rfl rfl (by decide) ?_
  refine cz_putF 46 (XS 36 [29, 27]) dX6_init_43 rfl fl6_27 flo6_27 rfl rfl rfl ⟨by decide, rfl⟩ rfl (XS_put (n := 35) (by decide)).1 (XS_put (n := 35) (by decide)).2 ?_
  refine cz_aload_n 47 dX6_init_46 rfl rfl ?_
  refine cz_iconst 48 3 dX6_init_47 rfl (by decide) ?_
  refine cz_newI 50 2 32 3 dX6_init_48 rfl (by decide) (by decide) (by decide) (by decide) rfl rfl (by decide) ?_
  refine cz_putF 53 (XS 37 [29, 27]) dX6_init_50 rfl fl6_30 flo6_30 rfl rfl rfl ⟨by decide, rfl⟩ rfl (XS_put (n := 36) (by decide)).1 (XS_put (n := 36) (by decide)).2 ?_
  refine cz_aload_n 54 dX6_init_53 rfl rfl ?_
  refine cz_bipush 56 16 dX6_init_54 rfl (by decide) ?_
  refine cz_newI 58 1 16 16 dX6_init_56 rfl (by decide) (by decide) (by decide) (by decide) rfl rfl (by decide) ?_
  refine cz_putF 61 (XS 38 [29, 27]) dX6_init_58 rfl fl6_33 flo6_33 rfl rfl rfl ⟨by decide, rfl⟩ rfl (XS_put (n := 37) (by decide)).1 (XS_put (n := 37) (by decide)).2 ?_
  refine cz_aload_n 62 dX6_init_61 rfl rfl ?_
  refine cz_bipush 64 16 dX6_init_62 rfl (by decide) ?_
  refine cz_newI 66 0 0 16 dX6_init_64 rfl (by decide) (by decide) (by decide) (by decide) rfl rfl (by decide) ?_
  refine cz_putF 69 (XS 39 [29, 27]) dX6_init_66 rfl fl6_36 flo6_36 rfl rfl rfl ⟨by decide, rfl⟩ rfl (XS_put (n := 38) (by decide)).1 (XS_put (n := 38) (by decide)).2 ?_
  refine cz_aload_n 70 dX6_init_69 rfl rfl ?_
  refine cz_callV (μ' := m6_makeBare) 73 0 0 dX6_init_70 rfl lk6_39 m6_makeBare_V ⟨by decide, rfl⟩ (z6_bare_29 (O := [29, 27])) rfl (by decide) (Nat.le_of_ble_eq_true rfl) ?_
  exact cz_vret dX6_init_73 rfl rfl rfl rfl
set_option maxRecDepth 20000 in
theorem z_m6_init_39 : CC m6_init 2 9 63 [.ref 39] 40 (XS 40 [39, 27]) 30 49 (XS 49 [39, 27]) 40 := by
  refine CC.of m6_init_I.1 _ (en_a_1 39) ?_
  refine cz_aload_n 1 dX6_init_0 rfl rfl ?_
  refine cz_obj 4 dX6_init_1 rfl lkj6_3 (by decide) (Nat.le_of_ble_eq_true rfl) ?_
  refine cz_aload_n 5 dX6_init_4 rfl rfl ?_
  refine cz_iconst 6 5 dX6_init_5 rfl (by decide) ?_
  refine cz_newI 8 8 58 5 dX6_init_6 rfl (by decide) (by decide) (by decide) (by decide) rfl rfl (by decide) ?_
  refine cz_putF 11 (XS 41 [39, 27]) dX6_init_8 rfl fl6_9 flo6_9 rfl rfl rfl ⟨by decide, rfl⟩ rfl (XS_put (n := 40) (by decide)).1 (XS_put (n := 40) (by decide)).2 ?_
  refine cz_aload_n 12 dX6_init_11 rfl rfl ?_
  refine cz_iconst 13 5 dX6_init_12 rfl (by decide) ?_
  refine cz_newI 15 7 53 5 dX6_init_13 rfl (by decide) (by decide) (by decide) (by decide) rfl rfl (by decide) ?_
  refine cz_putF 18 (XS 42 [39, 27]) dX6_init_15 rfl fl6_15 flo6_15 rfl rfl rfl ⟨by decide, rfl⟩ rfl (XS_put (n := 41) (by decide)).1 (XS_put (n := 41) (by decide)).2 ?_
  refine cz_aload_n 19 dX6_init_18 rfl rfl ?_
  refine cz_iconst 20 5 dX6_init_19 rfl (by decide) ?_
  refine cz_newI 22 6 48 5 dX6_init_20 rfl (by decide) (by decide) (by decide) (by decide) rfl rfl (by decide) ?_
  refine cz_putF 25 (XS 43 [39, 27]) dX6_init_22 rfl fl6_18 flo6_18 rfl rfl rfl ⟨by decide, rfl⟩ rfl (XS_put (n := 42) (by decide)).1 (XS_put (n := 42) (by decide)).2 ?_
  refine cz_aload_n 26 dX6_init_25 rfl rfl ?_
  refine cz_iconst 27 5 dX6_init_26 rfl (by decide) ?_
  refine cz_newI 29 5 43 5 dX6_init_27 rfl (by decide) (by decide) (by decide) (by decide) rfl rfl (by decide) ?_
  refine cz_putF 32 (XS 44 [39, 27]) dX6_init_29 rfl fl6_21 flo6_21 rfl rfl rfl ⟨by decide, rfl⟩ rfl (XS_put (n := 43) (by decide)).1 (XS_put (n := 43) (by decide)).2 ?_
  refine cz_aload_n 33 dX6_init_32 rfl rfl ?_
  refine cz_iconst 34 5 dX6_init_33 rfl (by decide) ?_
  refine cz_newI 36 4 38 5 dX6_init_34 rfl (by decide) (by decide) (by decide) (by decide) rfl rfl (by decide) ?_
  refine cz_putF 39 (XS 45 [39, 27]) dX6_init_36 rfl fl6_24 flo6_24 rfl rfl rfl ⟨by decide, rfl⟩ rfl (XS_put (n := 44) (by decide)).1 (XS_put (n := 44) (by decide)).2 ?_
  refine cz_aload_n 40 dX6_init_39 rfl rfl ?_
  refine cz_iconst 41 3 dX6_init_40 rfl (by decide) ?_
  refine cz_newI 43 3 35 3 dX6_init_41 rfl (by decide) (by decide) (by decide) (by decide) rfl rfl (by decide) ?_
  refine cz_putF 46 (XS 46 [39, 27]) dX6_init_43 rfl fl6_27 flo6_27 rfl rfl rfl ⟨by decide, rfl⟩ rfl (XS_put (n := 45) (by decide)).1 (XS_put (n := 45) (by decide)).2 ?_
  refine cz_aload_n 47 dX6_init_46 rfl rfl ?_
  refine cz_iconst 48 3 dX6_init_47 rfl (by decide) ?_
  refine cz_newI 50 2 32 3 dX6_init_48 rfl (by decide) (by decide) (by decide) (by decide) rfl rfl (by decide) ?_
  refine cz_putF 53 (XS 47 [39, 27]) dX6_init_50 rfl fl6_30 flo6_30 rfl rfl rfl ⟨by decide, rfl⟩ rfl (XS_put (n := 46) (by decide)).1 (XS_put (n := 46) (by decide)).2 ?_
  refine cz_aload_n 54 dX6_init_53 rfl rfl ?_
  refine cz_bipush 56 16 dX6_init_54 rfl (by decide) ?_
  refine cz_newI 58 1 16 16 dX6_init_56 rfl (by decide) (by decide) (by decide) (by decide) rfl rfl (by decide) ?_
  refine cz_putF 61 (XS 48 [39, 27]) dX6_init_58 rfl fl6_33 flo6_33 rfl rfl rfl ⟨by decide, rfl⟩ rfl (XS_put (n := 47) (by decide)).1 (XS_put (n := 47) (by decide)).2 ?_
  refine cz_aload_n 62 dX6_init_61 rfl rfl ?_
  refine cz_bipush 64 16 dX6_init_62 rfl (by decide) ?_
  refine cz_newI 66 0 0 16 dX6_init_64 rfl (by decide) (by decide) (by decide) (by decide) rfl rfl (by decide) ?_
  refine cz_putF 69 (XS 49 [39, 27]) dX6_init_66 rfl fl6_36 flo6_36 rfl rfl rfl ⟨by decide, rfl⟩ rfl (XS_put (n := 48) (by decide)).1 (XS_put (n := 48) (by decide)).2 ?_
  refine cz_aload_n 70 dX6_init_69 rfl rfl ?_
  refine cz_callV (μ' := m6_makeBare) 73 0 0 dX6_init_70 rfl lk6_39 m6_makeBare_V ⟨by decide, rfl⟩ (z6_bare_39 (O := [39, 27])) rfl (by decide) (Nat.le_of_ble_eq_true rfl) ?_
  exact cz_vret dX6_init_73 rfl rfl rfl rfl
set_option maxRecDepth 20000 in
theorem z_m6_init_49 : CC m6_init 2 9 63 [.ref 49] 50 (XS 50 [49, 27]) 40 59 (XS 59 [49, 27]) 50 := by
  refine CC.of m6_init_I.1 _ (en_a_1 49) ?_
  refine cz_aload_n 1 dX6_init_0 rfl rfl ?_
  refine cz_obj 4 dX6_init_1 rfl lkj6_3 (by decide) (Nat.le_of_ble_eq_true rfl) ?_
  refine cz_aload_n 5 dX6_init_4 rfl rfl ?_
  refine cz_iconst 6 5 dX6_init_5 rfl (by decide) ?_
  refine cz_newI 8 8 58 5 dX6_init_6 rfl (by decide) (by decide) (by decide) (by decide) rfl rfl (by decide) ?_
  refine cz_putF 11 (XS 51 [49, 27]) dX6_init_8 rfl fl6_9 flo6_9 rfl rfl rfl ⟨by decide, rfl⟩ rfl (XS_put (n := 50) (by decide)).1 (XS_put (n := 50) (by decide)).2 ?_
  refine cz_aload_n 12 dX6_init_11 rfl rfl ?_
  refine cz_iconst 13 5 dX6_init_12 rfl (by decide) ?_
  refine cz_newI 15 7 53 5 dX6_init_13 rfl (by decide) (by decide) (by decide) (by decide) rfl rfl (by decide) ?_
  refine cz_putF 18 (XS 52 [49, 27]) dX6_init_15 rfl fl6_15 flo6_15 rfl rfl rfl ⟨by decide, rfl⟩ rfl (XS_put (n := 51) (by decide)).1 (XS_put (n := 51) (by decide)).2 ?_
  refine cz_aload_n 19 dX6_init_18 rfl rfl ?_
  refine cz_iconst 20 5 dX6_init_19 rfl (by decide) ?_
  refine cz_newI 22 6 48 5 dX6_init_20 rfl (by decide) (by decide) (by decide) (by decide) rfl rfl (by decide) ?_
  refine cz_putF 25 (XS 53 [49, 27]) dX6_init_22 rfl fl6_18 flo6_18 rfl rfl rfl ⟨by decide, rfl⟩ rfl (XS_put (n := 52) (by decide)).1 (XS_put (n := 52) (by decide)).2 ?_
  refine cz_aload_n 26 dX6_init_25 rfl rfl ?_
  refine cz_iconst 27 5 dX6_init_26 rfl (by decide) ?_
  refine cz_newI 29 5 43 5 dX6_init_27 rfl (by decide) (by decide) (by decide) (by decide) rfl rfl (by decide) ?_
  refine cz_putF 32 (XS 54 [49, 27]) dX6_init_29 rfl fl6_21 flo6_21 rfl rfl rfl ⟨by decide, rfl⟩ rfl (XS_put (n := 53) (by decide)).1 (XS_put (n := 53) (by decide)).2 ?_
  refine cz_aload_n 33 dX6_init_32 rfl rfl ?_
  refine cz_iconst 34 5 dX6_init_33 rfl (by decide) ?_
  refine cz_newI 36 4 38 5 dX6_init_34 rfl (by decide) (by decide) (by decide) (by decide) rfl rfl (by decide) ?_
  refine cz_putF 39 (XS 55 [49, 27]) dX6_init_36 rfl fl6_24 flo6_24 rfl rfl rfl ⟨by decide, rfl⟩ rfl (XS_put (n := 54) (by decide)).1 (XS_put (n := 54) (by decide)).2 ?_
  refine cz_aload_n 40 dX6_init_39 rfl rfl ?_
  refine cz_iconst 41 3 dX6_init_40 rfl (by decide) ?_
  refine cz_newI 43 3 35 3 dX6_init_41 rfl (by decide) (by decide) (by decide) (by decide) rfl rfl (by decide) ?_
  refine cz_putF 46 (XS 56 [49, 27]) dX6_init_43 rfl fl6_27 flo6_27 rfl rfl rfl ⟨by decide, rfl⟩ rfl (XS_put (n := 55) (by decide)).1 (XS_put (n := 55) (by decide)).2 ?_
  refine cz_aload_n 47 dX6_init_46 rfl rfl ?_
  refine cz_iconst 48 3 dX6_init_47 rfl (by decide) ?_
  refine cz_newI 50 2 32 3 dX6_init_48 rfl (by decide) (by decide) (by decide) (by decide) rfl rfl (by decide) ?_
  refine cz_putF 53 (XS 57 [49, 27]) dX6_init_50 rfl fl6_30 flo6_30 rfl rfl rfl ⟨by decide, rfl⟩ rfl (XS_put (n := 56) (by decide)).1 (XS_put (n := 56) (by decide)).2 ?_
  refine cz_aload_n 54 dX6_init_53 rfl rfl ?_
  refine cz_bipush 56 16 dX6_init_54 rfl (by decide) ?_
  refine cz_newI 58 1 16 16 dX6_init_56 rfl (by decide) (by decide) (by decide) (by decide) rfl rfl (by decide) ?_
  refine cz_putF 61 (XS 58 [49, 27]) dX6_init_58 rfl fl6_33 flo6_33 rfl rfl rfl ⟨by decide, rfl⟩ rfl (XS_put (n := 57) (by decide)).1 (XS_put (n := 57) (by decide)).2 ?_
  refine cz_aload_n 62 dX6_init_61 rfl rfl ?_
  refine cz_bipush 64 16 dX6_init_62 rfl (by decide) ?_
  refine cz_newI 66 0 0 16 dX6_init_64 rfl (by decide) (by decide) (by decide) (by decide) rfl rfl (by decide) ?_
  refine cz_putF 69 (XS 59 [49, 27]) dX6_init_66 rfl fl6_36 flo6_36 rfl rfl rfl ⟨by decide, rfl⟩ rfl (XS_put (n := 58) (by decide)).1 (XS_put (n := 58) (by decide)).2 ?_
  refine cz_aload_n 70 dX6_init_69 rfl rfl ?_
  refine cz_callV (μ' := m6_makeBare) 73 0 0 dX6_init_70 rfl lk6_39 m6_makeBare_V ⟨by decide, rfl⟩ (z6_bare_49 (O := [49, 27])) rfl (by decide) (Nat.le_of_ble_eq_true rfl) ?_
  exact cz_vret dX6_init_73 rfl rfl rfl rfl
set_option maxRecDepth 20000 in
theorem z_m6_init_59 : CC m6_init 2 9 63 [.ref 59] 60 (XS 60 [59, 27]) 50 69 (XS 69 [59, 27]) 60 := by
  refine CC.of m6_init_I.1 _ (en_a_1 59) ?_
  refine cz_aload_n 1 dX6_init_0 rfl rfl ?_
  refine cz_obj 4 dX6_init_1 rfl lkj6_3 (by decide) (Nat.le_of_ble_eq_true rfl) ?_
  refine cz_aload_n 5 dX6_init_4 rfl rfl ?_
  refine cz_iconst 6 5 dX6_init_5 rfl (by decide) ?_
  refine cz_newI 8 8 58 5 dX6_init_6 rfl (by decide) (by decide) (by decide) (by decide) rfl rfl (by decide) ?_
  refine cz_putF 11 (XS 61 [59, 27]) dX6_init_8 rfl fl6_9 flo6_9 rfl rfl rfl ⟨by decide, rfl⟩ rfl (XS_put (n := 60) (by decide)).1 (XS_put (n := 60) (by decide)).2 ?_
  refine cz_aload_n 12 dX6_init_11 rfl rfl ?_
  refine cz_iconst 13 5 dX6_init_12 rfl (by decide) ?_
  refine cz_newI 15 7 53 5 dX6_init_13 rfl (by decide) (by decide) (by decide) (by decide) rfl rfl (by decide) ?_
  refine cz_putF 18 (XS 62 [59, 27]) dX6_init_15 rfl fl6_15 flo6_15 rfl rfl rfl ⟨by decide, rfl⟩ rfl (XS_put (n := 61) (by decide)).1 (XS_put (n := 61) (by decide)).2 ?_
  refine cz_aload_n 19 dX6_init_18 rfl rfl ?_
  refine cz_iconst 20 5 dX6_init_19 rfl (by decide) ?_
  refine cz_newI 22 6 48 5 dX6_init_20 rfl (by decide) (by decide) (by decide) (by decide) rfl rfl (by decide) ?_
  refine cz_putF 25 (XS 63 [59, 27]) dX6_init_22 rfl fl6_18 flo6_18 rfl rfl rfl ⟨by decide, rfl⟩ rfl (XS_put (n := 62) (by decide)).1 (XS_put (n := 62) (by decide)).2 ?_
  refine cz_aload_n 26 dX6_init_25 rfl rfl ?_
  refine cz_iconst 27 5 dX6_init_26 rfl (by decide) ?_
  refine cz_newI 29 5 43 5 dX6_init_27 rfl (by decide) (by decide) (by decide) (by decide) rfl rfl (by decide) ?_
  refine cz_putF 32 (XS 64 [59, 27]) dX6_init_29 rfl fl6_21 flo6_21 rfl rfl rfl ⟨by decide, rfl⟩ rfl (XS_put (n := 63) (by decide)).1 (XS_put (n := 63) (by decide)).2 ?_
  refine cz_aload_n 33 dX6_init_32 rfl rfl ?_
  refine cz_iconst 34 5 dX6_init_33 rfl (by decide) ?_
  refine cz_newI 36 4 38 5 dX6_init_34 rfl (by decide) (by decide) (by decide) (by decide) rfl rfl (by decide) ?_
  refine cz_putF 39 (XS 65 [59, 27]) dX6_init_36 rfl fl6_24 flo6_24 rfl rfl rfl ⟨by decide, rfl⟩ rfl (XS_put (n := 64) (by decide)).1 (XS_put (n := 64) (by decide)).2 ?_
  refine cz_aload_n 40 dX6_init_39 rfl rfl ?_
  refine cz_iconst 41 3 dX6_init_40 rfl (by decide) ?_
  refine cz_newI 43 3 35 3 dX6_init_41 rfl (by decide) (by decide) (by decide) (by decide) rfl rfl (by decide) ?_
  refine cz_putF 46 (XS 66 [59, 27]) dX6_init_43 rfl fl6_27 flo6_27 rfl rfl rfl ⟨by decide, rfl⟩ rfl (XS_put (n := 65) (by decide)).1 (XS_put (n := 65) (by decide)).2 ?_
  refine cz_aload_n 47 dX6_init_46 rfl rfl ?_
  refine cz_iconst 48 3 dX6_init_47 rfl (by decide) ?_
  refine cz_newI 50 2 32 3 dX6_init_48 rfl (by decide) (by decide) (by decide) (by decide) rfl rfl (by decide) ?_
  refine cz_putF 53 (XS 67 [59, 27]) dX6_init_50 rfl fl6_30 flo6_30 rfl rfl rfl ⟨by decide, rfl⟩ rfl (XS_put (n := 66) (by decide)).1 (XS_put (n := 66) (by decide)).2 ?_
  refine cz_aload_n 54 dX6_init_53 rfl rfl ?_
  refine cz_bipush 56 16 dX6_init_54 rfl (by decide) ?_
  refine cz_newI 58 1 16 16 dX6_init_56 rfl (by decide) (by decide) (by decide) (by decide) rfl rfl (by decide) ?_
  refine cz_putF 61 (XS 68 [59, 27]) dX6_init_58 rfl fl6_33 flo6_33 rfl rfl rfl ⟨by decide, rfl⟩ rfl (XS_put (n := 67) (by decide)).1 (XS_put (n := 67) (by decide)).2 ?_
  refine cz_aload_n 62 dX6_init_61 rfl rfl ?_
  refine cz_bipush 64 16 dX6_init_62 rfl (by decide) ?_
  refine cz_newI 66 0 0 16 dX6_init_64 rfl (by decide) (by decide) (by decide) (by decide) rfl rfl (by decide) ?_
  refine cz_putF 69 (XS 69 [59, 27]) dX6_init_66 rfl fl6_36 flo6_36 rfl rfl rfl ⟨by decide, rfl⟩ rfl (XS_put (n := 68) (by decide)).1 (XS_put (n := 68) (by decide)).2 ?_
  refine cz_aload_n 70 dX6_init_69 rfl rfl ?_
  refine cz_callV (μ' := m6_makeBare) 73 0 0 dX6_init_70 rfl lk6_39 m6_makeBare_V ⟨by decide, rfl⟩ (z6_bare_59 (O := [59, 27])) rfl (by decide) (Nat.le_of_ble_eq_true rfl) ?_
  exact cz_vret dX6_init_73 rfl rfl rfl rfl
set_option maxRecDepth 20000 in
theorem z_m6_init_69 : CC m6_init 2 9 63 [.ref 69] 70 (XS 70 [69, 27]) 60 79 (XS 79 [69, 27]) 70 := by
  refine CC.of m6_init_I.1 _ (en_a_1 69) ?_
  refine cz_aload_n 1 dX6_init_0 rfl rfl ?_
  refine cz_obj 4 dX6_init_1 rfl lkj6_3 (by decide) (Nat.le_of_ble_eq_true rfl) ?_
  refine cz_aload_n 5 dX6_init_4 rfl rfl ?_
  refine cz_iconst 6 5 dX6_init_5 rfl (by decide) ?_
  refine cz_newI 8 8 58 5 dX6_init_6 rfl (by decide) (by decide) (by decide) (by decide) rfl rfl (by decide) ?_
  refine cz_putF 11 (XS 71 [69, 27]) dX6_init_8 rfl fl6_9 flo6_9 rfl rfl rfl ⟨by decide, rfl⟩ rfl (XS_put (n := 70) (by decide)).1 (XS_put (n := 70) (by decide)).2 ?_
  refine cz_aload_n 12 dX6_init_11 rfl rfl ?_
  refine cz_iconst 13 5 dX6_init_12 rfl (by decide) ?_
  refine cz_newI 15 7 53 5 dX6_init_13 rfl (by decide) (by decide) (by decide) (by decide) rfl rfl (by decide) ?_
  refine cz_putF 18 (XS 72 [69, 27]) dX6_init_15 rfl fl6_15 flo6_15 rfl rfl rfl ⟨by decide, rfl⟩ rfl (XS_put (n := 71) (by decide)).1 (XS_put (n := 71) (by decide)).2 ?_
  refine cz_aload_n 19 dX6_init_18 rfl rfl ?_
  refine cz_iconst 20 5 dX6_init_19 rfl (by decide) ?_
  refine cz_newI 22 6 48 5 dX6_init_20 rfl (by decide) (by decide) (by decide) (by decide) rfl rfl (by decide) ?_
  refine cz_putF 25 (XS 73 [69, 27]) dX6_init_22 rfl fl6_18 flo6_18 rfl rfl rfl ⟨by decide, rfl⟩ rfl (XS_put (n := 72) (by decide)).1 (XS_put (n := 72) (by decide)).2 ?_
  refine cz_aload_n 26 dX6_init_25 rfl rfl ?_
  refine cz_iconst 27 5 dX6_init_26 rfl (by decide) ?_
  refine cz_newI 29 5 43 5 dX6_init_27 rfl (by decide) (by decide) (by decide) (by decide) rfl rfl (by decide) ?_
  refine cz_putF 32 (XS 74 [69, 27]) dX6_init_29 rfl fl6_21 flo6_21 rfl rfl rfl ⟨by decide, rfl⟩ rfl (XS_put (n := 73) (by decide)).1 (XS_put (n := 73) (by decide)).2 ?_
  refine cz_aload_n 33 dX6_init_32 rfl rfl ?_
  refine cz_iconst 34 5 dX6_init_33 rfl (by decide) ?_
  refine cz_newI 36 4 38 5 dX6_init_34 rfl (by decide) (by decide) (by decide) (by decide) rfl rfl (by decide) ?_
  refine cz_putF 39 (XS 75 [69, 27]) dX6_init_36 rfl fl6_24 flo6_24 rfl rfl rfl ⟨by decide, rfl⟩ rfl (XS_put (n := 74) (by decide)).1 (XS_put (n := 74) (by decide)).2 ?_
  refine cz_aload_n 40 dX6_init_39 rfl rfl ?_
  refine cz_iconst 41 3 dX6_init_40 rfl (by decide) ?_
  refine cz_newI 43 3 35 3 dX6_init_41 rfl (by decide) (by decide) (by decide) (by decide) rfl rfl (by decide) ?_
  refine cz_putF 46 (XS 76 [69, 27]) dX6_init_43 rfl fl6_27 flo6_27 rfl rfl rfl ⟨by decide, rfl⟩ rfl (XS_put (n := 75) (by decide)).1 (XS_put (n := 75) (by decide)).2 ?_
  refine cz_aload_n 47 dX6_init_46 rfl rfl ?_
  refine cz_iconst 48 3 dX6_init_47 rfl (by decide) ?_
  refine cz_newI 50 2 32 3 dX6_init_48 rfl (by decide) (by decide) (by decide) (by decide) rfl rfl (by decide) ?_
  refine cz_putF 53 (XS 77 [69, 27]) dX6_init_50 rfl fl6_30 flo6_30 rfl rfl rfl ⟨by decide, rfl⟩ rfl (XS_put (n := 76) (by decide)).1 (XS_put (n := 76) (by decide)).2 ?_
  refine cz_aload_n 54 dX6_init_53 rfl rfl ?_
  refine cz_bipush 56 16 dX6_init_54 rfl (by decide) ?_
  refine cz_newI 58 1 16 16 dX6_init_56 rfl (by decide) (by decide) (by decide) (by decide) rfl rfl (by decide) ?_
  refine cz_putF 61 (XS 78 [69, 27]) dX6_init_58 rfl fl6_33 flo6_33 rfl rfl rfl ⟨by decide, rfl⟩ rfl (XS_put (n := 77) (by decide)).1 (XS_put (n := 77) (by decide)).2 ?_
  refine cz_aload_n 62 dX6_init_61 rfl rfl ?_
  refine cz_bipush 64 16 dX6_init_62 rfl (by decide) ?_
  refine cz_newI 66 0 0 16 dX6_init_64 rfl (by decide) (by decide) (by decide) (by decide) rfl rfl (by decide) ?_
  refine cz_putF 69 (XS 79 [69, 27]) dX6_init_66 rfl fl6_36 flo6_36 rfl rfl rfl ⟨by decide, rfl⟩ rfl (XS_put (n := 78) (by decide)).1 (XS_put (n := 78) (by decide)).2 ?_
  refine cz_aload_n 70 dX6_init_69 rfl rfl ?_
  refine cz_callV (μ' := m6_makeBare) 73 0 0 dX6_init_70 rfl lk6_39 m6_makeBare_V ⟨by decide, rfl⟩ (z6_bare_69 (O := [69, 27])) rfl (by decide) (Nat.le_of_ble_eq_true rfl) ?_
  exact cz_vret dX6_init_73 rfl rfl rfl rfl
set_option maxRecDepth 20000 in
theorem z_m6_init_79 : CC m6_init 2 9 63 [.ref 79] 80 (XS 80 [79, 27]) 70 89 (XS 89 [79, 27]) 80 := by
  refine CC.of m6_init_I.1 _ (en_a_1 79) ?_
  refine cz_aload_n 1 dX6_init_0 rfl rfl ?_
  refine cz_obj 4 dX6_init_1 rfl lkj6_3 (by decide) (Nat.le_of_ble_eq_true rfl) ?_
  refine cz_aload_n 5 dX6_init_4 rfl rfl ?_
  refine cz_iconst 6 5 dX6_init_5 rfl (by decide) ?_
  refine cz_newI 8 8 58 5 dX6_init_6 rfl (by decide) (by decide) (by decide) (by decide) rfl rfl (by decide) ?_
  refine cz_putF 11 (XS 81 [79, 27]) dX6_init_8 rfl fl6_9 flo6_9 rfl rfl rfl ⟨by decide, rfl⟩ rfl (XS_put (n := 80) (by decide)).1 (XS_put (n := 80) (by decide)).2 ?_
  refine cz_aload_n 12 dX6_init_11 rfl rfl ?_
  refine cz_iconst 13 5 dX6_init_12 rfl (by decide) ?_
  refine cz_newI 15 7 53 5 dX6_init_13 rfl (by decide) (by decide) (by decide) (by decide) rfl rfl (by decide) ?_
  refine cz_putF 18 (XS 82 [79, 27]) dX6_init_15 rfl fl6_15 flo6_15 rfl rfl rfl ⟨by decide, rfl⟩ rfl (XS_put (n := 81) (by decide)).1 (XS_put (n := 81) (by decide)).2 ?_
  refine cz_aload_n 19 dX6_init_18 rfl rfl ?_
  refine cz_iconst 20 5 dX6_init_19 rfl (by decide) ?_
  refine cz_newI 22 6 48 5 dX6_init_20 rfl (by decide) (by decide) (by decide) (by decide) rfl rfl (by decide) ?_
  refine cz_putF 25 (XS 83 [79, 27]) dX6_init_22 rfl fl6_18 flo6_18 rfl rfl rfl ⟨by decide, rfl⟩ rfl (XS_put (n := 82) (by decide)).1 (XS_put (n := 82) (by decide)).2 ?_
  refine cz_aload_n 26 dX6_init_25 rfl rfl ?_
  refine cz_iconst 27 5 dX6_init_26 rfl (by decide) ?_
  refine cz_newI 29 5 43 5 dX6_init_27 rfl (by decide) (by decide) (by decide) (by decide) rfl rfl (by decide) ?_
  refine cz_putF 32 (XS 84 [79, 27]) dX6_init_29 rfl fl6_21 flo6_21 rfl rfl rfl ⟨by decide, rfl⟩ rfl (XS_put (n := 83) (by decide)).1 (XS_put (n := 83) (by decide)).2 ?_
  refine cz_aload_n 33 dX6_init_32 rfl rfl ?_
  refine cz_iconst 34 5 dX6_init_33 rfl (by decide) ?_
  refine cz_newI 36 4 38 5 dX6_init_34 rfl (by decide) (by decide) (by decide) (by decide) rfl rfl (by decide) ?_
  refine cz_putF 39 (XS 85 [79, 27]) dX6_init_36 rfl fl6_24 flo6_24 rfl rfl rfl ⟨by decide, rfl⟩ rfl (XS_put (n := 84) (by decide)).1 (XS_put (n := 84) (by decide)).2 ?_
  refine cz_aload_n 40 dX6_init_39 rfl rfl ?_
  refine cz_iconst 41 3 dX6_init_40 rfl (by decide) ?_
  refine cz_newI 43 3 35 3 dX6_init_41 rfl (by decide) (by decide) (by decide) (by decide) rfl rfl (by decide) ?_
  refine cz_putF 46 (XS 86 [79, 27]) dX6_init_43 rfl fl6_27 flo6_27 rfl rfl rfl ⟨by decide, rfl⟩ rfl (XS_put (n := 85) (by decide)).1 (XS_put (n := 85) (by decide)).2 ?_
  refine cz_aload_n 47 dX6_init_46 rfl rfl ?_
  refine cz_iconst 48 3 dX6_init_47 rfl (by decide) ?_
  refine cz_newI 50 2 32 3 dX6_init_48 rfl (by decide) (by decide) (by decide) (by decide) rfl rfl (by decide) ?_
  refine cz_putF 53 (XS 87 [79, 27]) dX6_init_50 rfl fl6_30 flo6_30 rfl rfl rfl ⟨by decide, rfl⟩ rfl (XS_put (n := 86) (by decide)).1 (XS_put (n := 86) (by decide)).2 ?_
  refine cz_aload_n 54 dX6_init_53 rfl rfl ?_
  refine cz_bipush 56 16 dX6_init_54 rfl (by decide) ?_
  refine cz_newI 58 1 16 16 dX6_init_56 rfl (by decide) (by decide) (by decide) (by decide) rfl rfl (by decide) ?_
  refine cz_putF 61 (XS 88 [79, 27]) dX6_init_58 rfl fl6_33 flo6_33 rfl rfl rfl ⟨by decide, rfl⟩ rfl (XS_put (n := 87) (by decide)).1 (XS_put (n := 87) (by decide)).2 ?_
  refine cz_aload_n 62 dX6_init_61 rfl rfl ?_
  refine cz_bipush 64 16 dX6_init_62 rfl (by decide) ?_
  refine cz_newI 66 0 0 16 dX6_init_64 rfl (by decide) (by decide) (by decide) (by decide) rfl rfl (by decide) ?_
  refine cz_putF 69 (XS 89 [79, 27]) dX6_init_66 rfl fl6_36 flo6_36 rfl rfl rfl ⟨by decide, rfl⟩ rfl (XS_put (n := 88) (by decide)).1 (XS_put (n := 88) (by decide)).2 ?_
  refine cz_aload_n 70 dX6_init_69 rfl rfl ?_
  refine cz_callV (μ' := m6_makeBare) 73 0 0 dX6_init_70 rfl lk6_39 m6_makeBare_V ⟨by decide, rfl⟩ (z6_bare_79 (O := [79, 27])) rfl (by decide) (Nat.le_of_ble_eq_true rfl) ?_
  exact cz_vret dX6_init_73 rfl rfl rfl rfl
set_option maxRecDepth 20000 in
theorem z_m1_init_27 : CC m1_init 3 61 474 [.ref 27] 28 (XS 28 [27]) 18 89 (XS 89 [27]) 80 := by
  refine CC.of m1_init_I.1 _ (en_a_2 27) ?_
  refine cz_aload_n 1 dX1_init_0 rfl rfl ?_
  refine cz_obj 4 dX1_init_1 rfl lkj1_3 (by decide) (Nat.le_of_ble_eq_true rfl) ?_
  refine cz_aload_n 5 dX1_init_4 rfl rfl ?_
  refine cz_bipush 7 6 dX1_init_5 rfl (by decide) ?_
  refine cz_newA (O := [27]) 10 60 468 6 dX1_init_7 rfl nw1_9 (by decide) (by decide) (by decide) (by decide) rfl rfl ?_
  refine cz_putF 13 (XS 29 [27]) dX1_init_10 rfl fl1_11 flo1_11 rfl rfl rfl ⟨by decide, rfl⟩ rfl (XS_put (n := 28) (by decide)).1 (XS_put (n := 28) (by decide)).2 ?_
  refine cz_iconst 14 0 dX1_init_13 rfl (by decide) ?_
  refine cz_istore_n 15 [some (Value.ref 27), some (Value.int 0)] dX1_init_14 rfl rfl (Nat.le_of_ble_eq_true rfl) (by decide) rfl ?_
  refine cz_iload_n 16 dX1_init_15 rfl rfl ?_
  refine cz_bipush 18 6 dX1_init_16 rfl (by decide) ?_
  refine cz_icmp_ge 40 21 dX1_init_18 (by decide) rfl (fun c => absurd c (by decide)) (fun _ => ?_)
  refine cz_aload_n 22 dX1_init_21 rfl rfl ?_
  refine cz_getO 25 28 dX1_init_22 rfl fl1_11 ⟨by decide, rfl⟩ rfl (by decide) ?_
  refine cz_iload_n 26 dX1_init_25 rfl rfl ?_
  refine cz_new (O := [27]) 29 59 453 6 dX1_init_26 rfl nw1_9 (by decide) rfl rfl (by decide) ?_
  rw [XS_op (n := 29) (O := [27]) (by decide)]
  refine cz_dup 30 dX1_init_29 rfl rfl ?_
  refine cz_callI (μ' := m6_init) 33 50 390 dX1_init_30 rfl lk1_17 m6_init_I (by decide) z_m6_init_29 rfl (by decide) (Nat.le_of_ble_eq_true rfl) ?_
  refine cz_aast 34 (XS 39 [27]) dX1_init_33 rfl ⟨by decide, rfl, rfl⟩ (ix_nI (k := 0) (by decide) (by decide)) ⟨by decide, rfl⟩ rfl (XS_pop (t := 29) (by decide) (by decide)).1 (XS_pop (t := 29) (by decide) (by decide)).2 ?_
  refine cz_iinc 37 1 [some (Value.ref 27), some (Value.int 1)] dX1_init_34 rfl rfl (by decide) rfl (by decide) rfl ?_
  refine cz_goto 15 dX1_init_37 (by decide) ?_
  refine cz_iload_n 16 dX1_init_15 rfl rfl ?_
  refine cz_bipush 18 6 dX1_init_16 rfl (by decide) ?_
  refine cz_icmp_ge 40 21 dX1_init_18 (by decide) rfl (fun c => absurd c (by decide)) (fun _ => ?_)
  refine cz_aload_n 22 dX1_init_21 rfl rfl ?_
  refine cz_getO 25 28 dX1_init_22 rfl fl1_11 ⟨by decide, rfl⟩ rfl (by decide) ?_
  refine cz_iload_n 26 dX1_init_25 rfl rfl ?_
  refine cz_new (O := [27]) 29 49 375 6 dX1_init_26 rfl nw1_9 (by decide) rfl rfl (by decide) ?_
  rw [XS_op (n := 39) (O := [27]) (by decide)]
  refine cz_dup 30 dX1_init_29 rfl rfl ?_
  refine cz_callI (μ' := m6_init) 33 40 312 dX1_init_30 rfl lk1_17 m6_init_I (by decide) z_m6_init_39 rfl (by decide) (Nat.le_of_ble_eq_true rfl) ?_
  refine cz_aast 34 (XS 49 [27]) dX1_init_33 rfl ⟨by decide, rfl, rfl⟩ (ix_nI (k := 1) (by decide) (by decide)) ⟨by decide, rfl⟩ rfl (XS_pop (t := 39) (by decide) (by decide)).1 (XS_pop (t := 39) (by decide) (by decide)).2 ?_
  refine cz_iinc 37 2 [some (Value.ref 27), some (Value.int 2)] dX1_init_34 rfl rfl (by decide) rfl (by decide) rfl ?_
  refine cz_goto 15 dX1_init_37 (by decide) ?_
  refine cz_iload_n 16 dX1_init_15 rfl rfl ?_
  refine cz_bipush 18 6 dX1_init_16 rfl (by decide) ?_
  refine cz_icmp_ge 40 21 dX1_init_18 (by decide) rfl (fun c => absurd c (by decide)) (fun _ => ?_)
  refine cz_aload_n 22 dX1_init_21 rfl rfl ?_
  refine cz_getO 25 28 dX1_init_22 rfl fl1_11 ⟨by decide, rfl⟩ rfl (by decide) ?_
  refine cz_iload_n 26 dX1_init_25 rfl rfl ?_
  refine cz_new (O := [27]) 29 39 297 6 dX1_init_26 rfl nw1_9 (by decide) rfl rfl (by decide) ?_
  rw [XS_op (n := 49) (O := [27]) (by decide)]
  refine cz_dup 30 dX1_init_29 rfl rfl ?_
  refine cz_callI (μ' := m6_init) 33 30 234 dX1_init_30 rfl lk1_17 m6_init_I (by decide) z_m6_init_49 rfl (by decide) (Nat.le_of_ble_eq_true rfl) ?_
  refine cz_aast 34 (XS 59 [27]) dX1_init_33 rfl ⟨by decide, rfl, rfl⟩ (ix_nI (k := 2) (by decide) (by decide)) ⟨by decide, rfl⟩ rfl (XS_pop (t := 49) (by decide) (by decide)).1 (XS_pop (t := 49) (by decide) (by decide)).2 ?_
  refine cz_iinc 37 3 [some (Value.ref 27), some (Value.int 3)] dX1_init_34 rfl rfl (by decide) rfl (by decide) rfl ?_
  refine cz_goto 15 dX1_init_37 (by decide) ?_
  refine cz_iload_n 16 dX1_init_15 rfl rfl ?_
  refine cz_bipush 18 6 dX1_init_16 rfl (by decide) ?_
  refine cz_icmp_ge 40 21 dX1_init_18 (by decide) rfl (fun c => absurd c (by decide)) (fun _ => ?_)
  refine cz_aload_n 22 dX1_init_21 rfl rfl ?_
  refine cz_getO 25 28 dX1_init_22 rfl fl1_11 ⟨by decide, rfl⟩ rfl (by decide) ?_
  refine cz_iload_n 26 dX1_init_25 rfl rfl ?_
  refine cz_new (O := [27]) 29 29 219 6 dX1_init_26 rfl nw1_9 (by decide) rfl rfl (by decide) ?_
  rw [XS_op (n := 59) (O := [27]) (by decide)]
  refine cz_dup 30 dX1_init_29 rfl rfl ?_
  refine cz_callI (μ' := m6_init) 33 20 156 dX1_init_30 rfl lk1_17 m6_init_I (by decide) z_m6_init_59 rfl (by decide) (Nat.le_of_ble_eq_true rfl) ?_
  refine cz_aast 34 (XS 69 [27]) dX1_init_33 rfl ⟨by decide, rfl, rfl⟩ (ix_nI (k := 3) (by decide) (by decide)) ⟨by decide, rfl⟩ rfl (XS_pop (t := 59) (by decide) (by decide)).1 (XS_pop (t := 59) (by decide) (by decide)).2 ?_
  refine cz_iinc 37 4 [some (Value.ref 27), some (Value.int 4)] dX1_init_34 rfl rfl (by decide) rfl (by decide) rfl ?_
  refine cz_goto 15 dX1_init_37 (by decide) ?_
  refine cz_iload_n 16 dX1_init_15 rfl rfl ?_
  refine cz_bipush 18 6 dX1_init_16 rfl (by decide) ?_
  refine cz_icmp_ge 40 21 dX1_init_18 (by decide) rfl (fun c => absurd c (by decide)) (fun _ => ?_)
  refine cz_aload_n 22 dX1_init_21 rfl rfl ?_
  refine cz_getO 25 28 dX1_init_22 rfl fl1_11 ⟨by decide, rfl⟩ rfl (by decide) ?_
  refine cz_iload_n 26 dX1_init_25 rfl rfl ?_
  refine cz_new (O := [27]) 29 19 141 6 dX1_init_26 rfl nw1_9 (by decide) rfl rfl (by decide) ?_
  rw [XS_op (n := 69) (O := [27]) (by decide)]
  refine cz_dup 30 dX1_init_29 rfl rfl ?_
  refine cz_callI (μ' := m6_init) 33 10 78 dX1_init_30 rfl lk1_17 m6_init_I (by decide) z_m6_init_69 rfl (by decide) (Nat.le_of_ble_eq_true rfl) ?_
  refine cz_aast 34 (XS 79 [27]) dX1_init_33 rfl ⟨by decide, rfl, rfl⟩ (ix_nI (k := 4) (by decide) (by decide)) ⟨by decide, rfl⟩ rfl (XS_pop (t := 69) (by decide) (by decide)).1 (XS_pop (t := 69) (by decide) (by decide)).2 ?_
  refine cz_iinc 37 5 [some (Value.ref 27), some (Value.int 5)] dX1_init_34 rfl rfl (by decide) rfl (by decide) rfl ?_
  refine cz_goto 15 dX1_init_37 (by decide) ?_
  refine cz_iload_n 16 dX1_init_15 rfl rfl ?_
  refine cz_bipush 18 6 dX1_init_16 rfl (by decide) ?_
  refine cz_icmp_ge 40 21 dX1_init_18 (by decide) rfl (fun c => absurd c (by decide)) (fun _ => ?_)
  refine cz_aload_n 22 dX1_init_21 rfl rfl ?_
  refine cz_getO 25 28 dX1_init_22 rfl fl1_11 ⟨by decide, rfl⟩ rfl (by decide) ?_
  refine cz_iload_n 26 dX1_init_25 rfl rfl ?_
  refine cz_new (O := [27]) 29 9 63 6 dX1_init_26 rfl nw1_9 (by decide) rfl rfl (by decide) ?_
  rw [XS_op (n := 79) (O := [27]) (by decide)]
  refine cz_dup 30 dX1_init_29 rfl rfl ?_
  refine cz_callI (μ' := m6_init) 33 0 0 dX1_init_30 rfl lk1_17 m6_init_I (by decide) z_m6_init_79 rfl (by decide) (Nat.le_of_ble_eq_true rfl) ?_
  refine cz_aast 34 (XS 89 [27]) dX1_init_33 rfl ⟨by decide, rfl, rfl⟩ (ix_nI (k := 5) (by decide) (by decide)) ⟨by decide, rfl⟩ rfl (XS_pop (t := 79) (by decide) (by decide)).1 (XS_pop (t := 79) (by decide) (by decide)).2 ?_
  refine cz_iinc 37 6 [some (Value.ref 27), some (Value.int 6)] dX1_init_34 rfl rfl (by decide) rfl (by decide) rfl ?_
  refine cz_goto 15 dX1_init_37 (by decide) ?_
  refine cz_iload_n 16 dX1_init_15 rfl rfl ?_
  refine cz_bipush 18 6 dX1_init_16 rfl (by decide) ?_
  refine cz_icmp_ge 40 21 dX1_init_18 (by decide) rfl (fun _ => ?_) (fun c => absurd (by decide) c)
  exact cz_vret dX1_init_40 rfl rfl rfl rfl
set_option maxRecDepth 20000 in
theorem z_m3_init_89 : CC m3_init 2 4 20 [.ref 89] 90 (XS 90 [89]) 80 94 (XS 94 [89]) 80 := by
  refine CC.of m3_init_I.1 _ (en_a_1 89) ?_
  refine cz_aload_n 1 dX3_init_0 rfl rfl ?_
  refine cz_obj 4 dX3_init_1 rfl lkj3_3 (by decide) (Nat.le_of_ble_eq_true rfl) ?_
  refine cz_aload_n 5 dX3_init_4 rfl rfl ?_
  refine cz_iconst 6 5 dX3_init_5 rfl (by decide) ?_
  refine cz_newJ 8 3 15 5 dX3_init_6 rfl (by decide) (by decide) (by decide) (by decide) rfl rfl (by decide) ?_
  refine cz_putF 11 (XS 91 [89]) dX3_init_8 rfl fl3_9 flo3_9 rfl rfl rfl ⟨by decide, rfl⟩ rfl (XS_put (n := 90) (by decide)).1 (XS_put (n := 90) (by decide)).2 ?_
  refine cz_aload_n 12 dX3_init_11 rfl rfl ?_
  refine cz_iconst 13 5 dX3_init_12 rfl (by decide) ?_
  refine cz_newJ 15 2 10 5 dX3_init_13 rfl (by decide) (by decide) (by decide) (by decide) rfl rfl (by decide) ?_
  refine cz_putF 18 (XS 92 [89]) dX3_init_15 rfl fl3_15 flo3_15 rfl rfl rfl ⟨by decide, rfl⟩ rfl (XS_put (n := 91) (by decide)).1 (XS_put (n := 91) (by decide)).2 ?_
  refine cz_aload_n 19 dX3_init_18 rfl rfl ?_
  refine cz_iconst 20 5 dX3_init_19 rfl (by decide) ?_
  refine cz_newI 22 1 5 5 dX3_init_20 rfl (by decide) (by decide) (by decide) (by decide) rfl rfl (by decide) ?_
  refine cz_putF 25 (XS 93 [89]) dX3_init_22 rfl fl3_18 flo3_18 rfl rfl rfl ⟨by decide, rfl⟩ rfl (XS_put (n := 92) (by decide)).1 (XS_put (n := 92) (by decide)).2 ?_
  refine cz_aload_n 26 dX3_init_25 rfl rfl ?_
  refine cz_iconst 27 5 dX3_init_26 rfl (by decide) ?_
  refine cz_newI 29 0 0 5 dX3_init_27 rfl (by decide) (by decide) (by decide) (by decide) rfl rfl (by decide) ?_
  refine cz_putF 32 (XS 94 [89]) dX3_init_29 rfl fl3_22 flo3_22 rfl rfl rfl ⟨by decide, rfl⟩ rfl (XS_put (n := 93) (by decide)).1 (XS_put (n := 93) (by decide)).2 ?_
  exact cz_vret dX3_init_32 rfl rfl rfl rfl
set_option maxRecDepth 20000 in
theorem z_m0_init_94 : CC m0_init 2 1 32 [.ref 94] 95 (XS 95 [94]) 80 96 (XS 96 [94]) 80 := by
  refine CC.of m0_init_I.1 _ (en_a_1 94) ?_
  refine cz_aload_n 1 dX0_init_0 rfl rfl ?_
  refine cz_obj 4 dX0_init_1 rfl lkj0_3 (by decide) (Nat.le_of_ble_eq_true rfl) ?_
  refine cz_aload_n 5 dX0_init_4 rfl rfl ?_
  refine cz_bipush 7 32 dX0_init_5 rfl (by decide) ?_
  refine cz_newI 9 0 0 32 dX0_init_7 rfl (by decide) (by decide) (by decide) (by decide) rfl rfl (by decide) ?_
  refine cz_putF 12 (XS 96 [94]) dX0_init_9 rfl fl0_11 flo0_11 rfl rfl rfl ⟨by decide, rfl⟩ rfl (XS_put (n := 95) (by decide)).1 (XS_put (n := 95) (by decide)).2 ?_
  exact cz_vret dX0_init_12 rfl rfl rfl rfl
set_option maxRecDepth 20000 in
theorem z_m4_init_96 : CC m4_init 2 2 12 [.ref 96] 97 (XS 97 [96]) 80 99 (XS 99 [96]) 80 := by
  refine CC.of m4_init_I.1 _ (en_a_1 96) ?_
  refine cz_aload_n 1 dX4_init_0 rfl rfl ?_
  refine cz_obj 4 dX4_init_1 rfl lkj4_3 (by decide) (Nat.le_of_ble_eq_true rfl) ?_
  refine cz_aload_n 5 dX4_init_4 rfl rfl ?_
  refine cz_bipush 7 6 dX4_init_5 rfl (by decide) ?_
  refine cz_newI 9 1 6 6 dX4_init_7 rfl (by decide) (by decide) (by decide) (by decide) rfl rfl (by decide) ?_
  refine cz_putF 12 (XS 98 [96]) dX4_init_9 rfl fl4_9 flo4_9 rfl rfl rfl ⟨by decide, rfl⟩ rfl (XS_put (n := 97) (by decide)).1 (XS_put (n := 97) (by decide)).2 ?_
  refine cz_aload_n 13 dX4_init_12 rfl rfl ?_
  refine cz_bipush 15 6 dX4_init_13 rfl (by decide) ?_
  refine cz_newI 17 0 0 6 dX4_init_15 rfl (by decide) (by decide) (by decide) (by decide) rfl rfl (by decide) ?_
  refine cz_putF 20 (XS 99 [96]) dX4_init_17 rfl fl4_15 flo4_15 rfl rfl rfl ⟨by decide, rfl⟩ rfl (XS_put (n := 98) (by decide)).1 (XS_put (n := 98) (by decide)).2 ?_
  exact cz_vret dX4_init_20 rfl rfl rfl rfl
set_option maxRecDepth 20000 in
theorem z_m6_init_100 : CC m6_init 2 9 63 [.ref 100] 101 (XS 101 [100]) 80 110 (XS 110 [100]) 101 := by
  refine CC.of m6_init_I.1 _ (en_a_1 100) ?_
  refine cz_aload_n 1 dX6_init_0 rfl rfl ?_
  refine cz_obj 4 dX6_init_1 rfl lkj6_3 (by decide) (Nat.le_of_ble_eq_true rfl) ?_
  refine cz_aload_n 5 dX6_init_4 rfl rfl ?_
  refine cz_iconst 6 5 dX6_init_5 rfl (by decide) ?_
  refine cz_newI 8 8 58 5 dX6_init_6 rfl (by decide) (by decide) (by decide) (by decide) rfl rfl (by decide) ?_
  refine cz_putF 11 (XS 102 [100]) dX6_init_8 rfl fl6_9 flo6_9 rfl rfl rfl ⟨by decide, rfl⟩ rfl (XS_put (n := 101) (by decide)).1 (XS_put (n := 101) (by decide)).2 ?_
  refine cz_aload_n 12 dX6_init_11 rfl rfl ?_
  refine cz_iconst 13 5 dX6_init_12 rfl (by decide) ?_
  refine cz_newI 15 7 53 5 dX6_init_13 rfl (by decide) (by decide) (by decide) (by decide) rfl rfl (by decide) ?_
  refine cz_putF 18 (XS 103 [100]) dX6_init_15 rfl fl6_15 flo6_15 rfl rfl rfl ⟨by decide, rfl⟩ rfl (XS_put (n := 102) (by decide)).1 (XS_put (n := 102) (by decide)).2 ?_
  refine cz_aload_n 19 dX6_init_18 rfl rfl ?_
  refine cz_iconst 20 5 dX6_init_19 rfl (by decide) ?_
  refine cz_newI 22 6 48 5 dX6_init_20 rfl (by decide) (by decide) (by decide) (by decide) rfl rfl (by decide) ?_
  refine cz_putF 25 (XS 104 [100]) dX6_init_22 rfl fl6_18 flo6_18 rfl rfl rfl ⟨by decide, rfl⟩ rfl (XS_put (n := 103) (by decide)).1 (XS_put (n := 103) (by decide)).2 ?_
  refine cz_aload_n 26 dX6_init_25 rfl rfl ?_
  refine cz_iconst 27 5 dX6_init_26 rfl (by decide) ?_
  refine cz_newI 29 5 43 5 dX6_init_27 rfl (by decide) (by decide) (by decide) (by decide) rfl rfl (by decide) ?_
  refine cz_putF 32 (XS 105 [100]) dX6_init_29 rfl fl6_21 flo6_21 rfl rfl rfl ⟨by decide, rfl⟩ rfl (XS_put (n := 104) (by decide)).1 (XS_put (n := 104) (by decide)).2 ?_
  refine cz_aload_n 33 dX6_init_32 rfl rfl ?_
  refine cz_iconst 34 5 dX6_init_33 rfl (by decide) ?_
  refine cz_newI 36 4 38 5 dX6_init_34 rfl (by decide) (by decide) (by decide) (by decide) rfl rfl (by decide) ?_
  refine cz_putF 39 (XS 106 [100]) dX6_init_36 rfl fl6_24 flo6_24 rfl rfl rfl ⟨by decide, rfl⟩ rfl (XS_put (n := 105) (by decide)).1 (XS_put (n := 105) (by decide)).2 ?_
  refine cz_aload_n 40 dX6_init_39 rfl rfl ?_
  refine cz_iconst 41 3 dX6_init_40 rfl (by decide) ?_
  refine cz_newI 43 3 35 3 dX6_init_41 rfl (by decide) (by decide) (by decide) (by decide) rfl rfl (by decide) ?_
  refine cz_putF 46 (XS 107 [100]) dX6_init_43 rfl fl6_27 flo6_27 rfl rfl rfl ⟨by decide, rfl⟩ rfl (XS_put (n := 106) (by decide)).1 (XS_put (n := 106) (by decide)).2 ?_
  refine cz_aload_n 47 dX6_init_46 rfl rfl ?_
  refine cz_iconst 48 3 dX6_init_47 rfl (by decide) ?_
  refine cz_newI 50 2 32 3 dX6_init_48 rfl (by decide) (by decide) (by decide) (by decide) rfl rfl (by decide) ?_
  refine cz_putF 53 (XS 108 [100]) dX6_init_50 rfl fl6_30 flo6_30 rfl rfl rfl ⟨by decide, rfl⟩ rfl (XS_put (n := 107) (by decide)).1 (XS_put (n := 107) (by decide)).2 ?_
  refine cz_aload_n 54 dX6_init_53 rfl rfl ?_
  refine cz_bipush 56 16 dX6_init_54 rfl (by decide) ?_
  refine cz_newI 58 1 16 16 dX6_init_56 rfl (by decide) (by decide) (by decide) (by decide) rfl rfl (by decide) ?_
  refine cz_putF 61 (XS 109 [100]) dX6_init_58 rfl fl6_33 flo6_33 rfl rfl rfl ⟨by decide, rfl⟩ rfl (XS_put (n := 108) (by decide)).1 (XS_put (n := 108) (by decide)).2 ?_
  refine cz_aload_n 62 dX6_init_61 rfl rfl ?_
  refine cz_bipush 64 16 dX6_init_62 rfl (by decide) ?_
  refine cz_newI 66 0 0 16 dX6_init_64 rfl (by decide) (by decide) (by decide) (by decide) rfl rfl (by decide) ?_
  refine cz_putF 69 (XS 110 [100]) dX6_init_66 rfl fl6_36 flo6_36 rfl rfl rfl ⟨by decide, rfl⟩ rfl (XS_put (n := 109) (by decide)).1 (XS_put (n := 109) (by decide)).2 ?_
  refine cz_aload_n 70 dX6_init_69 rfl rfl ?_
  refine cz_callV (μ' := m6_makeBare) 73 0 0 dX6_init_70 rfl lk6_39 m6_makeBare_V ⟨by decide, rfl⟩ (z6_bare_100 (O := [100])) rfl (by decide) (Nat.le_of_ble_eq_true rfl) ?_
  exact cz_vret dX6_init_73 rfl rfl rfl rfl
set_option maxRecDepth 20000 in
theorem z_m6_init_110 : CC m6_init 2 9 63 [.ref 110] 111 (XS 111 [110]) 101 120 (XS 120 [110]) 111 := by
  refine CC.of m6_init_I.1 _ (en_a_1 110) ?_
  refine cz_aload_n 1 dX6_init_0 rfl rfl ?_
  refine cz_obj 4 dX6_init_1 rfl lkj6_3 (by decide) (Nat.le_of_ble_eq_true rfl) ?_
  refine cz_aload_n 5 dX6_init_4 rfl rfl ?_
  refine cz_iconst 6 5 dX6_init_5 rfl (by decide) ?_
  refine cz_newI 8 8 58 5 dX6_init_6 rfl (by decide) (by decide) (by decide) (by decide) rfl rfl (by decide) ?_
  refine cz_putF 11 (XS 112 [110]) dX6_init_8 rfl fl6_9 flo6_9 rfl rfl rfl ⟨by decide, rfl⟩ rfl (XS_put (n := 111) (by decide)).1 (XS_put (n := 111) (by decide)).2 ?_
  refine cz_aload_n 12 dX6_init_11 rfl rfl ?_
  refine cz_iconst 13 5 dX6_init_12 rfl (by decide) ?_
  refine cz_newI 15 7 53 5 dX6_init_13 rfl (by decide) (by decide) (by decide) (by decide) rfl rfl (by decide) ?_
  refine cz_putF 18 (XS 113 [110]) dX6_init_15 rfl fl6_15 flo6_15 rfl rfl rfl ⟨by decide, rfl⟩ rfl (XS_put (n := 112) (by decide)).1 (XS_put (n := 112) (by decide)).2 ?_
  refine cz_aload_n 19 dX6_init_18 rfl rfl ?_
  refine cz_iconst 20 5 dX6_init_19 rfl (by decide) ?_
  refine cz_newI 22 6 48 5 dX6_init_20 rfl (by decide) (by decide) (by decide) (by decide) rfl rfl (by decide) ?_
  refine cz_putF 25 (XS 114 [110]) dX6_init_22 rfl fl6_18 flo6_18 rfl rfl rfl ⟨by decide, rfl⟩ rfl (XS_put (n := 113) (by decide)).1 (XS_put (n := 113) (by decide)).2 ?_
  refine cz_aload_n 26 dX6_init_25 rfl rfl ?_
  refine cz_iconst 27 5 dX6_init_26 rfl (by decide) ?_
  refine cz_newI 29 5 43 5 dX6_init_27 rfl (by decide) (by decide) (by decide) (by decide) rfl rfl (by decide) ?_
  refine cz_putF 32 (XS 115 [110]) dX6_init_29 rfl fl6_21 flo6_21 rfl rfl rfl ⟨by decide, rfl⟩ rfl (XS_put (n := 114) (by decide)).1 (XS_put (n := 114) (by decide)).2 ?_
  refine cz_aload_n 33 dX6_init_32 rfl rfl ?_
  refine cz_iconst 34 5 dX6_init_33 rfl (by decide) ?_
  refine cz_newI 36 4 38 5 dX6_init_34 rfl (by decide) (by decide) (by decide) (by decide) rfl rfl (by decide) ?_
  refine cz_putF 39 (XS 116 [110]) dX6_init_36 rfl fl6_24 flo6_24 rfl rfl rfl ⟨by decide, rfl⟩ rfl (XS_put (n := 115) (by decide)).1 (XS_put (n := 115) (by decide)).2 ?_
  refine cz_aload_n 40 dX6_init_39 rfl rfl ?_
  refine cz_iconst 41 3 dX6_init_40 rfl (by decide) ?_
  refine cz_newI 43 3 35 3 dX6_init_41 rfl (by decide) (by decide) (by decide) (by decide) rfl rfl (by decide) ?_
  refine cz_putF 46 (XS 117 [110]) dX6_init_43 rfl fl6_27 flo6_27 rfl rfl rfl ⟨by decide, rfl⟩ rfl (XS_put (n := 116) (by decide)).1 (XS_put (n := 116) (by decide)).2 ?_
  refine cz_aload_n 47 dX6_init_46 rfl rfl ?_
  refine cz_iconst 48 3 dX6_init_47 rfl (by decide) ?_
  refine cz_newI 50 2 32 3 dX6_init_48 rfl (by decide) (by decide) (by decide) (by decide) rfl rfl (by decide) ?_
  refine cz_putF 53 (XS 118 [110]) dX6_init_50 rfl fl6_30 flo6_30 rfl rfl rfl ⟨by decide, rfl⟩ rfl (XS_put (n := 117) (by decide)).1 (XS_put (n := 117) (by decide)).2 ?_
  refine cz_aload_n 54 dX6_init_53 rfl rfl ?_
  refine cz_bipush 56 16 dX6_init_54 rfl (by decide) ?_
  refine cz_newI 58 1 16 16 dX6_init_56 rfl (by decide) (by decide) (by decide) (by decide) rfl rfl (by decide) ?_
  refine cz_putF 61 (XS 119 [110]) dX6_init_58 rfl fl6_33 flo6_33 rfl rfl rfl ⟨by decide, rfl⟩ rfl (XS_put (n := 118) (by decide)).1 (XS_put (n := 118) (by decide)).2 ?_
  refine cz_aload_n 62 dX6_init_61 rfl rfl ?_
  refine cz_bipush 64 16 dX6_init_62 rfl (by decide) ?_
  refine cz_newI 66 0 0 16 dX6_init_64 rfl (by decide) (by decide) (by decide) (by decide) rfl rfl (by decide) ?_
  refine cz_putF 69 (XS 120 [110]) dX6_init_66 rfl fl6_36 flo6_36 rfl rfl rfl ⟨by decide, rfl⟩ rfl (XS_put (n := 119) (by decide)).1 (XS_put (n := 119) (by decide)).2 ?_
  refine cz_aload_n 70 dX6_init_69 rfl rfl ?_
  refine cz_callV (μ' := m6_makeBare) 73 0 0 dX6_init_70 rfl lk6_39 m6_makeBare_V ⟨by decide, rfl⟩ (z6_bare_110 (O := [110])) rfl (by decide) (Nat.le_of_ble_eq_true rfl) ?_
  exact cz_vret dX6_init_73 rfl rfl rfl rfl
set_option maxRecDepth 20000 in
theorem z_m7_init : CC m7_init 4 120 1367 [.ref 0] 1 (XS 1 []) 0 121 (XS 121 []) 111 := by
  refine CC.of m7_init_I.1 _ (en_a_2 0) ?_
  refine cz_aload_n 1 dX7_init_0 rfl rfl ?_
  refine cz_obj 4 dX7_init_1 rfl lkj7_1 (by decide) (Nat.le_of_ble_eq_true rfl) ?_
  refine cz_aload_n 5 dX7_init_4 rfl rfl ?_
  refine cz_bipush 7 120 dX7_init_5 rfl (by decide) ?_
  refine cz_newI 9 119 1247 120 dX7_init_7 rfl (by decide) (by decide) (by decide) (by decide) rfl rfl (by decide) ?_
  refine cz_putF 12 (XS 2 []) dX7_init_9 rfl fl7_9 flo7_9 rfl rfl rfl ⟨by decide, rfl⟩ rfl (XS_put (n := 1) (by decide)).1 (XS_put (n := 1) (by decide)).2 ?_
  refine cz_aload_n 13 dX7_init_12 rfl rfl ?_
  refine cz_iconst 14 0 dX7_init_13 rfl (by decide) ?_
  refine cz_putI 17 0 dX7_init_14 rfl fl7_13 rfl rfl ⟨by decide, rfl⟩ (MZ_put0 (by decide) (by decide)) ?_
  refine cz_aload_n 18 dX7_init_17 rfl rfl ?_
  refine cz_new (O := []) 21 118 1241 2 dX7_init_18 rfl nw7_17 (by decide) rfl rfl (by decide) ?_
  rw [XS_op (n := 2) (O := []) (by decide)]
  refine cz_dup 22 dX7_init_21 rfl rfl ?_
  refine cz_callI (μ' := m2_init) 25 114 874 dX7_init_22 rfl lk7_19 m2_init_I (by decide) z_m2_init_2 rfl (by decide) (Nat.le_of_ble_eq_true rfl) ?_
  refine cz_putF 28 (XS 7 []) dX7_init_25 rfl fl7_20 flo7_20 rfl rfl rfl ⟨by decide, rfl⟩ rfl (XS_pop (t := 2) (by decide) (by decide)).1 (XS_pop (t := 2) (by decide) (by decide)).2 ?_
  refine cz_aload_n 29 dX7_init_28 rfl rfl ?_
  refine cz_new (O := []) 32 113 859 6 dX7_init_29 rfl nw7_24 (by decide) rfl rfl (by decide) ?_
  rw [XS_op (n := 7) (O := []) (by decide)]
  refine cz_dup 33 dX7_init_32 rfl rfl ?_
  refine cz_callI (μ' := m6_init) 36 104 796 dX7_init_33 rfl lk7_26 m6_init_I (by decide) z_m6_init_7 rfl (by decide) (Nat.le_of_ble_eq_true rfl) ?_
  refine cz_putF 39 (XS 17 []) dX7_init_36 rfl fl7_27 flo7_27 rfl rfl rfl ⟨by decide, rfl⟩ rfl (XS_pop (t := 7) (by decide) (by decide)).1 (XS_pop (t := 7) (by decide) (by decide)).2 ?_
  refine cz_aload_n 40 dX7_init_39 rfl rfl ?_
  refine cz_new (O := []) 43 103 781 6 dX7_init_40 rfl nw7_24 (by decide) rfl rfl (by decide) ?_
  rw [XS_op (n := 17) (O := []) (by decide)]
  refine cz_dup 44 dX7_init_43 rfl rfl ?_
  refine cz_callI (μ' := m6_init) 47 94 718 dX7_init_44 rfl lk7_26 m6_init_I (by decide) z_m6_init_17 rfl (by decide) (Nat.le_of_ble_eq_true rfl) ?_
  refine cz_putF 50 (XS 27 []) dX7_init_47 rfl fl7_31 flo7_31 rfl rfl rfl ⟨by decide, rfl⟩ rfl (XS_pop (t := 17) (by decide) (by decide)).1 (XS_pop (t := 17) (by decide) (by decide)).2 ?_
  refine cz_aload_n 51 dX7_init_50 rfl rfl ?_
  refine cz_new (O := []) 54 93 716 1 dX7_init_51 rfl nw7_34 (by decide) rfl rfl (by decide) ?_
  rw [XS_op (n := 27) (O := []) (by decide)]
  refine cz_dup 55 dX7_init_54 rfl rfl ?_
  refine cz_callI (μ' := m1_init) 58 32 242 dX7_init_55 rfl lk7_36 m1_init_I (by decide) z_m1_init_27 rfl (by decide) (Nat.le_of_ble_eq_true rfl) ?_
  refine cz_putF 61 (XS 89 []) dX7_init_58 rfl fl7_37 flo7_37 rfl rfl rfl ⟨by decide, rfl⟩ rfl (XS_pop (t := 27) (by decide) (by decide)).1 (XS_pop (t := 27) (by decide) (by decide)).2 ?_
  refine cz_aload_n 62 dX7_init_61 rfl rfl ?_
  refine cz_new (O := []) 65 31 228 3 dX7_init_62 rfl nw7_41 (by decide) rfl rfl (by decide) ?_
  rw [XS_op (n := 89) (O := []) (by decide)]
  refine cz_dup 66 dX7_init_65 rfl rfl ?_
  refine cz_callI (μ' := m3_init) 69 27 208 dX7_init_66 rfl lk7_43 m3_init_I (by decide) z_m3_init_89 rfl (by decide) (Nat.le_of_ble_eq_true rfl) ?_
  refine cz_putF 72 (XS 94 []) dX7_init_69 rfl fl7_44 flo7_44 rfl rfl rfl ⟨by decide, rfl⟩ rfl (XS_pop (t := 89) (by decide) (by decide)).1 (XS_pop (t := 89) (by decide) (by decide)).2 ?_
  refine cz_aload_n 73 dX7_init_72 rfl rfl ?_
  refine cz_iconst 74 0 dX7_init_73 rfl (by decide) ?_
  refine cz_putI 77 80 dX7_init_74 rfl fl7_48 rfl rfl ⟨by decide, rfl⟩ (MZ_put0 (by decide) (by decide)) ?_
  refine cz_aload_n 78 dX7_init_77 rfl rfl ?_
  refine cz_new (O := []) 81 26 207 0 dX7_init_78 rfl nw7_52 (by decide) rfl rfl (by decide) ?_
  rw [XS_op (n := 94) (O := []) (by decide)]
  refine cz_dup 82 dX7_init_81 rfl rfl ?_
  refine cz_callI (μ' := m0_init) 85 25 175 dX7_init_82 rfl lk7_54 m0_init_I (by decide) z_m0_init_94 rfl (by decide) (Nat.le_of_ble_eq_true rfl) ?_
  refine cz_putF 88 (XS 96 []) dX7_init_85 rfl fl7_55 flo7_55 rfl rfl rfl ⟨by decide, rfl⟩ rfl (XS_pop (t := 94) (by decide) (by decide)).1 (XS_pop (t := 94) (by decide) (by decide)).2 ?_
  refine cz_aload_n 89 dX7_init_88 rfl rfl ?_
  refine cz_new (O := []) 92 24 172 4 dX7_init_89 rfl nw7_59 (by decide) rfl rfl (by decide) ?_
  rw [XS_op (n := 96) (O := []) (by decide)]
  refine cz_dup 93 dX7_init_92 rfl rfl ?_
  refine cz_callI (μ' := m4_init) 96 22 160 dX7_init_93 rfl lk7_61 m4_init_I (by decide) z_m4_init_96 rfl (by decide) (Nat.le_of_ble_eq_true rfl) ?_
  refine cz_putF 99 (XS 99 []) dX7_init_96 rfl fl7_62 flo7_62 rfl rfl rfl ⟨by decide, rfl⟩ rfl (XS_pop (t := 96) (by decide) (by decide)).1 (XS_pop (t := 96) (by decide) (by decide)).2 ?_
  refine cz_aload_n 100 dX7_init_99 rfl rfl ?_
  refine cz_iconst 101 2 dX7_init_100 rfl (by decide) ?_
  refine cz_newA (O := []) 104 21 158 2 dX7_init_101 rfl nw7_24 (by decide) (by decide) (by decide) (by decide) rfl rfl ?_
  refine cz_putF 107 (XS 100 []) dX7_init_104 rfl fl7_66 flo7_66 rfl rfl rfl ⟨by decide, rfl⟩ rfl (XS_put (n := 99) (by decide)).1 (XS_put (n := 99) (by decide)).2 ?_
  refine cz_iconst 108 0 dX7_init_107 rfl (by decide) ?_
  refine cz_istore_n 109 [some (Value.ref 0), some (Value.int 0)] dX7_init_108 rfl rfl (Nat.le_of_ble_eq_true rfl) (by decide) rfl ?_
  refine cz_iload_n 110 dX7_init_109 rfl rfl ?_
  refine cz_iconst 111 2 dX7_init_110 rfl (by decide) ?_
  refine cz_icmp_ge 133 114 dX7_init_111 (by decide) rfl (fun c => absurd c (by decide)) (fun _ => ?_)
  refine cz_aload_n 115 dX7_init_114 rfl rfl ?_
  refine cz_getO 118 99 dX7_init_115 rfl fl7_66 ⟨by decide, rfl⟩ rfl (by decide) ?_
  refine cz_iload_n 119 dX7_init_118 rfl rfl ?_
  refine cz_new (O := []) 122 20 143 6 dX7_init_119 rfl nw7_24 (by decide) rfl rfl (by decide) ?_
  rw [XS_op (n := 100) (O := []) (by decide)]
  refine cz_dup 123 dX7_init_122 rfl rfl ?_
  refine cz_callI (μ' := m6_init) 126 11 80 dX7_init_123 rfl lk7_26 m6_init_I (by decide) z_m6_init_100 rfl (by decide) (Nat.le_of_ble_eq_true rfl) ?_
  refine cz_aast 127 (XS 110 []) dX7_init_126 rfl ⟨by decide, rfl, rfl⟩ (ix_nI (k := 0) (by decide) (by decide)) ⟨by decide, rfl⟩ rfl (XS_pop (t := 100) (by decide) (by decide)).1 (XS_pop (t := 100) (by decide) (by decide)).2 ?_
  refine cz_iinc 130 1 [some (Value.ref 0), some (Value.int 1)] dX7_init_127 rfl rfl (by decide) rfl (by decide) rfl ?_
  refine cz_goto 109 dX7_init_130 (by decide) ?_
  refine cz_iload_n 110 dX7_init_109 rfl rfl ?_
  refine cz_iconst 111 2 dX7_init_110 rfl (by decide) ?_
  refine cz_icmp_ge 133 114 dX7_init_111 (by decide) rfl (fun c => absurd c (by decide)) (fun _ => ?_)
  refine cz_aload_n 115 dX7_init_114 rfl rfl ?_
  refine cz_getO 118 99 dX7_init_115 rfl fl7_66 ⟨by decide, rfl⟩ rfl (by decide) ?_
  refine cz_iload_n 119 dX7_init_118 rfl rfl ?_
  refine cz_new (O := []) 122 10 65 6 dX7_init_119 rfl nw7_24 (by decide) rfl rfl (by decide) ?_
  rw [XS_op (n := 110) (O := []) (by decide)]
  refine cz_dup 123 dX7_init_122 rfl rfl ?_
  refine cz_callI (μ' := m6_init) 126 1 2 dX7_init_123 rfl lk7_26 m6_init_I (by decide) z_m6_init_110 rfl (by decide) (Nat.le_of_ble_eq_true rfl) ?_
  refine cz_aast 127 (XS 120 []) dX7_init_126 rfl ⟨by decide, rfl, rfl⟩ (ix_nI (k := 1) (by decide) (by decide)) ⟨by decide, rfl⟩ rfl (XS_pop (t := 110) (by decide) (by decide)).1 (XS_pop (t := 110) (by decide) (by decide)).2 ?_
  refine cz_iinc 130 2 [some (Value.ref 0), some (Value.int 2)] dX7_init_127 rfl rfl (by decide) rfl (by decide) rfl ?_
  refine cz_goto 109 dX7_init_130 (by decide) ?_
  refine cz_iload_n 110 dX7_init_109 rfl rfl ?_
  refine cz_iconst 111 2 dX7_init_110 rfl (by decide) ?_
  refine cz_icmp_ge 133 114 dX7_init_111 (by decide) rfl (fun _ => ?_) (fun c => absurd (by decide) c)
  refine cz_aload_n 134 dX7_init_133 rfl rfl ?_
  refine cz_iconst 135 2 dX7_init_134 rfl (by decide) ?_
  refine cz_newZ 137 0 0 2 dX7_init_135 rfl (by decide) (by decide) (by decide) (by decide) rfl rfl (by decide) ?_
  refine cz_putF 140 (XS 121 []) dX7_init_137 rfl fl7_70 flo7_70 rfl rfl rfl ⟨by decide, rfl⟩ rfl (XS_put (n := 120) (by decide)).1 (XS_put (n := 120) (by decide)).2 ?_
  exact cz_vret dX7_init_140 rfl rfl rfl rfl
