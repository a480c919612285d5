/-! What holds between the calls: the class's cells and the reference's tell the same. -/
/-- a wall's row in order: widths, gap, weights, the hung ones apart -/
def WF (w : rN) (np nd nh : Nat) (wd : Nat → Nat) (gp W : Nat) : Prop := NC w np nd nh ∧ WD w np wd gp ∧ WG w np ∧ w 0 = nI W ∧ W ≤ 40 ∧ (∀ p, p < np → w (64 + p) = -9 ∨ ∃ x, x < 40 ∧ w (64 + p) = nI x) ∧ ∀ p q x y, p < np → q < np → p ≠ q → x < 40 → y < 40 → w (64 + p) = nI x → w (64 + q) = nI y → x + wd p ≤ y ∨ y + wd q ≤ x
def WE (w : rN) : Prop := ∃ np nd nh wd gp W, WF w np nd nh wd gp W
theorem NC.un {w : rN} {np nd nh np' nd' nh' : Nat} (h : NC w np nd nh) (h' : NC w np' nd' nh') : np' = np ∧ nd' = nd ∧ nh' = nh := by
  obtain ⟨a1, a2, a3, a4, a5, a6⟩ := h
  obtain ⟨b1, b2, b3, b4, b5, b6⟩ := h'
  exact ⟨(nI_eq (by omega) (by omega)).mp (b1.symm.trans a1), (nI_eq (by omega) (by omega)).mp (b3.symm.trans a3), (nI_eq (by omega) (by omega)).mp (b5.symm.trans a5)⟩
theorem NC.cg {w w' : rN} {np nd nh : Nat} (h : NC w np nd nh) (e : ∀ i, i < 69 → w' i = w i) : NC w' np nd nh := by
  obtain ⟨a1, a2, a3, a4, a5, a6⟩ := h
  exact ⟨by rw [e 3 (by decide)]; exact a1, a2, by rw [e 24 (by decide)]; exact a3, a4, by rw [e 31 (by decide)]; exact a5, a6⟩
theorem CW.cg {M : am_I} {b : Nat} {w w' : rN} {np nd nh : Nat} (h : CW M b w np nd nh) (e : ∀ i, i < 69 → w' i = w i) : CW M b w' np nd nh := by
  have n5 := h.n5
  have n3 := h.n3
  have n16 := h.n16
  obtain ⟨h0, ⟨s0, s1, s2, s3, s4, s5⟩, h2, h3, h4⟩ := h
  refine ⟨h0.cg e, ⟨by rw [e 0 (by decide)]; exact s0, by rw [e 1 (by decide)]; exact s1, by rw [e 2 (by decide)]; exact s2, by rw [e 3 (by decide)]; exact s3, by rw [e 24 (by decide)]; exact s4, by rw [e 31 (by decide)]; exact s5⟩, fun j hj => ?_, fun k hk => ?_, fun k hk => ?_⟩
  · rw [e _ (by omega), e _ (by omega), e _ (by omega), e _ (by omega), e _ (by omega)]; exact h2 j hj
  · rw [e _ (by omega), e _ (by omega)]; exact h3 k hk
  · rw [e _ (by omega), e _ (by omega)]; exact h4 k hk
theorem WD.cg {w w' : rN} {np gp : Nat} {wd : Nat → Nat} (hn : np ≤ 5) (h : WD w np wd gp) (e : ∀ i, i < 69 → w' i = w i) : WD w' np wd gp := ⟨fun p hp => by rw [e _ (by omega)]; exact h.1 p hp, by rw [e 2 (by decide)]; exact h.2.1, h.2.2⟩
theorem WF.cg {w w' : rN} {np nd nh gp W : Nat} {wd : Nat → Nat} (h : WF w np nd nh wd gp W) (e : ∀ i, i < 69 → w' i = w i) : WF w' np nd nh wd gp W := by
  obtain ⟨h0, h1, h2, h3, h4, h5, h6⟩ := h
  have n5 := h0.2.1
  refine ⟨h0.cg e, h1.cg n5 e, fun p hp => by rw [e _ (by omega)]; exact h2 p hp, by rw [e 0 (by decide)]; exact h3, h4, fun p hp => by rw [e _ (by omega)]; exact h5 p hp, fun p q x y hp hq hpq hx hy g1 g2 => ?_⟩
  rw [e _ (by omega)] at g1 g2
  exact h6 p q x y hp hq hpq hx hy g1 g2
theorem WE.cg {w w' : rN} (h : WE w) (e : ∀ i, i < 69 → w' i = w i) : WE w' := by
  obtain ⟨np, nd, nh, wd, gp, W, h⟩ := h
  exact ⟨np, nd, nh, wd, gp, W, h.cg e⟩
/-- the past row j and the image i of the reference -/
def pwM (M : am_I) (j : Nat) : rN := fun i => M 124 (69 * j + i)
def imM (M : am_I) (j : Nat) : rN := fun i => M 125 (69 * j + i)
def IA (M : am_I) : Prop := ∃ (nl : Nat) (tx : Nat → Nat), nl ≤ 120 ∧ M 0 1 = nI nl ∧ M 121 10 = nI nl ∧ ∀ y, y < nl → M 1 y = nI (tx y) ∧ M 129 y = nI (tx y) ∧ tx y ≤ 255
def IW (M : am_I) : Prop := (∃ np nd nh, CW M 7 (M 122) np nd nh) ∧ WE (M 122)
def IP (M : am_I) (f : Nat → Option Nat) : Prop := ∃ u, PI M f u (pwM M) ∧ M 121 3 = nI u ∧ ∀ j, j < u → WE (pwM M j)
def IS (M : am_I) : Prop := ∃ ns, CS M ns ∧ SC M ns ∧ ∀ k, k < ns → M 97 k = M 127 k ∧ M 98 k = M 128 k
def II1 (M : am_I) (b i : Nat) : Prop := (M 120 i = 0 ∧ M 126 i = 0) ∨ (M 120 i = 1 ∧ M 126 i = 1 ∧ (∃ np nd nh, CW M b (imM M i) np nd nh) ∧ WE (imM M i))
def II (M : am_I) : Prop := II1 M 100 0 ∧ II1 M 110 1
def IK (M : am_I) : Prop := M 0 7 = 0 ∨ (M 0 7 = 1 ∧ ∃ np nd nh wd gp r, NC (M 122) np nd nh ∧ M 89 6 = nI np ∧ WD (M 122) np wd gp ∧ BestB wd (FB (M 122) nd) (HB (M 122) nh) (LB (M 122)) np gp r ∧ RBc wd (HB (M 122) nh) (LB (M 122)) np M r)
def IV (M : am_I) (f : Nat → Option Nat) : Prop := IA M ∧ IW M ∧ IP M f ∧ IS M ∧ II M ∧ IK M ∧ M 135 0 = 0
theorem IW.get {M : am_I} (h : IW M) : ∃ np nd nh wd gp W, CW M 7 (M 122) np nd nh ∧ WF (M 122) np nd nh wd gp W := by
  obtain ⟨⟨np, nd, nh, h1⟩, np', nd', nh', wd, gp, W, h2⟩ := h
  obtain ⟨rfl, rfl, rfl⟩ := NC.un h1.1 h2.1
  exact ⟨_, _, _, wd, gp, W, h1, h2⟩
theorem IA.cg {M M' : am_I} (h : IA M) (e1 : M' 0 1 = M 0 1) (e2 : M' 121 10 = M 121 10) (e3 : M' 1 = M 1) (e4 : M' 129 = M 129) : IA M' := by
  obtain ⟨nl, tx, h1, h2, h3, h4⟩ := h
  exact ⟨nl, tx, h1, e1.trans h2, e2.trans h3, fun y hy => by rw [e3, e4]; exact h4 y hy⟩
theorem IW.cg {M M' : am_I} (h : IW M) (e1 : ∀ i, 7 ≤ i → i ≤ 16 → M' i = M i) (e2 : M' 122 = M 122) : IW M' := by
  obtain ⟨⟨np, nd, nh, h1⟩, h2⟩ := h
  refine ⟨⟨np, nd, nh, ?_⟩, by rw [e2]; exact h2⟩
  rw [e2]
  exact h1.keepR (fun i a b => e1 i a (by omega))
theorem IP.cg {M M' : am_I} {f : Nat → Option Nat} (h : IP M f) (e1 : ∀ i, 27 ≤ i → i < 89 → M' i = M i) (e2 : M' 121 3 = M 121 3) (e3 : M' 124 = M 124) : IP M' f := by
  obtain ⟨u, h1, h2, h3⟩ := h
  have e : pwM M' = pwM M := by unfold pwM; rw [e3]
  exact ⟨u, by rw [e]; exact h1.same e1, e2.trans h2, by rw [e]; exact h3⟩
theorem IS.cg {M M' : am_I} (h : IS M) (e1 : M' 96 2 = M 96 2) (e2 : M' 97 = M 97) (e3 : M' 98 = M 98) (e4 : M' 121 6 = M 121 6) (e5 : M' 127 = M 127) (e6 : M' 128 = M 128) : IS M' := by
  obtain ⟨ns, h1, h2, h3⟩ := h
  refine ⟨ns, ⟨e1.trans h1.1, h1.2.1, by rw [e2]; exact h1.2.2⟩, ⟨e4.trans h2.1, h2.2.1, by rw [e5]; exact h2.2.2⟩, fun k hk => by rw [e2, e3, e5, e6]; exact h3 k hk⟩
theorem II1.cg {M M' : am_I} {b i : Nat} (h : II1 M b i) (e1 : M' 120 i = M 120 i) (e2 : M' 126 i = M 126 i) (e3 : ∀ k, b ≤ k → k ≤ b + 9 → M' k = M k) (e4 : ∀ k, k < 69 → imM M' i k = imM M i k) : II1 M' b i := by
  rcases h with h | ⟨h1, h2, ⟨np, nd, nh, h3⟩, h4⟩
  · exact Or.inl ⟨e1.trans h.1, e2.trans h.2⟩
  · exact Or.inr ⟨e1.trans h1, e2.trans h2, ⟨np, nd, nh, (h3.keepR e3).cg e4⟩, h4.cg e4⟩
theorem II.cg {M M' : am_I} (h : II M) (e1 : M' 120 = M 120) (e2 : M' 126 = M 126) (e3 : ∀ k, 100 ≤ k → k < 120 → M' k = M k) (e4 : M' 125 = M 125) : II M' :=
  ⟨h.1.cg (by rw [e1]) (by rw [e2]) (fun k a b => e3 k a (by omega)) (fun k _ => by unfold imM; rw [e4]), h.2.cg (by rw [e1]) (by rw [e2]) (fun k a b => e3 k (by omega) (by omega)) (fun k _ => by unfold imM; rw [e4])⟩
theorem IK.cg {M M' : am_I} (h : IK M) (e1 : M' 0 7 = M 0 7) (e2 : M' 122 = M 122) (e3 : M' 89 = M 89) (e4 : M' 93 = M 93) : IK M' := by
  rcases h with h | ⟨h1, np, nd, nh, wd, gp, r, h2, h3, h4, h5, h6⟩
  · exact Or.inl (e1.trans h)
  · refine Or.inr ⟨e1.trans h1, np, nd, nh, wd, gp, r, by rw [e2]; exact h2, by rw [e3]; exact h3, by rw [e2]; exact h4, by rw [e2]; exact h5, ?_⟩
    rw [e2]
    unfold RBc at *
    rw [e3, e4]
    exact h6
/-- one call of each: the same answer, and it holds again -/
def ST (μ7 : am_M) (d7 : Nat) (μ8 : am_M) (d8 : Nat) (As : List Value) (M : am_I) (V : am_J) (f : Nat → Option Nat) : Prop := CT μ7 d7 (.ref 0 :: As) M V f (fun v M1 V1 f1 => ∃ x, v = some (.int x) ∧ CT μ8 d8 (.ref 121 :: As) M1 V1 f1 (fun v' M2 _ f2 => v' = some (.int x) ∧ IV M2 f2))
theorem ST.rv {μ7 μ8 : am_M} {d7 d8 : Nat} {As : List Value} {M : am_I} {V : am_J} {f : Nat → Option Nat} {x y : Int32} (h : IV M f) (h7 : CT μ7 d7 (.ref 0 :: As) M V f (RV x M V f)) (h8 : CT μ8 d8 (.ref 121 :: As) M V f (RV y M V f)) (e : x = y) : ST μ7 d7 μ8 d8 As M V f := by
  subst e
  refine h7.weaken (fun v M1 V1 f1 hh => ?_)
  obtain ⟨rfl, rfl, rfl, rfl⟩ := hh
  refine ⟨x, rfl, h8.weaken (fun v M2 V2 f2 hh => ?_)⟩
  obtain ⟨rfl, rfl, rfl, rfl⟩ := hh
  exact ⟨rfl, h⟩
theorem ST.rm {μ7 μ8 : am_M} {d7 d8 : Nat} {As : List Value} {M M1 M2 : am_I} {V : am_J} {f : Nat → Option Nat} {x y : Int32} (h7 : CT μ7 d7 (.ref 0 :: As) M V f (RM (some (.int x)) M1 V f)) (h8 : CT μ8 d8 (.ref 121 :: As) M1 V f (RM (some (.int y)) M2 V f)) (h : IV M2 f) (e : x = y) : ST μ7 d7 μ8 d8 As M V f := by
  subst e
  refine h7.weaken (fun v M1 V1 f1 hh => ?_)
  obtain ⟨rfl, rfl, rfl, rfl⟩ := hh
  refine ⟨x, rfl, h8.weaken (fun v M2 V2 f2 hh => ?_)⟩
  obtain ⟨rfl, rfl, rfl, rfl⟩ := hh
  exact ⟨rfl, h⟩
/-! Bridges between the class's words and the reference's. -/
theorem la_n {P : Nat → Prop} : ∀ {n : Nat}, (∀ q, q < n → ¬ P q) → laN P n = -9
  | 0, _ => rfl
  | n + 1, h => (if_neg (h n (Nat.lt_succ_self n))).trans (la_n (fun q hq => h q (by omega)))
theorem la_l {P : Nat → Prop} {k : Nat} (hp : P k) : ∀ {n : Nat}, k < n → (∀ q, k < q → q < n → ¬ P q) → laN P n = nI k
  | 0, h, _ => absurd h (Nat.not_lt_zero _)
  | n + 1, h, h2 => by
    by_cases hk : k = n
    · subst hk; exact if_pos hp
    · exact (if_neg (h2 n (by omega) (Nat.lt_succ_self n))).trans (la_l hp (by omega) (fun q a b => h2 q a (by omega)))
theorem la_dl {P : Nat → Prop} {n : Nat} (h : ∀ p q, p < n → q < n → P p → P q → p = q) : laN P n = dlst P n n := by
  by_cases hx : ∃ k, k < n ∧ P k
  · obtain ⟨k, hk, hp⟩ := hx
    rw [la_l hp hk (fun q a b c => absurd (h k q hk b hp c) (by omega)), dl_f hp hk (fun q a c => absurd (h k q hk (by omega) hp c) (by omega))]
  · have h0 : ∀ q, q < n → ¬ P q := fun q hq hp => hx ⟨q, hq, hp⟩
    rw [la_n h0, dl_n h0]
theorem on_un {w : rN} {np nd nh gp W k : Nat} {wd : Nat → Nat} (h : WF w np nd nh wd gp W) : ∀ p q, p < np → q < np → onN w k p → onN w k q → p = q := by
  intro p q hp hq h1 h2
  obtain ⟨h0, hwd, -, -, -, h5, h6⟩ := h
  refine Classical.byContradiction (fun hpq => ?_)
  rcases h5 p hp with e1 | ⟨x, hx, e1⟩
  · exact h1.1 e1
  rcases h5 q hq with e2 | ⟨y, hy, e2⟩
  · exact h2.1 e2
  have a1 := h1.2.1.trans h2.2.1.symm
  obtain ⟨w1, w2, w3⟩ := hwd.1 p hp
  obtain ⟨v1, v2, v3⟩ := hwd.1 q hq
  unfold hkX at a1
  rw [e1, e2, w1, v1, show (2 : Int32) = nI 2 from rfl, pk_mul, pk_mul, nI_add, nI_add] at a1
  have a2 := (nI_eq (by omega) (by omega)).mp a1
  rcases h6 p q x y hp hq hpq hx hy e1 e2 with c | c <;> omega
theorem ab_of (x : Int32) : abN x = ofN x := by
  unfold abN ofN
  by_cases h : x < 0
  · rw [if_pos h, if_neg (Int32.not_le.mpr h), Int32.zero_sub]
  · rw [if_neg h, if_pos (Int32.not_lt.mp h)]
theorem fit_lt2 {w : rN} {np nd nh gp W j i : Nat} {wd : Nat → Nat} (h : WF w np nd nh wd gp W) (hj : j < np) (hi : i < 40) (hf : fitN w nd j (nI i)) : i < W := by
  obtain ⟨h0, hwd, -, hW, hW9, -⟩ := h
  obtain ⟨w1, w2, w3⟩ := hwd.1 j hj
  have a := hf.1.2
  rw [w1, hW, nI_add] at a
  have := (nI_leI (by omega) (by omega)).mp a
  omega
theorem ac_dc {P : Nat → Prop} {n : Nat} : ∀ k, k ≤ n → dcnt P n k + acnt P (n - k) = acnt P n
  | 0, _ => by show (0 : Int32) + acnt P n = acnt P n; rw [Int32.zero_add]
  | k + 1, h => by
    have ih := ac_dc (P := P) (n := n) k (by omega)
    have e : n - k = (n - 1 - k) + 1 := by omega
    rw [e] at ih
    rw [show n - (k + 1) = n - 1 - k by omega]
    rw [← ih]
    show dcnt P n k + bi (P (n - 1 - k)) + acnt P (n - 1 - k) = dcnt P n k + (acnt P (n - 1 - k) + bi (P (n - 1 - k)))
    rw [Int32.add_assoc, Int32.add_comm (bi _)]
theorem dc_ac {P : Nat → Prop} {n : Nat} : acnt P n = dcnt P n n := by
  have h := ac_dc (P := P) (n := n) n (Nat.le_refl n)
  rw [Nat.sub_self] at h
  rw [← h]
  show dcnt P n n + 0 = _
  rw [Int32.add_zero]
theorem ac_W {P : Nat → Prop} {W : Nat} : ∀ d, (∀ i, W ≤ i → i < W + d → ¬ P i) → acnt P (W + d) = acnt P W
  | 0, _ => rfl
  | d + 1, h => by
    show acnt P (W + d) + bi (P (W + d)) = _
    rw [bi_f (h (W + d) (by omega) (by omega)), Int32.add_zero]
    exact ac_W d (fun i a b => h i a (by omega))
theorem ac_40 {P : Nat → Prop} {W : Nat} (hW : W ≤ 40) (h : ∀ i, i < 40 → P i → i < W) : acnt P W = dcnt P 40 40 := by
  rw [← dc_ac, show 40 = W + (40 - W) by omega]
  exact (ac_W (40 - W) (fun i a b c => absurd (h i (by omega) c) (by omega))).symm
theorem least_ex {P : Nat → Prop} {n : Nat} (h : ∃ k, k < n ∧ P k) : ∃ k, k < n ∧ P k ∧ ∀ q, q < k → ¬ P q := by
  obtain ⟨k, hk, hp⟩ := h
  have key : ∀ m, ∀ k, k ≤ m → k < n → P k → ∃ k, k < n ∧ P k ∧ ∀ q, q < k → ¬ P q := by
    intro m
    induction m with
    | zero => intro k h1 h2 h3; exact ⟨k, h2, h3, fun q hq => by omega⟩
    | succ m ih =>
      intro k h1 h2 h3
      by_cases hx : ∃ q, q < k ∧ P q
      · obtain ⟨q, q1, q2⟩ := hx
        exact ih q (by omega) (by omega) q2
      · exact ⟨k, h2, h3, fun q hq hp => hx ⟨q, hq, hp⟩⟩
  exact key k k (Nat.le_refl k) hk hp
theorem dl_40 {P : Nat → Prop} {W : Nat} (hW : W ≤ 40) (h : ∀ i, i < 40 → P i → i < W) : dlst P W W = dlst P 40 40 := by
  by_cases hx : ∃ k, k < W ∧ P k
  · obtain ⟨k, hk, hp, hm⟩ := least_ex hx
    rw [dl_f hp hk hm, dl_f hp (by omega) hm]
  · rw [dl_n (fun q a b => hx ⟨q, a, b⟩), dl_n (fun q a b => hx ⟨q, h q a b, b⟩)]
theorem dl_cg {P P' : Nat → Prop} {n : Nat} (h : ∀ i, P i ↔ P' i) : dlst P n n = dlst P' n n := by rw [show P = P' from funext (fun i => propext (h i))]
/-- the calmest of the first n -/
def BL (P : Nat → Prop) (D : Int32 → Int32) (lo n : Nat) (R : Int32) : Prop := (R = -9 ∧ ∀ i, lo ≤ i → i < n → ¬ P i) ∨ ∃ k, k < n ∧ lo ≤ k ∧ R = nI k ∧ P k ∧ ∀ i, lo ≤ i → i < n → P i → D (nI k) ≤ D (nI i) ∧ (i < k → D (nI k) < D (nI i))
theorem nI_n9 {k : Nat} (h : k < 2 ^ 31) : nI k ≠ -9 := fun e => absurd (show nI k < 0 by rw [e]; decide) (nI_pos h)
theorem BL.un {P : Nat → Prop} {D : Int32 → Int32} {n : Nat} (hn : n < 2 ^ 31) {R R' : Int32} (h : BL P D 0 n R) (h' : BL P D 0 n R') : R = R' := by
  rcases h with ⟨h1, h2⟩ | ⟨k, h1, -, h2, h3, h4⟩ <;> rcases h' with ⟨g1, g2⟩ | ⟨k', g1, -, g2, g3, g4⟩
  · rw [h1, g1]
  · exact absurd g3 (h2 k' (Nat.zero_le _) g1)
  · exact absurd h3 (g2 k (Nat.zero_le _) h1)
  · obtain ⟨a1, a2⟩ := h4 k' (Nat.zero_le _) g1 g3
    obtain ⟨b1, b2⟩ := g4 k (Nat.zero_le _) h1 h3
    rcases Nat.lt_trichotomy k k' with c | c | c
    · exact absurd (Int32.lt_of_lt_of_le (b2 c) a1) Int32.lt_irrefl
    · rw [h2, g2, c]
    · exact absurd (Int32.lt_of_lt_of_le (a2 c) b1) Int32.lt_irrefl
theorem acp_BL {P : Nat → Prop} {D : Int32 → Int32} : ∀ k, k < 2 ^ 31 → BL P D 0 k (acp P D k).1 ∧ ((acp P D k).1 ≠ -9 → (acp P D k).2 = D (acp P D k).1)
  | 0, _ => ⟨Or.inl ⟨rfl, fun i _ h => absurd h (Nat.not_lt_zero i)⟩, fun h => absurd rfl h⟩
  | k + 1, hk => by
    obtain ⟨ih, ih2⟩ := acp_BL (P := P) (D := D) k (by omega)
    have e : acp P D (k + 1) = cif (P k ∧ ((acp P D k).1 = -9 ∨ D (nI k) < (acp P D k).2)) (nI k, D (nI k)) (acp P D k) := rfl
    by_cases h : P k ∧ ((acp P D k).1 = -9 ∨ D (nI k) < (acp P D k).2)
    · rw [e, cif_t h]
      refine ⟨Or.inr ⟨k, Nat.lt_succ_self k, Nat.zero_le _, rfl, h.1, fun i _ hi hp => ?_⟩, fun _ => rfl⟩
      by_cases hik : i = k
      · subst hik; exact ⟨Int32.le_refl _, fun q => absurd q (Nat.lt_irrefl _)⟩
      · have hlt : D (nI k) < D (nI i) := by
          rcases ih with ⟨h1, h2⟩ | ⟨m, h1, -, h2, h3, h4⟩
          · exact absurd hp (h2 i (Nat.zero_le _) (by omega))
          · have hne : (acp P D k).1 ≠ -9 := by rw [h2]; exact nI_n9 (by omega)
            have h5 := h.2.resolve_left hne
            rw [ih2 hne, h2] at h5
            exact Int32.lt_of_lt_of_le h5 (h4 i (Nat.zero_le _) (by omega) hp).1
        exact ⟨Int32.le_of_lt hlt, fun _ => hlt⟩
    · rw [e, cif_f h]
      refine ⟨?_, ih2⟩
      rcases ih with ⟨h1, h2⟩ | ⟨m, h1, -, h2, h3, h4⟩
      · refine Or.inl ⟨h1, fun i _ hi hp => ?_⟩
        by_cases hik : i = k
        · subst hik; exact h ⟨hp, Or.inl h1⟩
        · exact h2 i (Nat.zero_le _) (by omega) hp
      · refine Or.inr ⟨m, by omega, Nat.zero_le _, h2, h3, fun i _ hi hp => ?_⟩
        by_cases hik : i = k
        · subst hik
          have hne : (acp P D i).1 ≠ -9 := by rw [h2]; exact nI_n9 (by omega)
          have h5 : ¬ D (nI i) < (acp P D i).2 := fun q => h ⟨hp, Or.inr q⟩
          rw [ih2 hne, h2] at h5
          exact ⟨Int32.not_lt.mp h5, fun q => absurd q (by omega)⟩
        · exact h4 i (Nat.zero_le _) (by omega) hp
theorem dbal_BL {P : Nat → Prop} {D : Int32 → Int32} {n : Nat} (hn : n < 2 ^ 31) : ∀ k, k ≤ n → BL P D (n - k) n (dbal P D n k)
  | 0, _ => Or.inl ⟨rfl, fun i a b => absurd b (by omega)⟩
  | k + 1, hk => by
    have ih := dbal_BL (P := P) (D := D) hn k (by omega)
    have e : dbal P D n (k + 1) = cif (P (n - 1 - k) ∧ (dbal P D n k = -9 ∨ D (nI (n - 1 - k)) ≤ D (dbal P D n k))) (nI (n - 1 - k)) (dbal P D n k) := rfl
    by_cases h : P (n - 1 - k) ∧ (dbal P D n k = -9 ∨ D (nI (n - 1 - k)) ≤ D (dbal P D n k))
    · rw [e, cif_t h]
      refine Or.inr ⟨n - 1 - k, by omega, by omega, rfl, h.1, fun i a b hp => ⟨?_, fun q => absurd q (by omega)⟩⟩
      by_cases hik : i = n - 1 - k
      · subst hik; exact Int32.le_refl _
      · rcases ih with ⟨h1, h2⟩ | ⟨m, h1, h0, h2, h3, h4⟩
        · exact absurd hp (h2 i (by omega) b)
        · have hne : dbal P D n k ≠ -9 := by rw [h2]; exact nI_n9 (by omega)
          have h5 := h.2.resolve_left hne
          rw [h2] at h5
          exact Int32.le_trans h5 (h4 i (by omega) b hp).1
    · rw [e, cif_f h]
      rcases ih with ⟨h1, h2⟩ | ⟨m, h1, h0, h2, h3, h4⟩
      · refine Or.inl ⟨h1, fun i a b hp => ?_⟩
        by_cases hik : i = n - 1 - k
        · subst hik; exact h ⟨hp, Or.inl h1⟩
        · exact h2 i (by omega) b hp
      · refine Or.inr ⟨m, h1, by omega, h2, h3, fun i a b hp => ?_⟩
        by_cases hik : i = n - 1 - k
        · subst hik
          have h5 : ¬ D (nI (n - 1 - k)) ≤ D (dbal P D n k) := fun q => h ⟨hp, Or.inr q⟩
          rw [h2] at h5
          have h6 := Int32.not_le.mp h5
          exact ⟨Int32.le_of_lt h6, fun _ => h6⟩
        · exact h4 i (by omega) b hp
theorem bal_40 {P : Nat → Prop} {D D' : Int32 → Int32} {W : Nat} (hW : W ≤ 40) (h : ∀ i, i < 40 → P i → i < W) (hD : ∀ x, D x = D' x) : (acp P D W).1 = dbal P D' 40 40 := by
  have e : D = D' := funext hD
  subst e
  refine BL.un (P := P) (D := D) (n := 40) (by decide) ?_ (by have := dbal_BL (P := P) (D := D) (n := 40) (by decide) 40 (Nat.le_refl _); exact this)
  rcases (acp_BL (P := P) (D := D) W (by omega)).1 with ⟨h1, h2⟩ | ⟨m, h1, -, h2, h3, h4⟩
  · exact Or.inl ⟨h1, fun i a b hp => h2 i a (h i b hp) hp⟩
  · exact Or.inr ⟨m, by omega, Nat.zero_le _, h2, h3, fun i a b hp => h4 i a (h i b hp) hp⟩
