/-! The calls that change the wall. -/
theorem kp_eq {P N : Nat → Int32} {u j i : Nat} (hu : u ≤ 6) (hj : j < kpn u) (hi : i < 69) : kpr P N u (69 * j + i) = kpw (fun j i => P (69 * j + i)) N u j i := by
  unfold kpr kpw kpn at *
  by_cases h : u = 6
  · rw [if_pos h] at hj
    rw [if_pos h, if_pos h]
    by_cases h5 : j < 5
    · show _ = (if j < 5 then (fun i => P (69 * (j + 1) + i)) else N) i
      rw [if_pos h5, cp_out (by omega)]
      have e := cp_in (f := P) (g := P) (sp := 69) (dp := 0) (n := 345) (i := 69 * j + i) (by omega)
      rw [Nat.zero_add] at e
      rw [e]
      show P (69 + (69 * j + i)) = P (69 * (j + 1) + i)
      congr 1
      omega
    · show _ = (if j < 5 then (fun i => P (69 * (j + 1) + i)) else N) i
      rw [if_neg h5, show 69 * j + i = 345 + i by omega, cp_in hi, Nat.zero_add]
  · rw [if_neg h] at hj
    rw [if_neg h, if_neg h]
    show _ = (if j = u then N else (fun i => P (69 * j + i))) i
    by_cases h5 : j = u
    · subst h5
      rw [if_pos rfl, cp_in hi, Nat.zero_add]
    · rw [if_neg h5, cp_out (by omega)]
theorem IP.kp {M M1 M2 : am_I} {f1 : Nat → Option Nat} {u : Nat} (h3 : ∀ j, j < u → WE (pwM M j)) (hu : u ≤ 6) (hW : WE (M 122)) (p1 : PI M1 f1 (kpn u) (kpw (pwM M) (M 122) u)) (e : ∀ i, 27 ≤ i → i < 89 → M2 i = M1 i) (e3 : M2 121 3 = nI (kpn u)) (e4 : M2 124 = kpr (M 124) (M 122) u) : IP M2 f1 := by
  have q : ∀ j, j < kpn u → ∀ i, i < 69 → pwM M2 j i = kpw (pwM M) (M 122) u j i := fun j hj i hi => by
    show M2 124 (69 * j + i) = _
    rw [e4]
    exact kp_eq hu hj hi
  obtain ⟨a1, a2, a3, a4, a5⟩ := p1.same e
  refine ⟨kpn u, ⟨a1, a2, a3, a4, fun j hj => ?_⟩, e3, fun j hj => WE.cg ?_ (q j hj)⟩
  · obtain ⟨b, np, nd, nh, hb, hc⟩ := a5 j hj
    exact ⟨b, np, nd, nh, hb, hc.cg (q j hj)⟩
  · unfold kpw
    unfold kpn at hj
    by_cases h6 : u = 6
    · rw [if_pos h6] at hj
      rw [if_pos h6]
      show WE (if j < 5 then pwM M (j + 1) else M 122)
      by_cases h5 : j < 5
      · rw [if_pos h5]; exact h3 (j + 1) (by omega)
      · rw [if_neg h5]; exact hW
    · rw [if_neg h6] at hj
      rw [if_neg h6]
      show WE (if j = u then M 122 else pwM M j)
      by_cases h5 : j = u
      · rw [if_pos h5]; exact hW
      · rw [if_neg h5]; exact h3 j (by omega)
theorem IV.wall {M M' : am_I} {f f' : Nat → Option Nat} (h : IV M f) (hA : IA M') (hW : IW M') (hP : IP M' f') (e7 : M' 0 7 = 0) (e : ∀ i, 89 ≤ i → i ≠ 121 → i ≠ 122 → i ≠ 123 → i ≠ 124 → M' i = M i) (e6 : M' 121 6 = M 121 6) : IV M' f' := by
  obtain ⟨-, -, -, hS, hI, -, h5⟩ := h
  have g : ∀ i, 89 ≤ i ∧ i ≠ 121 ∧ i ≠ 122 ∧ i ≠ 123 ∧ i ≠ 124 → M' i = M i := fun i q => e i q.1 q.2.1 q.2.2.1 q.2.2.2.1 q.2.2.2.2
  exact ⟨hA, hW, hP, hS.cg (by rw [g 96 (by decide)]) (g 97 (by decide)) (g 98 (by decide)) e6 (g 127 (by decide)) (g 128 (by decide)), hI.cg (g 120 (by decide)) (g 126 (by decide)) (fun k a b => g k (by omega)) (g 125 (by decide)), Or.inl e7, by rw [g 135 (by decide)]; exact h5⟩
theorem ST.ch {μ7 μ8 : am_M} {d7 d8 : Nat} {As : List Value} {M : am_I} {V : am_J} {f : Nat → Option Nat} {u np' nd' nh' : Nat} {x : Int32} {w' : rN} (h : IV M f) (hu6 : u ≤ 6) (hWE : ∀ j, j < u → WE (pwM M j))
    (h7 : CT μ7 d7 (.ref 0 :: As) M V f (fun v M' V' f' => v = some (.int x) ∧ V' = V ∧ PI M' f' (kpn u) (kpw (pwM M) (M 122) u) ∧ CW M' 7 w' np' nd' nh' ∧ KQ M M')) (hw' : WE w')
    (h8 : ∀ M1 f1, M1 121 = M 121 → M1 122 = M 122 → M1 124 = M 124 → CT μ8 d8 (.ref 121 :: As) M1 V f1 (fun v M2 _ f2 => v = some (.int x) ∧ f2 = f1 ∧ (∀ i, i ≠ 121 → i ≠ 122 → i ≠ 124 → M2 i = M1 i) ∧ M2 124 = kpr (M 124) (M 122) u ∧ (∀ i, i < 69 → M2 122 i = w' i) ∧ M2 121 3 = nI (kpn u) ∧ M2 121 6 = M 121 6 ∧ M2 121 10 = M 121 10)) : ST μ7 d7 μ8 d8 As M V f := by
  refine h7.weaken (fun v M1 V1 f1 hh => ?_)
  obtain ⟨g1, rfl, g3, g4, g5⟩ := hh
  obtain ⟨k1, k2, k3, k4⟩ := g5
  refine ⟨x, g1, (h8 M1 f1 (k4 121 (by decide)) (k4 122 (by decide)) (k4 124 (by decide))).weaken (fun v M2 V2 f2 hh => ?_)⟩
  obtain ⟨b1, rfl, b3, b4, b5, b6, b7, b8⟩ := hh
  refine ⟨b1, h.wall (h.1.cg ?_ b8 ?_ ?_) ⟨⟨np', nd', nh', ?_⟩, hw'.cg b5⟩ (IP.kp hWE hu6 h.2.1.2 g3 (fun i a b => b3 i (by omega) (by omega) (by omega)) b6 b4) ?_ (fun i a b c d e => ?_) b7⟩
  · rw [b3 0 (by decide) (by decide) (by decide)]; exact k2 1 (by decide)
  · rw [b3 1 (by decide) (by decide) (by decide)]; exact k3 1 (by decide) (by decide)
  · rw [b3 129 (by decide) (by decide) (by decide)]; exact k4 129 (by decide)
  · exact (g4.keepR (fun i a b => b3 i (by omega) (by omega) (by omega))).cg b5
  · rw [b3 0 (by decide) (by decide) (by decide)]; exact k1
  · rw [b3 i b c e]; exact k4 i a
theorem WF.setAt {w : rN} {np nd nh gp W j : Nat} {wd : Nat → Nat} {v : Int32} (h : WF w np nd nh wd gp W) (hj : j < np) (hv : v = -9 ∨ ∃ x, x < 40 ∧ v = nI x ∧ ∀ q y, q < np → q ≠ j → y < 40 → w (64 + q) = nI y → x + wd j ≤ y ∨ y + wd q ≤ x) : WF (setN w (64 + j) v) np nd nh wd gp W := by
  obtain ⟨⟨c1, c2, c3, c4, c5, c6⟩, ⟨h1, h12, h13⟩, h2, h3, h4, h5, h6⟩ := h
  refine ⟨⟨by rw [setN_ne (by omega)]; exact c1, c2, by rw [setN_ne (by omega)]; exact c3, c4, by rw [setN_ne (by omega)]; exact c5, c6⟩, ⟨fun p hp => by rw [setN_ne (by omega)]; exact h1 p hp, by rw [setN_ne (by omega)]; exact h12, h13⟩, fun p hp => by rw [setN_ne (by omega)]; exact h2 p hp, by rw [setN_ne (by omega)]; exact h3, h4, fun p hp => ?_, fun p q x y hp hq hpq hx hy g1 g2 => ?_⟩
  · by_cases e : p = j
    · subst e
      rw [setN_eq]
      exact hv.imp id (fun ⟨x, a, b, _⟩ => ⟨x, a, b⟩)
    · rw [setN_ne (by omega)]; exact h5 p hp
  · have n9 : ∀ z, z < 40 → v = nI z → ∀ q y, q < np → q ≠ j → y < 40 → w (64 + q) = nI y → z + wd j ≤ y ∨ y + wd q ≤ z := fun z hz ez => by
      rcases hv with hv | ⟨x', a, b, c⟩
      · exact absurd (ez.symm.trans hv) (nI_n9 (by omega))
      · have e := (nI_eq (by omega) (by omega)).mp (ez.symm.trans b)
        subst e
        exact c
    by_cases ep : p = j
    · subst ep
      rw [setN_eq] at g1
      rw [setN_ne (by omega)] at g2
      exact n9 x hx g1 q y hq (Ne.symm hpq) hy g2
    · rw [setN_ne (by omega)] at g1
      by_cases eq : q = j
      · subst eq
        rw [setN_eq] at g2
        exact (n9 y hy g2 p x hp ep hx g1).symm
      · rw [setN_ne (by omega)] at g2
        exact h6 p q x y hp hq hpq hx hy g1 g2
/-- a row that is another only where holes are -/
theorem WF.holes {w w' : rN} {np nd nh nh' gp W : Nat} {wd : Nat → Nat} (h : WF w np nd nh wd gp W) (e : ∀ i, (i < 31 ∨ 64 ≤ i) → w' i = w i) (e31 : w' 31 = nI nh') (h16 : nh' ≤ 16) : WF w' np nd nh' wd gp W := by
  obtain ⟨⟨c1, c2, c3, c4, c5, c6⟩, ⟨h1, h12, h13⟩, h2, h3, h4, h5, h6⟩ := h
  refine ⟨⟨by rw [e 3 (by decide)]; exact c1, c2, by rw [e 24 (by decide)]; exact c3, c4, e31, h16⟩, ⟨fun p hp => by rw [e _ (by omega)]; exact h1 p hp, by rw [e _ (by omega)]; exact h12, h13⟩, fun p hp => by rw [e _ (by omega)]; exact h2 p hp, by rw [e 0 (by decide)]; exact h3, h4, fun p hp => by rw [e _ (by omega)]; exact h5 p hp, fun p q x y hp hq hpq hx hy g1 g2 => ?_⟩
  rw [e _ (by omega)] at g1 g2
  exact h6 p q x y hp hq hpq hx hy g1 g2
section CHS
variable {M : am_I} {V : am_J} {f : Nat → Option Nat}
theorem st_takes (h : IV M f) (p : Int32) : ST m7_takes 5 m8_takes 3 [.int p] M V f := by
  obtain ⟨np, nd, nh, wd, gp, W, hw, hf⟩ := h.2.1.get
  obtain ⟨u, p1, p2, p3⟩ := h.2.2.1
  by_cases hp : vI p np
  · obtain ⟨j, hj, rfl⟩ := hp
    by_cases ha : M 122 (64 + j) = -9
    · exact ST.rv h (q7_takN hw hj ha) (q8_takN hw.1 hj ha) rfl
    · refine ST.ch h p1.2.1 p3 (q7_tak hw hj ha p1) ⟨np, nd, nh, wd, gp, W, hf.setAt hj (Or.inl rfl)⟩ (fun M1 f1 e1 e2 e4 => ?_)
      refine (q8_tak (M := M1) (np := np) (nd := nd) (nh := nh) (by rw [e2]; exact hw.1) hj (by rw [e2]; exact ha) (by rw [e1]; exact p2) p1.2.1).weaken (fun v M2 V2 f2 hh => ?_)
      obtain ⟨g1, rfl, -, g4⟩ := hh
      rw [e2] at g1
      refine ⟨g1, g4, fun i a b c => by rw [am_up_ne b, am_up_ne a, row_ne c], ?_, fun i hi => ?_, rfl, ?_, ?_⟩
      · rw [am_up_ne (by decide), am_up_ne (by decide), row_at, e2, e4]
      · show (if i = 64 + j then -9 else M1 122 i) = _
        rw [e2]; rfl
      · show M1 121 6 = _
        rw [e1]
      · show M1 121 10 = _
        rw [e1]
  · exact ST.rv h (q7_takF hw hp) (q8_takF hw.1 hp) rfl
theorem ap_nat {w : rN} {np nd nh gp W j t : Nat} {wd : Nat → Nat} (h : WF w np nd nh wd gp W) (hj : j < np) (ht : t < 40) (ha : apN w np j (nI t)) : ∀ q y, q < np → q ≠ j → y < 40 → w (64 + q) = nI y → t + wd j ≤ y ∨ y + wd q ≤ t := by
  intro q y hq hqj hy e
  obtain ⟨c, ⟨h1, h12, h13⟩, -⟩ := h
  obtain ⟨a1, a2, a3⟩ := h1 j hj
  obtain ⟨b1, b2, b3⟩ := h1 q hq
  rcases ha q hq with g | g | g
  · exact absurd (e.symm.trans g) (nI_n9 (by omega))
  · rw [a1, h12, e, nI_add, nI_add] at g
    have := (nI_leI (by omega) (by omega)).mp g
    omega
  · rw [b1, h12, e, nI_add, nI_add] at g
    have := (nI_leI (by omega) (by omega)).mp g
    omega
theorem st_hangs (h : IV M f) (p x : Int32) : ST m7_hangs 5 m8_hangs 4 [.int p, .int x] M V f := by
  obtain ⟨np, nd, nh, wd, gp, W, hw, hf⟩ := h.2.1.get
  obtain ⟨u, p1, p2, p3⟩ := h.2.2.1
  by_cases hp : vI p np
  · obtain ⟨j, hj, rfl⟩ := hp
    by_cases hx : vI x 40
    · obtain ⟨t, ht, rfl⟩ := hx
      have hx0 : 0 ≤ nI t := nI_pos0 (by omega)
      have hx1 : nI t ≤ 39 := nI_le (b := 39) (by omega) (by decide)
      by_cases ha : M 122 (64 + j) = -9
      · by_cases hb : fitN (M 122) nd j (nI t) ∧ apN (M 122) np j (nI t)
        · have hF := hf.setAt (v := nI t) hj (Or.inr ⟨t, ht, rfl, ap_nat hf hj ht hb.2⟩)
          by_cases hh : hoN (M 122) nh (hkX (M 122) j (nI t)) (hkY (M 122) j)
          · refine ST.ch h p1.2.1 p3 (q7_hanO hw hj hx0 hx1 ha hb hh p1) ⟨np, nd, nh, wd, gp, W, hF⟩ (fun M1 f1 e1 e2 e4 => ?_)
            refine (q8_hanO (M := M1) (np := np) (nd := nd) (nh := nh) (by rw [e2]; exact hw.1) hj hx0 hx1 (by rw [e2]; exact ha) (by rw [e2]; exact hb.1) (by rw [e2]; exact hb.2) (by rw [e2]; exact hh) (by rw [e1]; exact p2) p1.2.1).weaken (fun v M2 V2 f2 hh => ?_)
            obtain ⟨g1, rfl, -, g4⟩ := hh
            refine ⟨g1, g4, fun i a b c => by rw [am_up_ne b, am_up_ne a, row_ne c], ?_, fun i hi => ?_, rfl, ?_, ?_⟩
            · rw [am_up_ne (by decide), am_up_ne (by decide), row_at, e2, e4]
            · show (if i = 64 + j then nI t else M1 122 i) = _
              rw [e2]; rfl
            · show M1 121 6 = _
              rw [e1]
            · show M1 121 10 = _
              rw [e1]
          · by_cases h16 : nh = 16
            · exact ST.rv h (q7_hanL hw hj hx0 hx1 ha hb hh h16) (q8_hanL hw.1 hj hx0 hx1 ha hb.1 hb.2 hh h16) rfl
            · have hroom : nh < 16 := by have := hw.n16; omega
              refine ST.ch h p1.2.1 p3 (q7_hanM hw hj hx0 hx1 ha hb hh hroom p1) ⟨np, nd, nh + 1, wd, gp, W, hF.holes (fun i hi => by rw [setN_ne (by omega), setN_ne (by omega), setN_ne (by omega)]) setN_eq (by omega)⟩ (fun M1 f1 e1 e2 e4 => ?_)
              refine (q8_hanM (M := M1) (np := np) (nd := nd) (nh := nh) (by rw [e2]; exact hw.1) hj hx0 hx1 (by rw [e2]; exact ha) (by rw [e2]; exact hb.1) (by rw [e2]; exact hb.2) (by rw [e2]; exact hh) hroom (by rw [e1]; exact p2) p1.2.1).weaken (fun v M2 V2 f2 hh => ?_)
              obtain ⟨g1, rfl, -, g4⟩ := hh
              refine ⟨g1, g4, fun i a b c => by rw [am_up_ne b, am_up_ne b, am_up_ne b, am_up_ne b, am_up_ne a, row_ne c], ?_, fun i hi => ?_, rfl, ?_, ?_⟩
              · rw [am_up_ne (by decide), am_up_ne (by decide), am_up_ne (by decide), am_up_ne (by decide), am_up_ne (by decide), row_at, e2, e4]
              · show (if i = 31 then nI (nh + 1) else if i = 32 + 2 * nh + 1 then hkY (M1 122) j else if i = 32 + 2 * nh then hkX (M1 122) j (nI t) else if i = 64 + j then nI t else M1 122 i) = _
                rw [e2]; rfl
              · show M1 121 6 = _
                rw [e1]
              · show M1 121 10 = _
                rw [e1]
        · exact ST.rv h (q7_hanN hw hj hx0 hx1 ha hb) (q8_hanN hw.1 hj hx0 hx1 ha hb) rfl
      · exact ST.rv h (q7_hanU hw hj hx0 hx1 ha) (q8_hanU hw.1 hj hx0 hx1 ha) rfl
    · exact ST.rv h (q7_hanX hw hj hx) (q8_hanX hw.1 hj hx) rfl
  · exact ST.rv h (q7_hanF hw hp x) (q8_hanF hw.1 hp x) rfl
theorem st_fills (h : IV M f) (p : Int32) : ST m7_fills 5 m8_fills 4 [.int p] M V f := by
  obtain ⟨np, nd, nh, wd, gp, W, hw, hf⟩ := h.2.1.get
  obtain ⟨u, p1, p2, p3⟩ := h.2.2.1
  have n16 := hw.n16
  by_cases hp : vI p nh
  · obtain ⟨j, hj, rfl⟩ := hp
    have el := la_dl (on_un (k := j) hf)
    by_cases ha : dlst (onN (M 122) j) np np = -9
    · refine ST.ch h p1.2.1 p3 (q7_fil hw hj ha p1) ⟨np, nd, nh - 1, wd, gp, W, hf.holes (fun i hi => ?_) ?_ (by omega)⟩ (fun M1 f1 e1 e2 e4 => ?_)
      · unfold filN
        rw [cp_out (by omega), setN_ne (by omega)]
      · unfold filN
        rw [cp_out (by omega), setN_eq]
      · refine (q8_fil (M := M1) (np := np) (nd := nd) (nh := nh) (by rw [e2]; exact hw.1) hj (by rw [e2, el]; exact ha) (by rw [e1]; exact p2) p1.2.1).weaken (fun v M2 V2 f2 hh => ?_)
        obtain ⟨g1, rfl, -, g4⟩ := hh
        refine ⟨g1, g4, fun i a b c => by rw [row_ne b, am_up_ne a, row_ne c], ?_, fun i hi => ?_, rfl, ?_, ?_⟩
        · rw [row_ne (by decide), am_up_ne (by decide), row_at, e2, e4]
        · rw [row_at, e2]; rfl
        · show M1 121 6 = _
          rw [e1]
        · show M1 121 10 = _
          rw [e1]
    · exact ST.rv h (q7_filU hw hj ha) (q8_filU hw.1 hj (by rw [el]; exact ha)) rfl
  · exact ST.rv h (q7_filF hw hp) (q8_filF hw.1 hp) rfl
theorem st_lines (h : IV M f) (l : Int32) : ST m7_lines 5 m8_lines 2 [.int l] M V f := by
  obtain ⟨np, nd, nh, wd, gp, W, hw, hf⟩ := h.2.1.get
  obtain ⟨u, p1, p2, p3⟩ := h.2.2.1
  have n5 := hw.n5
  by_cases hl : 5 ≤ l ∧ l ≤ 20
  · by_cases he : M 122 1 = l
    · exact ST.rv h (q7_linS hw hl he) (q8_linS hl he) rfl
    · have hF : WF (linN (M 122) l) np nd nh wd gp W := by
        have e9 : ∀ p, p < np → linN (M 122) l (64 + p) = -9 := fun p hp => by
          unfold linN
          rw [cp_in (by omega)]
        have e0 : ∀ i, i < 64 → i ≠ 1 → linN (M 122) l i = M 122 i := fun i hi h1 => by
          unfold linN
          rw [cp_out (by omega), setN_ne h1]
        obtain ⟨⟨c1, c2, c3, c4, c5, c6⟩, ⟨h1, h12, h13⟩, h2, h3, h4, h5, h6⟩ := hf
        refine ⟨⟨by rw [e0 3 (by decide) (by decide)]; exact c1, c2, by rw [e0 24 (by decide) (by decide)]; exact c3, c4, by rw [e0 31 (by decide) (by decide)]; exact c5, c6⟩, ⟨fun p hp => by rw [e0 _ (by omega) (by omega)]; exact h1 p hp, by rw [e0 2 (by decide) (by decide)]; exact h12, h13⟩, fun p hp => by rw [e0 _ (by omega) (by omega)]; exact h2 p hp, by rw [e0 0 (by decide) (by decide)]; exact h3, h4, fun p hp => Or.inl (e9 p hp), fun p q x y hp hq hpq hx hy g1 g2 => ?_⟩
        exact absurd (g1.symm.trans (e9 p hp)) (nI_n9 (by omega))
      refine ST.ch h p1.2.1 p3 (q7_lin hw hl he p1) ⟨np, nd, nh, wd, gp, W, hF⟩ (fun M1 f1 e1 e2 e4 => ?_)
      refine (q8_lin (M := M1) hl (by rw [e2]; exact he) (by rw [e1]; exact p2) p1.2.1).weaken (fun v M2 V2 f2 hh => ?_)
      obtain ⟨g1, rfl, -, g4⟩ := hh
      rw [e2] at g1
      refine ⟨g1, g4, fun i a b c => by rw [row_ne b, am_up_ne a, row_ne c], ?_, fun i hi => ?_, rfl, ?_, ?_⟩
      · rw [row_ne (by decide), am_up_ne (by decide), row_at, e2, e4]
      · rw [row_at, e2]; rfl
      · show M1 121 6 = _
        rw [e1]
      · show M1 121 10 = _
        rw [e1]
  · exact ST.rv h (q7_linF hl) (q8_linF hl) rfl
theorem st_undo (h : IV M f) : ST m7_undo 4 m8_undo 1 [] M V f := by
  obtain ⟨u, p1, p2, p3⟩ := h.2.2.1
  cases u with
  | zero => exact ST.rv h (q7_undF p1.1) (q8_undF p2) rfl
  | succ u =>
    have hu6 := p1.2.1
    refine (q7_und p1).weaken (fun v M1 V1 f1 hh => ?_)
    obtain ⟨g1, rfl, g3, ⟨np, nd, nh, g4⟩, k1, k2, k3, k4⟩ := hh
    have e1 := k4 121 (by decide)
    have e2 := k4 122 (by decide)
    have e4 := k4 124 (by decide)
    refine ⟨_, g1, (q8_und (M := M1) (u := u) (by rw [e1]; exact p2) (by omega)).weaken (fun v M2 V2 f2 hh => ?_)⟩
    obtain ⟨b1, rfl, -, rfl⟩ := hh
    have er : ∀ i, i < 69 → am_row (am_up M1 121 3 (nI u)) 122 (va_cpy (M1 124) (M1 122) (69 * u) 0 69) 122 i = pwM M u i := fun i hi => by
      rw [row_at]
      have e := cp_in (f := M1 124) (g := M1 122) (sp := 69 * u) (dp := 0) (n := 69) (i := i) hi
      rw [Nat.zero_add] at e
      rw [e, e4]; rfl
    have ep : pwM (am_row (am_up M1 121 3 (nI u)) 122 (va_cpy (M1 124) (M1 122) (69 * u) 0 69)) = pwM M := by
      unfold pwM
      rw [row_ne (by decide), am_up_ne (by decide), e4]
    have eo : ∀ i, i ≠ 121 → i ≠ 122 → am_row (am_up M1 121 3 (nI u)) 122 (va_cpy (M1 124) (M1 122) (69 * u) 0 69) i = M1 i := fun i a b => by rw [row_ne b, am_up_ne a]
    refine ⟨b1, h.wall (h.1.cg ?_ ?_ ?_ ?_) ⟨⟨np, nd, nh, (g4.keepR (fun i a b => eo i (by omega) (by omega))).cg er⟩, (p3 u (by omega)).cg er⟩ ⟨u, ?_, rfl, fun j hj => by rw [ep]; exact p3 j (by omega)⟩ ?_ (fun i a b c d e => (eo i b c).trans (k4 i a)) ?_⟩
    · rw [eo 0 (by decide) (by decide)]; exact k2 1 (by decide)
    · show M1 121 10 = _
      rw [e1]
    · rw [eo 1 (by decide) (by decide)]; exact k3 1 (by decide) (by decide)
    · rw [eo 129 (by decide) (by decide)]; exact k4 129 (by decide)
    · rw [ep]; exact g3.same (fun i a b => eo i (by omega) (by omega))
    · rw [eo 0 (by decide) (by decide)]; exact k1
    · show M1 121 6 = _
      rw [e1]
end CHS
