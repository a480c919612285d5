/-! What no row is better than: bounds, parity. -/
theorem bmod_sm {z : Int} (h1 : -2147483648 ≤ z) (h2 : z < 2147483648) : z.bmod (2 ^ 32) = z := by
  rw [Int.bmod_def]
  have e : ((2 ^ 32 : Nat) : Int) = 4294967296 := by decide
  rw [e]
  split <;> omega
theorem add_sm {a b : Int32} (h : (a.toInt + b.toInt).natAbs < 2147483648) : (a + b).toInt = a.toInt + b.toInt := by
  rw [Int32.toInt_add]
  exact bmod_sm (by omega) (by omega)
theorem mul_sm {a b : Int32} (h : (a.toInt * b.toInt).natAbs < 2147483648) : (a * b).toInt = a.toInt * b.toInt := by
  rw [Int32.toInt_mul]
  exact bmod_sm (by omega) (by omega)
theorem sub_nn {a b c : Nat} (ha : a < 2 ^ 20) (hb : b < 2 ^ 20) (hc : c < 2 ^ 20) : nI a - nI b - nI c = nI a - nI (b + c) := by
  refine Int32.toInt_inj.mp ?_
  rw [Int32.toInt_sub, pk_sub_toInt (by omega) (by omega), pk_sub_toInt (by omega) (by omega), nI_toInt (by omega)]
  rw [bmod_sm (by omega) (by omega)]
  omega
theorem gt_ok {W a x : Nat} (hW : W < 2 ^ 20) (ha : a < 2 ^ 20) (hx : x < 2 ^ 20) : nI W - nI a < nI x ↔ W < x + a := by
  rw [Int32.lt_iff_toInt_lt, pk_sub_toInt (by omega) (by omega), nI_toInt (by omega)]
  omega
/-- weights -/
def WG (w : rN) (np : Nat) : Prop := ∀ p, p < np → ∃ a, a ≤ 1000 ∧ w (4 + 4 * p + 3) = nI a
theorem LB_sm {w : rN} {np gp W p x : Nat} {wd : Nat → Nat} (hwd : WD w np wd gp) (hwg : WG w np) (hW : w 0 = nI W) (hW9 : W ≤ 40) (hp : p < np) (hx : x < 40) : (LB w p x).toInt.natAbs ≤ 100000 := by
  obtain ⟨a, ha, ea⟩ := hwg p hp
  have hq := hwd.1 p hp
  unfold LB leN hkX
  rw [ea, hq.1, hW, show (2 : Int32) = nI 2 from rfl, pk_mul, nI_add]
  have e1 := pk_sub_toInt (a := 2 * x + wd p) (b := W) (by omega) (by omega)
  have h1 : (nI (2 * x + wd p) - nI W).toInt.natAbs ≤ 100 := by rw [e1]; omega
  have h2 : ((nI a).toInt * (nI (2 * x + wd p) - nI W).toInt).natAbs ≤ 100000 := by
    rw [Int.natAbs_mul, nI_toInt (by omega), Int.natAbs_natCast]
    exact Nat.mul_le_mul ha h1
  rw [mul_sm (by omega)]
  exact h2
theorem mkB_sm {wd : Nat → Nat} {L : Nat → Nat → Int32} {o : Nat → Nat} {g x : Nat} : ∀ k, k ≤ 5 → (∀ j, j < k → (L (o j) (xkB wd o g x j)).toInt.natAbs ≤ 100000) → (mkB wd L o g x k).toInt.natAbs ≤ 100000 * k
  | 0, _, _ => by
    show (0 : Int32).toInt.natAbs ≤ _
    decide
  | k + 1, h5, h => by
    have h1 := mkB_sm k (by omega) (fun j hj => h j (by omega))
    have h2 := h k (by omega)
    show (mkB wd L o g x k + L (o k) (xkB wd o g x k)).toInt.natAbs ≤ _
    rw [add_sm (by omega)]
    omega
/-- odd or even -/
def pz (a : Int32) : Nat := a.toBitVec.toNat % 2
theorem pz_add (a b : Int32) : pz (a + b) = (pz a + pz b) % 2 := by
  unfold pz
  rw [Int32.toBitVec_add, BitVec.toNat_add]
  omega
theorem pz_sub (a b : Int32) : pz (a - b) = (pz a + pz b) % 2 := by
  have h := pz_add (a - b) b
  rw [Int32.sub_add_cancel] at h
  have h1 : pz (a - b) < 2 := Nat.mod_lt _ (by decide)
  have h2 : pz b < 2 := Nat.mod_lt _ (by decide)
  omega
theorem pz_mul (a b : Int32) : pz (a * b) = (pz a * pz b) % 2 := by
  unfold pz
  rw [Int32.toBitVec_mul, BitVec.toNat_mul, Nat.mod_mod_of_dvd _ (by decide : 2 ∣ 2 ^ 32), Nat.mul_mod]
theorem pz_lt (a : Int32) : pz a < 2 := Nat.mod_lt _ (by decide)
theorem pz_and (a : Int32) : (a &&& 1) = if pz a = 1 then 1 else 0 := by
  refine Int32.toBitVec_inj.mp (BitVec.eq_of_toNat_eq ?_)
  rw [Int32.toBitVec_and, BitVec.toNat_and]
  have e : (1 : Int32).toBitVec.toNat = 1 := rfl
  rw [e, Nat.and_one_is_mod]
  unfold pz
  split
  next h => rw [h]; rfl
  next h =>
    have : a.toBitVec.toNat % 2 = 0 := by omega
    rw [this]; rfl
theorem pz_LB {w : rN} {p x : Nat} : pz (LB w p x) = pz (LB w p 0) := by
  unfold LB leN hkX
  have h : ∀ y : Int32, pz (2 * y + w (4 + 4 * p) - w 0) = (pz (w (4 + 4 * p)) + pz (w 0)) % 2 := fun y => by
    rw [pz_sub, pz_add, pz_mul]
    have e : pz (2 : Int32) = 0 := rfl
    rw [e, Nat.zero_mul]
    have := pz_lt (w (4 + 4 * p))
    omega
  rw [pz_mul, pz_mul, h, h]
/-- the parity of all, as the class counts it -/
def loP (w : rN) : Nat → Int32
  | 0 => 0
  | k + 1 => loP w k ^^^ (leN w k 0 &&& 1)
theorem loP_eq (w : rN) : ∀ k, loP w k = if smB (fun p => pz (LB w p 0)) k % 2 = 1 then 1 else 0
  | 0 => rfl
  | k + 1 => by
    show loP w k ^^^ (leN w k 0 &&& 1) = if (smB (fun p => pz (LB w p 0)) k + pz (LB w k 0)) % 2 = 1 then 1 else 0
    rw [loP_eq w k, pz_and, show leN w k 0 = LB w k 0 from rfl]
    have h1 := pz_lt (LB w k 0)
    by_cases a : smB (fun p => pz (LB w p 0)) k % 2 = 1
    · by_cases b : pz (LB w k 0) = 1
      · rw [if_pos a, if_pos b, if_neg (by omega)]; rfl
      · rw [if_pos a, if_neg b, if_pos (by omega)]; rfl
    · by_cases b : pz (LB w k 0) = 1
      · rw [if_neg a, if_pos b, if_pos (by omega)]; rfl
      · rw [if_neg a, if_neg b, if_neg (by omega)]; rfl
theorem pz_mk {w : rN} {wd : Nat → Nat} {o : Nat → Nat} {g x : Nat} : ∀ k, pz (mkB wd (LB w) o g x k) = smB (fun j => pz (LB w (o j) 0)) k % 2
  | 0 => rfl
  | k + 1 => by
    show pz (mkB wd (LB w) o g x k + LB w (o k) (xkB wd o g x k)) = (smB (fun j => pz (LB w (o j) 0)) k + pz (LB w (o k) 0)) % 2
    rw [pz_add, pz_mk k, pz_LB]
    omega
theorem ofI_pz (m : Int32) : pz (ofI m) = pz m := by
  unfold ofI
  split
  · rfl
  · rw [pz_sub]
    have e : pz (0 : Int32) = 0 := rfl
    have := pz_lt m
    omega
theorem ofI_ge {m : Int32} (h : m.toInt.natAbs ≤ 1000000) : 0 ≤ (ofI m).toInt := by
  unfold ofI
  have e0 : (0 : Int32).toInt = 0 := by decide
  split
  next h1 =>
    have := Int32.le_iff_toInt_le.mp h1
    omega
  next h1 =>
    have h2 := Int32.lt_iff_toInt_lt.mp (Int32.not_le.mp h1)
    rw [Int32.toInt_sub, e0, bmod_sm (by omega) (by omega)]
    omega
theorem lo_le {w : rN} {np nd gp W : Nat} {wd : Nat → Nat} {y : cd} (hP : VLB wd (FB w nd) np gp y) (hwd : WD w np wd gp) (hwg : WG w np) (hW : w 0 = nI W) (hW9 : W ≤ 40) (h5 : np ≤ 5) : (loP w np).toInt ≤ (oB wd (LB w) np y).toInt := by
  have h0 := hP.2.2.2.1.2
  have hl : ∀ k, k < np → dgB np np y.2.2 k < np := fun k _ => dg_lt h0
  have e1 := pz_mk (w := w) (wd := wd) (o := dgB np np y.2.2) (g := y.1) (x := y.2.1) np
  rw [← nj_sum hl hP.2.2.2.1.1 (fun p => pz (LB w p 0)), ← ofI_pz] at e1
  have hs := mkB_sm (wd := wd) (L := LB w) (o := dgB np np y.2.2) (g := y.1) (x := y.2.1) np h5 (fun j hj => LB_sm hwd hwg hW hW9 (hl j hj) (hP.2.2.2.2 j hj).1)
  have hg := ofI_ge (m := mkB wd (LB w) (dgB np np y.2.2) y.1 y.2.1 np) (by omega)
  show (loP w np).toInt ≤ (ofI (mkB wd (LB w) (dgB np np y.2.2) y.1 y.2.1 np)).toInt
  rw [loP_eq]
  split
  next h =>
    have e2 : (1 : Int32).toInt = 1 := by decide
    rw [e2]
    by_cases hz : (ofI (mkB wd (LB w) (dgB np np y.2.2) y.1 y.2.1 np)).toInt = 0
    · have e3 : ofI (mkB wd (LB w) (dgB np np y.2.2) y.1 y.2.1 np) = 0 := Int32.toInt_inj.mp hz
      rw [e3, h] at e1
      exact absurd e1 (by decide)
    · omega
  next h =>
    have e2 : (0 : Int32).toInt = 0 := by decide
    rw [e2]
    exact hg
/-- a picture that no hole fits -/
noncomputable def eN (w : rN) (nd nh W p : Nat) : Nat := cif (∀ y, y < W → ¬ (FB w nd p y ∧ HB w nh p y)) 1 0
theorem smB_mono {e e' : Nat → Nat} : ∀ n, (∀ p, p < n → e p ≤ e' p) → smB e n ≤ smB e' n
  | 0, _ => Nat.le_refl 0
  | n + 1, h => Nat.add_le_add (smB_mono n (fun p hp => h p (by omega))) (h n (by omega))
theorem bkB_sm {wd : Nat → Nat} {H : Nat → Nat → Prop} {o : Nat → Nat} {g x : Nat} : ∀ k, bkB wd H o g x k = smB (fun j => cif (H (o j) (xkB wd o g x j)) 0 1) k
  | 0 => rfl
  | k + 1 => by
    show bkB wd H o g x k + _ = smB _ k + _
    rw [bkB_sm k]
theorem lb_le {w : rN} {np nd nh gp W : Nat} {wd : Nat → Nat} {y : cd} (hP : VLB wd (FB w nd) np gp y) (hwd : WD w np wd gp) (hW : w 0 = nI W) (hW9 : W ≤ 40) : smB (eN w nd nh W) np ≤ bB wd (HB w nh) np y := by
  have h0 := hP.2.2.2.1.2
  have hl : ∀ k, k < np → dgB np np y.2.2 k < np := fun k _ => dg_lt h0
  rw [nj_sum hl hP.2.2.2.1.1 (eN w nd nh W)]
  unfold bB
  rw [bkB_sm]
  refine smB_mono np (fun k hk => ?_)
  obtain ⟨q1, q2⟩ := hP.2.2.2.2 k hk
  by_cases h : HB w nh (dgB np np y.2.2 k) (xkB wd (dgB np np y.2.2) y.1 y.2.1 k)
  · have e : eN w nd nh W (dgB np np y.2.2 k) = 0 := cif_f (fun z => z _ (FB_W q2 q1 (hl k hk) hwd hW hW9) ⟨q2, h⟩)
    rw [e]
    exact Nat.zero_le _
  · show eN w nd nh W (dgB np np y.2.2 k) ≤ cif _ 0 1
    rw [cif_f h]
    exact cif_le1
theorem smB_el {w : rN} {nd nh W : Nat} : ∀ n, smB (eN w nd nh W) n ≤ n
  | 0 => Nat.le_refl 0
  | n + 1 => Nat.add_le_add (smB_el n) cif_le1
/-- a row ends within the wall -/
theorem xk_sum {wd : Nat → Nat} {o : Nat → Nat} {g x : Nat} : ∀ k, xkB wd o g x k = x + smB (fun j => wd (o j)) k + k * g
  | 0 => by show x = x + 0 + 0 * g; omega
  | k + 1 => by
    show xkB wd o g x k + wd (o k) + g = x + (smB (fun j => wd (o j)) k + wd (o k)) + (k + 1) * g
    rw [xk_sum k, Nat.succ_mul]
    omega
theorem row_end {w : rN} {np nd gp W : Nat} {wd : Nat → Nat} {y : cd} (hP : VLB wd (FB w nd) np gp y) (hwd : WD w np wd gp) (hW : w 0 = nI W) (hW9 : W ≤ 40) : y.2.1 + (smB wd np + y.1 * (np - 1)) ≤ W := by
  have h0 := hP.2.2.2.1.2
  obtain ⟨m, rfl⟩ : ∃ m, np = m + 1 := ⟨np - 1, by omega⟩
  have hl : ∀ k, k < m + 1 → dgB (m + 1) (m + 1) y.2.2 k < m + 1 := fun k _ => dg_lt h0
  obtain ⟨q1, q2⟩ := hP.2.2.2.2 m (by omega)
  have hq := hwd.1 _ (hl m (by omega))
  have h9 := fit_lt (show fitN w nd _ (nI _) from q2) hW hq.1 hq.2.1 (by omega) hq.2.2 hW9
  rw [nj_sum hl hP.2.2.2.1.1 wd]
  rw [xk_sum m] at h9
  show y.2.1 + (smB (fun k => wd (dgB (m + 1) (m + 1) y.2.2 k)) m + wd (dgB (m + 1) (m + 1) y.2.2 m) + y.1 * m) ≤ W
  rw [Nat.mul_comm y.1 m]
  omega
theorem smB_ge1 {wd : Nat → Nat} : ∀ n, 0 < n → (∀ p, p < n → 1 ≤ wd p) → 1 ≤ smB wd n
  | n + 1, _, h => Nat.le_trans (h n (by omega)) (Nat.le_add_left _ _)
theorem smB_9 {wd : Nat → Nat} : ∀ n, (∀ p, p < n → wd p ≤ 9) → smB wd n ≤ 9 * n
  | 0, _ => Nat.le_refl 0
  | n + 1, h => by
    have h1 := smB_9 n (fun p hp => h p (by omega))
    have h2 := h n (by omega)
    show smB wd n + wd n ≤ 9 * (n + 1)
    omega
