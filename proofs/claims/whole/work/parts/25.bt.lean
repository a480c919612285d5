/-! The best row: its words. A candidate is a gap, a first place and an order by its number. -/
abbrev cd : Type := Nat × Nat × Nat
def psC (y : cd) : Nat := y.1 * 262144 + y.2.1 * 4096 + y.2.2
def btr (b : cd → Nat) (o : cd → Int32) (y z : cd) : Prop := b y < b z ∨ b y = b z ∧ ((o y).toInt < (o z).toInt ∨ (o y).toInt = (o z).toInt ∧ psC y < psC z)
def IsB (P : cd → Prop) (b : cd → Nat) (o : cd → Int32) (S : cd → Prop) : Option cd → Prop
  | none => ∀ y, S y → ¬ P y
  | some t => P t ∧ S t ∧ ∀ y, S y → P y → y = t ∨ btr b o t y
theorem btr_trans {b : cd → Nat} {o : cd → Int32} {x y z : cd} (h1 : btr b o x y) (h2 : btr b o y z) : btr b o x z := by
  unfold btr at *
  omega
theorem btr_asymm {b : cd → Nat} {o : cd → Int32} {x y : cd} (h1 : btr b o x y) (h2 : btr b o y x) : False := by
  unfold btr at *
  omega
theorem IsB_unique {P : cd → Prop} {b : cd → Nat} {o : cd → Int32} {S S' : cd → Prop} (hS : ∀ y, P y → S y) (hS' : ∀ y, P y → S' y) : ∀ {r r' : Option cd}, IsB P b o S r → IsB P b o S' r' → r = r'
  | none, none, _, _ => rfl
  | none, some t, h, h' => absurd h'.1 (h t (hS t h'.1))
  | some t, none, h, h' => absurd h.1 (h' t (hS' t h.1))
  | some t, some t', h, h' => by
    rcases h.2.2 t' (hS t' h'.1) h'.1 with e | e
    · rw [e]
    · rcases h'.2.2 t (hS' t h.1) h.1 with e' | e'
      · rw [e']
      · exact (btr_asymm e e').elim
theorem IsB_keep {P : cd → Prop} {b : cd → Nat} {o : cd → Int32} {S S' : cd → Prop} : ∀ {r : Option cd}, IsB P b o S r → (∀ y, S y → S' y) → (∀ y, S' y → ¬ S y → P y → ∃ t, r = some t ∧ btr b o t y) → IsB P b o S' r
  | none, h, hs, hk => fun y hy hp => by
    by_cases hS : S y
    · exact h y hS hp
    · obtain ⟨t, e, _⟩ := hk y hy hS hp
      cases e
  | some t, h, hs, hk => ⟨h.1, hs t h.2.1, fun y hy hp => by
    by_cases hS : S y
    · exact h.2.2 y hS hp
    · obtain ⟨t', e, q⟩ := hk y hy hS hp
      cases e
      exact Or.inr q⟩
theorem IsB_take {P : cd → Prop} {b : cd → Nat} {o : cd → Int32} {S S' : cd → Prop} {t : cd} : ∀ {r : Option cd}, IsB P b o S r → P t → S' t → (∀ y, S' y → P y → S y ∨ y = t) → (∀ r0, r = some r0 → btr b o t r0) → IsB P b o S' (some t)
  | none, h, hP, hS, hs, hb => ⟨hP, hS, fun y hy hp => by
    rcases hs y hy hp with q | q
    · exact absurd hp (h y q)
    · exact Or.inl q⟩
  | some t', h, hP, hS, hs, hb => ⟨hP, hS, fun y hy hp => by
    rcases hs y hy hp with q | q
    · rcases h.2.2 y q hp with e | e
      · rw [e]; exact Or.inr (hb t' rfl)
      · exact Or.inr (btr_trans (hb t' rfl) e)
    · exact Or.inl q⟩
/-! Along an order. -/
def xkB (wd : Nat → Nat) (o : Nat → Nat) (g x : Nat) : Nat → Nat
  | 0 => x
  | k + 1 => xkB wd o g x k + wd (o k) + g
noncomputable def bkB (wd : Nat → Nat) (H : Nat → Nat → Prop) (o : Nat → Nat) (g x : Nat) : Nat → Nat
  | 0 => 0
  | k + 1 => bkB wd H o g x k + cif (H (o k) (xkB wd o g x k)) 0 1
def mkB (wd : Nat → Nat) (L : Nat → Nat → Int32) (o : Nat → Nat) (g x : Nat) : Nat → Int32
  | 0 => 0
  | k + 1 => mkB wd L o g x k + L (o k) (xkB wd o g x k)
def okB (wd : Nat → Nat) (F : Nat → Nat → Prop) (o : Nat → Nat) (g x n : Nat) : Prop := ∀ j, j < n → xkB wd o g x j < 40 ∧ F (o j) (xkB wd o g x j)
def njB (o : Nat → Nat) (n : Nat) : Prop := ∀ i j, i < j → j < n → o i ≠ o j
theorem xkB_congr {wd : Nat → Nat} {o o' : Nat → Nat} {g x : Nat} : ∀ k, (∀ j, j < k → o j = o' j) → xkB wd o g x k = xkB wd o' g x k
  | 0, _ => rfl
  | k + 1, h => by
    show xkB wd o g x k + wd (o k) + g = xkB wd o' g x k + wd (o' k) + g
    rw [xkB_congr k (fun j hj => h j (by omega)), h k (by omega)]
theorem bkB_congr {wd : Nat → Nat} {H : Nat → Nat → Prop} {o o' : Nat → Nat} {g x : Nat} : ∀ k, (∀ j, j < k → o j = o' j) → bkB wd H o g x k = bkB wd H o' g x k
  | 0, _ => rfl
  | k + 1, h => by
    show bkB wd H o g x k + _ = bkB wd H o' g x k + _
    rw [bkB_congr k (fun j hj => h j (by omega)), h k (by omega), xkB_congr k (fun j hj => h j (by omega))]
theorem mkB_congr {wd : Nat → Nat} {L : Nat → Nat → Int32} {o o' : Nat → Nat} {g x : Nat} : ∀ k, (∀ j, j < k → o j = o' j) → mkB wd L o g x k = mkB wd L o' g x k
  | 0, _ => rfl
  | k + 1, h => by
    show mkB wd L o g x k + _ = mkB wd L o' g x k + _
    rw [mkB_congr k (fun j hj => h j (by omega)), h k (by omega), xkB_congr k (fun j hj => h j (by omega))]
theorem okB_congr {wd : Nat → Nat} {F : Nat → Nat → Prop} {o o' : Nat → Nat} {g x n : Nat} (h : ∀ j, j < n → o j = o' j) (hk : okB wd F o g x n) : okB wd F o' g x n := fun j hj => by
  have h1 := hk j hj
  rw [xkB_congr j (fun i hi => h i (by omega)), h j hj] at h1
  exact h1
theorem bkB_le {wd : Nat → Nat} {H : Nat → Nat → Prop} {o : Nat → Nat} {g x : Nat} : ∀ k, bkB wd H o g x k ≤ k
  | 0 => Nat.le_refl 0
  | k + 1 => by
    have := bkB_le (wd := wd) (H := H) (o := o) (g := g) (x := x) k
    show _ + cif _ 0 1 ≤ k + 1
    unfold cif
    split <;> omega
theorem bkB_mono {wd : Nat → Nat} {H : Nat → Nat → Prop} {o : Nat → Nat} {g x k : Nat} : ∀ t, bkB wd H o g x k ≤ bkB wd H o g x (k + t)
  | 0 => Nat.le_refl _
  | t + 1 => Nat.le_trans (bkB_mono t) (Nat.le_add_right _ _)
/-! Orders by their numbers. -/
def dgB (np d c k : Nat) : Nat := c / np ^ (d - 1 - k) % np
theorem dg_lt {np d c k : Nat} (h : 0 < np) : dgB np d c k < np := Nat.mod_lt _ h
theorem dg_pre {np d c k code : Nat} (hd : d ≤ np) (hk : k < d) (h : code / np ^ (np - d) = c) : dgB np np code k = dgB np d c k := by
  unfold dgB
  rw [← h, Nat.div_div_eq_div_mul, ← Nat.pow_add, show np - d + (d - 1 - k) = np - 1 - k by omega]
theorem dg_ext {np d c p k : Nat} (hk : k < d) (hp : p < np) : dgB np (d + 1) (c * np + p) k = dgB np d c k := by
  unfold dgB
  rw [show d + 1 - 1 - k = 1 + (d - 1 - k) by omega, Nat.pow_add, Nat.pow_one, ← Nat.div_div_eq_div_mul, Nat.mul_comm c np, Nat.mul_add_div (by omega), Nat.div_eq_of_lt hp, Nat.add_zero]
theorem dg_last {np d c p : Nat} (hp : p < np) : dgB np (d + 1) (c * np + p) d = p := by
  unfold dgB
  rw [show d + 1 - 1 - d = 0 by omega, Nat.pow_zero, Nat.div_one, Nat.mul_comm c np, Nat.mul_add_mod, Nat.mod_eq_of_lt hp]
theorem dg_rg {np d c code : Nat} (h0 : 0 < np) (h1 : c * np ^ (np - d) ≤ code) (h2 : code < (c + 1) * np ^ (np - d)) : code / np ^ (np - d) = c := by
  have hK : 0 < np ^ (np - d) := Nat.pow_pos h0
  have a1 := (Nat.le_div_iff_mul_le hK).mpr h1
  have a2 := (Nat.div_lt_iff_lt_mul hK).mpr h2
  omega
/-! Sums over all. -/
def smB (e : Nat → Nat) : Nat → Nat
  | 0 => 0
  | n + 1 => smB e n + e n
def imB (o : Nat → Nat) (m p : Nat) : Prop := ∃ k, k < m ∧ o k = p
theorem smB_congr {e e' : Nat → Nat} : ∀ n, (∀ p, p < n → e p = e' p) → smB e n = smB e' n
  | 0, _ => rfl
  | n + 1, h => by
    show smB e n + e n = smB e' n + e' n
    rw [smB_congr n (fun p hp => h p (by omega)), h n (by omega)]
theorem smB_add {A : Nat → Prop} {e : Nat → Nat} {q : Nat} (hA : ¬ A q) : ∀ n, q < n → smB (fun p => cif (p = q ∨ A p) (e p) 0) n = smB (fun p => cif (A p) (e p) 0) n + e q
  | 0, h => absurd h (Nat.not_lt_zero q)
  | n + 1, h => by
    show smB (fun p => cif (p = q ∨ A p) (e p) 0) n + cif (n = q ∨ A n) (e n) 0 = smB (fun p => cif (A p) (e p) 0) n + cif (A n) (e n) 0 + e q
    by_cases hq : n = q
    · subst hq
      rw [cif_t (Or.inl rfl), cif_f hA, smB_congr (e := fun p => cif (p = n ∨ A p) (e p) 0) (e' := fun p => cif (A p) (e p) 0) n]
      · omega
      · intro p hp
        by_cases hp2 : A p
        · show cif (p = n ∨ A p) (e p) 0 = cif (A p) (e p) 0
          rw [cif_t (Or.inr hp2), cif_t hp2]
        · show cif (p = n ∨ A p) (e p) 0 = cif (A p) (e p) 0
          rw [cif_f (fun z => z.elim (fun z1 => by omega) hp2), cif_f hp2]
    · rw [smB_add hA n (by omega)]
      have e1 : cif (n = q ∨ A n) (e n) 0 = cif (A n) (e n) 0 := by
        by_cases hp2 : A n
        · rw [cif_t (Or.inr hp2), cif_t hp2]
        · rw [cif_f (fun z => z.elim hq hp2), cif_f hp2]
      rw [e1]
      omega
theorem smB_im {o : Nat → Nat} {e : Nat → Nat} {n : Nat} : ∀ m, (∀ k, k < m → o k < n) → smB (fun p => cif (imB o m p) (e p) 0) n = smB (fun k => cif (imB o k (o k)) 0 (e (o k))) m
  | 0, _ => by
    rw [smB_congr (e := fun p => cif (imB o 0 p) (e p) 0) (e' := fun _ => 0) n (fun p _ => cif_f (fun ⟨k, hk, _⟩ => absurd hk (Nat.not_lt_zero k)))]
    show smB (fun _ => 0) n = 0
    have hz : ∀ n, smB (fun _ => 0) n = 0 := by
      intro n
      induction n with
      | zero => rfl
      | succ n ih => exact ih
    exact hz n
  | m + 1, h => by
    show _ = smB (fun k => cif (imB o k (o k)) 0 (e (o k))) m + cif (imB o m (o m)) 0 (e (o m))
    rw [← smB_im m (fun k hk => h k (by omega))]
    by_cases hc : imB o m (o m)
    · rw [cif_t hc, Nat.add_zero]
      refine smB_congr n (fun p _ => ?_)
      have : imB o (m + 1) p ↔ imB o m p := ⟨fun ⟨k, hk, e1⟩ => by
        by_cases hkm : k = m
        · subst hkm; rw [← e1]; exact hc
        · exact ⟨k, by omega, e1⟩, fun ⟨k, hk, e1⟩ => ⟨k, by omega, e1⟩⟩
      show cif (imB o (m + 1) p) (e p) 0 = cif (imB o m p) (e p) 0
      rw [propext this]
    · rw [cif_f hc, ← smB_add hc n (h m (by omega))]
      refine smB_congr n (fun p _ => ?_)
      have : imB o (m + 1) p ↔ (p = o m ∨ imB o m p) := ⟨fun ⟨k, hk, e1⟩ => by
        by_cases hkm : k = m
        · subst hkm; exact Or.inl e1.symm
        · exact Or.inr ⟨k, by omega, e1⟩, fun z => z.elim (fun e1 => ⟨m, by omega, e1.symm⟩) (fun ⟨k, hk, e1⟩ => ⟨k, by omega, e1⟩)⟩
      show cif (imB o (m + 1) p) (e p) 0 = cif (p = o m ∨ imB o m p) (e p) 0
      rw [propext this]
theorem smB_one : ∀ n, smB (fun _ => 1) n = n
  | 0 => rfl
  | n + 1 => by show smB (fun _ => 1) n + 1 = n + 1; rw [smB_one n]
theorem smB_le1 {e : Nat → Nat} : ∀ n, (∀ p, p < n → e p ≤ 1) → smB e n ≤ n ∧ (smB e n = n → ∀ p, p < n → e p = 1)
  | 0, _ => ⟨Nat.le_refl 0, fun _ p hp => absurd hp (Nat.not_lt_zero p)⟩
  | n + 1, h => by
    obtain ⟨h1, h2⟩ := smB_le1 n (fun p hp => h p (by omega))
    have h3 := h n (by omega)
    refine ⟨by show smB e n + e n ≤ n + 1; omega, fun q p hp => ?_⟩
    have q2 : smB e n + e n = n + 1 := q
    by_cases hpn : p = n
    · subst hpn; omega
    · exact h2 (by omega) p (by omega)
theorem cif_le1 {p : Prop} : cif p 1 0 ≤ 1 := by unfold cif; split <;> omega
theorem cif_le1' {p : Prop} : cif p 0 1 ≤ 1 := by unfold cif; split <;> omega
theorem nj_sur {o : Nat → Nat} {n : Nat} (h : ∀ k, k < n → o k < n) (hn : njB o n) : ∀ p, p < n → imB o n p := by
  have h1 := smB_im (e := fun _ => 1) n h
  have h2 : smB (fun k => cif (imB o k (o k)) 0 1) n = n := by
    rw [smB_congr (e := fun k => cif (imB o k (o k)) 0 1) (e' := fun _ => 1) n (fun k hk => cif_f (fun ⟨i, hi, e⟩ => hn i k hi hk e)), smB_one]
  rw [h2] at h1
  intro p hp
  have h3 := (smB_le1 (e := fun p => cif (imB o n p) 1 0) n (fun p _ => cif_le1)).2 h1 p hp
  exact Classical.byContradiction (fun hc => by
    have h4 : cif (imB o n p) 1 0 = 1 := h3
    rw [cif_f hc] at h4
    cases h4)
theorem sur_nj {o : Nat → Nat} {n : Nat} (h : ∀ k, k < n → o k < n) (hs : ∀ p, p < n → imB o n p) : njB o n := by
  have h1 := smB_im (e := fun _ => 1) n h
  have h2 : smB (fun p => cif (imB o n p) 1 0) n = n := by
    rw [smB_congr (e := fun p => cif (imB o n p) 1 0) (e' := fun _ => 1) n (fun p hp => cif_t (hs p hp)), smB_one]
  rw [h2] at h1
  intro i j hij hj e
  have h3 := (smB_le1 (e := fun k => cif (imB o k (o k)) 0 1) n (fun p _ => cif_le1')).2 h1.symm j hj
  have h4 : cif (imB o j (o j)) 0 1 = 1 := h3
  rw [cif_t ⟨i, hij, e⟩] at h4
  cases h4
theorem nj_sum {o : Nat → Nat} {n : Nat} (h : ∀ k, k < n → o k < n) (hn : njB o n) (e : Nat → Nat) : smB e n = smB (fun k => e (o k)) n := by
  have h1 := smB_im (e := e) n h
  rw [smB_congr (e := fun p => cif (imB o n p) (e p) 0) (e' := e) n (fun p hp => cif_t (nj_sur h hn p hp)), smB_congr (e := fun k => cif (imB o k (o k)) 0 (e (o k))) (e' := fun k => e (o k)) n (fun k hk => cif_f (fun ⟨i, hi, q⟩ => hn i k hi hk q))] at h1
  exact h1
/-! The candidates of a wall. -/
def VLB (wd : Nat → Nat) (F : Nat → Nat → Prop) (np gp : Nat) (y : cd) : Prop := gp ≤ y.1 ∧ y.1 ≤ 20 ∧ y.2.2 < np ^ np ∧ (njB (dgB np np y.2.2) np ∧ 0 < np) ∧ okB wd F (dgB np np y.2.2) y.1 y.2.1 np
noncomputable def bB (wd : Nat → Nat) (H : Nat → Nat → Prop) (np : Nat) (y : cd) : Nat := bkB wd H (dgB np np y.2.2) y.1 y.2.1 np
def ofI (m : Int32) : Int32 := if 0 ≤ m then m else 0 - m
def oB (wd : Nat → Nat) (L : Nat → Nat → Int32) (np : Nat) (y : cd) : Int32 := ofI (mkB wd L (dgB np np y.2.2) y.1 y.2.1 np)
theorem npp : ∀ np, np ≤ 5 → np ^ np ≤ 3125 := by
  intro np h
  exact (by decide +kernel : ∀ np, np < 6 → np ^ np ≤ 3125) np (by omega)
/-- what is best among all -/
def BestB (wd : Nat → Nat) (F H : Nat → Nat → Prop) (L : Nat → Nat → Int32) (np gp : Nat) (r : Option cd) : Prop := IsB (VLB wd F np gp) (bB wd H np) (oB wd L np) (fun _ => True) r
theorem BestB_un {wd : Nat → Nat} {F H : Nat → Nat → Prop} {L : Nat → Nat → Int32} {np gp : Nat} {r r' : Option cd} (h : BestB wd F H L np gp r) (h' : BestB wd F H L np gp r') : r = r' := IsB_unique (fun _ _ => trivial) (fun _ _ => trivial) h h'
/-- what is answered of it -/
noncomputable def ansB (wd : Nat → Nat) (H : Nat → Nat → Prop) (L : Nat → Nat → Int32) (np : Nat) (what : Int32) : Option cd → Int32
  | none => -9
  | some y => if what = 0 then nI (bB wd H np y) else if what = 1 then oB wd L np y else if what = 2 then nI y.1 else if what = 3 then nI y.2.1 else if what - 4 < nI np then nI (dgB np np y.2.2 (what - 4).toNatClampNeg) else -9
