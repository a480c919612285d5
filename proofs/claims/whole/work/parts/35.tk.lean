/-! All items. -/
noncomputable def cnI (p : Prop) (m : Nat) : Nat := cif p (m + 1) m
noncomputable def pAll (tx : Nat → Nat) (n : Nat) : Nat → Prop → Nat → Nat → Nat → Nat → Nat → rN → Sum Nat pS
  | 0, _, _, _, _, _, _, _ => .inl 0
  | k + 1, told, np, nd, nh, i, a, w => cif (a < n) (match pItem tx n told np nd nh a w with
    | .inl p => .inl p
    | .inr s1 => cif (skP tx n s1.1 < n ∧ tx (skP tx n s1.1) = 59) (pAll tx n k (told ∨ wW tx (skP tx n a) (wlP tx n (skP tx n a))) (cnI (wP tx (skP tx n a) (wlP tx n (skP tx n a))) np) (cnI (wD tx (skP tx n a) (wlP tx n (skP tx n a))) nd) (cnI (wH tx (skP tx n a) (wlP tx n (skP tx n a))) nh) (i + 1) (skP tx n (skP tx n s1.1 + 1)) s1.2) (.inl (skP tx n s1.1))) (.inr (i, w))
/-- the row that is being read -/
def RW (w : rN) (np nd nh : Nat) : Prop := w 3 = nI np ∧ np ≤ 5 ∧ w 24 = nI nd ∧ nd ≤ 3 ∧ w 31 = nI nh ∧ nh ≤ 16
theorem cn_t {p : Prop} {m : Nat} (h : p) : cnI p m = m + 1 := cif_t h
theorem cn_f {p : Prop} {m : Nat} (h : ¬ p) : cnI p m = m := cif_f h
theorem w_WP {tx : Nat → Nat} {s e : Nat} (h : wW tx s e) : ¬ wP tx s e ∧ ¬ wD tx s e ∧ ¬ wH tx s e := by
  unfold wW wP wD wH at *
  omega
theorem w_PD {tx : Nat → Nat} {s e : Nat} (h : wP tx s e) : ¬ wD tx s e ∧ ¬ wH tx s e := by
  unfold wP wD wH at *
  omega
theorem w_DH {tx : Nat → Nat} {s e : Nat} (h : wD tx s e) : ¬ wH tx s e := by
  unfold wD wH at *
  omega
/-- an item that was read keeps the row in order, and lies further on -/
theorem item_ok {tx : Nat → Nat} {n np nd nh a : Nat} {told : Prop} {w : rN} {s1 : pS} (h : pItem tx n told np nd nh a w = .inr s1) (ha : a ≤ n) (hw : RW w np nd nh) : a < s1.1 ∧ s1.1 ≤ n ∧ RW s1.2 (cnI (wP tx (skP tx n a) (wlP tx n (skP tx n a))) np) (cnI (wD tx (skP tx n a) (wlP tx n (skP tx n a))) nd) (cnI (wH tx (skP tx n a) (wlP tx n (skP tx n a))) nh) := by
  obtain ⟨r1, r2, r3, r4, r5, r6⟩ := hw
  have hs := skP_le (tx := tx) ha
  have he := rnE_spec (isW tx) n (skP tx n a) hs.2
  have he1 : skP tx n a ≤ wlP tx n (skP tx n a) := he.1
  have he2 : wlP tx n (skP tx n a) ≤ n := he.2.1
  unfold pItem at h
  by_cases hW : wW tx (skP tx n a) (wlP tx n (skP tx n a))
  · obtain ⟨x1, x2, x3⟩ := w_WP hW
    rw [cif_t hW] at h
    rw [cn_f x1, cn_f x2, cn_f x3]
    by_cases ht : told
    · rw [cif_t ht] at h; cases h
    · rw [cif_f ht] at h
      obtain ⟨b1, b2, b3, _, _, _, _, _, e9, l1, l2⟩ := pWall_inr h he2
      dsimp only at l1 e9
      refine ⟨by omega, l2, ?_⟩
      rw [e9]
      exact ⟨by rw [setw_ne (by decide), setw_ne (by decide), setw_ne (by decide)]; exact r1, r2, by rw [setw_ne (by decide), setw_ne (by decide), setw_ne (by decide)]; exact r3, r4, by rw [setw_ne (by decide), setw_ne (by decide), setw_ne (by decide)]; exact r5, r6⟩
  · rw [cif_f hW] at h
    by_cases hP : wP tx (skP tx n a) (wlP tx n (skP tx n a))
    · obtain ⟨x2, x3⟩ := w_PD hP
      rw [cif_t hP] at h
      rw [cn_t hP, cn_f x2, cn_f x3]
      by_cases ht : np = 5
      · rw [cif_t ht] at h; cases h
      · rw [cif_f ht] at h
        obtain ⟨b1, b2, b3, b4, _, _, _, _, _, _, _, e9, l1, l2⟩ := pPic_inr h he2
        dsimp only at l1 e9
        refine ⟨by omega, l2, ?_⟩
        rw [e9]
        exact ⟨setw_eq, by omega, by rw [setw_ne (by decide), setw_ne (by omega), setw_ne (by omega), setw_ne (by omega), setw_ne (by omega)]; exact r3, r4, by rw [setw_ne (by decide), setw_ne (by omega), setw_ne (by omega), setw_ne (by omega), setw_ne (by omega)]; exact r5, r6⟩
    · rw [cif_f hP] at h
      rw [cn_f hP]
      by_cases hD : wD tx (skP tx n a) (wlP tx n (skP tx n a))
      · have x3 := w_DH hD
        rw [cif_t hD] at h
        rw [cn_t hD, cn_f x3]
        by_cases ht : nd = 3
        · rw [cif_t ht] at h; cases h
        · rw [cif_f ht] at h
          obtain ⟨b1, b2, _, _, e9, l1, l2⟩ := pDoor_inr h he2
          dsimp only at l1 e9
          refine ⟨by omega, l2, ?_⟩
          rw [e9]
          exact ⟨by rw [setw_ne (by decide), setw_ne (by omega), setw_ne (by omega)]; exact r1, r2, setw_eq, by omega, by rw [setw_ne (by decide), setw_ne (by omega), setw_ne (by omega)]; exact r5, r6⟩
      · rw [cif_f hD] at h
        rw [cn_f hD]
        by_cases hH : wH tx (skP tx n a) (wlP tx n (skP tx n a))
        · rw [cif_t hH] at h
          rw [cn_t hH]
          by_cases ht : nh = 16
          · rw [cif_t ht] at h; cases h
          · rw [cif_f ht] at h
            obtain ⟨b1, b2, _, _, _, e9, l1, l2⟩ := pHole_inr h he2
            dsimp only at l1 e9
            refine ⟨by omega, l2, ?_⟩
            rw [e9]
            exact ⟨by rw [setw_ne (by decide), setw_ne (by omega), setw_ne (by omega)]; exact r1, r2, by rw [setw_ne (by decide), setw_ne (by omega), setw_ne (by omega)]; exact r3, r4, setw_eq, by omega⟩
        · rw [cif_f hH] at h; cases h
