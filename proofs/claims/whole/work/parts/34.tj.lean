/-! What was read when reading did not fail. -/
theorem pnm_inr {tx : Nat → Nat} {n q : Nat} {lo hi : Int32} {s s' : pS} (h : pnm tx n q lo hi s = .inr s') : nmO tx n s.1 lo hi ∧ s' = (nmE tx n s.1, setw s.2 q (nI (nmV tx n s.1))) := by
  by_cases hc : nmO tx n s.1 lo hi
  · rw [pnm_t hc] at h
    exact ⟨hc, (Sum.inr.inj h).symm⟩
  · rw [pnm_f hc] at h
    cases h
theorem andP_inr {r : Sum Nat pS} {k : pS → Sum Nat pS} {s' : pS} (h : andP r k = .inr s') : ∃ s, r = .inr s ∧ k s = .inr s' := by
  cases r with
  | inl p => cases h
  | inr s => exact ⟨s, rfl, h⟩
/-- a number that was read: its value, within its bounds; it lies further on -/
theorem nm_ok {tx : Nat → Nat} {n q lo hi : Nat} {s s' : pS} (h : pnm tx n q (nI lo) (nI hi) s = .inr s') (hl : lo < 2 ^ 31) (hh : hi < 2 ^ 31) (hs : s.1 ≤ n) : ∃ v, lo ≤ v ∧ v ≤ hi ∧ v = nmV tx n s.1 ∧ s'.2 = setw s.2 q (nI v) ∧ s.1 < s'.1 ∧ s'.1 ≤ n := by
  obtain ⟨h1, h2⟩ := pnm_inr h
  have h3 := h1.2.1
  refine ⟨nmV tx n s.1, (nI_leI hl (by omega)).mp h1.2.2.2.1, (nI_leI (by omega) hh).mp h1.2.2.2.2, rfl, by rw [h2], ?_, ?_⟩
  · rw [h2]
    exact Nat.lt_of_le_of_lt (skP_le hs).1 h1.1
  · rw [h2]
    exact nmE_le hs
theorem pWall_inr {tx : Nat → Nat} {n : Nat} {s s' : pS} (h : pWall tx n s = .inr s') (hs : s.1 ≤ n) : ∃ a b c, 10 ≤ a ∧ a ≤ 40 ∧ 5 ≤ b ∧ b ≤ 20 ∧ c ≤ 9 ∧ s'.2 = setw (setw (setw s.2 0 (nI a)) 1 (nI b)) 2 (nI c) ∧ s.1 < s'.1 ∧ s'.1 ≤ n := by
  obtain ⟨s1, e1, h⟩ := andP_inr h
  obtain ⟨s2, e2, e3⟩ := andP_inr h
  obtain ⟨a, a1, a2, _, a4, a5, a6⟩ := nm_ok (lo := 10) (hi := 40) e1 (by decide) (by decide) hs
  obtain ⟨b, b1, b2, _, b4, b5, b6⟩ := nm_ok (lo := 5) (hi := 20) e2 (by decide) (by decide) a6
  obtain ⟨c, c1, c2, _, c4, c5, c6⟩ := nm_ok (lo := 0) (hi := 9) e3 (by decide) (by decide) b6
  exact ⟨a, b, c, a1, a2, b1, b2, c2, by rw [c4, b4, a4], by omega, c6⟩
theorem pPic_inr {tx : Nat → Nat} {n m : Nat} {s s' : pS} (h : pPic tx n m s = .inr s') (hs : s.1 ≤ n) : ∃ a b c d, 1 ≤ a ∧ a ≤ 9 ∧ 1 ≤ b ∧ b ≤ 9 ∧ c ≤ b ∧ 1 ≤ d ∧ d ≤ 9 ∧ s'.2 = setw (setw (setw (setw (setw s.2 (4 + 4 * m) (nI a)) (4 + 4 * m + 1) (nI b)) (4 + 4 * m + 2) (nI c)) (4 + 4 * m + 3) (nI d)) 3 (nI (m + 1)) ∧ s.1 < s'.1 ∧ s'.1 ≤ n := by
  obtain ⟨s1, e1, h⟩ := andP_inr h
  obtain ⟨s2, e2, h⟩ := andP_inr h
  obtain ⟨s3, e3, h⟩ := andP_inr h
  obtain ⟨s4, e4, h⟩ := andP_inr h
  obtain ⟨a, a1, a2, _, a4, a5, a6⟩ := nm_ok (lo := 1) (hi := 9) e1 (by decide) (by decide) hs
  obtain ⟨b, b1, b2, b3, b4, b5, b6⟩ := nm_ok (lo := 1) (hi := 9) e2 (by decide) (by decide) a6
  obtain ⟨c, c1, c2, _, c4, c5, c6⟩ := nm_ok (lo := 0) (hi := nmV tx n s1.1) e3 (by decide) (by omega) b6
  obtain ⟨d, d1, d2, _, d4, d5, d6⟩ := nm_ok (lo := 1) (hi := 9) e4 (by decide) (by decide) c6
  have h9 := Sum.inr.inj h
  refine ⟨a, b, c, d, a1, a2, b1, b2, by omega, d1, d2, ?_, ?_, ?_⟩
  · rw [← h9]; show setw s4.2 3 _ = _; rw [d4, c4, b4, a4]
  · rw [← h9]; show s.1 < s4.1; omega
  · rw [← h9]; exact d6
theorem pDoor_inr {tx : Nat → Nat} {n m : Nat} {s s' : pS} (h : pDoor tx n m s = .inr s') (hs : s.1 ≤ n) : ∃ a b, a < b ∧ b ≤ 40 ∧ s'.2 = setw (setw (setw s.2 (25 + 2 * m) (nI a)) (25 + 2 * m + 1) (nI b)) 24 (nI (m + 1)) ∧ s.1 < s'.1 ∧ s'.1 ≤ n := by
  obtain ⟨s1, e1, h⟩ := andP_inr h
  obtain ⟨s2, e2, h⟩ := andP_inr h
  obtain ⟨a, a1, a2, a3, a4, a5, a6⟩ := nm_ok (lo := 0) (hi := 39) e1 (by decide) (by decide) hs
  obtain ⟨b, b1, b2, _, b4, b5, b6⟩ := nm_ok (lo := nmV tx n s.1 + 1) (hi := 40) e2 (by omega) (by decide) a6
  have h9 := Sum.inr.inj h
  refine ⟨a, b, by omega, b2, ?_, ?_, ?_⟩
  · rw [← h9]; show setw s2.2 24 _ = _; rw [b4, a4]
  · rw [← h9]; show s.1 < s2.1; omega
  · rw [← h9]; exact b6
theorem pHole_inr {tx : Nat → Nat} {n m : Nat} {s s' : pS} (h : pHole tx n m s = .inr s') (hs : s.1 ≤ n) : ∃ a b, a ≤ 80 ∧ b ≤ 60 ∧ ¬ hoN s.2 m (nI a) (nI b) ∧ s'.2 = setw (setw (setw s.2 (32 + 2 * m) (nI a)) (32 + 2 * m + 1) (nI b)) 31 (nI (m + 1)) ∧ s.1 < s'.1 ∧ s'.1 ≤ n := by
  obtain ⟨s1, e1, h⟩ := andP_inr h
  obtain ⟨s2, e2, h⟩ := andP_inr h
  obtain ⟨a, a1, a2, a3, a4, a5, a6⟩ := nm_ok (lo := 0) (hi := 80) e1 (by decide) (by decide) hs
  obtain ⟨b, b1, b2, b3, b4, b5, b6⟩ := nm_ok (lo := 0) (hi := 60) e2 (by decide) (by decide) a6
  by_cases hc : hoN s.2 m (nI (nmV tx n s.1)) (nI (nmV tx n s1.1))
  · rw [cif_t hc] at h; cases h
  · rw [cif_f hc] at h
    have h9 := Sum.inr.inj h
    refine ⟨a, b, a2, b2, by rw [a3, b3]; exact hc, ?_, ?_, ?_⟩
    · rw [← h9]; show setw s2.2 31 _ = _; rw [b4, a4]
    · rw [← h9]; show s.1 < s2.1; omega
    · rw [← h9]; exact b6
