/-! The world behind the constructors: 136 cells; 28 holds the past walls in an order that changes. -/
def g0K : List Nat := [11, 0, 6, 9, 0, 0, 0, 10, 0, 0, 0, 0, 0, 0, 0, 0, 0, 10, 0, 0, 0, 0, 0, 0, 0, 0, 0, 5, 3, 10, 0, 0, 0, 0, 0, 0, 0, 0, 0, 10, 0, 0, 0, 0, 0, 0, 0, 0, 0, 10, 0, 0, 0, 0, 0, 0, 0, 0, 0, 10, 0, 0, 0, 0, 0, 0, 0, 0, 0, 10, 0, 0, 0, 0, 0, 0, 0, 0, 0, 10, 0, 0, 0, 0, 0, 0, 0, 0, 0, 7, 1, 1, 0, 0, 4, 0, 8, 0, 0, 3, 10, 0, 0, 0, 0, 0, 0, 0, 0, 0, 10, 0, 0, 0, 0, 0, 0, 0, 0, 0, 2, 12, 0, 0, 0, 0, 2, 0, 0, 0, 0, 0, 0, 2, 2, 0]
def g0L : List Nat := [0, 120, 0, 0, 121, 121, 121, 0, 5, 5, 5, 5, 5, 3, 3, 16, 16, 0, 5, 5, 5, 5, 5, 3, 3, 16, 16, 0, 6, 0, 5, 5, 5, 5, 5, 3, 3, 16, 16, 0, 5, 5, 5, 5, 5, 3, 3, 16, 16, 0, 5, 5, 5, 5, 5, 3, 3, 16, 16, 0, 5, 5, 5, 5, 5, 3, 3, 16, 16, 0, 5, 5, 5, 5, 5, 3, 3, 16, 16, 0, 5, 5, 5, 5, 5, 3, 3, 16, 16, 0, 5, 5, 5, 5, 0, 32, 0, 6, 6, 2, 0, 5, 5, 5, 5, 5, 3, 3, 16, 16, 0, 5, 5, 5, 5, 5, 3, 3, 16, 16, 2, 0, 69, 69, 414, 138, 2, 6, 6, 120, 5, 5, 4, 200, 200, 32]
def g0R : List (List (Option Nat)) := [[some 1, none, some 2, some 7, some 17, some 27, some 89, none, some 94, some 96, some 99, some 120], [], [some 3], [some 4, some 5, some 6], [], [], [], [none, none, none, none, none, none, some 8, some 9, some 10, some 11, some 12, some 13, some 14, some 15, some 16], [], [], [], [], [], [], [], [], [], [none, none, none, none, none, none, some 18, some 19, some 20, some 21, some 22, some 23, some 24, some 25, some 26], [], [], [], [], [], [], [], [], [], [some 28], [], [none, none, none, none, none, none, some 30, some 31, some 32, some 33, some 34, some 35, some 36, some 37, some 38], [], [], [], [], [], [], [], [], [], [none, none, none, none, none, none, some 40, some 41, some 42, some 43, some 44, some 45, some 46, some 47, some 48], [], [], [], [], [], [], [], [], [], [none, none, none, none, none, none, some 50, some 51, some 52, some 53, some 54, some 55, some 56, some 57, some 58], [], [], [], [], [], [], [], [], [], [none, none, none, none, none, none, some 60, some 61, some 62, some 63, some 64, some 65, some 66, some 67, some 68], [], [], [], [], [], [], [], [], [], [none, none, none, none, none, none, some 70, some 71, some 72, some 73, some 74, some 75, some 76, some 77, some 78], [], [], [], [], [], [], [], [], [], [none, none, none, none, none, none, some 80, some 81, some 82, some 83, some 84, some 85, some 86, some 87, some 88], [], [], [], [], [], [], [], [], [], [some 90, some 91, some 92, some 93], [], [], [], [], [some 95], [], [some 97, some 98], [], [], [some 100, some 110], [none, none, none, none, none, none, some 101, some 102, some 103, some 104, some 105, some 106, some 107, some 108, some 109], [], [], [], [], [], [], [], [], [], [none, none, none, none, none, none, some 111, some 112, some 113, some 114, some 115, some 116, some 117, some 118, some 119], [], [], [], [], [], [], [], [], [], [], [some 122, some 123, some 124, none, some 125, some 126, none, some 127, some 128, some 129, none, none, none, none, some 130, some 131, some 132, none, some 133, some 134, some 135], [], [], [], [], [], [], [], [], [], [], [], [], [], []]
def G0 : am_G := (136, fun i => g0K.getD i 0, fun i => g0L.getD i 0)
def RR (f : Nat → Option Nat) : am_O := fun i k => if i = 28 then f k else (g0R.getD i []).getD k none
theorem RR_28 (f : Nat → Option Nat) (k : Nat) : RR f 28 k = f k := rfl
theorem RR_up (f : Nat → Option Nat) (k : Nat) (v : Option Nat) : am_up (RR f) 28 k v = RR (va_up f k v) := by
  funext i j
  by_cases hi : i = 28
  · subst hi
    by_cases hj : j = k <;> simp [am_up, RR, va_up, hj]
  · simp [am_up, RR, hi]
theorem ob0 : am_ob G0 0 7 := ⟨by decide, rfl⟩
theorem ar1 : am_ar G0 1 0 120 := ⟨by decide, rfl, rfl⟩
theorem ob2 : am_ob G0 2 2 := ⟨by decide, rfl⟩
theorem ob3 : am_ob G0 3 5 := ⟨by decide, rfl⟩
theorem ar4 : am_ar G0 4 0 121 := ⟨by decide, rfl, rfl⟩
theorem ar5 : am_ar G0 5 0 121 := ⟨by decide, rfl, rfl⟩
theorem ar6 : am_ar G0 6 0 121 := ⟨by decide, rfl, rfl⟩
theorem ob7 : am_ob G0 7 6 := ⟨by decide, rfl⟩
theorem ar8 : am_ar G0 8 0 5 := ⟨by decide, rfl, rfl⟩
theorem ar9 : am_ar G0 9 0 5 := ⟨by decide, rfl, rfl⟩
theorem ar10 : am_ar G0 10 0 5 := ⟨by decide, rfl, rfl⟩
theorem ar11 : am_ar G0 11 0 5 := ⟨by decide, rfl, rfl⟩
theorem ar12 : am_ar G0 12 0 5 := ⟨by decide, rfl, rfl⟩
theorem ar13 : am_ar G0 13 0 3 := ⟨by decide, rfl, rfl⟩
theorem ar14 : am_ar G0 14 0 3 := ⟨by decide, rfl, rfl⟩
theorem ar15 : am_ar G0 15 0 16 := ⟨by decide, rfl, rfl⟩
theorem ar16 : am_ar G0 16 0 16 := ⟨by decide, rfl, rfl⟩
theorem ob17 : am_ob G0 17 6 := ⟨by decide, rfl⟩
theorem ar18 : am_ar G0 18 0 5 := ⟨by decide, rfl, rfl⟩
theorem ar19 : am_ar G0 19 0 5 := ⟨by decide, rfl, rfl⟩
theorem ar20 : am_ar G0 20 0 5 := ⟨by decide, rfl, rfl⟩
theorem ar21 : am_ar G0 21 0 5 := ⟨by decide, rfl, rfl⟩
theorem ar22 : am_ar G0 22 0 5 := ⟨by decide, rfl, rfl⟩
theorem ar23 : am_ar G0 23 0 3 := ⟨by decide, rfl, rfl⟩
theorem ar24 : am_ar G0 24 0 3 := ⟨by decide, rfl, rfl⟩
theorem ar25 : am_ar G0 25 0 16 := ⟨by decide, rfl, rfl⟩
theorem ar26 : am_ar G0 26 0 16 := ⟨by decide, rfl, rfl⟩
theorem ob27 : am_ob G0 27 1 := ⟨by decide, rfl⟩
theorem ar28 : am_ar G0 28 3 6 := ⟨by decide, rfl, rfl⟩
theorem ob29 : am_ob G0 29 6 := ⟨by decide, rfl⟩
theorem ar30 : am_ar G0 30 0 5 := ⟨by decide, rfl, rfl⟩
theorem ar31 : am_ar G0 31 0 5 := ⟨by decide, rfl, rfl⟩
theorem ar32 : am_ar G0 32 0 5 := ⟨by decide, rfl, rfl⟩
theorem ar33 : am_ar G0 33 0 5 := ⟨by decide, rfl, rfl⟩
theorem ar34 : am_ar G0 34 0 5 := ⟨by decide, rfl, rfl⟩
theorem ar35 : am_ar G0 35 0 3 := ⟨by decide, rfl, rfl⟩
theorem ar36 : am_ar G0 36 0 3 := ⟨by decide, rfl, rfl⟩
theorem ar37 : am_ar G0 37 0 16 := ⟨by decide, rfl, rfl⟩
theorem ar38 : am_ar G0 38 0 16 := ⟨by decide, rfl, rfl⟩
theorem ob39 : am_ob G0 39 6 := ⟨by decide, rfl⟩
theorem ar40 : am_ar G0 40 0 5 := ⟨by decide, rfl, rfl⟩
theorem ar41 : am_ar G0 41 0 5 := ⟨by decide, rfl, rfl⟩
theorem ar42 : am_ar G0 42 0 5 := ⟨by decide, rfl, rfl⟩
theorem ar43 : am_ar G0 43 0 5 := ⟨by decide, rfl, rfl⟩
theorem ar44 : am_ar G0 44 0 5 := ⟨by decide, rfl, rfl⟩
theorem ar45 : am_ar G0 45 0 3 := ⟨by decide, rfl, rfl⟩
theorem ar46 : am_ar G0 46 0 3 := ⟨by decide, rfl, rfl⟩
theorem ar47 : am_ar G0 47 0 16 := ⟨by decide, rfl, rfl⟩
theorem ar48 : am_ar G0 48 0 16 := ⟨by decide, rfl, rfl⟩
theorem ob49 : am_ob G0 49 6 := ⟨by decide, rfl⟩
theorem ar50 : am_ar G0 50 0 5 := ⟨by decide, rfl, rfl⟩
theorem ar51 : am_ar G0 51 0 5 := ⟨by decide, rfl, rfl⟩
theorem ar52 : am_ar G0 52 0 5 := ⟨by decide, rfl, rfl⟩
theorem ar53 : am_ar G0 53 0 5 := ⟨by decide, rfl, rfl⟩
theorem ar54 : am_ar G0 54 0 5 := ⟨by decide, rfl, rfl⟩
theorem ar55 : am_ar G0 55 0 3 := ⟨by decide, rfl, rfl⟩
theorem ar56 : am_ar G0 56 0 3 := ⟨by decide, rfl, rfl⟩
theorem ar57 : am_ar G0 57 0 16 := ⟨by decide, rfl, rfl⟩
theorem ar58 : am_ar G0 58 0 16 := ⟨by decide, rfl, rfl⟩
theorem ob59 : am_ob G0 59 6 := ⟨by decide, rfl⟩
theorem ar60 : am_ar G0 60 0 5 := ⟨by decide, rfl, rfl⟩
theorem ar61 : am_ar G0 61 0 5 := ⟨by decide, rfl, rfl⟩
theorem ar62 : am_ar G0 62 0 5 := ⟨by decide, rfl, rfl⟩
theorem ar63 : am_ar G0 63 0 5 := ⟨by decide, rfl, rfl⟩
theorem ar64 : am_ar G0 64 0 5 := ⟨by decide, rfl, rfl⟩
theorem ar65 : am_ar G0 65 0 3 := ⟨by decide, rfl, rfl⟩
theorem ar66 : am_ar G0 66 0 3 := ⟨by decide, rfl, rfl⟩
theorem ar67 : am_ar G0 67 0 16 := ⟨by decide, rfl, rfl⟩
theorem ar68 : am_ar G0 68 0 16 := ⟨by decide, rfl, rfl⟩
theorem ob69 : am_ob G0 69 6 := ⟨by decide, rfl⟩
theorem ar70 : am_ar G0 70 0 5 := ⟨by decide, rfl, rfl⟩
theorem ar71 : am_ar G0 71 0 5 := ⟨by decide, rfl, rfl⟩
theorem ar72 : am_ar G0 72 0 5 := ⟨by decide, rfl, rfl⟩
theorem ar73 : am_ar G0 73 0 5 := ⟨by decide, rfl, rfl⟩
theorem ar74 : am_ar G0 74 0 5 := ⟨by decide, rfl, rfl⟩
theorem ar75 : am_ar G0 75 0 3 := ⟨by decide, rfl, rfl⟩
theorem ar76 : am_ar G0 76 0 3 := ⟨by decide, rfl, rfl⟩
theorem ar77 : am_ar G0 77 0 16 := ⟨by decide, rfl, rfl⟩
theorem ar78 : am_ar G0 78 0 16 := ⟨by decide, rfl, rfl⟩
theorem ob79 : am_ob G0 79 6 := ⟨by decide, rfl⟩
theorem ar80 : am_ar G0 80 0 5 := ⟨by decide, rfl, rfl⟩
theorem ar81 : am_ar G0 81 0 5 := ⟨by decide, rfl, rfl⟩
theorem ar82 : am_ar G0 82 0 5 := ⟨by decide, rfl, rfl⟩
theorem ar83 : am_ar G0 83 0 5 := ⟨by decide, rfl, rfl⟩
theorem ar84 : am_ar G0 84 0 5 := ⟨by decide, rfl, rfl⟩
theorem ar85 : am_ar G0 85 0 3 := ⟨by decide, rfl, rfl⟩
theorem ar86 : am_ar G0 86 0 3 := ⟨by decide, rfl, rfl⟩
theorem ar87 : am_ar G0 87 0 16 := ⟨by decide, rfl, rfl⟩
theorem ar88 : am_ar G0 88 0 16 := ⟨by decide, rfl, rfl⟩
theorem ob89 : am_ob G0 89 3 := ⟨by decide, rfl⟩
theorem ar90 : am_ar G0 90 1 5 := ⟨by decide, rfl, rfl⟩
theorem ar91 : am_ar G0 91 1 5 := ⟨by decide, rfl, rfl⟩
theorem ar92 : am_ar G0 92 0 5 := ⟨by decide, rfl, rfl⟩
theorem ar93 : am_ar G0 93 0 5 := ⟨by decide, rfl, rfl⟩
theorem ob94 : am_ob G0 94 0 := ⟨by decide, rfl⟩
theorem ar95 : am_ar G0 95 0 32 := ⟨by decide, rfl, rfl⟩
theorem ob96 : am_ob G0 96 4 := ⟨by decide, rfl⟩
theorem ar97 : am_ar G0 97 0 6 := ⟨by decide, rfl, rfl⟩
theorem ar98 : am_ar G0 98 0 6 := ⟨by decide, rfl, rfl⟩
theorem ar99 : am_ar G0 99 3 2 := ⟨by decide, rfl, rfl⟩
theorem ob100 : am_ob G0 100 6 := ⟨by decide, rfl⟩
theorem ar101 : am_ar G0 101 0 5 := ⟨by decide, rfl, rfl⟩
theorem ar102 : am_ar G0 102 0 5 := ⟨by decide, rfl, rfl⟩
theorem ar103 : am_ar G0 103 0 5 := ⟨by decide, rfl, rfl⟩
theorem ar104 : am_ar G0 104 0 5 := ⟨by decide, rfl, rfl⟩
theorem ar105 : am_ar G0 105 0 5 := ⟨by decide, rfl, rfl⟩
theorem ar106 : am_ar G0 106 0 3 := ⟨by decide, rfl, rfl⟩
theorem ar107 : am_ar G0 107 0 3 := ⟨by decide, rfl, rfl⟩
theorem ar108 : am_ar G0 108 0 16 := ⟨by decide, rfl, rfl⟩
theorem ar109 : am_ar G0 109 0 16 := ⟨by decide, rfl, rfl⟩
theorem ob110 : am_ob G0 110 6 := ⟨by decide, rfl⟩
theorem ar111 : am_ar G0 111 0 5 := ⟨by decide, rfl, rfl⟩
theorem ar112 : am_ar G0 112 0 5 := ⟨by decide, rfl, rfl⟩
theorem ar113 : am_ar G0 113 0 5 := ⟨by decide, rfl, rfl⟩
theorem ar114 : am_ar G0 114 0 5 := ⟨by decide, rfl, rfl⟩
theorem ar115 : am_ar G0 115 0 5 := ⟨by decide, rfl, rfl⟩
theorem ar116 : am_ar G0 116 0 3 := ⟨by decide, rfl, rfl⟩
theorem ar117 : am_ar G0 117 0 3 := ⟨by decide, rfl, rfl⟩
theorem ar118 : am_ar G0 118 0 16 := ⟨by decide, rfl, rfl⟩
theorem ar119 : am_ar G0 119 0 16 := ⟨by decide, rfl, rfl⟩
theorem ar120 : am_ar G0 120 2 2 := ⟨by decide, rfl, rfl⟩
theorem ob121 : am_ob G0 121 8 := ⟨by decide, rfl⟩
theorem ar122 : am_ar G0 122 0 69 := ⟨by decide, rfl, rfl⟩
theorem ar123 : am_ar G0 123 0 69 := ⟨by decide, rfl, rfl⟩
theorem ar124 : am_ar G0 124 0 414 := ⟨by decide, rfl, rfl⟩
theorem ar125 : am_ar G0 125 0 138 := ⟨by decide, rfl, rfl⟩
theorem ar126 : am_ar G0 126 2 2 := ⟨by decide, rfl, rfl⟩
theorem ar127 : am_ar G0 127 0 6 := ⟨by decide, rfl, rfl⟩
theorem ar128 : am_ar G0 128 0 6 := ⟨by decide, rfl, rfl⟩
theorem ar129 : am_ar G0 129 0 120 := ⟨by decide, rfl, rfl⟩
theorem ar130 : am_ar G0 130 0 5 := ⟨by decide, rfl, rfl⟩
theorem ar131 : am_ar G0 131 0 5 := ⟨by decide, rfl, rfl⟩
theorem ar132 : am_ar G0 132 0 4 := ⟨by decide, rfl, rfl⟩
theorem ar133 : am_ar G0 133 2 200 := ⟨by decide, rfl, rfl⟩
theorem ar134 : am_ar G0 134 2 200 := ⟨by decide, rfl, rfl⟩
theorem ar135 : am_ar G0 135 0 32 := ⟨by decide, rfl, rfl⟩
/-- a wall stands at cell b -/
def WB (b : Nat) : Prop := b ∈ ([7, 17, 29, 39, 49, 59, 69, 79, 100, 110] : List Nat)
theorem WB.ob {b : Nat} (h : WB b) : am_ob G0 b 6 := by
  revert h
  exact (by decide : ∀ b ∈ ([7, 17, 29, 39, 49, 59, 69, 79, 100, 110] : List Nat), b < G0.1 ∧ G0.2.1 b = 6 + 4) b
theorem WB.ar1 {b : Nat} (h : WB b) : am_ar G0 (b + 1) 0 5 := by
  revert h
  exact (by decide : ∀ b ∈ ([7, 17, 29, 39, 49, 59, 69, 79, 100, 110] : List Nat), b + 1 < G0.1 ∧ G0.2.1 (b + 1) = 0 ∧ G0.2.2 (b + 1) = 5) b
theorem WB.rf1 {b : Nat} (h : WB b) {f : Nat → Option Nat} : RR f b 6 = some (b + 1) := by
  have h1 : b ≠ 28 ∧ (g0R.getD b []).getD 6 none = some (b + 1) := by
    revert h
    exact (by decide : ∀ b ∈ ([7, 17, 29, 39, 49, 59, 69, 79, 100, 110] : List Nat), b ≠ 28 ∧ (g0R.getD b []).getD 6 none = some (b + 1)) b
  simp only [RR, if_neg h1.1]
  exact h1.2
theorem WB.ar2 {b : Nat} (h : WB b) : am_ar G0 (b + 2) 0 5 := by
  revert h
  exact (by decide : ∀ b ∈ ([7, 17, 29, 39, 49, 59, 69, 79, 100, 110] : List Nat), b + 2 < G0.1 ∧ G0.2.1 (b + 2) = 0 ∧ G0.2.2 (b + 2) = 5) b
theorem WB.rf2 {b : Nat} (h : WB b) {f : Nat → Option Nat} : RR f b 7 = some (b + 2) := by
  have h1 : b ≠ 28 ∧ (g0R.getD b []).getD 7 none = some (b + 2) := by
    revert h
    exact (by decide : ∀ b ∈ ([7, 17, 29, 39, 49, 59, 69, 79, 100, 110] : List Nat), b ≠ 28 ∧ (g0R.getD b []).getD 7 none = some (b + 2)) b
  simp only [RR, if_neg h1.1]
  exact h1.2
theorem WB.ar3 {b : Nat} (h : WB b) : am_ar G0 (b + 3) 0 5 := by
  revert h
  exact (by decide : ∀ b ∈ ([7, 17, 29, 39, 49, 59, 69, 79, 100, 110] : List Nat), b + 3 < G0.1 ∧ G0.2.1 (b + 3) = 0 ∧ G0.2.2 (b + 3) = 5) b
theorem WB.rf3 {b : Nat} (h : WB b) {f : Nat → Option Nat} : RR f b 8 = some (b + 3) := by
  have h1 : b ≠ 28 ∧ (g0R.getD b []).getD 8 none = some (b + 3) := by
    revert h
    exact (by decide : ∀ b ∈ ([7, 17, 29, 39, 49, 59, 69, 79, 100, 110] : List Nat), b ≠ 28 ∧ (g0R.getD b []).getD 8 none = some (b + 3)) b
  simp only [RR, if_neg h1.1]
  exact h1.2
theorem WB.ar4 {b : Nat} (h : WB b) : am_ar G0 (b + 4) 0 5 := by
  revert h
  exact (by decide : ∀ b ∈ ([7, 17, 29, 39, 49, 59, 69, 79, 100, 110] : List Nat), b + 4 < G0.1 ∧ G0.2.1 (b + 4) = 0 ∧ G0.2.2 (b + 4) = 5) b
theorem WB.rf4 {b : Nat} (h : WB b) {f : Nat → Option Nat} : RR f b 9 = some (b + 4) := by
  have h1 : b ≠ 28 ∧ (g0R.getD b []).getD 9 none = some (b + 4) := by
    revert h
    exact (by decide : ∀ b ∈ ([7, 17, 29, 39, 49, 59, 69, 79, 100, 110] : List Nat), b ≠ 28 ∧ (g0R.getD b []).getD 9 none = some (b + 4)) b
  simp only [RR, if_neg h1.1]
  exact h1.2
theorem WB.ar5 {b : Nat} (h : WB b) : am_ar G0 (b + 5) 0 5 := by
  revert h
  exact (by decide : ∀ b ∈ ([7, 17, 29, 39, 49, 59, 69, 79, 100, 110] : List Nat), b + 5 < G0.1 ∧ G0.2.1 (b + 5) = 0 ∧ G0.2.2 (b + 5) = 5) b
theorem WB.rf5 {b : Nat} (h : WB b) {f : Nat → Option Nat} : RR f b 10 = some (b + 5) := by
  have h1 : b ≠ 28 ∧ (g0R.getD b []).getD 10 none = some (b + 5) := by
    revert h
    exact (by decide : ∀ b ∈ ([7, 17, 29, 39, 49, 59, 69, 79, 100, 110] : List Nat), b ≠ 28 ∧ (g0R.getD b []).getD 10 none = some (b + 5)) b
  simp only [RR, if_neg h1.1]
  exact h1.2
theorem WB.ar6 {b : Nat} (h : WB b) : am_ar G0 (b + 6) 0 3 := by
  revert h
  exact (by decide : ∀ b ∈ ([7, 17, 29, 39, 49, 59, 69, 79, 100, 110] : List Nat), b + 6 < G0.1 ∧ G0.2.1 (b + 6) = 0 ∧ G0.2.2 (b + 6) = 3) b
theorem WB.rf6 {b : Nat} (h : WB b) {f : Nat → Option Nat} : RR f b 11 = some (b + 6) := by
  have h1 : b ≠ 28 ∧ (g0R.getD b []).getD 11 none = some (b + 6) := by
    revert h
    exact (by decide : ∀ b ∈ ([7, 17, 29, 39, 49, 59, 69, 79, 100, 110] : List Nat), b ≠ 28 ∧ (g0R.getD b []).getD 11 none = some (b + 6)) b
  simp only [RR, if_neg h1.1]
  exact h1.2
theorem WB.ar7 {b : Nat} (h : WB b) : am_ar G0 (b + 7) 0 3 := by
  revert h
  exact (by decide : ∀ b ∈ ([7, 17, 29, 39, 49, 59, 69, 79, 100, 110] : List Nat), b + 7 < G0.1 ∧ G0.2.1 (b + 7) = 0 ∧ G0.2.2 (b + 7) = 3) b
theorem WB.rf7 {b : Nat} (h : WB b) {f : Nat → Option Nat} : RR f b 12 = some (b + 7) := by
  have h1 : b ≠ 28 ∧ (g0R.getD b []).getD 12 none = some (b + 7) := by
    revert h
    exact (by decide : ∀ b ∈ ([7, 17, 29, 39, 49, 59, 69, 79, 100, 110] : List Nat), b ≠ 28 ∧ (g0R.getD b []).getD 12 none = some (b + 7)) b
  simp only [RR, if_neg h1.1]
  exact h1.2
theorem WB.ar8 {b : Nat} (h : WB b) : am_ar G0 (b + 8) 0 16 := by
  revert h
  exact (by decide : ∀ b ∈ ([7, 17, 29, 39, 49, 59, 69, 79, 100, 110] : List Nat), b + 8 < G0.1 ∧ G0.2.1 (b + 8) = 0 ∧ G0.2.2 (b + 8) = 16) b
theorem WB.rf8 {b : Nat} (h : WB b) {f : Nat → Option Nat} : RR f b 13 = some (b + 8) := by
  have h1 : b ≠ 28 ∧ (g0R.getD b []).getD 13 none = some (b + 8) := by
    revert h
    exact (by decide : ∀ b ∈ ([7, 17, 29, 39, 49, 59, 69, 79, 100, 110] : List Nat), b ≠ 28 ∧ (g0R.getD b []).getD 13 none = some (b + 8)) b
  simp only [RR, if_neg h1.1]
  exact h1.2
theorem WB.ar9 {b : Nat} (h : WB b) : am_ar G0 (b + 9) 0 16 := by
  revert h
  exact (by decide : ∀ b ∈ ([7, 17, 29, 39, 49, 59, 69, 79, 100, 110] : List Nat), b + 9 < G0.1 ∧ G0.2.1 (b + 9) = 0 ∧ G0.2.2 (b + 9) = 16) b
theorem WB.rf9 {b : Nat} (h : WB b) {f : Nat → Option Nat} : RR f b 14 = some (b + 9) := by
  have h1 : b ≠ 28 ∧ (g0R.getD b []).getD 14 none = some (b + 9) := by
    revert h
    exact (by decide : ∀ b ∈ ([7, 17, 29, 39, 49, 59, 69, 79, 100, 110] : List Nat), b ≠ 28 ∧ (g0R.getD b []).getD 14 none = some (b + 9)) b
  simp only [RR, if_neg h1.1]
  exact h1.2
theorem wb7 : WB 7 := by unfold WB; decide
theorem wb17 : WB 17 := by unfold WB; decide
theorem wb29 : WB 29 := by unfold WB; decide
theorem wb39 : WB 39 := by unfold WB; decide
theorem wb49 : WB 49 := by unfold WB; decide
theorem wb59 : WB 59 := by unfold WB; decide
theorem wb69 : WB 69 := by unfold WB; decide
theorem wb79 : WB 79 := by unfold WB; decide
theorem wb100 : WB 100 := by unfold WB; decide
theorem wb110 : WB 110 := by unfold WB; decide
abbrev a0_Po : Type := Option Value → am_I → am_J → (Nat → Option Nat) → Prop
abbrev PQ (Q : a0_Po) : am_Po := fun v g' M' V' R' => g' = G0 ∧ ∃ f', R' = RR f' ∧ Q v M' V' f'
def A0 (μ : am_M) (d : Nat) (pc : Nat) (ls : List (Option Value)) (st : List Value) (M : am_I) (V : am_J) (f : Nat → Option Nat) (Q : a0_Po) : Prop := AW μ d 0 0 G0 pc ls st M V (RR f) (PQ Q)
def CT (μ : am_M) (d : Nat) (av : List Value) (M : am_I) (V : am_J) (f : Nat → Option Nat) (Q : a0_Po) : Prop := Ct μ d 0 0 av G0 M V (RR f) (PQ Q)
/-- an answer, and nothing is changed -/
def RV (x : Int32) (M : am_I) (V : am_J) (f : Nat → Option Nat) : a0_Po := fun v M' V' f' => v = some (.int x) ∧ M' = M ∧ V' = V ∧ f' = f
/-- 1 or 0 -/
noncomputable def bi (p : Prop) : Int32 := @ite Int32 p (Classical.propDecidable p) 1 0
theorem bi_t {p : Prop} (h : p) : bi p = 1 := if_pos h
theorem bi_f {p : Prop} (h : ¬ p) : bi p = 0 := if_neg h
theorem bi_cases (p : Prop) : (p ∧ bi p = 1) ∨ (¬ p ∧ bi p = 0) := (Classical.em p).imp (fun h => ⟨h, bi_t h⟩) (fun h => ⟨h, bi_f h⟩)
theorem bi_eq0 {p : Prop} : bi p = 0 ↔ ¬ p := by
  rcases bi_cases p with ⟨h, e⟩ | ⟨h, e⟩
  · exact ⟨fun h0 => absurd (e.symm.trans h0) (by decide), fun hn => absurd h hn⟩
  · exact ⟨fun _ => h, fun _ => e⟩
theorem bi_ne0 {p : Prop} : ¬ bi p = 0 ↔ p := by
  rw [bi_eq0]
  exact Classical.not_not
theorem bi_congr {p q : Prop} (h : p ↔ q) : bi p = bi q := by rw [propext h]
theorem rv_mk {x y : Int32} {M : am_I} {V : am_J} {f : Nat → Option Nat} (h : y = x) : RV x M V f (some (.int y)) M V f := ⟨by rw [h], rfl, rfl, rfl⟩
theorem CT.weaken {μ : am_M} {d : Nat} {av : List Value} {M : am_I} {V : am_J} {f : Nat → Option Nat} {Q Q2 : a0_Po} (h : CT μ d av M V f Q) (hq : ∀ v M' V' f', Q v M' V' f' → Q2 v M' V' f') : CT μ d av M V f Q2 :=
  Ct.weaken h (fun v g' M' V' R' ⟨h1, f', h2, h3⟩ => ⟨h1, f', h2, hq v M' V' f' h3⟩)
def ix (i : Int32) (n j : Nat) : Prop := vp_in i n ∧ i.toNatClampNeg = j
theorem ix_nI {k n : Nat} (h : k < n) (hn : n < 2 ^ 31) : ix (nI k) n k := ⟨vp_in_nI h hn, nI_clamp (Nat.lt_trans h hn)⟩
theorem ix_self {i : Int32} {n : Nat} (h : vp_in i n) : ix i n i.toNatClampNeg := ⟨h, rfl⟩
section A0R
variable {μ : am_M} {d : Nat} {pc : Nat} {ls : List (Option Value)} {st : List Value} {M : am_I} {V : am_J} {f : Nat → Option Nat} {Q : a0_Po}
theorem ac_iconst (q : Nat) {n : Int} (v : Int32) (hd : decode μ.2.1 pc = .ok (.iconst n, 1)) (hp : pc + 1 = q) (hv : Int32.ofInt n = v) (k : A0 μ d q ls (.int v :: st) M V f Q) : A0 μ d pc ls st M V f Q := aw_iconst q hd hp hv k
theorem ac_bipush (q : Nat) {n : Int} (v : Int32) (hd : decode μ.2.1 pc = .ok (.bipush n, 2)) (hp : pc + 2 = q) (hv : (Int8.ofInt n).toInt32 = v) (k : A0 μ d q ls (.int v :: st) M V f Q) : A0 μ d pc ls st M V f Q := aw_bipush q hd hp hv k
theorem ac_sipush (q : Nat) {n : Int} (v : Int32) (hd : decode μ.2.1 pc = .ok (.sipush n, 3)) (hp : pc + 3 = q) (hv : (Int16.ofInt n).toInt32 = v) (k : A0 μ d q ls (.int v :: st) M V f Q) : A0 μ d pc ls st M V f Q := aw_sipush q hd hp hv k
theorem ac_lconst (q : Nat) {n : Fin 2} (v : Int64) (hd : decode μ.2.1 pc = .ok (.lconst n, 1)) (hp : pc + 1 = q) (hv : Int64.ofNat (n : Nat) = v) (k : A0 μ d q ls (.long v :: st) M V f Q) : A0 μ d pc ls st M V f Q := aw_lconst q hd hp hv k
theorem ac_ldc (q : Nat) {idx : Nat} {v : Int32} (hd : decode μ.2.1 pc = .ok (.ldc idx, 2)) (hp : pc + 2 = q) (hw : Cond.constant μ.1.cls idx v ∈ am_g) (k : A0 μ d q ls (.int v :: st) M V f Q) : A0 μ d pc ls st M V f Q := aw_ldc q hd hp hw k
theorem ac_ldcw (q : Nat) {idx : Nat} {v : Int32} (hd : decode μ.2.1 pc = .ok (.ldc_w idx, 3)) (hp : pc + 3 = q) (hw : Cond.constant μ.1.cls idx v ∈ am_g) (k : A0 μ d q ls (.int v :: st) M V f Q) : A0 μ d pc ls st M V f Q := aw_ldcw q hd hp hw k
theorem ac_iload_n (q : Nat) {i : Fin 4} {x : Int32} (hd : decode μ.2.1 pc = .ok (.iload_n i, 1)) (hp : pc + 1 = q) (hl : ls[(i : Nat)]? = some (some (.int x))) (k : A0 μ d q ls (.int x :: st) M V f Q) : A0 μ d pc ls st M V f Q := aw_iload_n q hd hp hl k
theorem ac_iload (q : Nat) {i : Nat} {x : Int32} (hd : decode μ.2.1 pc = .ok (.iload i, 2)) (hp : pc + 2 = q) (hl : ls[i]? = some (some (.int x))) (k : A0 μ d q ls (.int x :: st) M V f Q) : A0 μ d pc ls st M V f Q := aw_iload q hd hp hl k
theorem ac_aload_n (q : Nat) {i : Fin 4} {x : Nat} (hd : decode μ.2.1 pc = .ok (.aload_n i, 1)) (hp : pc + 1 = q) (hl : ls[(i : Nat)]? = some (some (.ref x))) (k : A0 μ d q ls (.ref x :: st) M V f Q) : A0 μ d pc ls st M V f Q := aw_aload_n q hd hp hl k
theorem ac_lload_n (q : Nat) {i : Fin 4} {x : Int64} (hd : decode μ.2.1 pc = .ok (.lload_n i, 1)) (hp : pc + 1 = q) (hl : ls[(i : Nat)]? = some (some (.long x))) (k : A0 μ d q ls (.long x :: st) M V f Q) : A0 μ d pc ls st M V f Q := aw_lload_n q hd hp hl k
theorem ac_istore_n (q : Nat) {i : Fin 4} {x : Int32} (ls' : List (Option Value)) (hd : decode μ.2.1 pc = .ok (.istore_n i, 1)) (hp : pc + 1 = q) (hc : am_c1 ls = true) (hi : (i : Nat) < ls.length) (hm : (i : Nat) < μ.2.2.1) (hs : ls.set (i : Nat) (some (.int x)) = ls') (k : A0 μ d q ls' st M V f Q) : A0 μ d pc ls (.int x :: st) M V f Q := by
  subst hs
  exact aw_istore_n q hd hp hc hi hm k
theorem ac_astore_n (q : Nat) {i : Fin 4} {x : Nat} (ls' : List (Option Value)) (hd : decode μ.2.1 pc = .ok (.astore_n i, 1)) (hp : pc + 1 = q) (hc : am_c1 ls = true) (hi : (i : Nat) < ls.length) (hm : (i : Nat) < μ.2.2.1) (hs : ls.set (i : Nat) (some (.ref x)) = ls') (k : A0 μ d q ls' st M V f Q) : A0 μ d pc ls (.ref x :: st) M V f Q := by
  subst hs
  exact aw_astore_n q hd hp hc hi hm k
theorem ac_istore (q : Nat) {i : Nat} {x : Int32} (ls' : List (Option Value)) (hd : decode μ.2.1 pc = .ok (.istore i, 2)) (hp : pc + 2 = q) (hc : am_c1 ls = true) (hi : i < ls.length) (hm : i < μ.2.2.1) (hs : ls.set i (some (.int x)) = ls') (k : A0 μ d q ls' st M V f Q) : A0 μ d pc ls (.int x :: st) M V f Q := by
  subst hs
  exact aw_istore q hd hp hc hi hm k
theorem ac_iinc (q : Nat) {i : Nat} {n : Int} {x : Int32} (v : Int32) (ls' : List (Option Value)) (hd : decode μ.2.1 pc = .ok (.iinc i n, 3)) (hp : pc + 3 = q) (hl : ls[i]? = some (some (.int x))) (hv : x + Int32.ofInt n = v) (hc : am_c1 ls = true) (hm : i < μ.2.2.1) (hs : ls.set i (some (.int v)) = ls') (k : A0 μ d q ls' st M V f Q) : A0 μ d pc ls st M V f Q := by
  subst hs
  exact aw_iinc q hd hp hl hv hc hm k
theorem ac_iadd (q : Nat) {x y : Int32} (hd : decode μ.2.1 pc = .ok (.iadd, 1)) (hp : pc + 1 = q) (k : A0 μ d q ls (.int (x + y) :: st) M V f Q) : A0 μ d pc ls (.int y :: .int x :: st) M V f Q := aw_iadd q hd hp k
theorem ac_isub (q : Nat) {x y : Int32} (hd : decode μ.2.1 pc = .ok (.isub, 1)) (hp : pc + 1 = q) (k : A0 μ d q ls (.int (x - y) :: st) M V f Q) : A0 μ d pc ls (.int y :: .int x :: st) M V f Q := aw_isub q hd hp k
theorem ac_imul (q : Nat) {x y : Int32} (hd : decode μ.2.1 pc = .ok (.imul, 1)) (hp : pc + 1 = q) (k : A0 μ d q ls (.int (x * y) :: st) M V f Q) : A0 μ d pc ls (.int y :: .int x :: st) M V f Q := aw_imul q hd hp k
theorem ac_iand (q : Nat) {x y : Int32} (hd : decode μ.2.1 pc = .ok (.iand, 1)) (hp : pc + 1 = q) (k : A0 μ d q ls (.int (x &&& y) :: st) M V f Q) : A0 μ d pc ls (.int y :: .int x :: st) M V f Q := aw_iand q hd hp k
theorem ac_ior (q : Nat) {x y : Int32} (hd : decode μ.2.1 pc = .ok (.ior, 1)) (hp : pc + 1 = q) (k : A0 μ d q ls (.int (x ||| y) :: st) M V f Q) : A0 μ d pc ls (.int y :: .int x :: st) M V f Q := aw_ior q hd hp k
theorem ac_ixor (q : Nat) {x y : Int32} (hd : decode μ.2.1 pc = .ok (.ixor, 1)) (hp : pc + 1 = q) (k : A0 μ d q ls (.int (x ^^^ y) :: st) M V f Q) : A0 μ d pc ls (.int y :: .int x :: st) M V f Q := aw_ixor q hd hp k
theorem ac_ishl (q : Nat) {x y : Int32} (hd : decode μ.2.1 pc = .ok (.ishl, 1)) (hp : pc + 1 = q) (k : A0 μ d q ls (.int (x <<< (y &&& 31)) :: st) M V f Q) : A0 μ d pc ls (.int y :: .int x :: st) M V f Q := aw_ishl q hd hp k
theorem ac_ishr (q : Nat) {x y : Int32} (hd : decode μ.2.1 pc = .ok (.ishr, 1)) (hp : pc + 1 = q) (k : A0 μ d q ls (.int (x >>> (y &&& 31)) :: st) M V f Q) : A0 μ d pc ls (.int y :: .int x :: st) M V f Q := aw_ishr q hd hp k
theorem ac_iushr (q : Nat) {x y : Int32} (hd : decode μ.2.1 pc = .ok (.iushr, 1)) (hp : pc + 1 = q) (k : A0 μ d q ls (.int (x.toUInt32 >>> (y.toUInt32 &&& Int32.toUInt32 31)).toInt32 :: st) M V f Q) : A0 μ d pc ls (.int y :: .int x :: st) M V f Q := aw_iushr q hd hp rfl k
theorem ac_idiv (q : Nat) {x y : Int32} (hd : decode μ.2.1 pc = .ok (.idiv, 1)) (hp : pc + 1 = q) (hne : ¬ y = 0) (k : A0 μ d q ls (.int (x / y) :: st) M V f Q) : A0 μ d pc ls (.int y :: .int x :: st) M V f Q := aw_idiv q hd hp hne k
theorem ac_irem (q : Nat) {x y : Int32} (hd : decode μ.2.1 pc = .ok (.irem, 1)) (hp : pc + 1 = q) (hne : ¬ y = 0) (k : A0 μ d q ls (.int (x - x / y * y) :: st) M V f Q) : A0 μ d pc ls (.int y :: .int x :: st) M V f Q := aw_irem q hd hp hne k
theorem ac_ineg (q : Nat) {x : Int32} (hd : decode μ.2.1 pc = .ok (.ineg, 1)) (hp : pc + 1 = q) (k : A0 μ d q ls (.int (-x) :: st) M V f Q) : A0 μ d pc ls (.int x :: st) M V f Q := aw_ineg q hd hp k
theorem ac_lor (q : Nat) {x y : Int64} (hd : decode μ.2.1 pc = .ok (.lor, 1)) (hp : pc + 1 = q) (k : A0 μ d q ls (.long (x ||| y) :: st) M V f Q) : A0 μ d pc ls (.long y :: .long x :: st) M V f Q := aw_lor q hd hp k
theorem ac_land (q : Nat) {x y : Int64} (hd : decode μ.2.1 pc = .ok (.land, 1)) (hp : pc + 1 = q) (k : A0 μ d q ls (.long (x &&& y) :: st) M V f Q) : A0 μ d pc ls (.long y :: .long x :: st) M V f Q := aw_land q hd hp k
theorem ac_lshl (q : Nat) {x : Int64} {y : Int32} (hd : decode μ.2.1 pc = .ok (.lshl, 1)) (hp : pc + 1 = q) (k : A0 μ d q ls (.long (x <<< (y.toInt64 &&& 63)) :: st) M V f Q) : A0 μ d pc ls (.int y :: .long x :: st) M V f Q := aw_lshl q hd hp rfl k
theorem ac_lushr (q : Nat) {x : Int64} {y : Int32} (hd : decode μ.2.1 pc = .ok (.lushr, 1)) (hp : pc + 1 = q) (k : A0 μ d q ls (.long (x.toUInt64 >>> (y.toInt64.toUInt64 &&& Int64.toUInt64 63)).toInt64 :: st) M V f Q) : A0 μ d pc ls (.int y :: .long x :: st) M V f Q := aw_lushr q hd hp rfl k
theorem ac_lcmp (q : Nat) {x y : Int64} (hd : decode μ.2.1 pc = .ok (.lcmp, 1)) (hp : pc + 1 = q) (k : A0 μ d q ls (.int (lg_cmp x y) :: st) M V f Q) : A0 μ d pc ls (.long y :: .long x :: st) M V f Q := aw_lcmp q hd hp k
theorem ac_dup (q : Nat) {v : Value} (hd : decode μ.2.1 pc = .ok (.dup, 1)) (hp : pc + 1 = q) (hv : v.category = 1) (k : A0 μ d q ls (v :: v :: st) M V f Q) : A0 μ d pc ls (v :: st) M V f Q := aw_dup q hd hp hv k
theorem ac_dup2 (q : Nat) {u v : Value} (hd : decode μ.2.1 pc = .ok (.dup2, 1)) (hp : pc + 1 = q) (hu : u.category = 1) (hv : v.category = 1) (k : A0 μ d q ls (u :: v :: u :: v :: st) M V f Q) : A0 μ d pc ls (u :: v :: st) M V f Q := aw_dup2 q hd hp hu hv k
theorem ac_icmp_eq (t q : Nat) {x y : Int32} {off : Int} (hd : decode μ.2.1 pc = .ok (.if_icmp .eq off, 3)) (ht : (pc : Int) + off = (t : Int)) (hp : pc + 3 = q) (kt : x = y → A0 μ d t ls st M V f Q) (kf : ¬ x = y → A0 μ d q ls st M V f Q) : A0 μ d pc ls (.int y :: .int x :: st) M V f Q := aw_icmp_eq t q hd ht hp kt kf
theorem ac_icmp_ne (t q : Nat) {x y : Int32} {off : Int} (hd : decode μ.2.1 pc = .ok (.if_icmp .ne off, 3)) (ht : (pc : Int) + off = (t : Int)) (hp : pc + 3 = q) (kt : ¬ x = y → A0 μ d t ls st M V f Q) (kf : x = y → A0 μ d q ls st M V f Q) : A0 μ d pc ls (.int y :: .int x :: st) M V f Q := aw_icmp_ne t q hd ht hp kt kf
theorem ac_icmp_lt (t q : Nat) {x y : Int32} {off : Int} (hd : decode μ.2.1 pc = .ok (.if_icmp .lt off, 3)) (ht : (pc : Int) + off = (t : Int)) (hp : pc + 3 = q) (kt : x < y → A0 μ d t ls st M V f Q) (kf : ¬ x < y → A0 μ d q ls st M V f Q) : A0 μ d pc ls (.int y :: .int x :: st) M V f Q := aw_icmp_lt t q hd ht hp kt kf
theorem ac_icmp_ge (t q : Nat) {x y : Int32} {off : Int} (hd : decode μ.2.1 pc = .ok (.if_icmp .ge off, 3)) (ht : (pc : Int) + off = (t : Int)) (hp : pc + 3 = q) (kt : y ≤ x → A0 μ d t ls st M V f Q) (kf : ¬ y ≤ x → A0 μ d q ls st M V f Q) : A0 μ d pc ls (.int y :: .int x :: st) M V f Q := aw_icmp_ge t q hd ht hp kt kf
theorem ac_icmp_gt (t q : Nat) {x y : Int32} {off : Int} (hd : decode μ.2.1 pc = .ok (.if_icmp .gt off, 3)) (ht : (pc : Int) + off = (t : Int)) (hp : pc + 3 = q) (kt : y < x → A0 μ d t ls st M V f Q) (kf : ¬ y < x → A0 μ d q ls st M V f Q) : A0 μ d pc ls (.int y :: .int x :: st) M V f Q := aw_icmp_gt t q hd ht hp kt kf
theorem ac_icmp_le (t q : Nat) {x y : Int32} {off : Int} (hd : decode μ.2.1 pc = .ok (.if_icmp .le off, 3)) (ht : (pc : Int) + off = (t : Int)) (hp : pc + 3 = q) (kt : x ≤ y → A0 μ d t ls st M V f Q) (kf : ¬ x ≤ y → A0 μ d q ls st M V f Q) : A0 μ d pc ls (.int y :: .int x :: st) M V f Q := aw_icmp_le t q hd ht hp kt kf
theorem ac_if_eq (t q : Nat) {x : Int32} {off : Int} (hd : decode μ.2.1 pc = .ok (.ifCond .eq off, 3)) (ht : (pc : Int) + off = (t : Int)) (hp : pc + 3 = q) (kt : x = 0 → A0 μ d t ls st M V f Q) (kf : ¬ x = 0 → A0 μ d q ls st M V f Q) : A0 μ d pc ls (.int x :: st) M V f Q := aw_if_eq t q hd ht hp kt kf
theorem ac_if_ne (t q : Nat) {x : Int32} {off : Int} (hd : decode μ.2.1 pc = .ok (.ifCond .ne off, 3)) (ht : (pc : Int) + off = (t : Int)) (hp : pc + 3 = q) (kt : ¬ x = 0 → A0 μ d t ls st M V f Q) (kf : x = 0 → A0 μ d q ls st M V f Q) : A0 μ d pc ls (.int x :: st) M V f Q := aw_if_ne t q hd ht hp kt kf
theorem ac_if_lt (t q : Nat) {x : Int32} {off : Int} (hd : decode μ.2.1 pc = .ok (.ifCond .lt off, 3)) (ht : (pc : Int) + off = (t : Int)) (hp : pc + 3 = q) (kt : x < 0 → A0 μ d t ls st M V f Q) (kf : ¬ x < 0 → A0 μ d q ls st M V f Q) : A0 μ d pc ls (.int x :: st) M V f Q := aw_if_lt t q hd ht hp kt kf
theorem ac_if_ge (t q : Nat) {x : Int32} {off : Int} (hd : decode μ.2.1 pc = .ok (.ifCond .ge off, 3)) (ht : (pc : Int) + off = (t : Int)) (hp : pc + 3 = q) (kt : 0 ≤ x → A0 μ d t ls st M V f Q) (kf : ¬ 0 ≤ x → A0 μ d q ls st M V f Q) : A0 μ d pc ls (.int x :: st) M V f Q := aw_if_ge t q hd ht hp kt kf
theorem ac_if_gt (t q : Nat) {x : Int32} {off : Int} (hd : decode μ.2.1 pc = .ok (.ifCond .gt off, 3)) (ht : (pc : Int) + off = (t : Int)) (hp : pc + 3 = q) (kt : 0 < x → A0 μ d t ls st M V f Q) (kf : ¬ 0 < x → A0 μ d q ls st M V f Q) : A0 μ d pc ls (.int x :: st) M V f Q := aw_if_gt t q hd ht hp kt kf
theorem ac_if_le (t q : Nat) {x : Int32} {off : Int} (hd : decode μ.2.1 pc = .ok (.ifCond .le off, 3)) (ht : (pc : Int) + off = (t : Int)) (hp : pc + 3 = q) (kt : x ≤ 0 → A0 μ d t ls st M V f Q) (kf : ¬ x ≤ 0 → A0 μ d q ls st M V f Q) : A0 μ d pc ls (.int x :: st) M V f Q := aw_if_le t q hd ht hp kt kf
theorem ac_goto (t : Nat) {off : Int} (hd : decode μ.2.1 pc = .ok (.goto off, 3)) (ht : (pc : Int) + off = (t : Int)) (k : A0 μ d t ls st M V f Q) : A0 μ d pc ls st M V f Q := aw_goto t hd ht k
theorem ac_tableOut (t : Nat) {dflt lw hg : Int} {offs : Array Int} {len : Nat} {x : Int32} (hd : decode μ.2.1 pc = .ok (.tableswitch dflt lw hg offs, len)) (h : x.toInt < lw ∨ hg < x.toInt) (ht : (pc : Int) + dflt = (t : Int)) (k : A0 μ d t ls st M V f Q) : A0 μ d pc ls (.int x :: st) M V f Q := aw_tableOut t hd h ht k
theorem ac_tableIn (t : Nat) {dflt lw hg : Int} {offs : Array Int} {len : Nat} {x : Int32} (j : Nat) (off : Int) (hd : decode μ.2.1 pc = .ok (.tableswitch dflt lw hg offs, len)) (hx : x.toInt = lw + j) (hj : ¬ hg < lw + j) (ho : offs[j]? = some off) (ht : (pc : Int) + off = (t : Int)) (k : A0 μ d t ls st M V f Q) : A0 μ d pc ls (.int x :: st) M V f Q := aw_tableIn (off := off) t hd (by omega) (by omega) (by rw [hx, show (lw + (j : Int) - lw).toNat = j by omega]; exact ho) ht k
theorem ac_lookup (t : Nat) {dflt : Int} (off : Int) {ps : Array (Int × Int)} {len : Nat} {x : Int32} (hd : decode μ.2.1 pc = .ok (.lookupswitch dflt ps, len)) (hq : (ps.toList.zip (ps.toList.drop 1)).all (fun (a, next) => a.1 < next.1) = true) (ho : Op.lookupswitch.offset ps.toList dflt x.toInt = off) (ht : (pc : Int) + off = (t : Int)) (k : A0 μ d t ls st M V f Q) : A0 μ d pc ls (.int x :: st) M V f Q := aw_lookup t hd hq ho ht k
theorem ac_getI (q : Nat) {idx c0 j r : Nat} (hd : decode μ.2.1 pc = .ok (.getfield idx, 3)) (hp : pc + 3 = q) (hf : am_F μ.1.cls idx c0 j false) (ho : am_ob G0 r c0) (k : A0 μ d q ls (.int (M r j) :: st) M V f Q) : A0 μ d pc ls (.ref r :: st) M V f Q := aw_getI q hd hp hf ho k
theorem ac_getO (q : Nat) {idx c0 j r : Nat} (i : Nat) (hd : decode μ.2.1 pc = .ok (.getfield idx, 3)) (hp : pc + 3 = q) (hf : am_F μ.1.cls idx c0 j true) (ho : am_ob G0 r c0) (hi : RR f r j = some i) (k : A0 μ d q ls (.ref i :: st) M V f Q) : A0 μ d pc ls (.ref r :: st) M V f Q := aw_getO q hd hp hf ho hi k
theorem ac_putI (q : Nat) {idx c0 j r : Nat} {x : Int32} (hd : decode μ.2.1 pc = .ok (.putfield idx, 3)) (hp : pc + 3 = q) (hf : am_F μ.1.cls idx c0 j false) (hfin : (am_T c0 j).2.2.2 = false) (hft : fits (am_ty c0 j) (.int x) = true) (ho : am_ob G0 r c0) (k : A0 μ d q ls st (am_up M r j x) V f Q) : A0 μ d pc ls (.int x :: .ref r :: st) M V f Q := aw_putI q hd hp hf hfin hft ho k
theorem ac_iald (q : Nat) {r n j : Nat} {i : Int32} (hd : decode μ.2.1 pc = .ok (.iaload, 1)) (hp : pc + 1 = q) (ha : am_ar G0 r 0 n) (hi : ix i n j) (k : A0 μ d q ls (.int (M r j) :: st) M V f Q) : A0 μ d pc ls (.int i :: .ref r :: st) M V f Q := aw_iald q hd hp ha hi.1 (by rw [hi.2]; exact k)
theorem ac_zald (q : Nat) {r n j : Nat} {i : Int32} (hd : decode μ.2.1 pc = .ok (.baload, 1)) (hp : pc + 1 = q) (ha : am_ar G0 r 2 n) (hi : ix i n j) (k : A0 μ d q ls (.int (M r j) :: st) M V f Q) : A0 μ d pc ls (.int i :: .ref r :: st) M V f Q := aw_zald q hd hp ha hi.1 (by rw [hi.2]; exact k)
theorem ac_lald (q : Nat) {r n j : Nat} {i : Int32} (hd : decode μ.2.1 pc = .ok (.laload, 1)) (hp : pc + 1 = q) (ha : am_ar G0 r 1 n) (hi : ix i n j) (k : A0 μ d q ls (.long (V r j) :: st) M V f Q) : A0 μ d pc ls (.int i :: .ref r :: st) M V f Q := aw_lald q hd hp ha hi.1 (by rw [hi.2]; exact k)
theorem ac_aald (q : Nat) {r n j : Nat} (a : Nat) {i : Int32} (hd : decode μ.2.1 pc = .ok (.aaload, 1)) (hp : pc + 1 = q) (ha : am_ar G0 r 3 n) (hi : ix i n j) (hv : RR f r j = some a) (k : A0 μ d q ls (.ref a :: st) M V f Q) : A0 μ d pc ls (.int i :: .ref r :: st) M V f Q := aw_aald q hd hp ha hi.1 (by rw [hi.2]; exact hv) k
theorem ac_alen (q : Nat) {r n : Nat} (v : Int32) (hd : decode μ.2.1 pc = .ok (.arraylength, 1)) (hp : pc + 1 = q) (ha : am_ar G0 r 0 n) (hv : Int32.ofNat n = v) (k : A0 μ d q ls (.int v :: st) M V f Q) : A0 μ d pc ls (.ref r :: st) M V f Q := aw_alen q hd hp ha (Or.inl rfl) hv k
theorem ac_iast (q : Nat) {r n j : Nat} {i x : Int32} (hd : decode μ.2.1 pc = .ok (.iastore, 1)) (hp : pc + 1 = q) (ha : am_ar G0 r 0 n) (hi : ix i n j) (k : A0 μ d q ls st (am_up M r j x) V f Q) : A0 μ d pc ls (.int x :: .int i :: .ref r :: st) M V f Q := aw_iast q hd hp ha hi.1 (by rw [hi.2]; exact k)
theorem ac_zast (q : Nat) {r n j : Nat} {i x : Int32} (hd : decode μ.2.1 pc = .ok (.bastore, 1)) (hp : pc + 1 = q) (ha : am_ar G0 r 2 n) (hi : ix i n j) (hx : vp_nar .boolean x = x) (k : A0 μ d q ls st (am_up M r j x) V f Q) : A0 μ d pc ls (.int x :: .int i :: .ref r :: st) M V f Q := aw_zast q hx hd hp ha hi.1 (by rw [hi.2]; exact k)
theorem ac_last (q : Nat) {r n j : Nat} {i : Int32} {x : Int64} (hd : decode μ.2.1 pc = .ok (.lastore, 1)) (hp : pc + 1 = q) (ha : am_ar G0 r 1 n) (hi : ix i n j) (k : A0 μ d q ls st M (am_up V r j x) f Q) : A0 μ d pc ls (.long x :: .int i :: .ref r :: st) M V f Q := aw_last q hd hp ha hi.1 (by rw [hi.2]; exact k)
theorem ac_aast (q : Nat) {n a j : Nat} {i : Int32} (hd : decode μ.2.1 pc = .ok (.aastore, 1)) (hp : pc + 1 = q) (ha : am_ar G0 28 3 n) (hi : ix i n j) (ho : am_ob G0 a 6) (k : A0 μ d q ls st M V (va_up f j (some a)) Q) : A0 μ d pc ls (.ref a :: .int i :: .ref 28 :: st) M V f Q := by
  refine aw_aast q hd hp ha hi.1 ho ?_
  rw [hi.2, RR_up]
  exact k
theorem ac_copy (q : Nat) {idx r0 r1 n0 n1 : Nat} {sp dp n : Int32} (hd : decode μ.2.1 pc = .ok (.invokestatic idx, 3)) (hp : pc + 3 = q) (hlk : Cond.methodLink μ.1.cls idx arraycopyName ∈ am_g) (ha0 : am_ar G0 r0 0 n0) (ha1 : am_ar G0 r1 0 n1) (g1 : ¬ sp < 0) (g2 : ¬ dp < 0) (g3 : ¬ n < 0) (g4 : sp.toNatClampNeg + n.toNatClampNeg ≤ n0) (g5 : dp.toNatClampNeg + n.toNatClampNeg ≤ n1) (hd1 : 1 ≤ d) (hst : (st.map fun v => v.category).sum ≤ 8) (k : A0 μ d q ls st (am_row M r1 (va_cpy (M r0) (M r1) sp.toNatClampNeg dp.toNatClampNeg n.toNatClampNeg)) V f Q) : A0 μ d pc ls (.int n :: .int dp :: .ref r1 :: .int sp :: .ref r0 :: st) M V f Q := aw_copy q hd hp hlk ha0 ha1 g1 g2 g3 g4 g5 hd1 hst k
theorem ac_abs (q : Nat) {idx : Nat} {x : Int32} (hd : decode μ.2.1 pc = .ok (.invokestatic idx, 3)) (hp : pc + 3 = q) (hlk : Cond.methodLink μ.1.cls idx Lib.Math.abs.name ∈ am_g) (hd1 : 1 ≤ d) (hst : (st.map fun v => v.category).sum ≤ 8) (k : A0 μ d q ls (.int (if 0 ≤ x then x else 0 - x) :: st) M V f Q) : A0 μ d pc ls (.int x :: st) M V f Q := aw_abs q hd hp hlk hd1 hst k
theorem ac_min (q : Nat) {idx : Nat} {x y : Int32} (hd : decode μ.2.1 pc = .ok (.invokestatic idx, 3)) (hp : pc + 3 = q) (hlk : Cond.methodLink μ.1.cls idx Lib.Math.min.name ∈ am_g) (hd1 : 1 ≤ d) (hst : (st.map fun v => v.category).sum ≤ 8) (k : A0 μ d q ls (.int (if y < x then y else x) :: st) M V f Q) : A0 μ d pc ls (.int y :: .int x :: st) M V f Q := aw_min q hd hp hlk hd1 hst k
theorem ac_max (q : Nat) {idx : Nat} {x y : Int32} (hd : decode μ.2.1 pc = .ok (.invokestatic idx, 3)) (hp : pc + 3 = q) (hlk : Cond.methodLink μ.1.cls idx Lib.Math.max.name ∈ am_g) (hd1 : 1 ≤ d) (hst : (st.map fun v => v.category).sum ≤ 8) (k : A0 μ d q ls (.int (if x < y then y else x) :: st) M V f Q) : A0 μ d pc ls (.int y :: .int x :: st) M V f Q := aw_max q hd hp hlk hd1 hst k
theorem ac_iret {x : Int32} (hd : decode μ.2.1 pc = .ok (.ireturn, 1)) (hn : am_nr μ x) (hQ : Q (some (.int x)) M V f) : A0 μ d pc ls [.int x] M V f Q := aw_iret hd hn ⟨rfl, f, rfl, hQ⟩
theorem ac_vret (hd : decode μ.2.1 pc = .ok (.return_, 1)) (hn : μ.2.2.2 = none) (hQ : Q none M V f) : A0 μ d pc ls [] M V f Q := aw_vret hd hn ⟨rfl, f, rfl, hQ⟩
theorem bi_nr {μ : am_M} (h : μ.2.2.2 = some .boolean) (p : Prop) : am_nr μ (bi p) := ⟨_, h, by rcases bi_cases p with ⟨-, e⟩ | ⟨-, e⟩ <;> rw [e] <;> rfl⟩
/-- a loop that counts up -/
theorem ac_down {P : Nat → Prop} {n : Nat} (hn : P n) (hs : ∀ k, k < n → P (k + 1) → P k) : ∀ k, k ≤ n → P k := by
  have key : ∀ j, ∀ k, k + j = n → P k := by
    intro j
    induction j with
    | zero => intro k h; have : k = n := h; subst this; exact hn
    | succ j ih => intro k h; exact hs k (by omega) (ih (k + 1) (by omega))
  exact fun k h => key (n - k) k (by omega)
/-- a local that is not wanted any more -/
theorem aw_kill {μ : am_M} {d b1 b2 : Nat} {g : am_G} {pc : Nat} {ls : List (Option Value)} {st : List Value} {M : am_I} {V : am_J} {R : am_O} {Q : am_Po} (i : Nat) (k : AW μ d b1 b2 g pc (ls.set i none) st M V R Q) : AW μ d b1 b2 g pc ls st M V R Q := by
  intro p l e Rm s m args below meth c H locs cells slots mc ms n0 z sk D cy lo S h1 h2 h3 hR hS hL
  refine k p l e Rm s m args below meth c H locs cells slots mc ms n0 z sk D cy lo S h1 h2 h3 hR hS ⟨hL.1, hL.2.1, fun n v hn => hL.2.2 n v ?_⟩
  by_cases hni : n = i
  · subst hni
    rw [List.getElem?_set] at hn
    split at hn
    · split at hn <;> cases hn
    · exact hn
  · rw [List.getElem?_set_ne (Ne.symm hni)] at hn
    exact hn
theorem ac_kill (i : Nat) (ls' : List (Option Value)) (hs : ls.set i none = ls') (k : A0 μ d pc ls' st M V f Q) : A0 μ d pc ls st M V f Q := by
  subst hs
  exact aw_kill i k
theorem A0.lse {ls' : List (Option Value)} (h : ls = ls') (k : A0 μ d pc ls st M V f Q) : A0 μ d pc ls' st M V f Q := h ▸ k
/-- calls: by what the callee answers and does -/
theorem ac_callVg (q : Nat) {μ' : am_M} {idx n d' c0 r : Nat} {As rest : List Value} {Q' : a0_Po} (hd : decode μ.2.1 pc = .ok (.invokevirtual idx, 3)) (hp : pc + 3 = q) (hlk : am_lk μ.1.cls idx μ'.1) (hm : am_mV μ' n c0) (ho : am_ob G0 r c0) (hC : CT μ' d' (.ref r :: As) M V f Q') (hn : As.length = n) (hst : st = As.reverse ++ .ref r :: rest) (hd9 : d' + 1 ≤ d) (hct : (rest.map fun v => v.category).sum ≤ 8)
    (k : ∀ v M' V' f', Q' v M' V' f' → A0 μ d q ls (v.toList ++ rest) M' V' f' Q) : A0 μ d pc ls st M V f Q :=
  aw_callV (b1 := 0) (b2 := 0) q hd hp hlk hm ho hC hn hst hd9 hct (fun v g' M' V' R' _ ⟨h1, f', h2, h3⟩ => by subst h1; subst h2; exact k v M' V' f' h3)
theorem ac_callSg (q : Nat) {μ' : am_M} {idx n d' : Nat} {As rest : List Value} {Q' : a0_Po} (hd : decode μ.2.1 pc = .ok (.invokestatic idx, 3)) (hp : pc + 3 = q) (hlk : am_lk μ.1.cls idx μ'.1) (hm : am_mS μ' n) (hC : CT μ' d' As M V f Q') (hn : As.length = n) (hst : st = As.reverse ++ rest) (hd9 : d' + 1 ≤ d) (hct : (rest.map fun v => v.category).sum ≤ 8)
    (k : ∀ v M' V' f', Q' v M' V' f' → A0 μ d q ls (v.toList ++ rest) M' V' f' Q) : A0 μ d pc ls st M V f Q :=
  aw_callS (b1 := 0) (b2 := 0) q hd hp hlk hm hC hn hst hd9 hct (fun v g' M' V' R' _ ⟨h1, f', h2, h3⟩ => by subst h1; subst h2; exact k v M' V' f' h3)
theorem ac_callV (q : Nat) {μ' : am_M} {idx n d' c0 r : Nat} {As rest : List Value} {x : Int32} (hd : decode μ.2.1 pc = .ok (.invokevirtual idx, 3)) (hp : pc + 3 = q) (hlk : am_lk μ.1.cls idx μ'.1) (hm : am_mV μ' n c0) (ho : am_ob G0 r c0) (hC : CT μ' d' (.ref r :: As) M V f (RV x M V f)) (hn : As.length = n) (hst : st = As.reverse ++ .ref r :: rest) (hd9 : d' + 1 ≤ d) (hct : (rest.map fun v => v.category).sum ≤ 8)
    (k : A0 μ d q ls (.int x :: rest) M V f Q) : A0 μ d pc ls st M V f Q :=
  ac_callVg q hd hp hlk hm ho hC hn hst hd9 hct (fun v M' V' f' ⟨h1, h2, h3, h4⟩ => by subst h1; subst h2; subst h3; subst h4; exact k)
theorem ac_callS (q : Nat) {μ' : am_M} {idx n d' : Nat} {As rest : List Value} {x : Int32} (hd : decode μ.2.1 pc = .ok (.invokestatic idx, 3)) (hp : pc + 3 = q) (hlk : am_lk μ.1.cls idx μ'.1) (hm : am_mS μ' n) (hC : CT μ' d' As M V f (RV x M V f)) (hn : As.length = n) (hst : st = As.reverse ++ rest) (hd9 : d' + 1 ≤ d) (hct : (rest.map fun v => v.category).sum ≤ 8)
    (k : A0 μ d q ls (.int x :: rest) M V f Q) : A0 μ d pc ls st M V f Q :=
  ac_callSg q hd hp hlk hm hC hn hst hd9 hct (fun v M' V' f' ⟨h1, h2, h3, h4⟩ => by subst h1; subst h2; subst h3; subst h4; exact k)
theorem am_ent_of {n : Nat} {av : List Value} {ls : List (Option Value)} (h1 : ls.length ≤ n) (h2 : (lg_sl av).length ≤ n) (h3 : ∀ (i : Nat) (v : Value), ls[i]? = some (some v) → (i, v) ∈ lv_args 0 av) : am_ent n av ls := ⟨h1, h2, h3⟩
theorem CT.of {n : Nat} {av : List Value} (hm : am_m μ n) (ls : List (Option Value)) (hl : ∀ g : Nat → Nat, am_ent μ.2.2.1 (av.map (am_cv g)) (ls.map (fun o => o.map (am_cv g)))) (k : A0 μ d 0 ls [] M V f Q) : CT μ d av M V f Q := Ct.of hm.1 hm.2.1 ls hl k
end A0R
theorem en_a_1 (x0 : Nat) (g : Nat → Nat) : am_ent 1 (([Value.ref x0] : List Value).map (am_cv g)) (([some (Value.ref x0)] : List (Option Value)).map (fun o => o.map (am_cv g))) := by
  refine am_ent_of (Nat.le_of_ble_eq_true rfl) (Nat.le_of_ble_eq_true rfl) (fun i v h => ?_)
  have hi : i < 1 := (List.getElem?_eq_some_iff.mp h).1
  match i, hi, h with
  | 0, _, h => cases h; simp [lv_args, am_cv, Value.category]
theorem en_a_2 (x0 : Nat) (g : Nat → Nat) : am_ent 2 (([Value.ref x0] : List Value).map (am_cv g)) (([some (Value.ref x0), none] : List (Option Value)).map (fun o => o.map (am_cv g))) := by
  refine am_ent_of (Nat.le_of_ble_eq_true rfl) (Nat.le_of_ble_eq_true rfl) (fun i v h => ?_)
  have hi : i < 2 := (List.getElem?_eq_some_iff.mp h).1
  match i, hi, h with
  | 0, _, h => cases h; simp [lv_args, am_cv, Value.category]
  | 1, _, h => cases h
theorem en_a_3 (x0 : Nat) (g : Nat → Nat) : am_ent 3 (([Value.ref x0] : List Value).map (am_cv g)) (([some (Value.ref x0), none, none] : List (Option Value)).map (fun o => o.map (am_cv g))) := by
  refine am_ent_of (Nat.le_of_ble_eq_true rfl) (Nat.le_of_ble_eq_true rfl) (fun i v h => ?_)
  have hi : i < 3 := (List.getElem?_eq_some_iff.mp h).1
  match i, hi, h with
  | 0, _, h => cases h; simp [lv_args, am_cv, Value.category]
  | 1, _, h => cases h
  | 2, _, h => cases h
theorem en_a_6 (x0 : Nat) (g : Nat → Nat) : am_ent 6 (([Value.ref x0] : List Value).map (am_cv g)) (([some (Value.ref x0), none, none, none, none, none] : List (Option Value)).map (fun o => o.map (am_cv g))) := by
  refine am_ent_of (Nat.le_of_ble_eq_true rfl) (Nat.le_of_ble_eq_true rfl) (fun i v h => ?_)
  have hi : i < 6 := (List.getElem?_eq_some_iff.mp h).1
  match i, hi, h with
  | 0, _, h => cases h; simp [lv_args, am_cv, Value.category]
  | 1, _, h => cases h
  | 2, _, h => cases h
  | 3, _, h => cases h
  | 4, _, h => cases h
  | 5, _, h => cases h
theorem en_a_8 (x0 : Nat) (g : Nat → Nat) : am_ent 8 (([Value.ref x0] : List Value).map (am_cv g)) (([some (Value.ref x0), none, none, none, none, none, none, none] : List (Option Value)).map (fun o => o.map (am_cv g))) := by
  refine am_ent_of (Nat.le_of_ble_eq_true rfl) (Nat.le_of_ble_eq_true rfl) (fun i v h => ?_)
  have hi : i < 8 := (List.getElem?_eq_some_iff.mp h).1
  match i, hi, h with
  | 0, _, h => cases h; simp [lv_args, am_cv, Value.category]
  | 1, _, h => cases h
  | 2, _, h => cases h
  | 3, _, h => cases h
  | 4, _, h => cases h
  | 5, _, h => cases h
  | 6, _, h => cases h
  | 7, _, h => cases h
theorem en_aa_2 (x0 : Nat) (x1 : Nat) (g : Nat → Nat) : am_ent 2 (([Value.ref x0, Value.ref x1] : List Value).map (am_cv g)) (([some (Value.ref x0), some (Value.ref x1)] : List (Option Value)).map (fun o => o.map (am_cv g))) := by
  refine am_ent_of (Nat.le_of_ble_eq_true rfl) (Nat.le_of_ble_eq_true rfl) (fun i v h => ?_)
  have hi : i < 2 := (List.getElem?_eq_some_iff.mp h).1
  match i, hi, h with
  | 0, _, h => cases h; simp [lv_args, am_cv, Value.category]
  | 1, _, h => cases h; simp [lv_args, am_cv, Value.category]
theorem en_aa_3 (x0 : Nat) (x1 : Nat) (g : Nat → Nat) : am_ent 3 (([Value.ref x0, Value.ref x1] : List Value).map (am_cv g)) (([some (Value.ref x0), some (Value.ref x1), none] : List (Option Value)).map (fun o => o.map (am_cv g))) := by
  refine am_ent_of (Nat.le_of_ble_eq_true rfl) (Nat.le_of_ble_eq_true rfl) (fun i v h => ?_)
  have hi : i < 3 := (List.getElem?_eq_some_iff.mp h).1
  match i, hi, h with
  | 0, _, h => cases h; simp [lv_args, am_cv, Value.category]
  | 1, _, h => cases h; simp [lv_args, am_cv, Value.category]
  | 2, _, h => cases h
theorem en_aa_4 (x0 : Nat) (x1 : Nat) (g : Nat → Nat) : am_ent 4 (([Value.ref x0, Value.ref x1] : List Value).map (am_cv g)) (([some (Value.ref x0), some (Value.ref x1), none, none] : List (Option Value)).map (fun o => o.map (am_cv g))) := by
  refine am_ent_of (Nat.le_of_ble_eq_true rfl) (Nat.le_of_ble_eq_true rfl) (fun i v h => ?_)
  have hi : i < 4 := (List.getElem?_eq_some_iff.mp h).1
  match i, hi, h with
  | 0, _, h => cases h; simp [lv_args, am_cv, Value.category]
  | 1, _, h => cases h; simp [lv_args, am_cv, Value.category]
  | 2, _, h => cases h
  | 3, _, h => cases h
theorem en_aa_5 (x0 : Nat) (x1 : Nat) (g : Nat → Nat) : am_ent 5 (([Value.ref x0, Value.ref x1] : List Value).map (am_cv g)) (([some (Value.ref x0), some (Value.ref x1), none, none, none] : List (Option Value)).map (fun o => o.map (am_cv g))) := by
  refine am_ent_of (Nat.le_of_ble_eq_true rfl) (Nat.le_of_ble_eq_true rfl) (fun i v h => ?_)
  have hi : i < 5 := (List.getElem?_eq_some_iff.mp h).1
  match i, hi, h with
  | 0, _, h => cases h; simp [lv_args, am_cv, Value.category]
  | 1, _, h => cases h; simp [lv_args, am_cv, Value.category]
  | 2, _, h => cases h
  | 3, _, h => cases h
  | 4, _, h => cases h
theorem en_aaai_5 (x0 : Nat) (x1 : Nat) (x2 : Nat) (x3 : Int32) (g : Nat → Nat) : am_ent 5 (([Value.ref x0, Value.ref x1, Value.ref x2, Value.int x3] : List Value).map (am_cv g)) (([some (Value.ref x0), some (Value.ref x1), some (Value.ref x2), some (Value.int x3), none] : List (Option Value)).map (fun o => o.map (am_cv g))) := by
  refine am_ent_of (Nat.le_of_ble_eq_true rfl) (Nat.le_of_ble_eq_true rfl) (fun i v h => ?_)
  have hi : i < 5 := (List.getElem?_eq_some_iff.mp h).1
  match i, hi, h with
  | 0, _, h => cases h; simp [lv_args, am_cv, Value.category]
  | 1, _, h => cases h; simp [lv_args, am_cv, Value.category]
  | 2, _, h => cases h; simp [lv_args, am_cv, Value.category]
  | 3, _, h => cases h; simp [lv_args, am_cv, Value.category]
  | 4, _, h => cases h
theorem en_aai_4 (x0 : Nat) (x1 : Nat) (x2 : Int32) (g : Nat → Nat) : am_ent 4 (([Value.ref x0, Value.ref x1, Value.int x2] : List Value).map (am_cv g)) (([some (Value.ref x0), some (Value.ref x1), some (Value.int x2), none] : List (Option Value)).map (fun o => o.map (am_cv g))) := by
  refine am_ent_of (Nat.le_of_ble_eq_true rfl) (Nat.le_of_ble_eq_true rfl) (fun i v h => ?_)
  have hi : i < 4 := (List.getElem?_eq_some_iff.mp h).1
  match i, hi, h with
  | 0, _, h => cases h; simp [lv_args, am_cv, Value.category]
  | 1, _, h => cases h; simp [lv_args, am_cv, Value.category]
  | 2, _, h => cases h; simp [lv_args, am_cv, Value.category]
  | 3, _, h => cases h
theorem en_aai_5 (x0 : Nat) (x1 : Nat) (x2 : Int32) (g : Nat → Nat) : am_ent 5 (([Value.ref x0, Value.ref x1, Value.int x2] : List Value).map (am_cv g)) (([some (Value.ref x0), some (Value.ref x1), some (Value.int x2), none, none] : List (Option Value)).map (fun o => o.map (am_cv g))) := by
  refine am_ent_of (Nat.le_of_ble_eq_true rfl) (Nat.le_of_ble_eq_true rfl) (fun i v h => ?_)
  have hi : i < 5 := (List.getElem?_eq_some_iff.mp h).1
  match i, hi, h with
  | 0, _, h => cases h; simp [lv_args, am_cv, Value.category]
  | 1, _, h => cases h; simp [lv_args, am_cv, Value.category]
  | 2, _, h => cases h; simp [lv_args, am_cv, Value.category]
  | 3, _, h => cases h
  | 4, _, h => cases h
theorem en_aai_7 (x0 : Nat) (x1 : Nat) (x2 : Int32) (g : Nat → Nat) : am_ent 7 (([Value.ref x0, Value.ref x1, Value.int x2] : List Value).map (am_cv g)) (([some (Value.ref x0), some (Value.ref x1), some (Value.int x2), none, none, none, none] : List (Option Value)).map (fun o => o.map (am_cv g))) := by
  refine am_ent_of (Nat.le_of_ble_eq_true rfl) (Nat.le_of_ble_eq_true rfl) (fun i v h => ?_)
  have hi : i < 7 := (List.getElem?_eq_some_iff.mp h).1
  match i, hi, h with
  | 0, _, h => cases h; simp [lv_args, am_cv, Value.category]
  | 1, _, h => cases h; simp [lv_args, am_cv, Value.category]
  | 2, _, h => cases h; simp [lv_args, am_cv, Value.category]
  | 3, _, h => cases h
  | 4, _, h => cases h
  | 5, _, h => cases h
  | 6, _, h => cases h
theorem en_aaiiiii_8 (x0 : Nat) (x1 : Nat) (x2 : Int32) (x3 : Int32) (x4 : Int32) (x5 : Int32) (x6 : Int32) (g : Nat → Nat) : am_ent 8 (([Value.ref x0, Value.ref x1, Value.int x2, Value.int x3, Value.int x4, Value.int x5, Value.int x6] : List Value).map (am_cv g)) (([some (Value.ref x0), some (Value.ref x1), some (Value.int x2), some (Value.int x3), some (Value.int x4), some (Value.int x5), some (Value.int x6), none] : List (Option Value)).map (fun o => o.map (am_cv g))) := by
  refine am_ent_of (Nat.le_of_ble_eq_true rfl) (Nat.le_of_ble_eq_true rfl) (fun i v h => ?_)
  have hi : i < 8 := (List.getElem?_eq_some_iff.mp h).1
  match i, hi, h with
  | 0, _, h => cases h; simp [lv_args, am_cv, Value.category]
  | 1, _, h => cases h; simp [lv_args, am_cv, Value.category]
  | 2, _, h => cases h; simp [lv_args, am_cv, Value.category]
  | 3, _, h => cases h; simp [lv_args, am_cv, Value.category]
  | 4, _, h => cases h; simp [lv_args, am_cv, Value.category]
  | 5, _, h => cases h; simp [lv_args, am_cv, Value.category]
  | 6, _, h => cases h; simp [lv_args, am_cv, Value.category]
  | 7, _, h => cases h
theorem en_ai_2 (x0 : Nat) (x1 : Int32) (g : Nat → Nat) : am_ent 2 (([Value.ref x0, Value.int x1] : List Value).map (am_cv g)) (([some (Value.ref x0), some (Value.int x1)] : List (Option Value)).map (fun o => o.map (am_cv g))) := by
  refine am_ent_of (Nat.le_of_ble_eq_true rfl) (Nat.le_of_ble_eq_true rfl) (fun i v h => ?_)
  have hi : i < 2 := (List.getElem?_eq_some_iff.mp h).1
  match i, hi, h with
  | 0, _, h => cases h; simp [lv_args, am_cv, Value.category]
  | 1, _, h => cases h; simp [lv_args, am_cv, Value.category]
theorem en_ai_3 (x0 : Nat) (x1 : Int32) (g : Nat → Nat) : am_ent 3 (([Value.ref x0, Value.int x1] : List Value).map (am_cv g)) (([some (Value.ref x0), some (Value.int x1), none] : List (Option Value)).map (fun o => o.map (am_cv g))) := by
  refine am_ent_of (Nat.le_of_ble_eq_true rfl) (Nat.le_of_ble_eq_true rfl) (fun i v h => ?_)
  have hi : i < 3 := (List.getElem?_eq_some_iff.mp h).1
  match i, hi, h with
  | 0, _, h => cases h; simp [lv_args, am_cv, Value.category]
  | 1, _, h => cases h; simp [lv_args, am_cv, Value.category]
  | 2, _, h => cases h
theorem en_ai_4 (x0 : Nat) (x1 : Int32) (g : Nat → Nat) : am_ent 4 (([Value.ref x0, Value.int x1] : List Value).map (am_cv g)) (([some (Value.ref x0), some (Value.int x1), none, none] : List (Option Value)).map (fun o => o.map (am_cv g))) := by
  refine am_ent_of (Nat.le_of_ble_eq_true rfl) (Nat.le_of_ble_eq_true rfl) (fun i v h => ?_)
  have hi : i < 4 := (List.getElem?_eq_some_iff.mp h).1
  match i, hi, h with
  | 0, _, h => cases h; simp [lv_args, am_cv, Value.category]
  | 1, _, h => cases h; simp [lv_args, am_cv, Value.category]
  | 2, _, h => cases h
  | 3, _, h => cases h
theorem en_ai_5 (x0 : Nat) (x1 : Int32) (g : Nat → Nat) : am_ent 5 (([Value.ref x0, Value.int x1] : List Value).map (am_cv g)) (([some (Value.ref x0), some (Value.int x1), none, none, none] : List (Option Value)).map (fun o => o.map (am_cv g))) := by
  refine am_ent_of (Nat.le_of_ble_eq_true rfl) (Nat.le_of_ble_eq_true rfl) (fun i v h => ?_)
  have hi : i < 5 := (List.getElem?_eq_some_iff.mp h).1
  match i, hi, h with
  | 0, _, h => cases h; simp [lv_args, am_cv, Value.category]
  | 1, _, h => cases h; simp [lv_args, am_cv, Value.category]
  | 2, _, h => cases h
  | 3, _, h => cases h
  | 4, _, h => cases h
theorem en_ai_6 (x0 : Nat) (x1 : Int32) (g : Nat → Nat) : am_ent 6 (([Value.ref x0, Value.int x1] : List Value).map (am_cv g)) (([some (Value.ref x0), some (Value.int x1), none, none, none, none] : List (Option Value)).map (fun o => o.map (am_cv g))) := by
  refine am_ent_of (Nat.le_of_ble_eq_true rfl) (Nat.le_of_ble_eq_true rfl) (fun i v h => ?_)
  have hi : i < 6 := (List.getElem?_eq_some_iff.mp h).1
  match i, hi, h with
  | 0, _, h => cases h; simp [lv_args, am_cv, Value.category]
  | 1, _, h => cases h; simp [lv_args, am_cv, Value.category]
  | 2, _, h => cases h
  | 3, _, h => cases h
  | 4, _, h => cases h
  | 5, _, h => cases h
theorem en_ai_7 (x0 : Nat) (x1 : Int32) (g : Nat → Nat) : am_ent 7 (([Value.ref x0, Value.int x1] : List Value).map (am_cv g)) (([some (Value.ref x0), some (Value.int x1), none, none, none, none, none] : List (Option Value)).map (fun o => o.map (am_cv g))) := by
  refine am_ent_of (Nat.le_of_ble_eq_true rfl) (Nat.le_of_ble_eq_true rfl) (fun i v h => ?_)
  have hi : i < 7 := (List.getElem?_eq_some_iff.mp h).1
  match i, hi, h with
  | 0, _, h => cases h; simp [lv_args, am_cv, Value.category]
  | 1, _, h => cases h; simp [lv_args, am_cv, Value.category]
  | 2, _, h => cases h
  | 3, _, h => cases h
  | 4, _, h => cases h
  | 5, _, h => cases h
  | 6, _, h => cases h
theorem en_aii_3 (x0 : Nat) (x1 : Int32) (x2 : Int32) (g : Nat → Nat) : am_ent 3 (([Value.ref x0, Value.int x1, Value.int x2] : List Value).map (am_cv g)) (([some (Value.ref x0), some (Value.int x1), some (Value.int x2)] : List (Option Value)).map (fun o => o.map (am_cv g))) := by
  refine am_ent_of (Nat.le_of_ble_eq_true rfl) (Nat.le_of_ble_eq_true rfl) (fun i v h => ?_)
  have hi : i < 3 := (List.getElem?_eq_some_iff.mp h).1
  match i, hi, h with
  | 0, _, h => cases h; simp [lv_args, am_cv, Value.category]
  | 1, _, h => cases h; simp [lv_args, am_cv, Value.category]
  | 2, _, h => cases h; simp [lv_args, am_cv, Value.category]
theorem en_aii_4 (x0 : Nat) (x1 : Int32) (x2 : Int32) (g : Nat → Nat) : am_ent 4 (([Value.ref x0, Value.int x1, Value.int x2] : List Value).map (am_cv g)) (([some (Value.ref x0), some (Value.int x1), some (Value.int x2), none] : List (Option Value)).map (fun o => o.map (am_cv g))) := by
  refine am_ent_of (Nat.le_of_ble_eq_true rfl) (Nat.le_of_ble_eq_true rfl) (fun i v h => ?_)
  have hi : i < 4 := (List.getElem?_eq_some_iff.mp h).1
  match i, hi, h with
  | 0, _, h => cases h; simp [lv_args, am_cv, Value.category]
  | 1, _, h => cases h; simp [lv_args, am_cv, Value.category]
  | 2, _, h => cases h; simp [lv_args, am_cv, Value.category]
  | 3, _, h => cases h
theorem en_aii_5 (x0 : Nat) (x1 : Int32) (x2 : Int32) (g : Nat → Nat) : am_ent 5 (([Value.ref x0, Value.int x1, Value.int x2] : List Value).map (am_cv g)) (([some (Value.ref x0), some (Value.int x1), some (Value.int x2), none, none] : List (Option Value)).map (fun o => o.map (am_cv g))) := by
  refine am_ent_of (Nat.le_of_ble_eq_true rfl) (Nat.le_of_ble_eq_true rfl) (fun i v h => ?_)
  have hi : i < 5 := (List.getElem?_eq_some_iff.mp h).1
  match i, hi, h with
  | 0, _, h => cases h; simp [lv_args, am_cv, Value.category]
  | 1, _, h => cases h; simp [lv_args, am_cv, Value.category]
  | 2, _, h => cases h; simp [lv_args, am_cv, Value.category]
  | 3, _, h => cases h
  | 4, _, h => cases h
theorem en_aii_6 (x0 : Nat) (x1 : Int32) (x2 : Int32) (g : Nat → Nat) : am_ent 6 (([Value.ref x0, Value.int x1, Value.int x2] : List Value).map (am_cv g)) (([some (Value.ref x0), some (Value.int x1), some (Value.int x2), none, none, none] : List (Option Value)).map (fun o => o.map (am_cv g))) := by
  refine am_ent_of (Nat.le_of_ble_eq_true rfl) (Nat.le_of_ble_eq_true rfl) (fun i v h => ?_)
  have hi : i < 6 := (List.getElem?_eq_some_iff.mp h).1
  match i, hi, h with
  | 0, _, h => cases h; simp [lv_args, am_cv, Value.category]
  | 1, _, h => cases h; simp [lv_args, am_cv, Value.category]
  | 2, _, h => cases h; simp [lv_args, am_cv, Value.category]
  | 3, _, h => cases h
  | 4, _, h => cases h
  | 5, _, h => cases h
theorem en_aii_8 (x0 : Nat) (x1 : Int32) (x2 : Int32) (g : Nat → Nat) : am_ent 8 (([Value.ref x0, Value.int x1, Value.int x2] : List Value).map (am_cv g)) (([some (Value.ref x0), some (Value.int x1), some (Value.int x2), none, none, none, none, none] : List (Option Value)).map (fun o => o.map (am_cv g))) := by
  refine am_ent_of (Nat.le_of_ble_eq_true rfl) (Nat.le_of_ble_eq_true rfl) (fun i v h => ?_)
  have hi : i < 8 := (List.getElem?_eq_some_iff.mp h).1
  match i, hi, h with
  | 0, _, h => cases h; simp [lv_args, am_cv, Value.category]
  | 1, _, h => cases h; simp [lv_args, am_cv, Value.category]
  | 2, _, h => cases h; simp [lv_args, am_cv, Value.category]
  | 3, _, h => cases h
  | 4, _, h => cases h
  | 5, _, h => cases h
  | 6, _, h => cases h
  | 7, _, h => cases h
theorem en_aii_9 (x0 : Nat) (x1 : Int32) (x2 : Int32) (g : Nat → Nat) : am_ent 9 (([Value.ref x0, Value.int x1, Value.int x2] : List Value).map (am_cv g)) (([some (Value.ref x0), some (Value.int x1), some (Value.int x2), none, none, none, none, none, none] : List (Option Value)).map (fun o => o.map (am_cv g))) := by
  refine am_ent_of (Nat.le_of_ble_eq_true rfl) (Nat.le_of_ble_eq_true rfl) (fun i v h => ?_)
  have hi : i < 9 := (List.getElem?_eq_some_iff.mp h).1
  match i, hi, h with
  | 0, _, h => cases h; simp [lv_args, am_cv, Value.category]
  | 1, _, h => cases h; simp [lv_args, am_cv, Value.category]
  | 2, _, h => cases h; simp [lv_args, am_cv, Value.category]
  | 3, _, h => cases h
  | 4, _, h => cases h
  | 5, _, h => cases h
  | 6, _, h => cases h
  | 7, _, h => cases h
  | 8, _, h => cases h
theorem en_aii_10 (x0 : Nat) (x1 : Int32) (x2 : Int32) (g : Nat → Nat) : am_ent 10 (([Value.ref x0, Value.int x1, Value.int x2] : List Value).map (am_cv g)) (([some (Value.ref x0), some (Value.int x1), some (Value.int x2), none, none, none, none, none, none, none] : List (Option Value)).map (fun o => o.map (am_cv g))) := by
  refine am_ent_of (Nat.le_of_ble_eq_true rfl) (Nat.le_of_ble_eq_true rfl) (fun i v h => ?_)
  have hi : i < 10 := (List.getElem?_eq_some_iff.mp h).1
  match i, hi, h with
  | 0, _, h => cases h; simp [lv_args, am_cv, Value.category]
  | 1, _, h => cases h; simp [lv_args, am_cv, Value.category]
  | 2, _, h => cases h; simp [lv_args, am_cv, Value.category]
  | 3, _, h => cases h
  | 4, _, h => cases h
  | 5, _, h => cases h
  | 6, _, h => cases h
  | 7, _, h => cases h
  | 8, _, h => cases h
  | 9, _, h => cases h
theorem en_aiia_5 (x0 : Nat) (x1 : Int32) (x2 : Int32) (x3 : Nat) (g : Nat → Nat) : am_ent 5 (([Value.ref x0, Value.int x1, Value.int x2, Value.ref x3] : List Value).map (am_cv g)) (([some (Value.ref x0), some (Value.int x1), some (Value.int x2), some (Value.ref x3), none] : List (Option Value)).map (fun o => o.map (am_cv g))) := by
  refine am_ent_of (Nat.le_of_ble_eq_true rfl) (Nat.le_of_ble_eq_true rfl) (fun i v h => ?_)
  have hi : i < 5 := (List.getElem?_eq_some_iff.mp h).1
  match i, hi, h with
  | 0, _, h => cases h; simp [lv_args, am_cv, Value.category]
  | 1, _, h => cases h; simp [lv_args, am_cv, Value.category]
  | 2, _, h => cases h; simp [lv_args, am_cv, Value.category]
  | 3, _, h => cases h; simp [lv_args, am_cv, Value.category]
  | 4, _, h => cases h
theorem en_aiii_4 (x0 : Nat) (x1 : Int32) (x2 : Int32) (x3 : Int32) (g : Nat → Nat) : am_ent 4 (([Value.ref x0, Value.int x1, Value.int x2, Value.int x3] : List Value).map (am_cv g)) (([some (Value.ref x0), some (Value.int x1), some (Value.int x2), some (Value.int x3)] : List (Option Value)).map (fun o => o.map (am_cv g))) := by
  refine am_ent_of (Nat.le_of_ble_eq_true rfl) (Nat.le_of_ble_eq_true rfl) (fun i v h => ?_)
  have hi : i < 4 := (List.getElem?_eq_some_iff.mp h).1
  match i, hi, h with
  | 0, _, h => cases h; simp [lv_args, am_cv, Value.category]
  | 1, _, h => cases h; simp [lv_args, am_cv, Value.category]
  | 2, _, h => cases h; simp [lv_args, am_cv, Value.category]
  | 3, _, h => cases h; simp [lv_args, am_cv, Value.category]
theorem en_aiii_6 (x0 : Nat) (x1 : Int32) (x2 : Int32) (x3 : Int32) (g : Nat → Nat) : am_ent 6 (([Value.ref x0, Value.int x1, Value.int x2, Value.int x3] : List Value).map (am_cv g)) (([some (Value.ref x0), some (Value.int x1), some (Value.int x2), some (Value.int x3), none, none] : List (Option Value)).map (fun o => o.map (am_cv g))) := by
  refine am_ent_of (Nat.le_of_ble_eq_true rfl) (Nat.le_of_ble_eq_true rfl) (fun i v h => ?_)
  have hi : i < 6 := (List.getElem?_eq_some_iff.mp h).1
  match i, hi, h with
  | 0, _, h => cases h; simp [lv_args, am_cv, Value.category]
  | 1, _, h => cases h; simp [lv_args, am_cv, Value.category]
  | 2, _, h => cases h; simp [lv_args, am_cv, Value.category]
  | 3, _, h => cases h; simp [lv_args, am_cv, Value.category]
  | 4, _, h => cases h
  | 5, _, h => cases h
theorem en_aiiii_5 (x0 : Nat) (x1 : Int32) (x2 : Int32) (x3 : Int32) (x4 : Int32) (g : Nat → Nat) : am_ent 5 (([Value.ref x0, Value.int x1, Value.int x2, Value.int x3, Value.int x4] : List Value).map (am_cv g)) (([some (Value.ref x0), some (Value.int x1), some (Value.int x2), some (Value.int x3), some (Value.int x4)] : List (Option Value)).map (fun o => o.map (am_cv g))) := by
  refine am_ent_of (Nat.le_of_ble_eq_true rfl) (Nat.le_of_ble_eq_true rfl) (fun i v h => ?_)
  have hi : i < 5 := (List.getElem?_eq_some_iff.mp h).1
  match i, hi, h with
  | 0, _, h => cases h; simp [lv_args, am_cv, Value.category]
  | 1, _, h => cases h; simp [lv_args, am_cv, Value.category]
  | 2, _, h => cases h; simp [lv_args, am_cv, Value.category]
  | 3, _, h => cases h; simp [lv_args, am_cv, Value.category]
  | 4, _, h => cases h; simp [lv_args, am_cv, Value.category]
theorem en_aiiii_7 (x0 : Nat) (x1 : Int32) (x2 : Int32) (x3 : Int32) (x4 : Int32) (g : Nat → Nat) : am_ent 7 (([Value.ref x0, Value.int x1, Value.int x2, Value.int x3, Value.int x4] : List Value).map (am_cv g)) (([some (Value.ref x0), some (Value.int x1), some (Value.int x2), some (Value.int x3), some (Value.int x4), none, none] : List (Option Value)).map (fun o => o.map (am_cv g))) := by
  refine am_ent_of (Nat.le_of_ble_eq_true rfl) (Nat.le_of_ble_eq_true rfl) (fun i v h => ?_)
  have hi : i < 7 := (List.getElem?_eq_some_iff.mp h).1
  match i, hi, h with
  | 0, _, h => cases h; simp [lv_args, am_cv, Value.category]
  | 1, _, h => cases h; simp [lv_args, am_cv, Value.category]
  | 2, _, h => cases h; simp [lv_args, am_cv, Value.category]
  | 3, _, h => cases h; simp [lv_args, am_cv, Value.category]
  | 4, _, h => cases h; simp [lv_args, am_cv, Value.category]
  | 5, _, h => cases h
  | 6, _, h => cases h
theorem en_i_1 (x0 : Int32) (g : Nat → Nat) : am_ent 1 (([Value.int x0] : List Value).map (am_cv g)) (([some (Value.int x0)] : List (Option Value)).map (fun o => o.map (am_cv g))) := by
  refine am_ent_of (Nat.le_of_ble_eq_true rfl) (Nat.le_of_ble_eq_true rfl) (fun i v h => ?_)
  have hi : i < 1 := (List.getElem?_eq_some_iff.mp h).1
  match i, hi, h with
  | 0, _, h => cases h; simp [lv_args, am_cv, Value.category]
theorem en_ia_2 (x0 : Int32) (x1 : Nat) (g : Nat → Nat) : am_ent 2 (([Value.int x0, Value.ref x1] : List Value).map (am_cv g)) (([some (Value.int x0), some (Value.ref x1)] : List (Option Value)).map (fun o => o.map (am_cv g))) := by
  refine am_ent_of (Nat.le_of_ble_eq_true rfl) (Nat.le_of_ble_eq_true rfl) (fun i v h => ?_)
  have hi : i < 2 := (List.getElem?_eq_some_iff.mp h).1
  match i, hi, h with
  | 0, _, h => cases h; simp [lv_args, am_cv, Value.category]
  | 1, _, h => cases h; simp [lv_args, am_cv, Value.category]
theorem en_ii_2 (x0 : Int32) (x1 : Int32) (g : Nat → Nat) : am_ent 2 (([Value.int x0, Value.int x1] : List Value).map (am_cv g)) (([some (Value.int x0), some (Value.int x1)] : List (Option Value)).map (fun o => o.map (am_cv g))) := by
  refine am_ent_of (Nat.le_of_ble_eq_true rfl) (Nat.le_of_ble_eq_true rfl) (fun i v h => ?_)
  have hi : i < 2 := (List.getElem?_eq_some_iff.mp h).1
  match i, hi, h with
  | 0, _, h => cases h; simp [lv_args, am_cv, Value.category]
  | 1, _, h => cases h; simp [lv_args, am_cv, Value.category]
theorem en_iia_3 (x0 : Int32) (x1 : Int32) (x2 : Nat) (g : Nat → Nat) : am_ent 3 (([Value.int x0, Value.int x1, Value.ref x2] : List Value).map (am_cv g)) (([some (Value.int x0), some (Value.int x1), some (Value.ref x2)] : List (Option Value)).map (fun o => o.map (am_cv g))) := by
  refine am_ent_of (Nat.le_of_ble_eq_true rfl) (Nat.le_of_ble_eq_true rfl) (fun i v h => ?_)
  have hi : i < 3 := (List.getElem?_eq_some_iff.mp h).1
  match i, hi, h with
  | 0, _, h => cases h; simp [lv_args, am_cv, Value.category]
  | 1, _, h => cases h; simp [lv_args, am_cv, Value.category]
  | 2, _, h => cases h; simp [lv_args, am_cv, Value.category]
theorem en_iii_3 (x0 : Int32) (x1 : Int32) (x2 : Int32) (g : Nat → Nat) : am_ent 3 (([Value.int x0, Value.int x1, Value.int x2] : List Value).map (am_cv g)) (([some (Value.int x0), some (Value.int x1), some (Value.int x2)] : List (Option Value)).map (fun o => o.map (am_cv g))) := by
  refine am_ent_of (Nat.le_of_ble_eq_true rfl) (Nat.le_of_ble_eq_true rfl) (fun i v h => ?_)
  have hi : i < 3 := (List.getElem?_eq_some_iff.mp h).1
  match i, hi, h with
  | 0, _, h => cases h; simp [lv_args, am_cv, Value.category]
  | 1, _, h => cases h; simp [lv_args, am_cv, Value.category]
  | 2, _, h => cases h; simp [lv_args, am_cv, Value.category]
theorem en_ji_3 (x0 : Int64) (x1 : Int32) (g : Nat → Nat) : am_ent 3 (([Value.long x0, Value.int x1] : List Value).map (am_cv g)) (([some (Value.long x0), none, some (Value.int x1)] : List (Option Value)).map (fun o => o.map (am_cv g))) := by
  refine am_ent_of (Nat.le_of_ble_eq_true rfl) (Nat.le_of_ble_eq_true rfl) (fun i v h => ?_)
  have hi : i < 3 := (List.getElem?_eq_some_iff.mp h).1
  match i, hi, h with
  | 0, _, h => cases h; simp [lv_args, am_cv, Value.category]
  | 1, _, h => cases h
  | 2, _, h => cases h; simp [lv_args, am_cv, Value.category]
