/-! The good words of the tables (those that a callee may be given), and each field, link and method by its place in them. -/
def am_g : List Cond := lw_tbl.filter goodWord
theorem am_ga {w : Cond} (h : w ∈ am_g) : w ∈ lw_tbl ∧ goodWord w = true := List.mem_filter.mp h
theorem am_gi {w : Cond} (i : Nat) (h : tables_1[i]? = some w) (hg : goodWord w = true) : w ∈ am_g := List.mem_filter.mpr ⟨List.mem_append_right _ (List.mem_of_getElem? h), hg⟩
theorem am_gs {y : MethodName} {n : Nat} (i : Nat) (h : lw_privs[i]? = some (y, n)) : Cond.selects y.cls y y ∈ am_g := List.mem_filter.mpr ⟨List.mem_append_left _ (List.mem_map.mpr ⟨(y, n), List.mem_of_getElem? h, rfl⟩), rfl⟩
theorem am_gl {ws : List Cond} (ps : List Nat) (hp : ws = ps.filterMap (fun i => tables_1[i]?)) (h : ws.all goodWord = true) : ∀ w ∈ ws, w ∈ am_g := by
  intro w hw
  have h1 := List.all_eq_true.mp h w hw
  rw [hp] at hw
  obtain ⟨i, -, hi⟩ := List.mem_filterMap.mp hw
  exact am_gi i hi h1
theorem inl0 : ∀ w ∈ u_ws RX0 TX0 1, w ∈ am_g := am_gl [237] (by decide +kernel) (by decide +kernel)
theorem inl1 : ∀ w ∈ u_ws RX1 TX1 2, w ∈ am_g := am_gl [175, 177] (by decide +kernel) (by decide +kernel)
theorem inl2 : ∀ w ∈ u_ws RX2 TX2 6, w ∈ am_g := am_gl [61, 63, 65, 67, 69, 71] (by decide +kernel) (by decide +kernel)
theorem inl3 : ∀ w ∈ u_ws RX3 TX3 14, w ∈ am_g := am_gl [200, 202, 204, 206, 208, 210, 212, 214, 216, 218, 220, 222, 224, 226] (by decide +kernel) (by decide +kernel)
theorem inl4 : ∀ w ∈ u_ws RX4 TX4 3, w ∈ am_g := am_gl [250, 252, 254] (by decide +kernel) (by decide +kernel)
theorem inl5 : ∀ w ∈ u_ws RX5 TX5 4, w ∈ am_g := am_gl [45, 47, 49, 51] (by decide +kernel) (by decide +kernel)
theorem inl6 : ∀ w ∈ u_ws RX6 TX6 15, w ∈ am_g := am_gl [132, 134, 136, 138, 140, 142, 144, 146, 148, 150, 152, 154, 156, 158, 160] (by decide +kernel) (by decide +kernel)
theorem inl7 : ∀ w ∈ u_ws RX7 TX7 12, w ∈ am_g := am_gl [269, 271, 273, 275, 277, 279, 281, 283, 285, 287, 289, 291] (by decide +kernel) (by decide +kernel)
theorem inl8 : ∀ w ∈ u_ws RX8 TX8 21, w ∈ am_g := am_gl [750, 752, 754, 756, 758, 760, 762, 764, 766, 768, 770, 772, 774, 776, 778, 780, 782, 784, 786, 788, 790] (by decide +kernel) (by decide +kernel)
def am_NF : List (String × Nat × String × String × String × String) := [(RX2, 55, RX5, "kinds", "[I", "HungPictures"), (RX2, 59, RX5, "places", "[I", "HungPictures"), (RX2, 62, RX5, "values", "[I", "HungPictures"), (RX2, 52, RX5, "size", "I", "HungPictures"), (RX3, 60, RX6, "width", "I", "HungPictures"), (RX2, 93, RX6, "width", "I", "HungPictures"), (RX7, 208, RX6, "width", "I", "HungPictures"), (RX2, 96, RX6, "line", "I", "HungPictures"), (RX7, 120, RX6, "line", "I", "HungPictures"), (RX0, 15, RX6, "gap", "I", "HungPictures"), (RX3, 88, RX6, "gap", "I", "HungPictures"), (RX2, 99, RX6, "gap", "I", "HungPictures"), (RX7, 211, RX6, "gap", "I", "HungPictures"), (RX0, 21, RX6, "pictures", "I", "HungPictures"), (RX4, 22, RX6, "pictures", "I", "HungPictures"), (RX3, 49, RX6, "pictures", "I", "HungPictures"), (RX2, 71, RX6, "pictures", "I", "HungPictures"), (RX7, 214, RX6, "pictures", "I", "HungPictures"), (RX2, 77, RX6, "doors", "I", "HungPictures"), (RX7, 217, RX6, "doors", "I", "HungPictures"), (RX7, 99, RX6, "holes", "I", "HungPictures"), (RX2, 83, RX6, "holes", "I", "HungPictures"), (RX0, 36, RX6, "wide", "[I", "HungPictures"), (RX3, 67, RX6, "wide", "[I", "HungPictures"), (RX4, 40, RX6, "wide", "[I", "HungPictures"), (RX7, 134, RX6, "wide", "[I", "HungPictures"), (RX4, 43, RX6, "tall", "[I", "HungPictures"), (RX7, 137, RX6, "tall", "[I", "HungPictures"), (RX7, 140, RX6, "drop", "[I", "HungPictures"), (RX0, 53, RX6, "weight", "[I", "HungPictures"), (RX4, 46, RX6, "weight", "[I", "HungPictures"), (RX7, 143, RX6, "weight", "[I", "HungPictures"), (RX7, 106, RX6, "at", "[I", "HungPictures"), (RX7, 158, RX6, "from", "[I", "HungPictures"), (RX7, 161, RX6, "to", "[I", "HungPictures"), (RX7, 149, RX6, "holeX", "[I", "HungPictures"), (RX7, 152, RX6, "holeY", "[I", "HungPictures"), (RX7, 130, RX1, "known", "I", "HungPictures"), (RX7, 193, RX4, "size", "I", "HungPictures")]
def am_NM : List (String × Nat × MethodName × String) := [(RX7, 19, yX2_init, "HungPictures"), (RX2, 11, yX5_init, "HungPictures"), (RX7, 26, yX6_init, "HungPictures"), (RX7, 36, yX1_init, "HungPictures"), (RX1, 17, yX6_init, "HungPictures"), (RX7, 43, yX3_init, "HungPictures"), (RX7, 54, yX0_init, "HungPictures"), (RX7, 61, yX4_init, "HungPictures"), (RX7, 74, yX2_readInto, "HungPictures"), (RX2, 18, yX5_cut, "HungPictures"), (RX2, 30, yX6_makeBare, "HungPictures"), (RX2, 102, yX6_addPicture, "HungPictures"), (RX2, 106, yX6_addDoor, "HungPictures"), (RX2, 110, yX6_findHole, "HungPictures"), (RX2, 114, yX6_addHole, "HungPictures"), (RX7, 220, yX1_add, "HungPictures"), (RX1, 25, yX6_copyFrom, "HungPictures"), (RX7, 81, yX6_copyFrom, "HungPictures"), (RX7, 85, yX6_hasPicture, "HungPictures"), (RX7, 89, yX6_isUp, "HungPictures"), (RX7, 92, yX6_isFreeFor, "HungPictures"), (RX7, 96, yX6_hasHoleFor, "HungPictures"), (RX7, 102, yX6_putUp, "HungPictures"), (RX7, 109, yX6_hasHole, "HungPictures"), (RX7, 112, yX6_findPictureOn, "HungPictures"), (RX7, 116, yX6_removeHole, "HungPictures"), (RX7, 123, yX6_takeAllDown, "HungPictures"), (RX7, 126, yX1_giveLatestTo, "HungPictures"), (RX7, 146, yX6_hookY, "HungPictures"), (RX7, 155, yX6_hasDoor, "HungPictures"), (RX7, 164, yX6_momentNow, "HungPictures"), (RX7, 173, yX3_search, "HungPictures"), (RX3, 77, yX6_hasPicture, "HungPictures"), (RX3, 81, yX6_fits, "HungPictures"), (RX3, 85, yX6_hasHoleFor, "HungPictures"), (RX3, 70, yX6_momentAt, "HungPictures"), (RX7, 176, yX3_answer, "HungPictures"), (RX7, 222, yX6_momentAt, "HungPictures"), (RX7, 189, yX0_largestSet, "HungPictures"), (RX0, 32, yX6_firstFit, "HungPictures"), (RX7, 196, yX4_add, "HungPictures"), (RX7, 199, yX4_countMatches, "HungPictures"), (RX4, 35, yX6_hasPicture, "HungPictures"), (RX4, 49, yX6_hookY, "HungPictures"), (RX7, 202, yX4_leastMatch, "HungPictures"), (RX7, 205, yX6_countUp, "HungPictures")]
def am_NW : List Cond := am_NF.map (fun q => Cond.fieldLinkNest q.1 q.2.1 q.2.2.1 q.2.2.2.1 q.2.2.2.2.1 q.2.2.2.2.2) ++ am_NM.map (fun q => Cond.methodLinkNest q.1 q.2.1 q.2.2.1 q.2.2.2)
theorem am_NW_on : ∀ w ∈ am_NW, w.onTables = true := by
  intro w h
  rcases List.mem_append.mp h with h | h
  · obtain ⟨q, -, rfl⟩ := List.mem_map.mp h
    rfl
  · obtain ⟨q, -, rfl⟩ := List.mem_map.mp h
    rfl
theorem am_NW_warm {s U : State} : ∀ w ∈ am_NW, s.WarmedH U.vm → va_Nw w s → va_Nw w U := by
  intro w h hW hz
  rcases List.mem_append.mp h with h | h
  · obtain ⟨q, -, rfl⟩ := List.mem_map.mp h
    exact va_Nw.warmF hW hz
  · obtain ⟨q, -, rfl⟩ := List.mem_map.mp h
    exact va_Nw.warmM hW hz
theorem am_nf {a : String} {i : Nat} {r n e t : String} (j : Nat) (h : am_NF[j]? = some (a, i, r, n, e, t)) : Cond.fieldLinkNest a i r n e t ∈ am_NW := List.mem_append_left _ (List.mem_map.mpr ⟨_, List.mem_of_getElem? h, rfl⟩)
theorem am_nm1 {a : String} {i : Nat} {y : MethodName} {t : String} (j : Nat) (h : am_NM[j]? = some (a, i, y, t)) : Cond.methodLinkNest a i y t ∈ am_NW := List.mem_append_right _ (List.mem_map.mpr ⟨_, List.mem_of_getElem? h, rfl⟩)
theorem am_tl {ws : List Cond} (ps : List Nat) (hp : ws = ps.filterMap (fun i => tables_1[i]?)) : ∀ w ∈ ws, w ∈ lw_tbl := by
  intro w hw
  rw [hp] at hw
  obtain ⟨i, -, hi⟩ := List.mem_filterMap.mp hw
  exact List.mem_append_right _ (List.mem_of_getElem? hi)
theorem am_NW_in : ∀ w ∈ am_NW, w ∈ lw_tbl := fun w h => (List.mem_append.mp h).elim (am_tl [38, 40, 42, 44, 85, 86, 87, 89, 90, 91, 93, 94, 95, 96, 98, 99, 100, 101, 103, 104, 106, 107, 109, 110, 111, 112, 114, 115, 117, 119, 120, 121, 123, 125, 127, 129, 131, 174, 249] (by decide +kernel) w) (am_tl [27, 33, 76, 165, 171, 182, 232, 242, 307, 311, 400, 421, 429, 437, 441, 453, 461, 468, 474, 478, 483, 495, 508, 522, 526, 531, 539, 547, 556, 565, 573, 588, 596, 597, 598, 599, 616, 640, 645, 653, 674, 686, 697, 699, 700, 708] (by decide +kernel) w)
def am_C (c : Nat) : String := match c with
  | 0 => RX0
  | 1 => RX1
  | 2 => RX2
  | 3 => RX3
  | 4 => RX4
  | 5 => RX5
  | 6 => RX6
  | 7 => RX7
  | _ => RX8
def am_T (c : Nat) : u_T := match c with
  | 0 => TX0
  | 1 => TX1
  | 2 => TX2
  | 3 => TX3
  | 4 => TX4
  | 5 => TX5
  | 6 => TX6
  | 7 => TX7
  | _ => TX8
def am_ty (c : Nat) : Nat → FieldType := match c with
  | 0 => tyX0
  | 1 => tyX1
  | 2 => tyX2
  | 3 => tyX3
  | 4 => tyX4
  | 5 => tyX5
  | 6 => tyX6
  | 7 => tyX7
  | _ => tyX8
def am_N (c : Nat) : Nat := match c with
  | 0 => 1
  | 1 => 2
  | 2 => 6
  | 3 => 14
  | 4 => 3
  | 5 => 4
  | 6 => 15
  | 7 => 12
  | _ => 21
def am_rf (c k : Nat) : Bool := match am_ty c k with
  | .object _ => true
  | .array _ => true
  | _ => false
abbrev am_M : Type := MethodName × ByteArray × Nat × Option FieldType
/-- the field k of class c, by an entry of own's pool; whether it holds a reference -/
def am_fl (own : String) (idx c k : Nat) : Prop := (Cond.fieldLink own idx (am_T c k).1 (am_T c k).2.1 (am_T c k).2.2.1 ∈ am_g) ∨ ∃ host, Cond.fieldLinkNest own idx (am_T c k).1 (am_T c k).2.1 (am_T c k).2.2.1 host ∈ am_NW
def am_F (own : String) (idx c k : Nat) (b : Bool) : Prop := c < 9 ∧ k < am_N c ∧ am_rf c k = b ∧ am_fl own idx c k
def am_lk (own : String) (idx : Nat) (y : MethodName) : Prop := (Cond.methodLink own idx y ∈ am_g) ∨ ∃ host, Cond.methodLinkNest own idx y host ∈ am_NW
/-- what is known of every method: its code's word, its class, its parameters -/
def am_m (μ : am_M) (n : Nat) : Prop := plainName μ.1.cls = true ∧ Cond.code μ.1 μ.2.1 μ.2.2.1 μ.2.2.2 ∈ am_g ∧ Cond.initialized μ.1.cls ∈ am_g ∧ (μ.1.cls ≠ "java/lang/invoke/MethodHandle" ∧ μ.1.cls ≠ "java/lang/invoke/VarHandle" ∧ (parseMethodDescriptor μ.1.desc).map (fun d => d.parameters.length) = some n) ∧ μ.2.2.1 ≤ 40
def am_mV (μ : am_M) (n c : Nat) : Prop := am_m μ n ∧ c < 9 ∧ μ.1.cls = am_C c ∧ Cond.instanceMethod μ.1 ∈ am_g ∧ Cond.selects μ.1.cls μ.1 μ.1 ∈ am_g
def am_mS (μ : am_M) (n : Nat) : Prop := am_m μ n ∧ Cond.static μ.1 ∈ am_g
def am_mI (μ : am_M) (n : Nat) : Prop := am_m μ n ∧ μ.1.name = "<init>" ∧ μ.2.2.2 = none ∧ Cond.instanceMethod μ.1 ∈ am_g
def am_nw (own : String) (idx c : Nat) : Prop := c < 9 ∧ Cond.classLink own idx (am_C c) ∈ am_g ∧ Cond.instantiable (am_C c) (am_N c) ∈ am_g ∧ Cond.initialized (am_C c) ∈ am_g
theorem fl5_11 : am_F RX5 11 5 0 true := ⟨by decide, by decide, by decide +kernel, Or.inl (am_gi 37 (by decide +kernel) rfl)⟩
theorem fl5_15 : am_F RX5 15 5 1 true := ⟨by decide, by decide, by decide +kernel, Or.inl (am_gi 39 (by decide +kernel) rfl)⟩
theorem fl5_18 : am_F RX5 18 5 2 true := ⟨by decide, by decide, by decide +kernel, Or.inl (am_gi 41 (by decide +kernel) rfl)⟩
theorem fl5_21 : am_F RX5 21 5 3 false := ⟨by decide, by decide, by decide +kernel, Or.inl (am_gi 43 (by decide +kernel) rfl)⟩
theorem fl2_12 : am_F RX2 12 2 0 true := ⟨by decide, by decide, by decide +kernel, Or.inl (am_gi 55 (by decide +kernel) rfl)⟩
theorem fl2_22 : am_F RX2 22 2 1 false := ⟨by decide, by decide, by decide +kernel, Or.inl (am_gi 56 (by decide +kernel) rfl)⟩
theorem fl2_38 : am_F RX2 38 2 2 false := ⟨by decide, by decide, by decide +kernel, Or.inl (am_gi 57 (by decide +kernel) rfl)⟩
theorem fl2_49 : am_F RX2 49 2 3 false := ⟨by decide, by decide, by decide +kernel, Or.inl (am_gi 58 (by decide +kernel) rfl)⟩
theorem fl2_65 : am_F RX2 65 2 4 false := ⟨by decide, by decide, by decide +kernel, Or.inl (am_gi 59 (by decide +kernel) rfl)⟩
theorem fl2_26 : am_F RX2 26 2 5 false := ⟨by decide, by decide, by decide +kernel, Or.inl (am_gi 60 (by decide +kernel) rfl)⟩
theorem fl6_42 : am_F RX6 42 6 0 false := ⟨by decide, by decide, by decide +kernel, Or.inl (am_gi 84 (by decide +kernel) rfl)⟩
theorem fl6_46 : am_F RX6 46 6 1 false := ⟨by decide, by decide, by decide +kernel, Or.inl (am_gi 88 (by decide +kernel) rfl)⟩
theorem fl6_49 : am_F RX6 49 6 2 false := ⟨by decide, by decide, by decide +kernel, Or.inl (am_gi 92 (by decide +kernel) rfl)⟩
theorem fl6_52 : am_F RX6 52 6 3 false := ⟨by decide, by decide, by decide +kernel, Or.inl (am_gi 97 (by decide +kernel) rfl)⟩
theorem fl6_55 : am_F RX6 55 6 4 false := ⟨by decide, by decide, by decide +kernel, Or.inl (am_gi 102 (by decide +kernel) rfl)⟩
theorem fl6_58 : am_F RX6 58 6 5 false := ⟨by decide, by decide, by decide +kernel, Or.inl (am_gi 105 (by decide +kernel) rfl)⟩
theorem fl6_9 : am_F RX6 9 6 6 true := ⟨by decide, by decide, by decide +kernel, Or.inl (am_gi 108 (by decide +kernel) rfl)⟩
theorem fl6_15 : am_F RX6 15 6 7 true := ⟨by decide, by decide, by decide +kernel, Or.inl (am_gi 113 (by decide +kernel) rfl)⟩
theorem fl6_18 : am_F RX6 18 6 8 true := ⟨by decide, by decide, by decide +kernel, Or.inl (am_gi 116 (by decide +kernel) rfl)⟩
theorem fl6_21 : am_F RX6 21 6 9 true := ⟨by decide, by decide, by decide +kernel, Or.inl (am_gi 118 (by decide +kernel) rfl)⟩
theorem fl6_24 : am_F RX6 24 6 10 true := ⟨by decide, by decide, by decide +kernel, Or.inl (am_gi 122 (by decide +kernel) rfl)⟩
theorem fl6_27 : am_F RX6 27 6 11 true := ⟨by decide, by decide, by decide +kernel, Or.inl (am_gi 124 (by decide +kernel) rfl)⟩
theorem fl6_30 : am_F RX6 30 6 12 true := ⟨by decide, by decide, by decide +kernel, Or.inl (am_gi 126 (by decide +kernel) rfl)⟩
theorem fl6_33 : am_F RX6 33 6 13 true := ⟨by decide, by decide, by decide +kernel, Or.inl (am_gi 128 (by decide +kernel) rfl)⟩
theorem fl6_36 : am_F RX6 36 6 14 true := ⟨by decide, by decide, by decide +kernel, Or.inl (am_gi 130 (by decide +kernel) rfl)⟩
theorem fl1_11 : am_F RX1 11 1 0 true := ⟨by decide, by decide, by decide +kernel, Or.inl (am_gi 172 (by decide +kernel) rfl)⟩
theorem fl1_18 : am_F RX1 18 1 1 false := ⟨by decide, by decide, by decide +kernel, Or.inl (am_gi 173 (by decide +kernel) rfl)⟩
theorem fl3_9 : am_F RX3 9 3 0 true := ⟨by decide, by decide, by decide +kernel, Or.inl (am_gi 186 (by decide +kernel) rfl)⟩
theorem fl3_15 : am_F RX3 15 3 1 true := ⟨by decide, by decide, by decide +kernel, Or.inl (am_gi 187 (by decide +kernel) rfl)⟩
theorem fl3_18 : am_F RX3 18 3 2 true := ⟨by decide, by decide, by decide +kernel, Or.inl (am_gi 188 (by decide +kernel) rfl)⟩
theorem fl3_22 : am_F RX3 22 3 3 true := ⟨by decide, by decide, by decide +kernel, Or.inl (am_gi 189 (by decide +kernel) rfl)⟩
theorem fl3_89 : am_F RX3 89 3 4 false := ⟨by decide, by decide, by decide +kernel, Or.inl (am_gi 190 (by decide +kernel) rfl)⟩
theorem fl3_92 : am_F RX3 92 3 5 false := ⟨by decide, by decide, by decide +kernel, Or.inl (am_gi 191 (by decide +kernel) rfl)⟩
theorem fl3_46 : am_F RX3 46 3 6 false := ⟨by decide, by decide, by decide +kernel, Or.inl (am_gi 192 (by decide +kernel) rfl)⟩
theorem fl3_54 : am_F RX3 54 3 7 false := ⟨by decide, by decide, by decide +kernel, Or.inl (am_gi 193 (by decide +kernel) rfl)⟩
theorem fl3_57 : am_F RX3 57 3 8 false := ⟨by decide, by decide, by decide +kernel, Or.inl (am_gi 194 (by decide +kernel) rfl)⟩
theorem fl3_25 : am_F RX3 25 3 9 false := ⟨by decide, by decide, by decide +kernel, Or.inl (am_gi 195 (by decide +kernel) rfl)⟩
theorem fl3_29 : am_F RX3 29 3 10 false := ⟨by decide, by decide, by decide +kernel, Or.inl (am_gi 196 (by decide +kernel) rfl)⟩
theorem fl3_33 : am_F RX3 33 3 11 false := ⟨by decide, by decide, by decide +kernel, Or.inl (am_gi 197 (by decide +kernel) rfl)⟩
theorem fl3_36 : am_F RX3 36 3 12 false := ⟨by decide, by decide, by decide +kernel, Or.inl (am_gi 198 (by decide +kernel) rfl)⟩
theorem fl3_39 : am_F RX3 39 3 13 false := ⟨by decide, by decide, by decide +kernel, Or.inl (am_gi 199 (by decide +kernel) rfl)⟩
theorem fl0_11 : am_F RX0 11 0 0 true := ⟨by decide, by decide, by decide +kernel, Or.inl (am_gi 236 (by decide +kernel) rfl)⟩
theorem fl4_9 : am_F RX4 9 4 0 true := ⟨by decide, by decide, by decide +kernel, Or.inl (am_gi 246 (by decide +kernel) rfl)⟩
theorem fl4_15 : am_F RX4 15 4 1 true := ⟨by decide, by decide, by decide +kernel, Or.inl (am_gi 247 (by decide +kernel) rfl)⟩
theorem fl4_18 : am_F RX4 18 4 2 false := ⟨by decide, by decide, by decide +kernel, Or.inl (am_gi 248 (by decide +kernel) rfl)⟩
theorem fl7_9 : am_F RX7 9 7 0 true := ⟨by decide, by decide, by decide +kernel, Or.inl (am_gi 257 (by decide +kernel) rfl)⟩
theorem fl7_13 : am_F RX7 13 7 1 false := ⟨by decide, by decide, by decide +kernel, Or.inl (am_gi 258 (by decide +kernel) rfl)⟩
theorem fl7_20 : am_F RX7 20 7 2 true := ⟨by decide, by decide, by decide +kernel, Or.inl (am_gi 259 (by decide +kernel) rfl)⟩
theorem fl7_27 : am_F RX7 27 7 3 true := ⟨by decide, by decide, by decide +kernel, Or.inl (am_gi 260 (by decide +kernel) rfl)⟩
theorem fl7_31 : am_F RX7 31 7 4 true := ⟨by decide, by decide, by decide +kernel, Or.inl (am_gi 261 (by decide +kernel) rfl)⟩
theorem fl7_37 : am_F RX7 37 7 5 true := ⟨by decide, by decide, by decide +kernel, Or.inl (am_gi 262 (by decide +kernel) rfl)⟩
theorem fl7_44 : am_F RX7 44 7 6 true := ⟨by decide, by decide, by decide +kernel, Or.inl (am_gi 263 (by decide +kernel) rfl)⟩
theorem fl7_48 : am_F RX7 48 7 7 false := ⟨by decide, by decide, by decide +kernel, Or.inl (am_gi 264 (by decide +kernel) rfl)⟩
theorem fl7_55 : am_F RX7 55 7 8 true := ⟨by decide, by decide, by decide +kernel, Or.inl (am_gi 265 (by decide +kernel) rfl)⟩
theorem fl7_62 : am_F RX7 62 7 9 true := ⟨by decide, by decide, by decide +kernel, Or.inl (am_gi 266 (by decide +kernel) rfl)⟩
theorem fl7_66 : am_F RX7 66 7 10 true := ⟨by decide, by decide, by decide +kernel, Or.inl (am_gi 267 (by decide +kernel) rfl)⟩
theorem fl7_70 : am_F RX7 70 7 11 true := ⟨by decide, by decide, by decide +kernel, Or.inl (am_gi 268 (by decide +kernel) rfl)⟩
theorem fl8_7 : am_F RX8 7 8 0 true := ⟨by decide, by decide, by decide +kernel, Or.inl (am_gi 729 (by decide +kernel) rfl)⟩
theorem fl8_13 : am_F RX8 13 8 1 true := ⟨by decide, by decide, by decide +kernel, Or.inl (am_gi 730 (by decide +kernel) rfl)⟩
theorem fl8_16 : am_F RX8 16 8 2 true := ⟨by decide, by decide, by decide +kernel, Or.inl (am_gi 731 (by decide +kernel) rfl)⟩
theorem fl8_108 : am_F RX8 108 8 3 false := ⟨by decide, by decide, by decide +kernel, Or.inl (am_gi 732 (by decide +kernel) rfl)⟩
theorem fl8_19 : am_F RX8 19 8 4 true := ⟨by decide, by decide, by decide +kernel, Or.inl (am_gi 733 (by decide +kernel) rfl)⟩
theorem fl8_22 : am_F RX8 22 8 5 true := ⟨by decide, by decide, by decide +kernel, Or.inl (am_gi 734 (by decide +kernel) rfl)⟩
theorem fl8_189 : am_F RX8 189 8 6 false := ⟨by decide, by decide, by decide +kernel, Or.inl (am_gi 735 (by decide +kernel) rfl)⟩
theorem fl8_26 : am_F RX8 26 8 7 true := ⟨by decide, by decide, by decide +kernel, Or.inl (am_gi 736 (by decide +kernel) rfl)⟩
theorem fl8_29 : am_F RX8 29 8 8 true := ⟨by decide, by decide, by decide +kernel, Or.inl (am_gi 737 (by decide +kernel) rfl)⟩
theorem fl8_32 : am_F RX8 32 8 9 true := ⟨by decide, by decide, by decide +kernel, Or.inl (am_gi 738 (by decide +kernel) rfl)⟩
theorem fl8_61 : am_F RX8 61 8 10 false := ⟨by decide, by decide, by decide +kernel, Or.inl (am_gi 739 (by decide +kernel) rfl)⟩
theorem fl8_57 : am_F RX8 57 8 11 false := ⟨by decide, by decide, by decide +kernel, Or.inl (am_gi 740 (by decide +kernel) rfl)⟩
theorem fl8_64 : am_F RX8 64 8 12 false := ⟨by decide, by decide, by decide +kernel, Or.inl (am_gi 741 (by decide +kernel) rfl)⟩
theorem fl8_78 : am_F RX8 78 8 13 false := ⟨by decide, by decide, by decide +kernel, Or.inl (am_gi 742 (by decide +kernel) rfl)⟩
theorem fl8_35 : am_F RX8 35 8 14 true := ⟨by decide, by decide, by decide +kernel, Or.inl (am_gi 743 (by decide +kernel) rfl)⟩
theorem fl8_38 : am_F RX8 38 8 15 true := ⟨by decide, by decide, by decide +kernel, Or.inl (am_gi 744 (by decide +kernel) rfl)⟩
theorem fl8_41 : am_F RX8 41 8 16 true := ⟨by decide, by decide, by decide +kernel, Or.inl (am_gi 745 (by decide +kernel) rfl)⟩
theorem fl8_164 : am_F RX8 164 8 17 false := ⟨by decide, by decide, by decide +kernel, Or.inl (am_gi 746 (by decide +kernel) rfl)⟩
theorem fl8_44 : am_F RX8 44 8 18 true := ⟨by decide, by decide, by decide +kernel, Or.inl (am_gi 747 (by decide +kernel) rfl)⟩
theorem fl8_47 : am_F RX8 47 8 19 true := ⟨by decide, by decide, by decide +kernel, Or.inl (am_gi 748 (by decide +kernel) rfl)⟩
theorem fl8_50 : am_F RX8 50 8 20 true := ⟨by decide, by decide, by decide +kernel, Or.inl (am_gi 749 (by decide +kernel) rfl)⟩
theorem fl2_55 : am_F RX2 55 5 0 true := ⟨by decide, by decide, by decide +kernel, Or.inr ⟨"HungPictures", am_nf 0 rfl⟩⟩
theorem fl2_59 : am_F RX2 59 5 1 true := ⟨by decide, by decide, by decide +kernel, Or.inr ⟨"HungPictures", am_nf 1 rfl⟩⟩
theorem fl2_62 : am_F RX2 62 5 2 true := ⟨by decide, by decide, by decide +kernel, Or.inr ⟨"HungPictures", am_nf 2 rfl⟩⟩
theorem fl2_52 : am_F RX2 52 5 3 false := ⟨by decide, by decide, by decide +kernel, Or.inr ⟨"HungPictures", am_nf 3 rfl⟩⟩
theorem fl3_60 : am_F RX3 60 6 0 false := ⟨by decide, by decide, by decide +kernel, Or.inr ⟨"HungPictures", am_nf 4 rfl⟩⟩
theorem fl2_93 : am_F RX2 93 6 0 false := ⟨by decide, by decide, by decide +kernel, Or.inr ⟨"HungPictures", am_nf 5 rfl⟩⟩
theorem fl7_208 : am_F RX7 208 6 0 false := ⟨by decide, by decide, by decide +kernel, Or.inr ⟨"HungPictures", am_nf 6 rfl⟩⟩
theorem fl2_96 : am_F RX2 96 6 1 false := ⟨by decide, by decide, by decide +kernel, Or.inr ⟨"HungPictures", am_nf 7 rfl⟩⟩
theorem fl7_120 : am_F RX7 120 6 1 false := ⟨by decide, by decide, by decide +kernel, Or.inr ⟨"HungPictures", am_nf 8 rfl⟩⟩
theorem fl0_15 : am_F RX0 15 6 2 false := ⟨by decide, by decide, by decide +kernel, Or.inr ⟨"HungPictures", am_nf 9 rfl⟩⟩
theorem fl3_88 : am_F RX3 88 6 2 false := ⟨by decide, by decide, by decide +kernel, Or.inr ⟨"HungPictures", am_nf 10 rfl⟩⟩
theorem fl2_99 : am_F RX2 99 6 2 false := ⟨by decide, by decide, by decide +kernel, Or.inr ⟨"HungPictures", am_nf 11 rfl⟩⟩
theorem fl7_211 : am_F RX7 211 6 2 false := ⟨by decide, by decide, by decide +kernel, Or.inr ⟨"HungPictures", am_nf 12 rfl⟩⟩
theorem fl0_21 : am_F RX0 21 6 3 false := ⟨by decide, by decide, by decide +kernel, Or.inr ⟨"HungPictures", am_nf 13 rfl⟩⟩
theorem fl4_22 : am_F RX4 22 6 3 false := ⟨by decide, by decide, by decide +kernel, Or.inr ⟨"HungPictures", am_nf 14 rfl⟩⟩
theorem fl3_49 : am_F RX3 49 6 3 false := ⟨by decide, by decide, by decide +kernel, Or.inr ⟨"HungPictures", am_nf 15 rfl⟩⟩
theorem fl2_71 : am_F RX2 71 6 3 false := ⟨by decide, by decide, by decide +kernel, Or.inr ⟨"HungPictures", am_nf 16 rfl⟩⟩
theorem fl7_214 : am_F RX7 214 6 3 false := ⟨by decide, by decide, by decide +kernel, Or.inr ⟨"HungPictures", am_nf 17 rfl⟩⟩
theorem fl2_77 : am_F RX2 77 6 4 false := ⟨by decide, by decide, by decide +kernel, Or.inr ⟨"HungPictures", am_nf 18 rfl⟩⟩
theorem fl7_217 : am_F RX7 217 6 4 false := ⟨by decide, by decide, by decide +kernel, Or.inr ⟨"HungPictures", am_nf 19 rfl⟩⟩
theorem fl7_99 : am_F RX7 99 6 5 false := ⟨by decide, by decide, by decide +kernel, Or.inr ⟨"HungPictures", am_nf 20 rfl⟩⟩
theorem fl2_83 : am_F RX2 83 6 5 false := ⟨by decide, by decide, by decide +kernel, Or.inr ⟨"HungPictures", am_nf 21 rfl⟩⟩
theorem fl0_36 : am_F RX0 36 6 6 true := ⟨by decide, by decide, by decide +kernel, Or.inr ⟨"HungPictures", am_nf 22 rfl⟩⟩
theorem fl3_67 : am_F RX3 67 6 6 true := ⟨by decide, by decide, by decide +kernel, Or.inr ⟨"HungPictures", am_nf 23 rfl⟩⟩
theorem fl4_40 : am_F RX4 40 6 6 true := ⟨by decide, by decide, by decide +kernel, Or.inr ⟨"HungPictures", am_nf 24 rfl⟩⟩
theorem fl7_134 : am_F RX7 134 6 6 true := ⟨by decide, by decide, by decide +kernel, Or.inr ⟨"HungPictures", am_nf 25 rfl⟩⟩
theorem fl4_43 : am_F RX4 43 6 7 true := ⟨by decide, by decide, by decide +kernel, Or.inr ⟨"HungPictures", am_nf 26 rfl⟩⟩
theorem fl7_137 : am_F RX7 137 6 7 true := ⟨by decide, by decide, by decide +kernel, Or.inr ⟨"HungPictures", am_nf 27 rfl⟩⟩
theorem fl7_140 : am_F RX7 140 6 8 true := ⟨by decide, by decide, by decide +kernel, Or.inr ⟨"HungPictures", am_nf 28 rfl⟩⟩
theorem fl0_53 : am_F RX0 53 6 9 true := ⟨by decide, by decide, by decide +kernel, Or.inr ⟨"HungPictures", am_nf 29 rfl⟩⟩
theorem fl4_46 : am_F RX4 46 6 9 true := ⟨by decide, by decide, by decide +kernel, Or.inr ⟨"HungPictures", am_nf 30 rfl⟩⟩
theorem fl7_143 : am_F RX7 143 6 9 true := ⟨by decide, by decide, by decide +kernel, Or.inr ⟨"HungPictures", am_nf 31 rfl⟩⟩
theorem fl7_106 : am_F RX7 106 6 10 true := ⟨by decide, by decide, by decide +kernel, Or.inr ⟨"HungPictures", am_nf 32 rfl⟩⟩
theorem fl7_158 : am_F RX7 158 6 11 true := ⟨by decide, by decide, by decide +kernel, Or.inr ⟨"HungPictures", am_nf 33 rfl⟩⟩
theorem fl7_161 : am_F RX7 161 6 12 true := ⟨by decide, by decide, by decide +kernel, Or.inr ⟨"HungPictures", am_nf 34 rfl⟩⟩
theorem fl7_149 : am_F RX7 149 6 13 true := ⟨by decide, by decide, by decide +kernel, Or.inr ⟨"HungPictures", am_nf 35 rfl⟩⟩
theorem fl7_152 : am_F RX7 152 6 14 true := ⟨by decide, by decide, by decide +kernel, Or.inr ⟨"HungPictures", am_nf 36 rfl⟩⟩
theorem fl7_130 : am_F RX7 130 1 1 false := ⟨by decide, by decide, by decide +kernel, Or.inr ⟨"HungPictures", am_nf 37 rfl⟩⟩
theorem fl7_193 : am_F RX7 193 4 2 false := ⟨by decide, by decide, by decide +kernel, Or.inr ⟨"HungPictures", am_nf 38 rfl⟩⟩
def m7_init : am_M := (yX7_init, cX7_init, 2, none)
theorem m7_init_I : am_mI m7_init 0 := ⟨⟨by decide, am_gi 21 (by decide +kernel) rfl, am_gi 1 (by decide +kernel) rfl, by decide +kernel, by decide⟩, rfl, rfl, am_gi 20 (by decide +kernel) rfl⟩
def m2_init : am_M := (yX2_init, cX2_init, 1, none)
theorem m2_init_I : am_mI m2_init 0 := ⟨⟨by decide, am_gi 29 (by decide +kernel) rfl, am_gi 2 (by decide +kernel) rfl, by decide +kernel, by decide⟩, rfl, rfl, am_gi 28 (by decide +kernel) rfl⟩
def m5_init : am_M := (yX5_init, cX5_init, 1, none)
theorem m5_init_I : am_mI m5_init 0 := ⟨⟨by decide, am_gi 35 (by decide +kernel) rfl, am_gi 3 (by decide +kernel) rfl, by decide +kernel, by decide⟩, rfl, rfl, am_gi 34 (by decide +kernel) rfl⟩
def m6_init : am_M := (yX6_init, cX6_init, 1, none)
theorem m6_init_I : am_mI m6_init 0 := ⟨⟨by decide, am_gi 78 (by decide +kernel) rfl, am_gi 4 (by decide +kernel) rfl, by decide +kernel, by decide⟩, rfl, rfl, am_gi 77 (by decide +kernel) rfl⟩
def m6_makeBare : am_M := (yX6_makeBare, cX6_makeBare, 1, none)
theorem m6_makeBare_V : am_mV m6_makeBare 0 6 := ⟨⟨by decide, am_gi 83 (by decide +kernel) rfl, am_gi 4 (by decide +kernel) rfl, by decide +kernel, by decide⟩, by decide, rfl, am_gi 82 (by decide +kernel) rfl, am_gs (n := 15) 0 (by decide +kernel)⟩
def m1_init : am_M := (yX1_init, cX1_init, 2, none)
theorem m1_init_I : am_mI m1_init 0 := ⟨⟨by decide, am_gi 167 (by decide +kernel) rfl, am_gi 5 (by decide +kernel) rfl, by decide +kernel, by decide⟩, rfl, rfl, am_gi 166 (by decide +kernel) rfl⟩
def m3_init : am_M := (yX3_init, cX3_init, 1, none)
theorem m3_init_I : am_mI m3_init 0 := ⟨⟨by decide, am_gi 184 (by decide +kernel) rfl, am_gi 6 (by decide +kernel) rfl, by decide +kernel, by decide⟩, rfl, rfl, am_gi 183 (by decide +kernel) rfl⟩
def m0_init : am_M := (yX0_init, cX0_init, 1, none)
theorem m0_init_I : am_mI m0_init 0 := ⟨⟨by decide, am_gi 234 (by decide +kernel) rfl, am_gi 7 (by decide +kernel) rfl, by decide +kernel, by decide⟩, rfl, rfl, am_gi 233 (by decide +kernel) rfl⟩
def m4_init : am_M := (yX4_init, cX4_init, 1, none)
theorem m4_init_I : am_mI m4_init 0 := ⟨⟨by decide, am_gi 244 (by decide +kernel) rfl, am_gi 8 (by decide +kernel) rfl, by decide +kernel, by decide⟩, rfl, rfl, am_gi 243 (by decide +kernel) rfl⟩
def m7_type : am_M := (yX7_type, cX7_type, 2, (some .int))
theorem m7_type_V : am_mV m7_type 1 7 := ⟨⟨by decide, am_gi 298 (by decide +kernel) rfl, am_gi 1 (by decide +kernel) rfl, by decide +kernel, by decide⟩, by decide, rfl, am_gi 296 (by decide +kernel) rfl, am_gi 297 (by decide +kernel) rfl⟩
def m7_clear : am_M := (yX7_clear, cX7_clear, 2, (some .int))
theorem m7_clear_V : am_mV m7_clear 0 7 := ⟨⟨by decide, am_gi 302 (by decide +kernel) rfl, am_gi 1 (by decide +kernel) rfl, by decide +kernel, by decide⟩, by decide, rfl, am_gi 300 (by decide +kernel) rfl, am_gi 301 (by decide +kernel) rfl⟩
def m7_tells : am_M := (yX7_tells, cX7_tells, 2, (some .int))
theorem m7_tells_V : am_mV m7_tells 0 7 := ⟨⟨by decide, am_gi 306 (by decide +kernel) rfl, am_gi 1 (by decide +kernel) rfl, by decide +kernel, by decide⟩, by decide, rfl, am_gi 304 (by decide +kernel) rfl, am_gi 305 (by decide +kernel) rfl⟩
def m2_readInto : am_M := (yX2_readInto, cX2_readInto, 5, (some .int))
theorem m2_readInto_V : am_mV m2_readInto 3 2 := ⟨⟨by decide, am_gi 310 (by decide +kernel) rfl, am_gi 2 (by decide +kernel) rfl, by decide +kernel, by decide⟩, by decide, rfl, am_gi 309 (by decide +kernel) rfl, am_gs (n := 6) 1 (by decide +kernel)⟩
def m5_cut : am_M := (yX5_cut, cX5_cut, 5, none)
theorem m5_cut_V : am_mV m5_cut 2 5 := ⟨⟨by decide, am_gi 314 (by decide +kernel) rfl, am_gi 3 (by decide +kernel) rfl, by decide +kernel, by decide⟩, by decide, rfl, am_gi 313 (by decide +kernel) rfl, am_gs (n := 4) 2 (by decide +kernel)⟩
def m5_endOfToken : am_M := (yX5_endOfToken, cX5_endOfToken, 5, (some .int))
theorem m5_endOfToken_S : am_mS m5_endOfToken 3 := ⟨⟨by decide, am_gi 317 (by decide +kernel) rfl, am_gi 3 (by decide +kernel) rfl, by decide +kernel, by decide⟩, am_gi 316 (by decide +kernel) rfl⟩
def m5_sortAt : am_M := (yX5_sortAt, cX5_sortAt, 3, (some .int))
theorem m5_sortAt_S : am_mS m5_sortAt 2 := ⟨⟨by decide, am_gi 320 (by decide +kernel) rfl, am_gi 3 (by decide +kernel) rfl, by decide +kernel, by decide⟩, am_gi 319 (by decide +kernel) rfl⟩
def m5_kindOf : am_M := (yX5_kindOf, cX5_kindOf, 3, (some .int))
theorem m5_kindOf_S : am_mS m5_kindOf 3 := ⟨⟨by decide, am_gi 323 (by decide +kernel) rfl, am_gi 3 (by decide +kernel) rfl, by decide +kernel, by decide⟩, am_gi 322 (by decide +kernel) rfl⟩
def m5_kindOfFigures : am_M := (yX5_kindOfFigures, cX5_kindOfFigures, 4, (some .int))
theorem m5_kindOfFigures_S : am_mS m5_kindOfFigures 3 := ⟨⟨by decide, am_gi 326 (by decide +kernel) rfl, am_gi 3 (by decide +kernel) rfl, by decide +kernel, by decide⟩, am_gi 325 (by decide +kernel) rfl⟩
def m5_spells : am_M := (yX5_spells, cX5_spells, 5, (some .boolean))
theorem m5_spells_S : am_mS m5_spells 4 := ⟨⟨by decide, am_gi 330 (by decide +kernel) rfl, am_gi 3 (by decide +kernel) rfl, by decide +kernel, by decide⟩, am_gi 329 (by decide +kernel) rfl⟩
def j0_length_8abf5 : am_M := (yJ0_length_8abf5, cJ0_length_8abf5, 1, (some .int))
def j0_coder_7d493 : am_M := (yJ0_coder_7d493, cJ0_coder_7d493, 1, (some .byte))
def j0_charAt_5068e : am_M := (yJ0_charAt_5068e, cJ0_charAt_5068e, 2, (some .char))
def j0_isLatin1_aae02 : am_M := (yJ0_isLatin1_aae02, cJ0_isLatin1_aae02, 1, (some .boolean))
def j1_charAt_3b067 : am_M := (yJ1_charAt_3b067, cJ1_charAt_3b067, 2, (some .char))
theorem j1_charAt_3b067_S : am_mS j1_charAt_3b067 2 := ⟨⟨by decide, am_gi 351 (by decide +kernel) rfl, am_gi 11 (by decide +kernel) rfl, by decide +kernel, by decide⟩, am_gi 350 (by decide +kernel) rfl⟩
def j0_checkIndex_df160 : am_M := (yJ0_checkIndex_df160, cJ0_checkIndex_df160, 2, none)
theorem j0_checkIndex_df160_S : am_mS j0_checkIndex_df160 2 := ⟨⟨by decide, am_gi 354 (by decide +kernel) rfl, am_gi 10 (by decide +kernel) rfl, by decide +kernel, by decide⟩, am_gi 353 (by decide +kernel) rfl⟩
def j3_checkIndex_8e157 : am_M := (yJ3_checkIndex_8e157, cJ3_checkIndex_8e157, 3, (some .int))
theorem j3_checkIndex_8e157_S : am_mS j3_checkIndex_8e157 3 := ⟨⟨by decide, am_gi 359 (by decide +kernel) rfl, am_gi 12 (by decide +kernel) rfl, by decide +kernel, by decide⟩, am_gi 358 (by decide +kernel) rfl⟩
def j2_charAt_3b067 : am_M := (yJ2_charAt_3b067, cJ2_charAt_3b067, 2, (some .char))
theorem j2_charAt_3b067_S : am_mS j2_charAt_3b067 2 := ⟨⟨by decide, am_gi 362 (by decide +kernel) rfl, am_gi 13 (by decide +kernel) rfl, by decide +kernel, by decide⟩, am_gi 361 (by decide +kernel) rfl⟩
def j2_checkIndex_2214a : am_M := (yJ2_checkIndex_2214a, cJ2_checkIndex_2214a, 2, none)
theorem j2_checkIndex_2214a_S : am_mS j2_checkIndex_2214a 2 := ⟨⟨by decide, am_gi 365 (by decide +kernel) rfl, am_gi 13 (by decide +kernel) rfl, by decide +kernel, by decide⟩, am_gi 364 (by decide +kernel) rfl⟩
def j2_length_9d52b : am_M := (yJ2_length_9d52b, cJ2_length_9d52b, 1, (some .int))
theorem j2_length_9d52b_S : am_mS j2_length_9d52b 1 := ⟨⟨by decide, am_gi 368 (by decide +kernel) rfl, am_gi 13 (by decide +kernel) rfl, by decide +kernel, by decide⟩, am_gi 367 (by decide +kernel) rfl⟩
def j2_getChar_3b067 : am_M := (yJ2_getChar_3b067, cJ2_getChar_3b067, 2, (some .char))
theorem j2_getChar_3b067_S : am_mS j2_getChar_3b067 2 := ⟨⟨by decide, am_gi 372 (by decide +kernel) rfl, am_gi 13 (by decide +kernel) rfl, by decide +kernel, by decide⟩, am_gi 371 (by decide +kernel) rfl⟩
def m5_valueOf : am_M := (yX5_valueOf, cX5_valueOf, 5, (some .int))
theorem m5_valueOf_S : am_mS m5_valueOf 3 := ⟨⟨by decide, am_gi 381 (by decide +kernel) rfl, am_gi 3 (by decide +kernel) rfl, by decide +kernel, by decide⟩, am_gi 380 (by decide +kernel) rfl⟩
def m5_kindOfWord : am_M := (yX5_kindOfWord, cX5_kindOfWord, 3, (some .int))
theorem m5_kindOfWord_S : am_mS m5_kindOfWord 3 := ⟨⟨by decide, am_gi 387 (by decide +kernel) rfl, am_gi 3 (by decide +kernel) rfl, by decide +kernel, by decide⟩, am_gi 386 (by decide +kernel) rfl⟩
def m5_add : am_M := (yX5_add, cX5_add, 4, none)
theorem m5_add_V : am_mV m5_add 3 5 := ⟨⟨by decide, am_gi 396 (by decide +kernel) rfl, am_gi 3 (by decide +kernel) rfl, by decide +kernel, by decide⟩, by decide, rfl, am_gi 395 (by decide +kernel) rfl, am_gs (n := 4) 3 (by decide +kernel)⟩
def m2_readToken : am_M := (yX2_readToken, cX2_readToken, 1, none)
theorem m2_readToken_V : am_mV m2_readToken 0 2 := ⟨⟨by decide, am_gi 404 (by decide +kernel) rfl, am_gi 2 (by decide +kernel) rfl, by decide +kernel, by decide⟩, by decide, rfl, am_gi 403 (by decide +kernel) rfl, am_gs (n := 6) 4 (by decide +kernel)⟩
def m2_readItem : am_M := (yX2_readItem, cX2_readItem, 2, (some .boolean))
theorem m2_readItem_V : am_mV m2_readItem 1 2 := ⟨⟨by decide, am_gi 408 (by decide +kernel) rfl, am_gi 2 (by decide +kernel) rfl, by decide +kernel, by decide⟩, by decide, rfl, am_gi 407 (by decide +kernel) rfl, am_gs (n := 6) 5 (by decide +kernel)⟩
def m2_readWall : am_M := (yX2_readWall, cX2_readWall, 2, (some .boolean))
theorem m2_readWall_V : am_mV m2_readWall 1 2 := ⟨⟨by decide, am_gi 412 (by decide +kernel) rfl, am_gi 2 (by decide +kernel) rfl, by decide +kernel, by decide⟩, by decide, rfl, am_gi 411 (by decide +kernel) rfl, am_gs (n := 6) 6 (by decide +kernel)⟩
def m2_readNumber : am_M := (yX2_readNumber, cX2_readNumber, 3, (some .boolean))
theorem m2_readNumber_V : am_mV m2_readNumber 2 2 := ⟨⟨by decide, am_gi 416 (by decide +kernel) rfl, am_gi 2 (by decide +kernel) rfl, by decide +kernel, by decide⟩, by decide, rfl, am_gi 415 (by decide +kernel) rfl, am_gs (n := 6) 7 (by decide +kernel)⟩
def m2_readPicture : am_M := (yX2_readPicture, cX2_readPicture, 5, (some .boolean))
theorem m2_readPicture_V : am_mV m2_readPicture 1 2 := ⟨⟨by decide, am_gi 420 (by decide +kernel) rfl, am_gi 2 (by decide +kernel) rfl, by decide +kernel, by decide⟩, by decide, rfl, am_gi 419 (by decide +kernel) rfl, am_gs (n := 6) 8 (by decide +kernel)⟩
def m6_addPicture : am_M := (yX6_addPicture, cX6_addPicture, 5, none)
theorem m6_addPicture_V : am_mV m6_addPicture 4 6 := ⟨⟨by decide, am_gi 424 (by decide +kernel) rfl, am_gi 4 (by decide +kernel) rfl, by decide +kernel, by decide⟩, by decide, rfl, am_gi 423 (by decide +kernel) rfl, am_gs (n := 15) 9 (by decide +kernel)⟩
def m2_readDoor : am_M := (yX2_readDoor, cX2_readDoor, 3, (some .boolean))
theorem m2_readDoor_V : am_mV m2_readDoor 1 2 := ⟨⟨by decide, am_gi 428 (by decide +kernel) rfl, am_gi 2 (by decide +kernel) rfl, by decide +kernel, by decide⟩, by decide, rfl, am_gi 427 (by decide +kernel) rfl, am_gs (n := 6) 10 (by decide +kernel)⟩
def m6_addDoor : am_M := (yX6_addDoor, cX6_addDoor, 3, none)
theorem m6_addDoor_V : am_mV m6_addDoor 2 6 := ⟨⟨by decide, am_gi 432 (by decide +kernel) rfl, am_gi 4 (by decide +kernel) rfl, by decide +kernel, by decide⟩, by decide, rfl, am_gi 431 (by decide +kernel) rfl, am_gs (n := 15) 11 (by decide +kernel)⟩
def m2_readHole : am_M := (yX2_readHole, cX2_readHole, 3, (some .boolean))
theorem m2_readHole_V : am_mV m2_readHole 1 2 := ⟨⟨by decide, am_gi 436 (by decide +kernel) rfl, am_gi 2 (by decide +kernel) rfl, by decide +kernel, by decide⟩, by decide, rfl, am_gi 435 (by decide +kernel) rfl, am_gs (n := 6) 12 (by decide +kernel)⟩
def m6_findHole : am_M := (yX6_findHole, cX6_findHole, 4, (some .int))
theorem m6_findHole_V : am_mV m6_findHole 2 6 := ⟨⟨by decide, am_gi 440 (by decide +kernel) rfl, am_gi 4 (by decide +kernel) rfl, by decide +kernel, by decide⟩, by decide, rfl, am_gi 439 (by decide +kernel) rfl, am_gs (n := 15) 13 (by decide +kernel)⟩
def m6_addHole : am_M := (yX6_addHole, cX6_addHole, 3, none)
theorem m6_addHole_V : am_mV m6_addHole 2 6 := ⟨⟨by decide, am_gi 444 (by decide +kernel) rfl, am_gi 4 (by decide +kernel) rfl, by decide +kernel, by decide⟩, by decide, rfl, am_gi 443 (by decide +kernel) rfl, am_gs (n := 15) 14 (by decide +kernel)⟩
def m2_readSemicolon : am_M := (yX2_readSemicolon, cX2_readSemicolon, 1, (some .boolean))
theorem m2_readSemicolon_V : am_mV m2_readSemicolon 0 2 := ⟨⟨by decide, am_gi 448 (by decide +kernel) rfl, am_gi 2 (by decide +kernel) rfl, by decide +kernel, by decide⟩, by decide, rfl, am_gi 447 (by decide +kernel) rfl, am_gs (n := 6) 15 (by decide +kernel)⟩
def m7_remember : am_M := (yX7_remember, cX7_remember, 1, none)
theorem m7_remember_V : am_mV m7_remember 0 7 := ⟨⟨by decide, am_gi 452 (by decide +kernel) rfl, am_gi 1 (by decide +kernel) rfl, by decide +kernel, by decide⟩, by decide, rfl, am_gi 451 (by decide +kernel) rfl, am_gs (n := 12) 16 (by decide +kernel)⟩
def m1_add : am_M := (yX1_add, cX1_add, 2, none)
theorem m1_add_V : am_mV m1_add 1 1 := ⟨⟨by decide, am_gi 456 (by decide +kernel) rfl, am_gi 5 (by decide +kernel) rfl, by decide +kernel, by decide⟩, by decide, rfl, am_gi 455 (by decide +kernel) rfl, am_gs (n := 2) 17 (by decide +kernel)⟩
def m1_loseOldest : am_M := (yX1_loseOldest, cX1_loseOldest, 3, none)
theorem m1_loseOldest_V : am_mV m1_loseOldest 0 1 := ⟨⟨by decide, am_gi 460 (by decide +kernel) rfl, am_gi 5 (by decide +kernel) rfl, by decide +kernel, by decide⟩, by decide, rfl, am_gi 459 (by decide +kernel) rfl, am_gs (n := 2) 18 (by decide +kernel)⟩
def m6_copyFrom : am_M := (yX6_copyFrom, cX6_copyFrom, 2, none)
theorem m6_copyFrom_V : am_mV m6_copyFrom 1 6 := ⟨⟨by decide, am_gi 464 (by decide +kernel) rfl, am_gi 4 (by decide +kernel) rfl, by decide +kernel, by decide⟩, by decide, rfl, am_gi 463 (by decide +kernel) rfl, am_gs (n := 15) 19 (by decide +kernel)⟩
def m7_hangs : am_M := (yX7_hangs, cX7_hangs, 4, (some .int))
theorem m7_hangs_V : am_mV m7_hangs 2 7 := ⟨⟨by decide, am_gi 473 (by decide +kernel) rfl, am_gi 1 (by decide +kernel) rfl, by decide +kernel, by decide⟩, by decide, rfl, am_gi 471 (by decide +kernel) rfl, am_gi 472 (by decide +kernel) rfl⟩
def m6_hasPicture : am_M := (yX6_hasPicture, cX6_hasPicture, 2, (some .boolean))
theorem m6_hasPicture_V : am_mV m6_hasPicture 1 6 := ⟨⟨by decide, am_gi 477 (by decide +kernel) rfl, am_gi 4 (by decide +kernel) rfl, by decide +kernel, by decide⟩, by decide, rfl, am_gi 476 (by decide +kernel) rfl, am_gs (n := 15) 20 (by decide +kernel)⟩
def m6_isUp : am_M := (yX6_isUp, cX6_isUp, 2, (some .boolean))
theorem m6_isUp_V : am_mV m6_isUp 1 6 := ⟨⟨by decide, am_gi 481 (by decide +kernel) rfl, am_gi 4 (by decide +kernel) rfl, by decide +kernel, by decide⟩, by decide, rfl, am_gi 480 (by decide +kernel) rfl, am_gs (n := 15) 21 (by decide +kernel)⟩
def m6_isFreeFor : am_M := (yX6_isFreeFor, cX6_isFreeFor, 3, (some .boolean))
theorem m6_isFreeFor_V : am_mV m6_isFreeFor 2 6 := ⟨⟨by decide, am_gi 486 (by decide +kernel) rfl, am_gi 4 (by decide +kernel) rfl, by decide +kernel, by decide⟩, by decide, rfl, am_gi 485 (by decide +kernel) rfl, am_gs (n := 15) 22 (by decide +kernel)⟩
def m6_fits : am_M := (yX6_fits, cX6_fits, 4, (some .boolean))
theorem m6_fits_V : am_mV m6_fits 2 6 := ⟨⟨by decide, am_gi 490 (by decide +kernel) rfl, am_gi 4 (by decide +kernel) rfl, by decide +kernel, by decide⟩, by decide, rfl, am_gi 489 (by decide +kernel) rfl, am_gs (n := 15) 23 (by decide +kernel)⟩
def m6_isApartFromAll : am_M := (yX6_isApartFromAll, cX6_isApartFromAll, 4, (some .boolean))
theorem m6_isApartFromAll_V : am_mV m6_isApartFromAll 2 6 := ⟨⟨by decide, am_gi 494 (by decide +kernel) rfl, am_gi 4 (by decide +kernel) rfl, by decide +kernel, by decide⟩, by decide, rfl, am_gi 493 (by decide +kernel) rfl, am_gs (n := 15) 24 (by decide +kernel)⟩
def m6_hasHoleFor : am_M := (yX6_hasHoleFor, cX6_hasHoleFor, 3, (some .boolean))
theorem m6_hasHoleFor_V : am_mV m6_hasHoleFor 2 6 := ⟨⟨by decide, am_gi 498 (by decide +kernel) rfl, am_gi 4 (by decide +kernel) rfl, by decide +kernel, by decide⟩, by decide, rfl, am_gi 497 (by decide +kernel) rfl, am_gs (n := 15) 25 (by decide +kernel)⟩
def m6_hookX : am_M := (yX6_hookX, cX6_hookX, 3, (some .int))
theorem m6_hookX_V : am_mV m6_hookX 2 6 := ⟨⟨by decide, am_gi 502 (by decide +kernel) rfl, am_gi 4 (by decide +kernel) rfl, by decide +kernel, by decide⟩, by decide, rfl, am_gi 501 (by decide +kernel) rfl, am_gs (n := 15) 26 (by decide +kernel)⟩
def m6_hookY : am_M := (yX6_hookY, cX6_hookY, 2, (some .int))
theorem m6_hookY_V : am_mV m6_hookY 1 6 := ⟨⟨by decide, am_gi 506 (by decide +kernel) rfl, am_gi 4 (by decide +kernel) rfl, by decide +kernel, by decide⟩, by decide, rfl, am_gi 505 (by decide +kernel) rfl, am_gs (n := 15) 27 (by decide +kernel)⟩
def m6_putUp : am_M := (yX6_putUp, cX6_putUp, 3, none)
theorem m6_putUp_V : am_mV m6_putUp 2 6 := ⟨⟨by decide, am_gi 511 (by decide +kernel) rfl, am_gi 4 (by decide +kernel) rfl, by decide +kernel, by decide⟩, by decide, rfl, am_gi 510 (by decide +kernel) rfl, am_gs (n := 15) 28 (by decide +kernel)⟩
def m7_takes : am_M := (yX7_takes, cX7_takes, 3, (some .int))
theorem m7_takes_V : am_mV m7_takes 1 7 := ⟨⟨by decide, am_gi 517 (by decide +kernel) rfl, am_gi 1 (by decide +kernel) rfl, by decide +kernel, by decide⟩, by decide, rfl, am_gi 515 (by decide +kernel) rfl, am_gi 516 (by decide +kernel) rfl⟩
def m7_fills : am_M := (yX7_fills, cX7_fills, 2, (some .int))
theorem m7_fills_V : am_mV m7_fills 1 7 := ⟨⟨by decide, am_gi 521 (by decide +kernel) rfl, am_gi 1 (by decide +kernel) rfl, by decide +kernel, by decide⟩, by decide, rfl, am_gi 519 (by decide +kernel) rfl, am_gi 520 (by decide +kernel) rfl⟩
def m6_hasHole : am_M := (yX6_hasHole, cX6_hasHole, 2, (some .boolean))
theorem m6_hasHole_V : am_mV m6_hasHole 1 6 := ⟨⟨by decide, am_gi 525 (by decide +kernel) rfl, am_gi 4 (by decide +kernel) rfl, by decide +kernel, by decide⟩, by decide, rfl, am_gi 524 (by decide +kernel) rfl, am_gs (n := 15) 29 (by decide +kernel)⟩
def m6_findPictureOn : am_M := (yX6_findPictureOn, cX6_findPictureOn, 3, (some .int))
theorem m6_findPictureOn_V : am_mV m6_findPictureOn 1 6 := ⟨⟨by decide, am_gi 529 (by decide +kernel) rfl, am_gi 4 (by decide +kernel) rfl, by decide +kernel, by decide⟩, by decide, rfl, am_gi 528 (by decide +kernel) rfl, am_gs (n := 15) 30 (by decide +kernel)⟩
def m6_removeHole : am_M := (yX6_removeHole, cX6_removeHole, 3, none)
theorem m6_removeHole_V : am_mV m6_removeHole 1 6 := ⟨⟨by decide, am_gi 534 (by decide +kernel) rfl, am_gi 4 (by decide +kernel) rfl, by decide +kernel, by decide⟩, by decide, rfl, am_gi 533 (by decide +kernel) rfl, am_gs (n := 15) 31 (by decide +kernel)⟩
def m7_lines : am_M := (yX7_lines, cX7_lines, 3, (some .int))
theorem m7_lines_V : am_mV m7_lines 1 7 := ⟨⟨by decide, am_gi 538 (by decide +kernel) rfl, am_gi 1 (by decide +kernel) rfl, by decide +kernel, by decide⟩, by decide, rfl, am_gi 536 (by decide +kernel) rfl, am_gi 537 (by decide +kernel) rfl⟩
def m6_takeAllDown : am_M := (yX6_takeAllDown, cX6_takeAllDown, 2, none)
theorem m6_takeAllDown_V : am_mV m6_takeAllDown 0 6 := ⟨⟨by decide, am_gi 542 (by decide +kernel) rfl, am_gi 4 (by decide +kernel) rfl, by decide +kernel, by decide⟩, by decide, rfl, am_gi 541 (by decide +kernel) rfl, am_gs (n := 15) 32 (by decide +kernel)⟩
def m7_undo : am_M := (yX7_undo, cX7_undo, 1, (some .int))
theorem m7_undo_V : am_mV m7_undo 0 7 := ⟨⟨by decide, am_gi 546 (by decide +kernel) rfl, am_gi 1 (by decide +kernel) rfl, by decide +kernel, by decide⟩, by decide, rfl, am_gi 544 (by decide +kernel) rfl, am_gi 545 (by decide +kernel) rfl⟩
def m1_giveLatestTo : am_M := (yX1_giveLatestTo, cX1_giveLatestTo, 2, (some .boolean))
theorem m1_giveLatestTo_V : am_mV m1_giveLatestTo 1 1 := ⟨⟨by decide, am_gi 550 (by decide +kernel) rfl, am_gi 5 (by decide +kernel) rfl, by decide +kernel, by decide⟩, by decide, rfl, am_gi 549 (by decide +kernel) rfl, am_gs (n := 2) 33 (by decide +kernel)⟩
def m7_picture : am_M := (yX7_picture, cX7_picture, 3, (some .int))
theorem m7_picture_V : am_mV m7_picture 2 7 := ⟨⟨by decide, am_gi 554 (by decide +kernel) rfl, am_gi 1 (by decide +kernel) rfl, by decide +kernel, by decide⟩, by decide, rfl, am_gi 552 (by decide +kernel) rfl, am_gi 553 (by decide +kernel) rfl⟩
def m7_hole : am_M := (yX7_hole, cX7_hole, 3, (some .int))
theorem m7_hole_V : am_mV m7_hole 2 7 := ⟨⟨by decide, am_gi 560 (by decide +kernel) rfl, am_gi 1 (by decide +kernel) rfl, by decide +kernel, by decide⟩, by decide, rfl, am_gi 558 (by decide +kernel) rfl, am_gi 559 (by decide +kernel) rfl⟩
def m7_door : am_M := (yX7_door, cX7_door, 3, (some .int))
theorem m7_door_V : am_mV m7_door 2 7 := ⟨⟨by decide, am_gi 564 (by decide +kernel) rfl, am_gi 1 (by decide +kernel) rfl, by decide +kernel, by decide⟩, by decide, rfl, am_gi 562 (by decide +kernel) rfl, am_gi 563 (by decide +kernel) rfl⟩
def m6_hasDoor : am_M := (yX6_hasDoor, cX6_hasDoor, 2, (some .boolean))
theorem m6_hasDoor_V : am_mV m6_hasDoor 1 6 := ⟨⟨by decide, am_gi 568 (by decide +kernel) rfl, am_gi 4 (by decide +kernel) rfl, by decide +kernel, by decide⟩, by decide, rfl, am_gi 567 (by decide +kernel) rfl, am_gs (n := 15) 34 (by decide +kernel)⟩
def m7_moment : am_M := (yX7_moment, cX7_moment, 2, (some .int))
theorem m7_moment_V : am_mV m7_moment 1 7 := ⟨⟨by decide, am_gi 572 (by decide +kernel) rfl, am_gi 1 (by decide +kernel) rfl, by decide +kernel, by decide⟩, by decide, rfl, am_gi 570 (by decide +kernel) rfl, am_gi 571 (by decide +kernel) rfl⟩
def m6_momentNow : am_M := (yX6_momentNow, cX6_momentNow, 3, (some .int))
theorem m6_momentNow_V : am_mV m6_momentNow 0 6 := ⟨⟨by decide, am_gi 576 (by decide +kernel) rfl, am_gi 4 (by decide +kernel) rfl, by decide +kernel, by decide⟩, by decide, rfl, am_gi 575 (by decide +kernel) rfl, am_gs (n := 15) 35 (by decide +kernel)⟩
def m6_momentAt : am_M := (yX6_momentAt, cX6_momentAt, 3, (some .int))
theorem m6_momentAt_V : am_mV m6_momentAt 2 6 := ⟨⟨by decide, am_gi 580 (by decide +kernel) rfl, am_gi 4 (by decide +kernel) rfl, by decide +kernel, by decide⟩, by decide, rfl, am_gi 579 (by decide +kernel) rfl, am_gs (n := 15) 36 (by decide +kernel)⟩
def m7_best : am_M := (yX7_best, cX7_best, 2, (some .int))
theorem m7_best_V : am_mV m7_best 1 7 := ⟨⟨by decide, am_gi 587 (by decide +kernel) rfl, am_gi 1 (by decide +kernel) rfl, by decide +kernel, by decide⟩, by decide, rfl, am_gi 585 (by decide +kernel) rfl, am_gi 586 (by decide +kernel) rfl⟩
def m3_search : am_M := (yX3_search, cX3_search, 4, none)
theorem m3_search_V : am_mV m3_search 1 3 := ⟨⟨by decide, am_gi 591 (by decide +kernel) rfl, am_gi 6 (by decide +kernel) rfl, by decide +kernel, by decide⟩, by decide, rfl, am_gi 590 (by decide +kernel) rfl, am_gs (n := 14) 37 (by decide +kernel)⟩
def m3_markPlaces : am_M := (yX3_markPlaces, cX3_markPlaces, 4, none)
theorem m3_markPlaces_V : am_mV m3_markPlaces 2 3 := ⟨⟨by decide, am_gi 595 (by decide +kernel) rfl, am_gi 6 (by decide +kernel) rfl, by decide +kernel, by decide⟩, by decide, rfl, am_gi 594 (by decide +kernel) rfl, am_gs (n := 14) 38 (by decide +kernel)⟩
def m3_tryAllGaps : am_M := (yX3_tryAllGaps, cX3_tryAllGaps, 5, none)
theorem m3_tryAllGaps_V : am_mV m3_tryAllGaps 2 3 := ⟨⟨by decide, am_gi 603 (by decide +kernel) rfl, am_gi 6 (by decide +kernel) rfl, by decide +kernel, by decide⟩, by decide, rfl, am_gi 602 (by decide +kernel) rfl, am_gs (n := 14) 39 (by decide +kernel)⟩
def m3_tryOrders : am_M := (yX3_tryOrders, cX3_tryOrders, 8, none)
theorem m3_tryOrders_S : am_mS m3_tryOrders 7 := ⟨⟨by decide, am_gi 606 (by decide +kernel) rfl, am_gi 6 (by decide +kernel) rfl, by decide +kernel, by decide⟩, am_gi 605 (by decide +kernel) rfl⟩
def m3_takeIfBetter : am_M := (yX3_takeIfBetter, cX3_takeIfBetter, 3, none)
theorem m3_takeIfBetter_V : am_mV m3_takeIfBetter 2 3 := ⟨⟨by decide, am_gi 611 (by decide +kernel) rfl, am_gi 6 (by decide +kernel) rfl, by decide +kernel, by decide⟩, by decide, rfl, am_gi 610 (by decide +kernel) rfl, am_gs (n := 14) 40 (by decide +kernel)⟩
def m3_isMarked : am_M := (yX3_isMarked, cX3_isMarked, 3, (some .boolean))
theorem m3_isMarked_S : am_mS m3_isMarked 2 := ⟨⟨by decide, am_gi 615 (by decide +kernel) rfl, am_gi 6 (by decide +kernel) rfl, by decide +kernel, by decide⟩, am_gi 614 (by decide +kernel) rfl⟩
def m3_answer : am_M := (yX3_answer, cX3_answer, 2, (some .int))
theorem m3_answer_V : am_mV m3_answer 1 3 := ⟨⟨by decide, am_gi 619 (by decide +kernel) rfl, am_gi 6 (by decide +kernel) rfl, by decide +kernel, by decide⟩, by decide, rfl, am_gi 618 (by decide +kernel) rfl, am_gs (n := 14) 41 (by decide +kernel)⟩
def m3_pictureAt : am_M := (yX3_pictureAt, cX3_pictureAt, 2, (some .int))
theorem m3_pictureAt_V : am_mV m3_pictureAt 1 3 := ⟨⟨by decide, am_gi 623 (by decide +kernel) rfl, am_gi 6 (by decide +kernel) rfl, by decide +kernel, by decide⟩, by decide, rfl, am_gi 622 (by decide +kernel) rfl, am_gs (n := 14) 42 (by decide +kernel)⟩
def m7_places : am_M := (yX7_places, cX7_places, 3, (some .int))
theorem m7_places_V : am_mV m7_places 2 7 := ⟨⟨by decide, am_gi 627 (by decide +kernel) rfl, am_gi 1 (by decide +kernel) rfl, by decide +kernel, by decide⟩, by decide, rfl, am_gi 625 (by decide +kernel) rfl, am_gi 626 (by decide +kernel) rfl⟩
def m7_countPlaces : am_M := (yX7_countPlaces, cX7_countPlaces, 4, (some .int))
theorem m7_countPlaces_V : am_mV m7_countPlaces 1 7 := ⟨⟨by decide, am_gi 631 (by decide +kernel) rfl, am_gi 1 (by decide +kernel) rfl, by decide +kernel, by decide⟩, by decide, rfl, am_gi 630 (by decide +kernel) rfl, am_gs (n := 12) 43 (by decide +kernel)⟩
def m7_leastPlace : am_M := (yX7_leastPlace, cX7_leastPlace, 4, (some .int))
theorem m7_leastPlace_V : am_mV m7_leastPlace 2 7 := ⟨⟨by decide, am_gi 635 (by decide +kernel) rfl, am_gi 1 (by decide +kernel) rfl, by decide +kernel, by decide⟩, by decide, rfl, am_gi 634 (by decide +kernel) rfl, am_gs (n := 12) 44 (by decide +kernel)⟩
def m7_calmestPlace : am_M := (yX7_calmestPlace, cX7_calmestPlace, 7, (some .int))
theorem m7_calmestPlace_V : am_mV m7_calmestPlace 1 7 := ⟨⟨by decide, am_gi 639 (by decide +kernel) rfl, am_gi 1 (by decide +kernel) rfl, by decide +kernel, by decide⟩, by decide, rfl, am_gi 638 (by decide +kernel) rfl, am_gs (n := 12) 45 (by decide +kernel)⟩
def m7_most : am_M := (yX7_most, cX7_most, 1, (some .int))
theorem m7_most_V : am_mV m7_most 0 7 := ⟨⟨by decide, am_gi 644 (by decide +kernel) rfl, am_gi 1 (by decide +kernel) rfl, by decide +kernel, by decide⟩, by decide, rfl, am_gi 642 (by decide +kernel) rfl, am_gi 643 (by decide +kernel) rfl⟩
def m0_largestSet : am_M := (yX0_largestSet, cX0_largestSet, 4, (some .int))
theorem m0_largestSet_V : am_mV m0_largestSet 1 0 := ⟨⟨by decide, am_gi 648 (by decide +kernel) rfl, am_gi 7 (by decide +kernel) rfl, by decide +kernel, by decide⟩, by decide, rfl, am_gi 647 (by decide +kernel) rfl, am_gs (n := 1) 46 (by decide +kernel)⟩
def m0_leastEnd : am_M := (yX0_leastEnd, cX0_leastEnd, 7, (some .int))
theorem m0_leastEnd_V : am_mV m0_leastEnd 2 0 := ⟨⟨by decide, am_gi 652 (by decide +kernel) rfl, am_gi 7 (by decide +kernel) rfl, by decide +kernel, by decide⟩, by decide, rfl, am_gi 651 (by decide +kernel) rfl, am_gs (n := 1) 47 (by decide +kernel)⟩
def m6_firstFit : am_M := (yX6_firstFit, cX6_firstFit, 4, (some .int))
theorem m6_firstFit_V : am_mV m6_firstFit 2 6 := ⟨⟨by decide, am_gi 656 (by decide +kernel) rfl, am_gi 4 (by decide +kernel) rfl, by decide +kernel, by decide⟩, by decide, rfl, am_gi 655 (by decide +kernel) rfl, am_gs (n := 15) 48 (by decide +kernel)⟩
def m0_isBetter : am_M := (yX0_isBetter, cX0_isBetter, 4, (some .boolean))
theorem m0_isBetter_S : am_mS m0_isBetter 3 := ⟨⟨by decide, am_gi 660 (by decide +kernel) rfl, am_gi 7 (by decide +kernel) rfl, by decide +kernel, by decide⟩, am_gi 659 (by decide +kernel) rfl⟩
def j6_bitCount_0f7a4 : am_M := (yJ6_bitCount_0f7a4, cJ6_bitCount_0f7a4, 1, (some .int))
theorem j6_bitCount_0f7a4_S : am_mS j6_bitCount_0f7a4 1 := ⟨⟨by decide, am_gi 663 (by decide +kernel) rfl, am_gi 16 (by decide +kernel) rfl, by decide +kernel, by decide⟩, am_gi 662 (by decide +kernel) rfl⟩
def m0_weightOf : am_M := (yX0_weightOf, cX0_weightOf, 4, (some .int))
theorem m0_weightOf_S : am_mS m0_weightOf 2 := ⟨⟨by decide, am_gi 669 (by decide +kernel) rfl, am_gi 7 (by decide +kernel) rfl, by decide +kernel, by decide⟩, am_gi 668 (by decide +kernel) rfl⟩
def m7_sees : am_M := (yX7_sees, cX7_sees, 3, (some .int))
theorem m7_sees_V : am_mV m7_sees 2 7 := ⟨⟨by decide, am_gi 673 (by decide +kernel) rfl, am_gi 1 (by decide +kernel) rfl, by decide +kernel, by decide⟩, by decide, rfl, am_gi 671 (by decide +kernel) rfl, am_gi 672 (by decide +kernel) rfl⟩
def m4_add : am_M := (yX4_add, cX4_add, 3, none)
theorem m4_add_V : am_mV m4_add 2 4 := ⟨⟨by decide, am_gi 677 (by decide +kernel) rfl, am_gi 8 (by decide +kernel) rfl, by decide +kernel, by decide⟩, by decide, rfl, am_gi 676 (by decide +kernel) rfl, am_gs (n := 3) 49 (by decide +kernel)⟩
def m7_forget : am_M := (yX7_forget, cX7_forget, 2, (some .int))
theorem m7_forget_V : am_mV m7_forget 0 7 := ⟨⟨by decide, am_gi 681 (by decide +kernel) rfl, am_gi 1 (by decide +kernel) rfl, by decide +kernel, by decide⟩, by decide, rfl, am_gi 679 (by decide +kernel) rfl, am_gi 680 (by decide +kernel) rfl⟩
def m7_which : am_M := (yX7_which, cX7_which, 2, (some .int))
theorem m7_which_V : am_mV m7_which 1 7 := ⟨⟨by decide, am_gi 685 (by decide +kernel) rfl, am_gi 1 (by decide +kernel) rfl, by decide +kernel, by decide⟩, by decide, rfl, am_gi 683 (by decide +kernel) rfl, am_gi 684 (by decide +kernel) rfl⟩
def m4_countMatches : am_M := (yX4_countMatches, cX4_countMatches, 4, (some .int))
theorem m4_countMatches_V : am_mV m4_countMatches 1 4 := ⟨⟨by decide, am_gi 689 (by decide +kernel) rfl, am_gi 8 (by decide +kernel) rfl, by decide +kernel, by decide⟩, by decide, rfl, am_gi 688 (by decide +kernel) rfl, am_gs (n := 3) 50 (by decide +kernel)⟩
def m4_matches : am_M := (yX4_matches, cX4_matches, 4, (some .boolean))
theorem m4_matches_V : am_mV m4_matches 2 4 := ⟨⟨by decide, am_gi 693 (by decide +kernel) rfl, am_gi 8 (by decide +kernel) rfl, by decide +kernel, by decide⟩, by decide, rfl, am_gi 692 (by decide +kernel) rfl, am_gs (n := 3) 51 (by decide +kernel)⟩
def m4_measured : am_M := (yX4_measured, cX4_measured, 3, (some .int))
theorem m4_measured_S : am_mS m4_measured 3 := ⟨⟨by decide, am_gi 696 (by decide +kernel) rfl, am_gi 8 (by decide +kernel) rfl, by decide +kernel, by decide⟩, am_gi 695 (by decide +kernel) rfl⟩
def m4_leastMatch : am_M := (yX4_leastMatch, cX4_leastMatch, 3, (some .int))
theorem m4_leastMatch_V : am_mV m4_leastMatch 1 4 := ⟨⟨by decide, am_gi 703 (by decide +kernel) rfl, am_gi 8 (by decide +kernel) rfl, by decide +kernel, by decide⟩, by decide, rfl, am_gi 702 (by decide +kernel) rfl, am_gs (n := 3) 52 (by decide +kernel)⟩
def m7_keep : am_M := (yX7_keep, cX7_keep, 2, (some .int))
theorem m7_keep_V : am_mV m7_keep 1 7 := ⟨⟨by decide, am_gi 707 (by decide +kernel) rfl, am_gi 1 (by decide +kernel) rfl, by decide +kernel, by decide⟩, by decide, rfl, am_gi 705 (by decide +kernel) rfl, am_gi 706 (by decide +kernel) rfl⟩
def m6_countUp : am_M := (yX6_countUp, cX6_countUp, 3, (some .int))
theorem m6_countUp_V : am_mV m6_countUp 0 6 := ⟨⟨by decide, am_gi 711 (by decide +kernel) rfl, am_gi 4 (by decide +kernel) rfl, by decide +kernel, by decide⟩, by decide, rfl, am_gi 710 (by decide +kernel) rfl, am_gs (n := 15) 53 (by decide +kernel)⟩
def m7_back : am_M := (yX7_back, cX7_back, 2, (some .int))
theorem m7_back_V : am_mV m7_back 1 7 := ⟨⟨by decide, am_gi 715 (by decide +kernel) rfl, am_gi 1 (by decide +kernel) rfl, by decide +kernel, by decide⟩, by decide, rfl, am_gi 713 (by decide +kernel) rfl, am_gi 714 (by decide +kernel) rfl⟩
def m7_count : am_M := (yX7_count, cX7_count, 2, (some .int))
theorem m7_count_V : am_mV m7_count 1 7 := ⟨⟨by decide, am_gi 719 (by decide +kernel) rfl, am_gi 1 (by decide +kernel) rfl, by decide +kernel, by decide⟩, by decide, rfl, am_gi 717 (by decide +kernel) rfl, am_gi 718 (by decide +kernel) rfl⟩
def m8_init : am_M := (yX8_init, cX8_init, 1, none)
theorem m8_init_I : am_mI m8_init 0 := ⟨⟨by decide, am_gi 724 (by decide +kernel) rfl, am_gi 9 (by decide +kernel) rfl, by decide +kernel, by decide⟩, rfl, rfl, am_gi 723 (by decide +kernel) rfl⟩
def m8_bares : am_M := (yX8_bares, cX8_bares, 2, none)
theorem m8_bares_S : am_mS m8_bares 1 := ⟨⟨by decide, am_gi 728 (by decide +kernel) rfl, am_gi 9 (by decide +kernel) rfl, by decide +kernel, by decide⟩, am_gi 727 (by decide +kernel) rfl⟩
def m8_type : am_M := (yX8_type, cX8_type, 2, (some .int))
theorem m8_type_V : am_mV m8_type 1 8 := ⟨⟨by decide, am_gi 796 (by decide +kernel) rfl, am_gi 9 (by decide +kernel) rfl, by decide +kernel, by decide⟩, by decide, rfl, am_gi 794 (by decide +kernel) rfl, am_gi 795 (by decide +kernel) rfl⟩
def m8_within : am_M := (yX8_within, cX8_within, 3, (some .boolean))
theorem m8_within_S : am_mS m8_within 3 := ⟨⟨by decide, am_gi 799 (by decide +kernel) rfl, am_gi 9 (by decide +kernel) rfl, by decide +kernel, by decide⟩, am_gi 798 (by decide +kernel) rfl⟩
def m8_clear : am_M := (yX8_clear, cX8_clear, 2, (some .int))
theorem m8_clear_V : am_mV m8_clear 0 8 := ⟨⟨by decide, am_gi 803 (by decide +kernel) rfl, am_gi 9 (by decide +kernel) rfl, by decide +kernel, by decide⟩, by decide, rfl, am_gi 801 (by decide +kernel) rfl, am_gi 802 (by decide +kernel) rfl⟩
def m8_tells : am_M := (yX8_tells, cX8_tells, 3, (some .int))
theorem m8_tells_V : am_mV m8_tells 0 8 := ⟨⟨by decide, am_gi 807 (by decide +kernel) rfl, am_gi 9 (by decide +kernel) rfl, by decide +kernel, by decide⟩, by decide, rfl, am_gi 805 (by decide +kernel) rfl, am_gi 806 (by decide +kernel) rfl⟩
def m8_reads : am_M := (yX8_reads, cX8_reads, 2, (some .int))
theorem m8_reads_V : am_mV m8_reads 0 8 := ⟨⟨by decide, am_gi 811 (by decide +kernel) rfl, am_gi 9 (by decide +kernel) rfl, by decide +kernel, by decide⟩, by decide, rfl, am_gi 810 (by decide +kernel) rfl, am_gs (n := 21) 54 (by decide +kernel)⟩
def m8_skips : am_M := (yX8_skips, cX8_skips, 1, none)
theorem m8_skips_V : am_mV m8_skips 0 8 := ⟨⟨by decide, am_gi 815 (by decide +kernel) rfl, am_gi 9 (by decide +kernel) rfl, by decide +kernel, by decide⟩, by decide, rfl, am_gi 814 (by decide +kernel) rfl, am_gs (n := 21) 55 (by decide +kernel)⟩
def m8_readsItem : am_M := (yX8_readsItem, cX8_readsItem, 1, (some .boolean))
theorem m8_readsItem_V : am_mV m8_readsItem 0 8 := ⟨⟨by decide, am_gi 819 (by decide +kernel) rfl, am_gi 9 (by decide +kernel) rfl, by decide +kernel, by decide⟩, by decide, rfl, am_gi 818 (by decide +kernel) rfl, am_gs (n := 21) 56 (by decide +kernel)⟩
def m8_isAt : am_M := (yX8_isAt, cX8_isAt, 3, (some .boolean))
theorem m8_isAt_V : am_mV m8_isAt 2 8 := ⟨⟨by decide, am_gi 823 (by decide +kernel) rfl, am_gi 9 (by decide +kernel) rfl, by decide +kernel, by decide⟩, by decide, rfl, am_gi 822 (by decide +kernel) rfl, am_gs (n := 21) 57 (by decide +kernel)⟩
def m8_spells : am_M := (yX8_spells, cX8_spells, 7, (some .boolean))
theorem m8_spells_V : am_mV m8_spells 4 8 := ⟨⟨by decide, am_gi 827 (by decide +kernel) rfl, am_gi 9 (by decide +kernel) rfl, by decide +kernel, by decide⟩, by decide, rfl, am_gi 826 (by decide +kernel) rfl, am_gs (n := 21) 58 (by decide +kernel)⟩
def m8_readsWall : am_M := (yX8_readsWall, cX8_readsWall, 2, (some .boolean))
theorem m8_readsWall_V : am_mV m8_readsWall 0 8 := ⟨⟨by decide, am_gi 831 (by decide +kernel) rfl, am_gi 9 (by decide +kernel) rfl, by decide +kernel, by decide⟩, by decide, rfl, am_gi 830 (by decide +kernel) rfl, am_gs (n := 21) 59 (by decide +kernel)⟩
def m8_puts : am_M := (yX8_puts, cX8_puts, 6, (some .boolean))
theorem m8_puts_V : am_mV m8_puts 3 8 := ⟨⟨by decide, am_gi 835 (by decide +kernel) rfl, am_gi 9 (by decide +kernel) rfl, by decide +kernel, by decide⟩, by decide, rfl, am_gi 834 (by decide +kernel) rfl, am_gs (n := 21) 60 (by decide +kernel)⟩
def m8_readsPicture : am_M := (yX8_readsPicture, cX8_readsPicture, 2, (some .boolean))
theorem m8_readsPicture_V : am_mV m8_readsPicture 0 8 := ⟨⟨by decide, am_gi 839 (by decide +kernel) rfl, am_gi 9 (by decide +kernel) rfl, by decide +kernel, by decide⟩, by decide, rfl, am_gi 838 (by decide +kernel) rfl, am_gs (n := 21) 61 (by decide +kernel)⟩
def m8_readsDoor : am_M := (yX8_readsDoor, cX8_readsDoor, 2, (some .boolean))
theorem m8_readsDoor_V : am_mV m8_readsDoor 0 8 := ⟨⟨by decide, am_gi 843 (by decide +kernel) rfl, am_gi 9 (by decide +kernel) rfl, by decide +kernel, by decide⟩, by decide, rfl, am_gi 842 (by decide +kernel) rfl, am_gs (n := 21) 62 (by decide +kernel)⟩
def m8_readsHole : am_M := (yX8_readsHole, cX8_readsHole, 3, (some .boolean))
theorem m8_readsHole_V : am_mV m8_readsHole 0 8 := ⟨⟨by decide, am_gi 847 (by decide +kernel) rfl, am_gi 9 (by decide +kernel) rfl, by decide +kernel, by decide⟩, by decide, rfl, am_gi 846 (by decide +kernel) rfl, am_gs (n := 21) 63 (by decide +kernel)⟩
def m8_passesEnd : am_M := (yX8_passesEnd, cX8_passesEnd, 2, (some .boolean))
theorem m8_passesEnd_V : am_mV m8_passesEnd 0 8 := ⟨⟨by decide, am_gi 851 (by decide +kernel) rfl, am_gi 9 (by decide +kernel) rfl, by decide +kernel, by decide⟩, by decide, rfl, am_gi 850 (by decide +kernel) rfl, am_gs (n := 21) 64 (by decide +kernel)⟩
def m8_keeps : am_M := (yX8_keeps, cX8_keeps, 2, none)
theorem m8_keeps_V : am_mV m8_keeps 0 8 := ⟨⟨by decide, am_gi 855 (by decide +kernel) rfl, am_gi 9 (by decide +kernel) rfl, by decide +kernel, by decide⟩, by decide, rfl, am_gi 854 (by decide +kernel) rfl, am_gs (n := 21) 65 (by decide +kernel)⟩
def m8_hangs : am_M := (yX8_hangs, cX8_hangs, 5, (some .int))
theorem m8_hangs_V : am_mV m8_hangs 2 8 := ⟨⟨by decide, am_gi 859 (by decide +kernel) rfl, am_gi 9 (by decide +kernel) rfl, by decide +kernel, by decide⟩, by decide, rfl, am_gi 857 (by decide +kernel) rfl, am_gi 858 (by decide +kernel) rfl⟩
def m8_isPicture : am_M := (yX8_isPicture, cX8_isPicture, 2, (some .boolean))
theorem m8_isPicture_V : am_mV m8_isPicture 1 8 := ⟨⟨by decide, am_gi 863 (by decide +kernel) rfl, am_gi 9 (by decide +kernel) rfl, by decide +kernel, by decide⟩, by decide, rfl, am_gi 862 (by decide +kernel) rfl, am_gs (n := 21) 66 (by decide +kernel)⟩
def m8_hangsNow : am_M := (yX8_hangsNow, cX8_hangsNow, 2, (some .boolean))
theorem m8_hangsNow_V : am_mV m8_hangsNow 1 8 := ⟨⟨by decide, am_gi 867 (by decide +kernel) rfl, am_gi 9 (by decide +kernel) rfl, by decide +kernel, by decide⟩, by decide, rfl, am_gi 866 (by decide +kernel) rfl, am_gs (n := 21) 67 (by decide +kernel)⟩
def m8_doesFit : am_M := (yX8_doesFit, cX8_doesFit, 6, (some .boolean))
theorem m8_doesFit_V : am_mV m8_doesFit 2 8 := ⟨⟨by decide, am_gi 871 (by decide +kernel) rfl, am_gi 9 (by decide +kernel) rfl, by decide +kernel, by decide⟩, by decide, rfl, am_gi 870 (by decide +kernel) rfl, am_gs (n := 21) 68 (by decide +kernel)⟩
def m8_ofPicture : am_M := (yX8_ofPicture, cX8_ofPicture, 3, (some .int))
theorem m8_ofPicture_V : am_mV m8_ofPicture 2 8 := ⟨⟨by decide, am_gi 875 (by decide +kernel) rfl, am_gi 9 (by decide +kernel) rfl, by decide +kernel, by decide⟩, by decide, rfl, am_gi 874 (by decide +kernel) rfl, am_gs (n := 21) 69 (by decide +kernel)⟩
def m8_isApart : am_M := (yX8_isApart, cX8_isApart, 8, (some .boolean))
theorem m8_isApart_V : am_mV m8_isApart 2 8 := ⟨⟨by decide, am_gi 879 (by decide +kernel) rfl, am_gi 9 (by decide +kernel) rfl, by decide +kernel, by decide⟩, by decide, rfl, am_gi 878 (by decide +kernel) rfl, am_gs (n := 21) 70 (by decide +kernel)⟩
def m8_hasHole : am_M := (yX8_hasHole, cX8_hasHole, 3, (some .boolean))
theorem m8_hasHole_V : am_mV m8_hasHole 2 8 := ⟨⟨by decide, am_gi 883 (by decide +kernel) rfl, am_gi 9 (by decide +kernel) rfl, by decide +kernel, by decide⟩, by decide, rfl, am_gi 882 (by decide +kernel) rfl, am_gs (n := 21) 71 (by decide +kernel)⟩
def m8_hookX : am_M := (yX8_hookX, cX8_hookX, 3, (some .int))
theorem m8_hookX_V : am_mV m8_hookX 2 8 := ⟨⟨by decide, am_gi 887 (by decide +kernel) rfl, am_gi 9 (by decide +kernel) rfl, by decide +kernel, by decide⟩, by decide, rfl, am_gi 886 (by decide +kernel) rfl, am_gs (n := 21) 72 (by decide +kernel)⟩
def m8_hookY : am_M := (yX8_hookY, cX8_hookY, 2, (some .int))
theorem m8_hookY_V : am_mV m8_hookY 1 8 := ⟨⟨by decide, am_gi 891 (by decide +kernel) rfl, am_gi 9 (by decide +kernel) rfl, by decide +kernel, by decide⟩, by decide, rfl, am_gi 890 (by decide +kernel) rfl, am_gs (n := 21) 73 (by decide +kernel)⟩
def m8_holeAt : am_M := (yX8_holeAt, cX8_holeAt, 5, (some .int))
theorem m8_holeAt_V : am_mV m8_holeAt 2 8 := ⟨⟨by decide, am_gi 895 (by decide +kernel) rfl, am_gi 9 (by decide +kernel) rfl, by decide +kernel, by decide⟩, by decide, rfl, am_gi 894 (by decide +kernel) rfl, am_gs (n := 21) 74 (by decide +kernel)⟩
def m8_takes : am_M := (yX8_takes, cX8_takes, 3, (some .int))
theorem m8_takes_V : am_mV m8_takes 1 8 := ⟨⟨by decide, am_gi 899 (by decide +kernel) rfl, am_gi 9 (by decide +kernel) rfl, by decide +kernel, by decide⟩, by decide, rfl, am_gi 897 (by decide +kernel) rfl, am_gi 898 (by decide +kernel) rfl⟩
def m8_fills : am_M := (yX8_fills, cX8_fills, 3, (some .int))
theorem m8_fills_V : am_mV m8_fills 1 8 := ⟨⟨by decide, am_gi 903 (by decide +kernel) rfl, am_gi 9 (by decide +kernel) rfl, by decide +kernel, by decide⟩, by decide, rfl, am_gi 901 (by decide +kernel) rfl, am_gi 902 (by decide +kernel) rfl⟩
def m8_isHole : am_M := (yX8_isHole, cX8_isHole, 2, (some .boolean))
theorem m8_isHole_V : am_mV m8_isHole 1 8 := ⟨⟨by decide, am_gi 907 (by decide +kernel) rfl, am_gi 9 (by decide +kernel) rfl, by decide +kernel, by decide⟩, by decide, rfl, am_gi 906 (by decide +kernel) rfl, am_gs (n := 21) 75 (by decide +kernel)⟩
def m8_hangingAt : am_M := (yX8_hangingAt, cX8_hangingAt, 5, (some .int))
theorem m8_hangingAt_V : am_mV m8_hangingAt 1 8 := ⟨⟨by decide, am_gi 911 (by decide +kernel) rfl, am_gi 9 (by decide +kernel) rfl, by decide +kernel, by decide⟩, by decide, rfl, am_gi 910 (by decide +kernel) rfl, am_gs (n := 21) 76 (by decide +kernel)⟩
def m8_lines : am_M := (yX8_lines, cX8_lines, 4, (some .int))
theorem m8_lines_V : am_mV m8_lines 1 8 := ⟨⟨by decide, am_gi 915 (by decide +kernel) rfl, am_gi 9 (by decide +kernel) rfl, by decide +kernel, by decide⟩, by decide, rfl, am_gi 913 (by decide +kernel) rfl, am_gi 914 (by decide +kernel) rfl⟩
def m8_undo : am_M := (yX8_undo, cX8_undo, 2, (some .int))
theorem m8_undo_V : am_mV m8_undo 0 8 := ⟨⟨by decide, am_gi 919 (by decide +kernel) rfl, am_gi 9 (by decide +kernel) rfl, by decide +kernel, by decide⟩, by decide, rfl, am_gi 917 (by decide +kernel) rfl, am_gi 918 (by decide +kernel) rfl⟩
def m8_picture : am_M := (yX8_picture, cX8_picture, 3, (some .int))
theorem m8_picture_V : am_mV m8_picture 2 8 := ⟨⟨by decide, am_gi 923 (by decide +kernel) rfl, am_gi 9 (by decide +kernel) rfl, by decide +kernel, by decide⟩, by decide, rfl, am_gi 921 (by decide +kernel) rfl, am_gi 922 (by decide +kernel) rfl⟩
def m8_hole : am_M := (yX8_hole, cX8_hole, 3, (some .int))
theorem m8_hole_V : am_mV m8_hole 2 8 := ⟨⟨by decide, am_gi 928 (by decide +kernel) rfl, am_gi 9 (by decide +kernel) rfl, by decide +kernel, by decide⟩, by decide, rfl, am_gi 926 (by decide +kernel) rfl, am_gi 927 (by decide +kernel) rfl⟩
def m8_door : am_M := (yX8_door, cX8_door, 3, (some .int))
theorem m8_door_V : am_mV m8_door 2 8 := ⟨⟨by decide, am_gi 932 (by decide +kernel) rfl, am_gi 9 (by decide +kernel) rfl, by decide +kernel, by decide⟩, by decide, rfl, am_gi 930 (by decide +kernel) rfl, am_gi 931 (by decide +kernel) rfl⟩
def m8_moment : am_M := (yX8_moment, cX8_moment, 2, (some .int))
theorem m8_moment_V : am_mV m8_moment 1 8 := ⟨⟨by decide, am_gi 936 (by decide +kernel) rfl, am_gi 9 (by decide +kernel) rfl, by decide +kernel, by decide⟩, by decide, rfl, am_gi 934 (by decide +kernel) rfl, am_gi 935 (by decide +kernel) rfl⟩
def m8_momentNow : am_M := (yX8_momentNow, cX8_momentNow, 3, (some .int))
theorem m8_momentNow_V : am_mV m8_momentNow 0 8 := ⟨⟨by decide, am_gi 940 (by decide +kernel) rfl, am_gi 9 (by decide +kernel) rfl, by decide +kernel, by decide⟩, by decide, rfl, am_gi 939 (by decide +kernel) rfl, am_gs (n := 21) 77 (by decide +kernel)⟩
def m8_leanOf : am_M := (yX8_leanOf, cX8_leanOf, 3, (some .int))
theorem m8_leanOf_V : am_mV m8_leanOf 2 8 := ⟨⟨by decide, am_gi 944 (by decide +kernel) rfl, am_gi 9 (by decide +kernel) rfl, by decide +kernel, by decide⟩, by decide, rfl, am_gi 943 (by decide +kernel) rfl, am_gs (n := 21) 78 (by decide +kernel)⟩
def m8_off : am_M := (yX8_off, cX8_off, 1, (some .int))
theorem m8_off_S : am_mS m8_off 1 := ⟨⟨by decide, am_gi 947 (by decide +kernel) rfl, am_gi 9 (by decide +kernel) rfl, by decide +kernel, by decide⟩, am_gi 946 (by decide +kernel) rfl⟩
def m8_best : am_M := (yX8_best, cX8_best, 2, (some .int))
theorem m8_best_V : am_mV m8_best 1 8 := ⟨⟨by decide, am_gi 951 (by decide +kernel) rfl, am_gi 9 (by decide +kernel) rfl, by decide +kernel, by decide⟩, by decide, rfl, am_gi 949 (by decide +kernel) rfl, am_gi 950 (by decide +kernel) rfl⟩
def m8_findsBest : am_M := (yX8_findsBest, cX8_findsBest, 6, none)
theorem m8_findsBest_V : am_mV m8_findsBest 0 8 := ⟨⟨by decide, am_gi 955 (by decide +kernel) rfl, am_gi 9 (by decide +kernel) rfl, by decide +kernel, by decide⟩, by decide, rfl, am_gi 954 (by decide +kernel) rfl, am_gs (n := 21) 79 (by decide +kernel)⟩
def m8_laysPlaces : am_M := (yX8_laysPlaces, cX8_laysPlaces, 2, none)
theorem m8_laysPlaces_V : am_mV m8_laysPlaces 0 8 := ⟨⟨by decide, am_gi 959 (by decide +kernel) rfl, am_gi 9 (by decide +kernel) rfl, by decide +kernel, by decide⟩, by decide, rfl, am_gi 958 (by decide +kernel) rfl, am_gs (n := 21) 80 (by decide +kernel)⟩
def m8_isOrder : am_M := (yX8_isOrder, cX8_isOrder, 5, (some .boolean))
theorem m8_isOrder_V : am_mV m8_isOrder 1 8 := ⟨⟨by decide, am_gi 963 (by decide +kernel) rfl, am_gi 9 (by decide +kernel) rfl, by decide +kernel, by decide⟩, by decide, rfl, am_gi 962 (by decide +kernel) rfl, am_gs (n := 21) 81 (by decide +kernel)⟩
def m8_tries : am_M := (yX8_tries, cX8_tries, 9, none)
theorem m8_tries_V : am_mV m8_tries 2 8 := ⟨⟨by decide, am_gi 967 (by decide +kernel) rfl, am_gi 9 (by decide +kernel) rfl, by decide +kernel, by decide⟩, by decide, rfl, am_gi 966 (by decide +kernel) rfl, am_gs (n := 21) 82 (by decide +kernel)⟩
def m8_places : am_M := (yX8_places, cX8_places, 3, (some .int))
theorem m8_places_V : am_mV m8_places 2 8 := ⟨⟨by decide, am_gi 971 (by decide +kernel) rfl, am_gi 9 (by decide +kernel) rfl, by decide +kernel, by decide⟩, by decide, rfl, am_gi 969 (by decide +kernel) rfl, am_gi 970 (by decide +kernel) rfl⟩
def m8_tellPlaces : am_M := (yX8_tellPlaces, cX8_tellPlaces, 10, (some .int))
theorem m8_tellPlaces_V : am_mV m8_tellPlaces 2 8 := ⟨⟨by decide, am_gi 975 (by decide +kernel) rfl, am_gi 9 (by decide +kernel) rfl, by decide +kernel, by decide⟩, by decide, rfl, am_gi 974 (by decide +kernel) rfl, am_gs (n := 21) 83 (by decide +kernel)⟩
def m8_most : am_M := (yX8_most, cX8_most, 8, (some .int))
theorem m8_most_V : am_mV m8_most 0 8 := ⟨⟨by decide, am_gi 979 (by decide +kernel) rfl, am_gi 9 (by decide +kernel) rfl, by decide +kernel, by decide⟩, by decide, rfl, am_gi 977 (by decide +kernel) rfl, am_gi 978 (by decide +kernel) rfl⟩
def m8_reachOf : am_M := (yX8_reachOf, cX8_reachOf, 7, (some .int))
theorem m8_reachOf_V : am_mV m8_reachOf 1 8 := ⟨⟨by decide, am_gi 983 (by decide +kernel) rfl, am_gi 9 (by decide +kernel) rfl, by decide +kernel, by decide⟩, by decide, rfl, am_gi 982 (by decide +kernel) rfl, am_gs (n := 21) 84 (by decide +kernel)⟩
def m8_has : am_M := (yX8_has, cX8_has, 2, (some .boolean))
theorem m8_has_S : am_mS m8_has 2 := ⟨⟨by decide, am_gi 986 (by decide +kernel) rfl, am_gi 9 (by decide +kernel) rfl, by decide +kernel, by decide⟩, am_gi 985 (by decide +kernel) rfl⟩
def m8_sees : am_M := (yX8_sees, cX8_sees, 3, (some .int))
theorem m8_sees_V : am_mV m8_sees 2 8 := ⟨⟨by decide, am_gi 990 (by decide +kernel) rfl, am_gi 9 (by decide +kernel) rfl, by decide +kernel, by decide⟩, by decide, rfl, am_gi 988 (by decide +kernel) rfl, am_gi 989 (by decide +kernel) rfl⟩
def m8_forget : am_M := (yX8_forget, cX8_forget, 2, (some .int))
theorem m8_forget_V : am_mV m8_forget 0 8 := ⟨⟨by decide, am_gi 994 (by decide +kernel) rfl, am_gi 9 (by decide +kernel) rfl, by decide +kernel, by decide⟩, by decide, rfl, am_gi 992 (by decide +kernel) rfl, am_gi 993 (by decide +kernel) rfl⟩
def m8_which : am_M := (yX8_which, cX8_which, 5, (some .int))
theorem m8_which_V : am_mV m8_which 1 8 := ⟨⟨by decide, am_gi 998 (by decide +kernel) rfl, am_gi 9 (by decide +kernel) rfl, by decide +kernel, by decide⟩, by decide, rfl, am_gi 996 (by decide +kernel) rfl, am_gi 997 (by decide +kernel) rfl⟩
def m8_isSeen : am_M := (yX8_isSeen, cX8_isSeen, 6, (some .boolean))
theorem m8_isSeen_V : am_mV m8_isSeen 1 8 := ⟨⟨by decide, am_gi 1002 (by decide +kernel) rfl, am_gi 9 (by decide +kernel) rfl, by decide +kernel, by decide⟩, by decide, rfl, am_gi 1001 (by decide +kernel) rfl, am_gs (n := 21) 85 (by decide +kernel)⟩
def m8_keep : am_M := (yX8_keep, cX8_keep, 3, (some .int))
theorem m8_keep_V : am_mV m8_keep 1 8 := ⟨⟨by decide, am_gi 1006 (by decide +kernel) rfl, am_gi 9 (by decide +kernel) rfl, by decide +kernel, by decide⟩, by decide, rfl, am_gi 1004 (by decide +kernel) rfl, am_gi 1005 (by decide +kernel) rfl⟩
def m8_hanging : am_M := (yX8_hanging, cX8_hanging, 3, (some .int))
theorem m8_hanging_V : am_mV m8_hanging 0 8 := ⟨⟨by decide, am_gi 1010 (by decide +kernel) rfl, am_gi 9 (by decide +kernel) rfl, by decide +kernel, by decide⟩, by decide, rfl, am_gi 1009 (by decide +kernel) rfl, am_gs (n := 21) 86 (by decide +kernel)⟩
def m8_back : am_M := (yX8_back, cX8_back, 3, (some .int))
theorem m8_back_V : am_mV m8_back 1 8 := ⟨⟨by decide, am_gi 1014 (by decide +kernel) rfl, am_gi 9 (by decide +kernel) rfl, by decide +kernel, by decide⟩, by decide, rfl, am_gi 1012 (by decide +kernel) rfl, am_gi 1013 (by decide +kernel) rfl⟩
def m8_count : am_M := (yX8_count, cX8_count, 2, (some .int))
theorem m8_count_V : am_mV m8_count 1 8 := ⟨⟨by decide, am_gi 1018 (by decide +kernel) rfl, am_gi 9 (by decide +kernel) rfl, by decide +kernel, by decide⟩, by decide, rfl, am_gi 1016 (by decide +kernel) rfl, am_gi 1017 (by decide +kernel) rfl⟩
theorem lk7_1 : am_lk RX7 1 (⟨"java/lang/Object", "<init>", "()V"⟩ : MethodName) := Or.inl (am_gi 22 (by decide +kernel) rfl)
theorem lk2_3 : am_lk RX2 3 (⟨"java/lang/Object", "<init>", "()V"⟩ : MethodName) := Or.inl (am_gi 30 (by decide +kernel) rfl)
theorem lk5_3 : am_lk RX5 3 (⟨"java/lang/Object", "<init>", "()V"⟩ : MethodName) := Or.inl (am_gi 36 (by decide +kernel) rfl)
theorem lk6_3 : am_lk RX6 3 (⟨"java/lang/Object", "<init>", "()V"⟩ : MethodName) := Or.inl (am_gi 79 (by decide +kernel) rfl)
theorem lk6_39 : am_lk RX6 39 yX6_makeBare := Or.inl (am_gi 80 (by decide +kernel) rfl)
theorem lk1_3 : am_lk RX1 3 (⟨"java/lang/Object", "<init>", "()V"⟩ : MethodName) := Or.inl (am_gi 168 (by decide +kernel) rfl)
theorem lk3_3 : am_lk RX3 3 (⟨"java/lang/Object", "<init>", "()V"⟩ : MethodName) := Or.inl (am_gi 185 (by decide +kernel) rfl)
theorem lk0_3 : am_lk RX0 3 (⟨"java/lang/Object", "<init>", "()V"⟩ : MethodName) := Or.inl (am_gi 235 (by decide +kernel) rfl)
theorem lk4_3 : am_lk RX4 3 (⟨"java/lang/Object", "<init>", "()V"⟩ : MethodName) := Or.inl (am_gi 245 (by decide +kernel) rfl)
theorem lk5_25 : am_lk RX5 25 yX5_endOfToken := Or.inl (am_gi 315 (by decide +kernel) rfl)
theorem lk5_45 : am_lk RX5 45 yX5_sortAt := Or.inl (am_gi 318 (by decide +kernel) rfl)
theorem lk5_29 : am_lk RX5 29 yX5_kindOf := Or.inl (am_gi 321 (by decide +kernel) rfl)
theorem lk5_49 : am_lk RX5 49 yX5_kindOfFigures := Or.inl (am_gi 324 (by decide +kernel) rfl)
theorem lk5_57 : am_lk RX5 57 yX5_spells := Or.inl (am_gi 328 (by decide +kernel) rfl)
theorem lk5_71 : am_lk RX5 71 yJ0_length_8abf5 := Or.inl (am_gi 331 (by decide +kernel) rfl)
theorem lk5_77 : am_lk RX5 77 yJ0_charAt_5068e := Or.inl (am_gi 341 (by decide +kernel) rfl)
theorem lk5_32 : am_lk RX5 32 yX5_valueOf := Or.inl (am_gi 379 (by decide +kernel) rfl)
theorem lk5_81 : am_lk RX5 81 yJ9_min_7cf53 := Or.inl (am_gi 382 (by decide +kernel) rfl)
theorem lk5_52 : am_lk RX5 52 yX5_kindOfWord := Or.inl (am_gi 385 (by decide +kernel) rfl)
theorem lk5_35 : am_lk RX5 35 yX5_add := Or.inl (am_gi 393 (by decide +kernel) rfl)
theorem lk5_39 : am_lk RX5 39 yJ9_max_7cf53 := Or.inl (am_gi 397 (by decide +kernel) rfl)
theorem lk2_35 : am_lk RX2 35 yX2_readToken := Or.inl (am_gi 401 (by decide +kernel) rfl)
theorem lk2_41 : am_lk RX2 41 yX2_readItem := Or.inl (am_gi 405 (by decide +kernel) rfl)
theorem lk2_68 : am_lk RX2 68 yX2_readWall := Or.inl (am_gi 409 (by decide +kernel) rfl)
theorem lk2_89 : am_lk RX2 89 yX2_readNumber := Or.inl (am_gi 413 (by decide +kernel) rfl)
theorem lk2_74 : am_lk RX2 74 yX2_readPicture := Or.inl (am_gi 417 (by decide +kernel) rfl)
theorem lk2_80 : am_lk RX2 80 yX2_readDoor := Or.inl (am_gi 425 (by decide +kernel) rfl)
theorem lk2_86 : am_lk RX2 86 yX2_readHole := Or.inl (am_gi 433 (by decide +kernel) rfl)
theorem lk2_45 : am_lk RX2 45 yX2_readSemicolon := Or.inl (am_gi 445 (by decide +kernel) rfl)
theorem lk7_78 : am_lk RX7 78 yX7_remember := Or.inl (am_gi 449 (by decide +kernel) rfl)
theorem lk1_22 : am_lk RX1 22 yX1_loseOldest := Or.inl (am_gi 457 (by decide +kernel) rfl)
theorem lk6_61 : am_lk RX6 61 (⟨"java/lang/System", "arraycopy", "(Ljava/lang/Object;ILjava/lang/Object;II)V"⟩ : MethodName) := Or.inl (am_gi 465 (by decide +kernel) rfl)
theorem lk6_71 : am_lk RX6 71 yX6_hasPicture := Or.inl (am_gi 482 (by decide +kernel) rfl)
theorem lk6_85 : am_lk RX6 85 yX6_fits := Or.inl (am_gi 487 (by decide +kernel) rfl)
theorem lk6_89 : am_lk RX6 89 yX6_isApartFromAll := Or.inl (am_gi 491 (by decide +kernel) rfl)
theorem lk6_74 : am_lk RX6 74 yX6_hookX := Or.inl (am_gi 499 (by decide +kernel) rfl)
theorem lk6_78 : am_lk RX6 78 yX6_hookY := Or.inl (am_gi 503 (by decide +kernel) rfl)
theorem lk6_82 : am_lk RX6 82 yX6_findHole := Or.inl (am_gi 507 (by decide +kernel) rfl)
theorem lk6_92 : am_lk RX6 92 yX6_hasHoleFor := Or.inl (am_gi 512 (by decide +kernel) rfl)
theorem lk6_95 : am_lk RX6 95 yX6_addHole := Or.inl (am_gi 513 (by decide +kernel) rfl)
theorem lk6_67 : am_lk RX6 67 yX6_hasHole := Or.inl (am_gi 530 (by decide +kernel) rfl)
theorem lk6_99 : am_lk RX6 99 yX6_momentAt := Or.inl (am_gi 577 (by decide +kernel) rfl)
theorem lk7_168 : am_lk RX7 168 yJ9_abs_0f7a4 := Or.inl (am_gi 581 (by decide +kernel) rfl)
theorem lk3_63 : am_lk RX3 63 yX3_markPlaces := Or.inl (am_gi 592 (by decide +kernel) rfl)
theorem lk3_74 : am_lk RX3 74 yX3_tryAllGaps := Or.inl (am_gi 600 (by decide +kernel) rfl)
theorem lk3_95 : am_lk RX3 95 yX3_tryOrders := Or.inl (am_gi 604 (by decide +kernel) rfl)
theorem lk3_99 : am_lk RX3 99 yJ9_abs_0f7a4 := Or.inl (am_gi 607 (by decide +kernel) rfl)
theorem lk3_104 : am_lk RX3 104 yX3_takeIfBetter := Or.inl (am_gi 608 (by decide +kernel) rfl)
theorem lk3_112 : am_lk RX3 112 (⟨"java/lang/System", "arraycopy", "(Ljava/lang/Object;ILjava/lang/Object;II)V"⟩ : MethodName) := Or.inl (am_gi 612 (by decide +kernel) rfl)
theorem lk3_108 : am_lk RX3 108 yX3_isMarked := Or.inl (am_gi 613 (by decide +kernel) rfl)
theorem lk3_42 : am_lk RX3 42 yX3_pictureAt := Or.inl (am_gi 620 (by decide +kernel) rfl)
theorem lk7_179 : am_lk RX7 179 yX7_countPlaces := Or.inl (am_gi 628 (by decide +kernel) rfl)
theorem lk7_182 : am_lk RX7 182 yX7_leastPlace := Or.inl (am_gi 632 (by decide +kernel) rfl)
theorem lk7_186 : am_lk RX7 186 yX7_calmestPlace := Or.inl (am_gi 636 (by decide +kernel) rfl)
theorem lk0_24 : am_lk RX0 24 yX0_leastEnd := Or.inl (am_gi 649 (by decide +kernel) rfl)
theorem lk0_39 : am_lk RX0 39 yJ9_min_7cf53 := Or.inl (am_gi 657 (by decide +kernel) rfl)
theorem lk0_28 : am_lk RX0 28 yX0_isBetter := Or.inl (am_gi 658 (by decide +kernel) rfl)
theorem lk0_44 : am_lk RX0 44 yJ6_bitCount_0f7a4 := Or.inl (am_gi 661 (by decide +kernel) rfl)
theorem lk0_50 : am_lk RX0 50 yX0_weightOf := Or.inl (am_gi 667 (by decide +kernel) rfl)
theorem lk4_27 : am_lk RX4 27 yX4_matches := Or.inl (am_gi 690 (by decide +kernel) rfl)
theorem lk4_31 : am_lk RX4 31 yX4_measured := Or.inl (am_gi 694 (by decide +kernel) rfl)
theorem lk8_1 : am_lk RX8 1 (⟨"java/lang/Object", "<init>", "()V"⟩ : MethodName) := Or.inl (am_gi 725 (by decide +kernel) rfl)
theorem lk8_53 : am_lk RX8 53 yX8_bares := Or.inl (am_gi 726 (by decide +kernel) rfl)
theorem lk8_67 : am_lk RX8 67 yX8_within := Or.inl (am_gi 797 (by decide +kernel) rfl)
theorem lk8_111 : am_lk RX8 111 yX8_reads := Or.inl (am_gi 808 (by decide +kernel) rfl)
theorem lk8_71 : am_lk RX8 71 yX8_skips := Or.inl (am_gi 812 (by decide +kernel) rfl)
theorem lk8_102 : am_lk RX8 102 yX8_readsItem := Or.inl (am_gi 816 (by decide +kernel) rfl)
theorem lk8_74 : am_lk RX8 74 yX8_isAt := Or.inl (am_gi 820 (by decide +kernel) rfl)
theorem lk8_85 : am_lk RX8 85 yX8_spells := Or.inl (am_gi 824 (by decide +kernel) rfl)
theorem lk8_89 : am_lk RX8 89 yX8_readsWall := Or.inl (am_gi 828 (by decide +kernel) rfl)
theorem lk8_82 : am_lk RX8 82 yX8_puts := Or.inl (am_gi 832 (by decide +kernel) rfl)
theorem lk8_93 : am_lk RX8 93 yX8_readsPicture := Or.inl (am_gi 836 (by decide +kernel) rfl)
theorem lk8_96 : am_lk RX8 96 yX8_readsDoor := Or.inl (am_gi 840 (by decide +kernel) rfl)
theorem lk8_99 : am_lk RX8 99 yX8_readsHole := Or.inl (am_gi 844 (by decide +kernel) rfl)
theorem lk8_105 : am_lk RX8 105 yX8_passesEnd := Or.inl (am_gi 848 (by decide +kernel) rfl)
theorem lk8_115 : am_lk RX8 115 yX8_keeps := Or.inl (am_gi 852 (by decide +kernel) rfl)
theorem lk8_136 : am_lk RX8 136 yX8_isPicture := Or.inl (am_gi 860 (by decide +kernel) rfl)
theorem lk8_122 : am_lk RX8 122 yX8_hangsNow := Or.inl (am_gi 864 (by decide +kernel) rfl)
theorem lk8_139 : am_lk RX8 139 yX8_doesFit := Or.inl (am_gi 868 (by decide +kernel) rfl)
theorem lk8_118 : am_lk RX8 118 yX8_ofPicture := Or.inl (am_gi 872 (by decide +kernel) rfl)
theorem lk8_142 : am_lk RX8 142 yX8_isApart := Or.inl (am_gi 876 (by decide +kernel) rfl)
theorem lk8_145 : am_lk RX8 145 yX8_hasHole := Or.inl (am_gi 880 (by decide +kernel) rfl)
theorem lk8_126 : am_lk RX8 126 yX8_hookX := Or.inl (am_gi 884 (by decide +kernel) rfl)
theorem lk8_129 : am_lk RX8 129 yX8_hookY := Or.inl (am_gi 888 (by decide +kernel) rfl)
theorem lk8_133 : am_lk RX8 133 yX8_holeAt := Or.inl (am_gi 892 (by decide +kernel) rfl)
theorem lk8_148 : am_lk RX8 148 yX8_isHole := Or.inl (am_gi 904 (by decide +kernel) rfl)
theorem lk8_151 : am_lk RX8 151 yX8_hangingAt := Or.inl (am_gi 908 (by decide +kernel) rfl)
theorem lk8_158 : am_lk RX8 158 yX8_momentNow := Or.inl (am_gi 937 (by decide +kernel) rfl)
theorem lk8_155 : am_lk RX8 155 yX8_leanOf := Or.inl (am_gi 941 (by decide +kernel) rfl)
theorem lk8_161 : am_lk RX8 161 yX8_off := Or.inl (am_gi 945 (by decide +kernel) rfl)
theorem lk8_177 : am_lk RX8 177 yX8_findsBest := Or.inl (am_gi 952 (by decide +kernel) rfl)
theorem lk8_167 : am_lk RX8 167 yX8_laysPlaces := Or.inl (am_gi 956 (by decide +kernel) rfl)
theorem lk8_170 : am_lk RX8 170 yX8_isOrder := Or.inl (am_gi 960 (by decide +kernel) rfl)
theorem lk8_173 : am_lk RX8 173 yX8_tries := Or.inl (am_gi 964 (by decide +kernel) rfl)
theorem lk8_180 : am_lk RX8 180 yX8_tellPlaces := Or.inl (am_gi 972 (by decide +kernel) rfl)
theorem lk8_186 : am_lk RX8 186 yX8_reachOf := Or.inl (am_gi 980 (by decide +kernel) rfl)
theorem lk8_183 : am_lk RX8 183 yX8_has := Or.inl (am_gi 984 (by decide +kernel) rfl)
theorem lk8_192 : am_lk RX8 192 yX8_isSeen := Or.inl (am_gi 999 (by decide +kernel) rfl)
theorem lk8_195 : am_lk RX8 195 yX8_hanging := Or.inl (am_gi 1007 (by decide +kernel) rfl)
theorem lk7_19 : am_lk RX7 19 yX2_init := Or.inr ⟨"HungPictures", am_nm1 0 rfl⟩
theorem lk2_11 : am_lk RX2 11 yX5_init := Or.inr ⟨"HungPictures", am_nm1 1 rfl⟩
theorem lk7_26 : am_lk RX7 26 yX6_init := Or.inr ⟨"HungPictures", am_nm1 2 rfl⟩
theorem lk7_36 : am_lk RX7 36 yX1_init := Or.inr ⟨"HungPictures", am_nm1 3 rfl⟩
theorem lk1_17 : am_lk RX1 17 yX6_init := Or.inr ⟨"HungPictures", am_nm1 4 rfl⟩
theorem lk7_43 : am_lk RX7 43 yX3_init := Or.inr ⟨"HungPictures", am_nm1 5 rfl⟩
theorem lk7_54 : am_lk RX7 54 yX0_init := Or.inr ⟨"HungPictures", am_nm1 6 rfl⟩
theorem lk7_61 : am_lk RX7 61 yX4_init := Or.inr ⟨"HungPictures", am_nm1 7 rfl⟩
theorem lk7_74 : am_lk RX7 74 yX2_readInto := Or.inr ⟨"HungPictures", am_nm1 8 rfl⟩
theorem lk2_18 : am_lk RX2 18 yX5_cut := Or.inr ⟨"HungPictures", am_nm1 9 rfl⟩
theorem lk2_30 : am_lk RX2 30 yX6_makeBare := Or.inr ⟨"HungPictures", am_nm1 10 rfl⟩
theorem lk2_102 : am_lk RX2 102 yX6_addPicture := Or.inr ⟨"HungPictures", am_nm1 11 rfl⟩
theorem lk2_106 : am_lk RX2 106 yX6_addDoor := Or.inr ⟨"HungPictures", am_nm1 12 rfl⟩
theorem lk2_110 : am_lk RX2 110 yX6_findHole := Or.inr ⟨"HungPictures", am_nm1 13 rfl⟩
theorem lk2_114 : am_lk RX2 114 yX6_addHole := Or.inr ⟨"HungPictures", am_nm1 14 rfl⟩
theorem lk7_220 : am_lk RX7 220 yX1_add := Or.inr ⟨"HungPictures", am_nm1 15 rfl⟩
theorem lk1_25 : am_lk RX1 25 yX6_copyFrom := Or.inr ⟨"HungPictures", am_nm1 16 rfl⟩
theorem lk7_81 : am_lk RX7 81 yX6_copyFrom := Or.inr ⟨"HungPictures", am_nm1 17 rfl⟩
theorem lk7_85 : am_lk RX7 85 yX6_hasPicture := Or.inr ⟨"HungPictures", am_nm1 18 rfl⟩
theorem lk7_89 : am_lk RX7 89 yX6_isUp := Or.inr ⟨"HungPictures", am_nm1 19 rfl⟩
theorem lk7_92 : am_lk RX7 92 yX6_isFreeFor := Or.inr ⟨"HungPictures", am_nm1 20 rfl⟩
theorem lk7_96 : am_lk RX7 96 yX6_hasHoleFor := Or.inr ⟨"HungPictures", am_nm1 21 rfl⟩
theorem lk7_102 : am_lk RX7 102 yX6_putUp := Or.inr ⟨"HungPictures", am_nm1 22 rfl⟩
theorem lk7_109 : am_lk RX7 109 yX6_hasHole := Or.inr ⟨"HungPictures", am_nm1 23 rfl⟩
theorem lk7_112 : am_lk RX7 112 yX6_findPictureOn := Or.inr ⟨"HungPictures", am_nm1 24 rfl⟩
theorem lk7_116 : am_lk RX7 116 yX6_removeHole := Or.inr ⟨"HungPictures", am_nm1 25 rfl⟩
theorem lk7_123 : am_lk RX7 123 yX6_takeAllDown := Or.inr ⟨"HungPictures", am_nm1 26 rfl⟩
theorem lk7_126 : am_lk RX7 126 yX1_giveLatestTo := Or.inr ⟨"HungPictures", am_nm1 27 rfl⟩
theorem lk7_146 : am_lk RX7 146 yX6_hookY := Or.inr ⟨"HungPictures", am_nm1 28 rfl⟩
theorem lk7_155 : am_lk RX7 155 yX6_hasDoor := Or.inr ⟨"HungPictures", am_nm1 29 rfl⟩
theorem lk7_164 : am_lk RX7 164 yX6_momentNow := Or.inr ⟨"HungPictures", am_nm1 30 rfl⟩
theorem lk7_173 : am_lk RX7 173 yX3_search := Or.inr ⟨"HungPictures", am_nm1 31 rfl⟩
theorem lk3_77 : am_lk RX3 77 yX6_hasPicture := Or.inr ⟨"HungPictures", am_nm1 32 rfl⟩
theorem lk3_81 : am_lk RX3 81 yX6_fits := Or.inr ⟨"HungPictures", am_nm1 33 rfl⟩
theorem lk3_85 : am_lk RX3 85 yX6_hasHoleFor := Or.inr ⟨"HungPictures", am_nm1 34 rfl⟩
theorem lk3_70 : am_lk RX3 70 yX6_momentAt := Or.inr ⟨"HungPictures", am_nm1 35 rfl⟩
theorem lk7_176 : am_lk RX7 176 yX3_answer := Or.inr ⟨"HungPictures", am_nm1 36 rfl⟩
theorem lk7_222 : am_lk RX7 222 yX6_momentAt := Or.inr ⟨"HungPictures", am_nm1 37 rfl⟩
theorem lk7_189 : am_lk RX7 189 yX0_largestSet := Or.inr ⟨"HungPictures", am_nm1 38 rfl⟩
theorem lk0_32 : am_lk RX0 32 yX6_firstFit := Or.inr ⟨"HungPictures", am_nm1 39 rfl⟩
theorem lk7_196 : am_lk RX7 196 yX4_add := Or.inr ⟨"HungPictures", am_nm1 40 rfl⟩
theorem lk7_199 : am_lk RX7 199 yX4_countMatches := Or.inr ⟨"HungPictures", am_nm1 41 rfl⟩
theorem lk4_35 : am_lk RX4 35 yX6_hasPicture := Or.inr ⟨"HungPictures", am_nm1 42 rfl⟩
theorem lk4_49 : am_lk RX4 49 yX6_hookY := Or.inr ⟨"HungPictures", am_nm1 43 rfl⟩
theorem lk7_202 : am_lk RX7 202 yX4_leastMatch := Or.inr ⟨"HungPictures", am_nm1 44 rfl⟩
theorem lk7_205 : am_lk RX7 205 yX6_countUp := Or.inr ⟨"HungPictures", am_nm1 45 rfl⟩
theorem nw7_17 : am_nw RX7 17 2 := ⟨by decide, am_gi 25 (by decide +kernel) rfl, am_gi 26 (by decide +kernel) rfl, am_gi 2 (by decide +kernel) rfl⟩
theorem nw2_9 : am_nw RX2 9 5 := ⟨by decide, am_gi 31 (by decide +kernel) rfl, am_gi 32 (by decide +kernel) rfl, am_gi 3 (by decide +kernel) rfl⟩
theorem nw7_24 : am_nw RX7 24 6 := ⟨by decide, am_gi 74 (by decide +kernel) rfl, am_gi 75 (by decide +kernel) rfl, am_gi 4 (by decide +kernel) rfl⟩
theorem nw7_34 : am_nw RX7 34 1 := ⟨by decide, am_gi 163 (by decide +kernel) rfl, am_gi 164 (by decide +kernel) rfl, am_gi 5 (by decide +kernel) rfl⟩
theorem nw1_9 : am_nw RX1 9 6 := ⟨by decide, am_gi 169 (by decide +kernel) rfl, am_gi 75 (by decide +kernel) rfl, am_gi 4 (by decide +kernel) rfl⟩
theorem nw7_41 : am_nw RX7 41 3 := ⟨by decide, am_gi 180 (by decide +kernel) rfl, am_gi 181 (by decide +kernel) rfl, am_gi 6 (by decide +kernel) rfl⟩
theorem nw7_52 : am_nw RX7 52 0 := ⟨by decide, am_gi 230 (by decide +kernel) rfl, am_gi 231 (by decide +kernel) rfl, am_gi 7 (by decide +kernel) rfl⟩
theorem nw7_59 : am_nw RX7 59 4 := ⟨by decide, am_gi 240 (by decide +kernel) rfl, am_gi 241 (by decide +kernel) rfl, am_gi 8 (by decide +kernel) rfl⟩
theorem kc7_133 : Cond.constant RX7 133 (-1000000) ∈ am_g := am_gi 555 (by decide +kernel) rfl
theorem kcJ6_265 : Cond.constant RJ6 265 (1431655765) ∈ am_g := am_gi 664 (by decide +kernel) rfl
theorem kcJ6_266 : Cond.constant RJ6 266 (858993459) ∈ am_g := am_gi 665 (by decide +kernel) rfl
theorem kcJ6_267 : Cond.constant RJ6 267 (252645135) ∈ am_g := am_gi 666 (by decide +kernel) rfl
theorem kc4_39 : Cond.constant RX4 39 (-1000000) ∈ am_g := am_gi 698 (by decide +kernel) rfl
theorem kc8_154 : Cond.constant RX8 154 (-1000000) ∈ am_g := am_gi 924 (by decide +kernel) rfl
theorem jm_abs : Cond.static Lib.Math.abs.name ∈ am_g ∧ Cond.initialized "java/lang/Math" ∈ am_g ∧ Cond.code Lib.Math.abs.name Lib.Math.abs.code 1 (some .int) ∈ am_g := ⟨am_gi 582 (by decide +kernel) rfl, am_gi 14 (by decide +kernel) rfl, am_gi 583 (by decide +kernel) rfl⟩
theorem jm_max : Cond.static Lib.Math.max.name ∈ am_g ∧ Cond.initialized "java/lang/Math" ∈ am_g ∧ Cond.code Lib.Math.max.name Lib.Math.max.code 2 (some .int) ∈ am_g := ⟨am_gi 398 (by decide +kernel) rfl, am_gi 14 (by decide +kernel) rfl, am_gi 399 (by decide +kernel) rfl⟩
theorem jm_min : Cond.static Lib.Math.min.name ∈ am_g ∧ Cond.initialized "java/lang/Math" ∈ am_g ∧ Cond.code Lib.Math.min.name Lib.Math.min.code 2 (some .int) ∈ am_g := ⟨am_gi 383 (by decide +kernel) rfl, am_gi 14 (by decide +kernel) rfl, am_gi 384 (by decide +kernel) rfl⟩
theorem jm_copy : Cond.native arraycopyName ∈ am_g ∧ Cond.static arraycopyName ∈ am_g ∧ Cond.initialized "java/lang/System" ∈ am_g := ⟨am_gi 467 (by decide +kernel) rfl, am_gi 466 (by decide +kernel) rfl, am_gi 15 (by decide +kernel) rfl⟩
theorem jm_obj : Cond.instanceMethod objectInit ∈ am_g ∧ Cond.code objectInit ⟨#[0xb1]⟩ 1 none ∈ am_g := ⟨am_gi 23 (by decide +kernel) rfl, am_gi 24 (by decide +kernel) rfl⟩
theorem jm_aint : Cond.arrayClass .int ∈ am_g := am_gi 54 (by decide +kernel) rfl
theorem jm_along : Cond.arrayClass .long ∈ am_g := am_gi 229 (by decide +kernel) rfl
theorem jm_aboolean : Cond.arrayClass .boolean ∈ am_g := am_gi 294 (by decide +kernel) rfl
