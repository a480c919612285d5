/-! The machine of this claim, seen by cell numbers: a cell i lies at z + i (the first cell that the law makes is 0); its kind, length, ints, longs and references are functions of its number. AW: from this pc the method comes to its return with Q. Ct: a method's contract. A row an instruction. -/
abbrev am_G : Type := Nat × (Nat → Nat) × (Nat → Nat)
abbrev am_I : Type := Nat → Nat → Int32
abbrev am_J : Type := Nat → Nat → Int64
abbrev am_O : Type := Nat → Nat → Option Nat
abbrev am_Po : Type := Option Value → am_G → am_I → am_J → am_O → Prop
theorem am_lt9 {P : Nat → Prop} (h0 : P 0) (h1 : P 1) (h2 : P 2) (h3 : P 3) (h4 : P 4) (h5 : P 5) (h6 : P 6) (h7 : P 7) (h8 : P 8) : ∀ c, c < 9 → P c
  | 0, _ => h0
  | 1, _ => h1
  | 2, _ => h2
  | 3, _ => h3
  | 4, _ => h4
  | 5, _ => h5
  | 6, _ => h6
  | 7, _ => h7
  | 8, _ => h8
  | c + 9, h => absurd h (by omega)
theorem am_cl : ∀ c, c < 9 → vwCl[c]? = some (am_C c, am_T c, am_N c) := am_lt9 rfl rfl rfl rfl rfl rfl rfl rfl rfl
theorem am_in : ∀ c, c < 9 → ∀ w ∈ u_ws (am_C c) (am_T c) (am_N c), w ∈ am_g := am_lt9 inl0 inl1 inl2 inl3 inl4 inl5 inl6 inl7 inl8
theorem am_tyok : ∀ c, c < 9 → ∀ k, k < am_N c → parseFieldDescriptor (am_T c k).2.2.1 = some (am_ty c k) := am_lt9 tyX0_ok tyX1_ok tyX2_ok tyX3_ok tyX4_ok tyX5_ok tyX6_ok tyX7_ok tyX8_ok
theorem am_nm : ∀ c, c < 9 → ∀ a, a < am_N c → ∀ b, b < am_N c → a ≠ b → (am_T c a).2.1 ≠ (am_T c b).2.1 := am_lt9 nmX0 nmX1 nmX2 nmX3 nmX4 nmX5 nmX6 nmX7 nmX8
/-- where cell i lies; from 1000 on: the String constants -/
def am_as (z : Nat) (sk : Nat → Nat) (i : Nat) : Nat := if i < 1000 then z + i else sk (i - 1000)
theorem am_as_lt {z : Nat} {sk : Nat → Nat} {i : Nat} (h : i < 1000) : am_as z sk i = z + i := if_pos h
def am_cv (f : Nat → Nat) (v : Value) : Value := match v with
  | .ref i => .ref (f i)
  | v => v
def am_fs (f : Nat → Nat) (c : Nat) (I : Nat → Int32) (O : Nat → Option Nat) : List Value := (List.range (am_N c)).map (fun k => if am_rf c k = true then va_rf ((O k).map f) else .int (I k))
def am_ce (f : Nat → Nat) (cy : Nat → ClassId) (g : am_G) (M : am_I) (V : am_J) (R : am_O) (i : Nat) : va_E := match g.2.1 i with
  | 0 => .inl (cy 0, g.2.2 i, .inl (M i))
  | 1 => .inl (cy 1, g.2.2 i, .inr (.inl (V i)))
  | 2 => .inl (cy 2, g.2.2 i, .inl (M i))
  | 3 => .inl (cy 3, g.2.2 i, .inr (.inr (.inr (.inr (fun k => (R i k).map f)))))
  | c + 4 => .inr (c, am_fs f c (M i) (R i))
def am_ws (z : Nat) (f : Nat → Nat) (cy : Nat → ClassId) (g : am_G) (M : am_I) (V : am_J) (R : am_O) : va_W := (List.range g.1).map (fun i => (z + i, am_ce f cy g M V R i))
abbrev am_tys (cy : Nat → ClassId) : List (ClassId × FieldType) := [(cy 0, .int), (cy 1, .long), (cy 2, .boolean), (cy 3, .object RX6)]
abbrev am_A (z : Nat) : Nat → Prop := fun q => z ≤ q
def am_R (z : Nat) (sk : Nat → Nat) (D : va_G) (cy : Nat → ClassId) (g : am_G) (M : am_I) (V : am_J) (R : am_O) (H : Heap) : Prop := g.1 ≤ 1000 ∧ va_P D vwCl (am_ws z (am_as z sk) cy g M V R) H
theorem am_get {z : Nat} {f : Nat → Nat} {cy : Nat → ClassId} {g : am_G} {M : am_I} {V : am_J} {R : am_O} {i : Nat} (h : i < g.1) : (am_ws z f cy g M V R)[i]? = some (z + i, am_ce f cy g M V R i) := by
  simp [am_ws, h]
theorem am_get_inv {z : Nat} {f : Nat → Nat} {cy : Nat → ClassId} {g : am_G} {M : am_I} {V : am_J} {R : am_O} {i : Nat} {q : Nat × va_E} (h : (am_ws z f cy g M V R)[i]? = some q) : i < g.1 ∧ q = (z + i, am_ce f cy g M V R i) := by
  have hl : i < (am_ws z f cy g M V R).length := (List.getElem?_eq_some_iff.mp h).1
  have hl2 : i < g.1 := by simpa [am_ws] using hl
  rw [am_get hl2] at h
  exact ⟨hl2, (Option.some.inj h).symm⟩
theorem am_D {z : Nat} {f : Nat → Nat} {cy : Nat → ClassId} {g : am_G} {M : am_I} {V : am_J} {R : am_O} : va_D (am_A z) (am_ws z f cy g M V R) := by
  refine ⟨fun i j x y hx hy hxy => ?_, fun k q hk => ?_⟩
  · obtain ⟨-, rfl⟩ := am_get_inv hx
    obtain ⟨-, rfl⟩ := am_get_inv hy
    have h : z + i = z + j := hxy
    omega
  · obtain ⟨-, rfl⟩ := am_get_inv hk
    exact Nat.le_add_right z k
theorem am_set {z : Nat} {f : Nat → Nat} {cy : Nat → ClassId} {g : am_G} {M M' : am_I} {V V' : am_J} {R R' : am_O} {i : Nat} {e : va_E} (hi : i < g.1) (he : am_ce f cy g M' V' R' i = e) (ho : ∀ j, j ≠ i → am_ce f cy g M' V' R' j = am_ce f cy g M V R j) : (am_ws z f cy g M V R).set i (z + i, e) = am_ws z f cy g M' V' R' := by
  apply List.ext_getElem?
  intro j
  have hl : i < (am_ws z f cy g M V R).length := by simpa [am_ws] using hi
  by_cases hj : j = i
  · subst hj
    rw [List.getElem?_set_self hl, am_get hi, he]
  · rw [List.getElem?_set_ne (Ne.symm hj)]
    simp only [am_ws, List.getElem?_map]
    by_cases hk : j < g.1
    · rw [List.getElem?_range hk]
      simp only [Option.map_some, ho j hj]
    · rw [List.getElem?_eq_none (by simpa using hk)]
      rfl
/-- a value put at a place of a cell -/
def am_up {α : Type} (M : Nat → Nat → α) (r k : Nat) (v : α) : Nat → Nat → α := fun i j => if i = r then (if j = k then v else M i j) else M i j
theorem am_up_ne {α : Type} {M : Nat → Nat → α} {r k : Nat} {v : α} {i : Nat} (h : i ≠ r) : am_up M r k v i = M i := by
  funext j
  simp [am_up, h]
theorem am_up_self {α : Type} {M : Nat → Nat → α} {r k : Nat} {v : α} : am_up M r k v r = fun j => if j = k then v else M r j := by
  funext j
  simp [am_up]
/-- a cell's row put whole -/
def am_row {α : Type} (M : Nat → Nat → α) (r : Nat) (f : Nat → α) : Nat → Nat → α := fun i => if i = r then f else M i
theorem am_ceM {f : Nat → Nat} {cy : Nat → ClassId} {g : am_G} {M M' : am_I} {V : am_J} {R : am_O} {j : Nat} (h : M' j = M j) : am_ce f cy g M' V R j = am_ce f cy g M V R j := by
  simp [am_ce, h]
theorem am_ceV {f : Nat → Nat} {cy : Nat → ClassId} {g : am_G} {M : am_I} {V V' : am_J} {R : am_O} {j : Nat} (h : V' j = V j) : am_ce f cy g M V' R j = am_ce f cy g M V R j := by
  simp [am_ce, h]
theorem am_ceR {f : Nat → Nat} {cy : Nat → ClassId} {g : am_G} {M : am_I} {V : am_J} {R R' : am_O} {j : Nat} (h : R' j = R j) : am_ce f cy g M V R' j = am_ce f cy g M V R j := by
  simp [am_ce, h]
/-- an object of class c at cell r; an array of kind t and length n -/
abbrev am_ob (g : am_G) (r c : Nat) : Prop := r < g.1 ∧ g.2.1 r = c + 4
abbrev am_ar (g : am_G) (r t n : Nat) : Prop := r < g.1 ∧ g.2.1 r = t ∧ g.2.2 r = n
theorem am_ce_ob {f : Nat → Nat} {cy : Nat → ClassId} {g : am_G} {M : am_I} {V : am_J} {R : am_O} {r c : Nat} (h : g.2.1 r = c + 4) : am_ce f cy g M V R r = .inr (c, am_fs f c (M r) (R r)) := by
  unfold am_ce; rw [h]
theorem am_ce_0 {f : Nat → Nat} {cy : Nat → ClassId} {g : am_G} {M : am_I} {V : am_J} {R : am_O} {r : Nat} (h : g.2.1 r = 0) : am_ce f cy g M V R r = .inl (cy 0, g.2.2 r, .inl (M r)) := by
  unfold am_ce; rw [h]
theorem am_ce_1 {f : Nat → Nat} {cy : Nat → ClassId} {g : am_G} {M : am_I} {V : am_J} {R : am_O} {r : Nat} (h : g.2.1 r = 1) : am_ce f cy g M V R r = .inl (cy 1, g.2.2 r, .inr (.inl (V r))) := by
  unfold am_ce; rw [h]
theorem am_ce_2 {f : Nat → Nat} {cy : Nat → ClassId} {g : am_G} {M : am_I} {V : am_J} {R : am_O} {r : Nat} (h : g.2.1 r = 2) : am_ce f cy g M V R r = .inl (cy 2, g.2.2 r, .inl (M r)) := by
  unfold am_ce; rw [h]
theorem am_ce_3 {f : Nat → Nat} {cy : Nat → ClassId} {g : am_G} {M : am_I} {V : am_J} {R : am_O} {r : Nat} (h : g.2.1 r = 3) : am_ce f cy g M V R r = .inl (cy 3, g.2.2 r, .inr (.inr (.inr (.inr (fun k => (R r k).map f))))) := by
  unfold am_ce; rw [h]
theorem am_fs_get {f : Nat → Nat} {c k : Nat} {I : Nat → Int32} {O : Nat → Option Nat} (h : k < am_N c) : (am_fs f c I O)[k]? = some (if am_rf c k = true then va_rf ((O k).map f) else .int (I k)) := by
  simp [am_fs, h]
theorem am_fs_len {f : Nat → Nat} {c : Nat} {I : Nat → Int32} {O : Nat → Option Nat} : (am_fs f c I O).length = am_N c := by simp [am_fs]
theorem am_fs_set {f : Nat → Nat} {c k : Nat} {I I' : Nat → Int32} {O O' : Nat → Option Nat} {v : Value} (hk : k < am_N c) (hv : (if am_rf c k = true then va_rf ((O' k).map f) else .int (I' k)) = v) (hI : ∀ j, j ≠ k → I' j = I j) (hO : ∀ j, j ≠ k → O' j = O j) : (am_fs f c I O).set k v = am_fs f c I' O' := by
  apply List.ext_getElem?
  intro j
  have hl : k < (am_fs f c I O).length := by rw [am_fs_len]; exact hk
  by_cases hj : j = k
  · subst hj
    rw [List.getElem?_set_self hl, am_fs_get hk, hv]
  · rw [List.getElem?_set_ne (Ne.symm hj)]
    by_cases hn : j < am_N c
    · rw [am_fs_get hn, am_fs_get hn, hI j hj, hO j hj]
    · rw [List.getElem?_eq_none (by rw [am_fs_len]; omega), List.getElem?_eq_none (by rw [am_fs_len]; omega)]
/-- the String constants of Tokens: length, bytes, place in its pool, text -/
def am_sl : List Nat := [1, 4, 3, 4, 4, 1]
def am_sb : List (List Int32) := [[48], [119, 97, 108, 108], [112, 105, 99], [100, 111, 111, 114], [104, 111, 108, 101], [59]]
def am_sx : List Nat := [61, 63, 65, 67, 69, 55]
def am_st : List String := ["0", "wall", "pic", "door", "hole", ";"]
/-- what lies outside the world and is read: String constants, two statics of the JDK -/
def am_X (z : Nat) (sk : Nat → Nat) (U : State) (H : Heap) : Prop := vk_S 6 am_sl am_sb sk (fun i => sk (i + 6)) (am_A z) U H ∧ (∀ i : Nat, i < 6 → vk_R RX5 (am_sx.getD i 0) (am_st.getD i "") (sk i) U) ∧ va_Z "java/lang/String" "COMPACT_STRINGS" "Z" (.int 1) (am_A z) U H ∧ (va_Z "jdk/internal/util/Preconditions" "SIOOBE_FORMATTER" "Ljava/util/function/BiFunction;" .null (am_A z) U H ∨ va_Z "jdk/internal/util/Preconditions" "SIOOBE_FORMATTER" "Ljava/util/function/BiFunction;" (.ref (sk 12)) (am_A z) U H)
theorem am_X.warm {z : Nat} {sk : Nat → Nat} {s U : State} {H : Heap} (hW : s.WarmedH U.vm) (hq : ∀ a : Nat, a < s.heap.size → ¬ am_A z a → H[a]? = s.heap[a]?) (h : am_X z sk s s.heap) : am_X z sk U H := by
  obtain ⟨h1, h2, h3, h4⟩ := h
  exact ⟨(h1.moved hW.alike).kept hq, fun i hi => (h2 i hi).warm hW, (h3.moved hW.alike).kept hq, h4.imp (fun h => (h.moved hW.alike).kept hq) (fun h => (h.moved hW.alike).kept hq)⟩
theorem am_X.same {z : Nat} {sk : Nat → Nat} {u U : State} {H : Heap} (hv : U.vm = u.vm) (h : am_X z sk u H) : am_X z sk U H := by
  obtain ⟨h1, h2, h3, h4⟩ := h
  have ha : u.vm.Alike U.vm := by rw [hv]; exact Vm.Alike.refl u.vm
  exact ⟨h1.moved ha, fun i hi => (h2 i hi).same hv, h3.moved ha, h4.imp (fun h => h.moved ha) (fun h => h.moved ha)⟩
def am_U (z : Nat) (sk : Nat → Nat) (D : va_G) (cy : Nat → ClassId) (U : State) : Prop := va_K D vwCl (am_tys cy) U ∧ (∀ w ∈ am_NW, va_Nw w U) ∧ am_X z sk U U.heap ∧ va_AO RX6 U
theorem am_U.calling {z : Nat} {sk : Nat → Nat} {D : va_G} {cy : Nat → ClassId} {U : State} {gf : JFrame} {mk : MethodId} {a : Array Value} (h : am_U z sk D cy U) : am_U z sk D cy (U.calling gf mk a) :=
  ⟨va_K.moved (u := U) (U := U.calling gf mk a) (Vm.Alike.refl U.vm) h.1, fun w hw => va_Nw.same (am_NW_on w hw) (u := U) (U := U.calling gf mk a) rfl (h.2.1 w hw), am_X.same (u := U) (U := U.calling gf mk a) rfl h.2.2.1, va_AO.moved (u := U) (U := U.calling gf mk a) (Vm.Alike.refl U.vm) h.2.2.2⟩
theorem am_U.warm {z : Nat} {sk : Nat → Nat} {D : va_G} {cy : Nat → ClassId} {s U : State} {locs : List Loc} (hW : s.WarmedH U.vm) (hS : va_S (am_A z) s.heap U.heap locs) (h : am_U z sk D cy s) : am_U z sk D cy U :=
  ⟨va_K.moved hW.alike h.1, fun w hw => am_NW_warm w hw hW (h.2.1 w hw), am_X.warm hW hS.2.1 h.2.2.1, va_AO.moved hW.alike h.2.2.2⟩
/-- the locals -/
def am_lo (f : Nat → Nat) (nL : Nat) (ls : List (Option Value)) (lo : Array Slot) : Prop := lo.size = nL ∧ lv_wf lo ∧ ∀ (n : Nat) (v : Value), ls[n]? = some (some v) → lo[n]? = some (.val (am_cv f v))
def am_c1 (ls : List (Option Value)) : Bool := ls.all (fun o => match o with
  | some (.long _) => false
  | some (.double _) => false
  | _ => true)
def am_ll (f : Nat → Nat) (ls : List (Option Value)) : List (Nat × Value) := (List.range ls.length).filterMap (fun n => match ls[n]? with
  | some (some v) => some (n, am_cv f v)
  | _ => none)
theorem am_ll_mem {f : Nat → Nat} {ls : List (Option Value)} {n : Nat} {v : Value} (h : ls[n]? = some (some v)) : (n, am_cv f v) ∈ am_ll f ls := by
  refine List.mem_filterMap.mpr ⟨n, List.mem_range.mpr (List.getElem?_eq_some_iff.mp h).1, ?_⟩
  rw [h]
theorem am_lo.has {f : Nat → Nat} {nL : Nat} {ls : List (Option Value)} {lo : Array Slot} (h : am_lo f nL ls lo) : lv_has lo nL (am_ll f ls) := by
  refine ⟨h.1, h.2.1, fun q hq => ?_⟩
  obtain ⟨n, -, hn⟩ := List.mem_filterMap.mp hq
  cases hv : ls[n]? with
  | none => rw [hv] at hn; cases hn
  | some o =>
    cases o with
    | none => rw [hv] at hn; cases hn
    | some v =>
      rw [hv] at hn
      have e : (n, am_cv f v) = q := Option.some.inj hn
      rw [← e]
      exact h.2.2 n v hv
theorem am_cv_cat (f : Nat → Nat) (v : Value) : (am_cv f v).category = v.category := by cases v <;> rfl
theorem am_lo.set {f : Nat → Nat} {nL i : Nat} {ls : List (Option Value)} {lo : Array Slot} {x : Value} (hc : am_c1 ls = true) (hi : i < ls.length) (h : lv_has lo nL ((i, am_cv f x) :: (am_ll f ls).filter (fun q => !(q.1 == i) && !(q.1 + 1 == i && q.2.category == 2)))) : am_lo f nL (ls.set i (some x)) lo := by
  refine ⟨h.1, h.2.1, fun n v hn => ?_⟩
  by_cases hni : n = i
  · subst hni
    rw [List.getElem?_set_self hi] at hn
    cases hn
    exact h.2.2 (n, am_cv f x) List.mem_cons_self
  · rw [List.getElem?_set_ne (Ne.symm hni)] at hn
    refine h.2.2 (n, am_cv f v) (List.mem_cons_of_mem _ (List.mem_filter.mpr ⟨am_ll_mem hn, ?_⟩))
    have hc1 := List.all_eq_true.mp hc (some v) (List.mem_of_getElem? hn)
    have hcat : v.category ≠ 2 := by
      cases v <;> simp_all [Value.category]
    simp [hni, am_cv_cat, hcat]
/-- what a method stands on -/
def am_S (μ : am_M) (d : Nat) (z : Nat) (sk : Nat → Nat) (D : va_G) (cy : Nat → ClassId) (p : Program) (Rm : Room) (s : State) (m : MethodId) (args : Array Value) (meth : Method) (c : Code) : Prop :=
  p.tables.exec = Jvm.exec ∧ c.code = μ.2.1 ∧ meth.sig.returnType = μ.2.2.2 ∧ c.maxLocals = μ.2.2.1 ∧ s.vm.findClass μ.1.cls = some m.cls ∧ (∀ w ∈ am_g, w.before args s = true) ∧ meth.locks = false ∧ meth.name = μ.1.name ∧ d ≤ Rm.frames ∧ 64 * d ≤ Rm.locals ∧ am_U z sk D cy s
def am_Q (z : Nat) (sk : Nat → Nat) (D : va_G) (cy : Nat → ClassId) (n1 : Nat) (Q : am_Po) : Array Value → State → Outcome → State → Prop := fun _ st oc t =>
  (∃ (v : Option Value) (g : am_G) (M : am_I) (V : am_J) (R : am_O), oc = .returned (v.map (am_cv (am_as z sk))) ∧ g.1 = n1 ∧ Q v g M V R ∧ am_R z sk D cy g M V R t.heap) ∧ va_F (am_A z) st t
def AW (μ : am_M) (d b1 b2 : Nat) (g : am_G) (pc : Nat) (ls : List (Option Value)) (st : List Value) (M : am_I) (V : am_J) (R : am_O) (Q : am_Po) : Prop :=
  ∀ (p : Program) (l : Launch) (e : Env) (Rm : Room) (s : State) (m : MethodId) (args : Array Value) (below : List Frame) (meth : Method) (c : Code) (H : Heap) (locs : List Loc) (cells slots mc ms n0 z : Nat) (sk : Nat → Nat) (D : va_G) (cy : Nat → ClassId) (lo : Array Slot),
    am_S μ d z sk D cy p Rm s m args meth c → (cells + b1 = mc ∧ slots + b2 ≤ ms) → (mc ≤ Rm.cells ∧ ms ≤ Rm.slots) → (s.heap.size = z + n0 ∧ cells + n0 = g.1) → am_R z sk D cy g M V R H → va_S (am_A z) s.heap H locs → am_lo (am_as z sk) μ.2.2.1 ls lo →
    W p l e Rm s m args below meth c H locs cells slots (MQ below (am_Q z sk D cy (n0 + mc) Q) args s mc ms (am_A z)) (F0 m pc lo (st.map (am_cv (am_as z sk))))
def am_P (z : Nat) (sk : Nat → Nat) (D : va_G) (cy : Nat → ClassId) (av : List Value) (g : am_G) (M : am_I) (V : am_J) (R : am_O) : Array Value → State → Prop := fun v U => v = (av.map (am_cv (am_as z sk))).toArray ∧ am_U z sk D cy U ∧ U.heap.size = z + g.1 ∧ am_R z sk D cy g M V R U.heap
def am_w (μ : am_M) : List Cond := Cond.code μ.1 μ.2.1 μ.2.2.1 μ.2.2.2 :: am_g
abbrev am_rm (d mc ms : Nat) : Room := { frames := d, cells := mc, slots := ms, locals := 64 * d }
def Ct (μ : am_M) (d mc ms : Nat) (av : List Value) (g : am_G) (M : am_I) (V : am_J) (R : am_O) (Q : am_Po) : Prop :=
  ∀ (l : Launch) (z : Nat) (sk : Nat → Nat) (D : va_G) (cy : Nat → ClassId), Met l μ.1 (am_w μ) (am_rm d mc ms) (am_P z sk D cy av g M V R) (am_Q z sk D cy (g.1 + mc) Q) mc ms (am_A z)

section AR
variable {μ : am_M} {d b1 b2 : Nat} {g : am_G} {pc : Nat} {ls : List (Option Value)} {st : List Value} {M : am_I} {V : am_J} {R : am_O} {Q : am_Po}

theorem aw_iconst (q : Nat) {n : Int} {v : Int32} (hd : decode μ.2.1 pc = .ok (.iconst n, 1)) (hp : pc + 1 = q) (hv : Int32.ofInt n = v) (k : AW μ d b1 b2 g q ls (.int v :: st) M V R Q) : AW μ d b1 b2 g pc ls st M V R Q := by
  subst hp
  intro p l e Rm s m args below meth c H locs cells slots mc ms n0 z sk D cy lo S h1 h2 h3 hR hS hL
  exact lv_iconst S.1 S.2.1 hd hv (k p l e Rm s m args below meth c H locs cells slots mc ms n0 z sk D cy lo S h1 h2 h3 hR hS hL)
theorem aw_bipush (q : Nat) {n : Int} {v : Int32} (hd : decode μ.2.1 pc = .ok (.bipush n, 2)) (hp : pc + 2 = q) (hv : (Int8.ofInt n).toInt32 = v) (k : AW μ d b1 b2 g q ls (.int v :: st) M V R Q) : AW μ d b1 b2 g pc ls st M V R Q := by
  subst hp
  intro p l e Rm s m args below meth c H locs cells slots mc ms n0 z sk D cy lo S h1 h2 h3 hR hS hL
  exact lv_bipush S.1 S.2.1 hd hv (k p l e Rm s m args below meth c H locs cells slots mc ms n0 z sk D cy lo S h1 h2 h3 hR hS hL)
theorem aw_sipush (q : Nat) {n : Int} {v : Int32} (hd : decode μ.2.1 pc = .ok (.sipush n, 3)) (hp : pc + 3 = q) (hv : (Int16.ofInt n).toInt32 = v) (k : AW μ d b1 b2 g q ls (.int v :: st) M V R Q) : AW μ d b1 b2 g pc ls st M V R Q := by
  subst hp
  intro p l e Rm s m args below meth c H locs cells slots mc ms n0 z sk D cy lo S h1 h2 h3 hR hS hL
  exact lv_sipush S.1 S.2.1 hd hv (k p l e Rm s m args below meth c H locs cells slots mc ms n0 z sk D cy lo S h1 h2 h3 hR hS hL)
theorem aw_lconst (q : Nat) {n : Fin 2} {v : Int64} (hd : decode μ.2.1 pc = .ok (.lconst n, 1)) (hp : pc + 1 = q) (hv : Int64.ofNat (n : Nat) = v) (k : AW μ d b1 b2 g q ls (.long v :: st) M V R Q) : AW μ d b1 b2 g pc ls st M V R Q := by
  subst hp
  intro p l e Rm s m args below meth c H locs cells slots mc ms n0 z sk D cy lo S h1 h2 h3 hR hS hL
  exact lv_lconst S.1 S.2.1 hd hv (k p l e Rm s m args below meth c H locs cells slots mc ms n0 z sk D cy lo S h1 h2 h3 hR hS hL)
theorem aw_ldc (q : Nat) {idx : Nat} {v : Int32} (hd : decode μ.2.1 pc = .ok (.ldc idx, 2)) (hp : pc + 2 = q) (hw : Cond.constant μ.1.cls idx v ∈ am_g) (k : AW μ d b1 b2 g q ls (.int v :: st) M V R Q) : AW μ d b1 b2 g pc ls st M V R Q := by
  subst hp
  intro p l e Rm s m args below meth c H locs cells slots mc ms n0 z sk D cy lo S h1 h2 h3 hR hS hL
  exact lv_ldc S.1 S.2.1 S.2.2.2.2.1 (S.2.2.2.2.2.1 _ hw) hd (k p l e Rm s m args below meth c H locs cells slots mc ms n0 z sk D cy lo S h1 h2 h3 hR hS hL)
theorem aw_ldcw (q : Nat) {idx : Nat} {v : Int32} (hd : decode μ.2.1 pc = .ok (.ldc_w idx, 3)) (hp : pc + 3 = q) (hw : Cond.constant μ.1.cls idx v ∈ am_g) (k : AW μ d b1 b2 g q ls (.int v :: st) M V R Q) : AW μ d b1 b2 g pc ls st M V R Q := by
  subst hp
  intro p l e Rm s m args below meth c H locs cells slots mc ms n0 z sk D cy lo S h1 h2 h3 hR hS hL
  exact lv_ldcw S.1 S.2.1 S.2.2.2.2.1 (S.2.2.2.2.2.1 _ hw) hd (k p l e Rm s m args below meth c H locs cells slots mc ms n0 z sk D cy lo S h1 h2 h3 hR hS hL)
theorem aw_iload_n (q : Nat) {i : Fin 4} {x : Int32} (hd : decode μ.2.1 pc = .ok (.iload_n i, 1)) (hp : pc + 1 = q) (hl : ls[(i : Nat)]? = some (some (.int x))) (k : AW μ d b1 b2 g q ls (.int x :: st) M V R Q) : AW μ d b1 b2 g pc ls st M V R Q := by
  subst hp
  intro p l e Rm s m args below meth c H locs cells slots mc ms n0 z sk D cy lo S h1 h2 h3 hR hS hL
  exact lv_iload_n S.1 S.2.1 hd rfl (hL.2.2 _ _ hl) (k p l e Rm s m args below meth c H locs cells slots mc ms n0 z sk D cy lo S h1 h2 h3 hR hS hL)
theorem aw_iload (q : Nat) {i : Nat} {x : Int32} (hd : decode μ.2.1 pc = .ok (.iload i, 2)) (hp : pc + 2 = q) (hl : ls[i]? = some (some (.int x))) (k : AW μ d b1 b2 g q ls (.int x :: st) M V R Q) : AW μ d b1 b2 g pc ls st M V R Q := by
  subst hp
  intro p l e Rm s m args below meth c H locs cells slots mc ms n0 z sk D cy lo S h1 h2 h3 hR hS hL
  exact lv_iload S.1 S.2.1 hd (hL.2.2 _ _ hl) (k p l e Rm s m args below meth c H locs cells slots mc ms n0 z sk D cy lo S h1 h2 h3 hR hS hL)
theorem aw_aload_n (q : Nat) {i : Fin 4} {x : Nat} (hd : decode μ.2.1 pc = .ok (.aload_n i, 1)) (hp : pc + 1 = q) (hl : ls[(i : Nat)]? = some (some (.ref x))) (k : AW μ d b1 b2 g q ls (.ref x :: st) M V R Q) : AW μ d b1 b2 g pc ls st M V R Q := by
  subst hp
  intro p l e Rm s m args below meth c H locs cells slots mc ms n0 z sk D cy lo S h1 h2 h3 hR hS hL
  exact lv_aload_n S.1 S.2.1 hd rfl (hL.2.2 _ _ hl) (k p l e Rm s m args below meth c H locs cells slots mc ms n0 z sk D cy lo S h1 h2 h3 hR hS hL)
theorem aw_lload_n (q : Nat) {i : Fin 4} {x : Int64} (hd : decode μ.2.1 pc = .ok (.lload_n i, 1)) (hp : pc + 1 = q) (hl : ls[(i : Nat)]? = some (some (.long x))) (k : AW μ d b1 b2 g q ls (.long x :: st) M V R Q) : AW μ d b1 b2 g pc ls st M V R Q := by
  subst hp
  intro p l e Rm s m args below meth c H locs cells slots mc ms n0 z sk D cy lo S h1 h2 h3 hR hS hL
  exact lv_lload_n S.1 S.2.1 hd rfl (hL.2.2 _ _ hl) (k p l e Rm s m args below meth c H locs cells slots mc ms n0 z sk D cy lo S h1 h2 h3 hR hS hL)
theorem aw_istore_n (q : Nat) {i : Fin 4} {x : Int32} (hd : decode μ.2.1 pc = .ok (.istore_n i, 1)) (hp : pc + 1 = q) (hc : am_c1 ls = true) (hi : (i : Nat) < ls.length) (hm : (i : Nat) < μ.2.2.1) (k : AW μ d b1 b2 g q (ls.set (i : Nat) (some (.int x))) st M V R Q) : AW μ d b1 b2 g pc ls (.int x :: st) M V R Q := by
  subst hp
  intro p l e Rm s m args below meth c H locs cells slots mc ms n0 z sk D cy lo S h1 h2 h3 hR hS hL
  exact lv_istore_n S.1 S.2.1 hd rfl hL.has hm rfl (fun lo' hl' => (k p l e Rm s m args below meth c H locs cells slots mc ms n0 z sk D cy lo' S h1 h2 h3 hR hS (am_lo.set (x := .int x) hc hi hl')))
theorem aw_istore (q : Nat) {i : Nat} {x : Int32} (hd : decode μ.2.1 pc = .ok (.istore i, 2)) (hp : pc + 2 = q) (hc : am_c1 ls = true) (hi : i < ls.length) (hm : i < μ.2.2.1) (k : AW μ d b1 b2 g q (ls.set i (some (.int x))) st M V R Q) : AW μ d b1 b2 g pc ls (.int x :: st) M V R Q := by
  subst hp
  intro p l e Rm s m args below meth c H locs cells slots mc ms n0 z sk D cy lo S h1 h2 h3 hR hS hL
  exact lv_istore S.1 S.2.1 hd hL.has hm rfl (fun lo' hl' => (k p l e Rm s m args below meth c H locs cells slots mc ms n0 z sk D cy lo' S h1 h2 h3 hR hS (am_lo.set (x := .int x) hc hi hl')))
theorem aw_astore_n (q : Nat) {i : Fin 4} {x : Nat} (hd : decode μ.2.1 pc = .ok (.astore_n i, 1)) (hp : pc + 1 = q) (hc : am_c1 ls = true) (hi : (i : Nat) < ls.length) (hm : (i : Nat) < μ.2.2.1) (k : AW μ d b1 b2 g q (ls.set (i : Nat) (some (.ref x))) st M V R Q) : AW μ d b1 b2 g pc ls (.ref x :: st) M V R Q := by
  subst hp
  intro p l e Rm s m args below meth c H locs cells slots mc ms n0 z sk D cy lo S h1 h2 h3 hR hS hL
  exact lv_astore_n S.1 S.2.1 hd rfl hL.has hm rfl (fun lo' hl' => (k p l e Rm s m args below meth c H locs cells slots mc ms n0 z sk D cy lo' S h1 h2 h3 hR hS (am_lo.set (x := .ref x) hc hi hl')))
theorem aw_iinc (q : Nat) {i : Nat} {n : Int} {x v : Int32} (hd : decode μ.2.1 pc = .ok (.iinc i n, 3)) (hp : pc + 3 = q) (hl : ls[i]? = some (some (.int x))) (hv : x + Int32.ofInt n = v) (hc : am_c1 ls = true) (hm : i < μ.2.2.1) (k : AW μ d b1 b2 g q (ls.set i (some (.int v))) st M V R Q) : AW μ d b1 b2 g pc ls st M V R Q := by
  subst hp
  intro p l e Rm s m args below meth c H locs cells slots mc ms n0 z sk D cy lo S h1 h2 h3 hR hS hL
  have hi : i < ls.length := (List.getElem?_eq_some_iff.mp hl).1
  obtain ⟨j, hj⟩ := List.getElem?_of_mem (am_ll_mem (f := am_as z sk) hl)
  exact lv_iinc S.1 S.2.1 hd hL.has (k := j) hj hv hm rfl (fun lo' hl' => k p l e Rm s m args below meth c H locs cells slots mc ms n0 z sk D cy lo' S h1 h2 h3 hR hS (am_lo.set (x := .int v) hc hi hl'))
theorem aw_iadd (q : Nat) {x y : Int32} (hd : decode μ.2.1 pc = .ok (.iadd, 1)) (hp : pc + 1 = q)  (k : AW μ d b1 b2 g q ls (.int (x + y) :: st) M V R Q) : AW μ d b1 b2 g pc ls (.int y :: .int x :: st) M V R Q := by
  subst hp
  intro p l e Rm s m args below meth c H locs cells slots mc ms n0 z sk D cy lo S h1 h2 h3 hR hS hL
  exact lv_iadd S.1 S.2.1 hd (k p l e Rm s m args below meth c H locs cells slots mc ms n0 z sk D cy lo S h1 h2 h3 hR hS hL)
theorem aw_isub (q : Nat) {x y : Int32} (hd : decode μ.2.1 pc = .ok (.isub, 1)) (hp : pc + 1 = q)  (k : AW μ d b1 b2 g q ls (.int (x - y) :: st) M V R Q) : AW μ d b1 b2 g pc ls (.int y :: .int x :: st) M V R Q := by
  subst hp
  intro p l e Rm s m args below meth c H locs cells slots mc ms n0 z sk D cy lo S h1 h2 h3 hR hS hL
  exact lv_isub S.1 S.2.1 hd (k p l e Rm s m args below meth c H locs cells slots mc ms n0 z sk D cy lo S h1 h2 h3 hR hS hL)
theorem aw_imul (q : Nat) {x y : Int32} (hd : decode μ.2.1 pc = .ok (.imul, 1)) (hp : pc + 1 = q)  (k : AW μ d b1 b2 g q ls (.int (x * y) :: st) M V R Q) : AW μ d b1 b2 g pc ls (.int y :: .int x :: st) M V R Q := by
  subst hp
  intro p l e Rm s m args below meth c H locs cells slots mc ms n0 z sk D cy lo S h1 h2 h3 hR hS hL
  exact lv_imul S.1 S.2.1 hd (k p l e Rm s m args below meth c H locs cells slots mc ms n0 z sk D cy lo S h1 h2 h3 hR hS hL)
theorem aw_iand (q : Nat) {x y : Int32} (hd : decode μ.2.1 pc = .ok (.iand, 1)) (hp : pc + 1 = q)  (k : AW μ d b1 b2 g q ls (.int (x &&& y) :: st) M V R Q) : AW μ d b1 b2 g pc ls (.int y :: .int x :: st) M V R Q := by
  subst hp
  intro p l e Rm s m args below meth c H locs cells slots mc ms n0 z sk D cy lo S h1 h2 h3 hR hS hL
  exact lv_iand S.1 S.2.1 hd (k p l e Rm s m args below meth c H locs cells slots mc ms n0 z sk D cy lo S h1 h2 h3 hR hS hL)
theorem aw_ior (q : Nat) {x y : Int32} (hd : decode μ.2.1 pc = .ok (.ior, 1)) (hp : pc + 1 = q)  (k : AW μ d b1 b2 g q ls (.int (x ||| y) :: st) M V R Q) : AW μ d b1 b2 g pc ls (.int y :: .int x :: st) M V R Q := by
  subst hp
  intro p l e Rm s m args below meth c H locs cells slots mc ms n0 z sk D cy lo S h1 h2 h3 hR hS hL
  exact lv_ior S.1 S.2.1 hd (k p l e Rm s m args below meth c H locs cells slots mc ms n0 z sk D cy lo S h1 h2 h3 hR hS hL)
theorem aw_ixor (q : Nat) {x y : Int32} (hd : decode μ.2.1 pc = .ok (.ixor, 1)) (hp : pc + 1 = q)  (k : AW μ d b1 b2 g q ls (.int (x ^^^ y) :: st) M V R Q) : AW μ d b1 b2 g pc ls (.int y :: .int x :: st) M V R Q := by
  subst hp
  intro p l e Rm s m args below meth c H locs cells slots mc ms n0 z sk D cy lo S h1 h2 h3 hR hS hL
  exact lv_ixor S.1 S.2.1 hd (k p l e Rm s m args below meth c H locs cells slots mc ms n0 z sk D cy lo S h1 h2 h3 hR hS hL)
theorem aw_ishl (q : Nat) {x y : Int32} (hd : decode μ.2.1 pc = .ok (.ishl, 1)) (hp : pc + 1 = q)  (k : AW μ d b1 b2 g q ls (.int (x <<< (y &&& 31)) :: st) M V R Q) : AW μ d b1 b2 g pc ls (.int y :: .int x :: st) M V R Q := by
  subst hp
  intro p l e Rm s m args below meth c H locs cells slots mc ms n0 z sk D cy lo S h1 h2 h3 hR hS hL
  exact lv_ishl S.1 S.2.1 hd (k p l e Rm s m args below meth c H locs cells slots mc ms n0 z sk D cy lo S h1 h2 h3 hR hS hL)
theorem aw_ishr (q : Nat) {x y : Int32} (hd : decode μ.2.1 pc = .ok (.ishr, 1)) (hp : pc + 1 = q)  (k : AW μ d b1 b2 g q ls (.int (x >>> (y &&& 31)) :: st) M V R Q) : AW μ d b1 b2 g pc ls (.int y :: .int x :: st) M V R Q := by
  subst hp
  intro p l e Rm s m args below meth c H locs cells slots mc ms n0 z sk D cy lo S h1 h2 h3 hR hS hL
  exact lv_ishr S.1 S.2.1 hd (k p l e Rm s m args below meth c H locs cells slots mc ms n0 z sk D cy lo S h1 h2 h3 hR hS hL)
theorem aw_iushr (q : Nat) {x y v : Int32} (hd : decode μ.2.1 pc = .ok (.iushr, 1)) (hp : pc + 1 = q) (hv : (x.toUInt32 >>> (y.toUInt32 &&& Int32.toUInt32 31)).toInt32 = v) (k : AW μ d b1 b2 g q ls (.int v :: st) M V R Q) : AW μ d b1 b2 g pc ls (.int y :: .int x :: st) M V R Q := by
  subst hp
  intro p l e Rm s m args below meth c H locs cells slots mc ms n0 z sk D cy lo S h1 h2 h3 hR hS hL
  exact lv_iushr S.1 S.2.1 hd hv (k p l e Rm s m args below meth c H locs cells slots mc ms n0 z sk D cy lo S h1 h2 h3 hR hS hL)
theorem aw_idiv (q : Nat) {x y : Int32} (hd : decode μ.2.1 pc = .ok (.idiv, 1)) (hp : pc + 1 = q) (hne : ¬ y = 0) (k : AW μ d b1 b2 g q ls (.int (x / y) :: st) M V R Q) : AW μ d b1 b2 g pc ls (.int y :: .int x :: st) M V R Q := by
  subst hp
  intro p l e Rm s m args below meth c H locs cells slots mc ms n0 z sk D cy lo S h1 h2 h3 hR hS hL
  exact lv_idiv S.1 S.2.1 hd hne (k p l e Rm s m args below meth c H locs cells slots mc ms n0 z sk D cy lo S h1 h2 h3 hR hS hL)
theorem aw_irem (q : Nat) {x y : Int32} (hd : decode μ.2.1 pc = .ok (.irem, 1)) (hp : pc + 1 = q) (hne : ¬ y = 0) (k : AW μ d b1 b2 g q ls (.int (x - x / y * y) :: st) M V R Q) : AW μ d b1 b2 g pc ls (.int y :: .int x :: st) M V R Q := by
  subst hp
  intro p l e Rm s m args below meth c H locs cells slots mc ms n0 z sk D cy lo S h1 h2 h3 hR hS hL
  exact lv_irem S.1 S.2.1 hd hne (k p l e Rm s m args below meth c H locs cells slots mc ms n0 z sk D cy lo S h1 h2 h3 hR hS hL)
theorem aw_ineg (q : Nat) {x : Int32} (hd : decode μ.2.1 pc = .ok (.ineg, 1)) (hp : pc + 1 = q)  (k : AW μ d b1 b2 g q ls (.int (-x) :: st) M V R Q) : AW μ d b1 b2 g pc ls (.int x :: st) M V R Q := by
  subst hp
  intro p l e Rm s m args below meth c H locs cells slots mc ms n0 z sk D cy lo S h1 h2 h3 hR hS hL
  exact lv_ineg S.1 S.2.1 hd (k p l e Rm s m args below meth c H locs cells slots mc ms n0 z sk D cy lo S h1 h2 h3 hR hS hL)
theorem aw_lor (q : Nat) {x y : Int64} (hd : decode μ.2.1 pc = .ok (.lor, 1)) (hp : pc + 1 = q)  (k : AW μ d b1 b2 g q ls (.long (x ||| y) :: st) M V R Q) : AW μ d b1 b2 g pc ls (.long y :: .long x :: st) M V R Q := by
  subst hp
  intro p l e Rm s m args below meth c H locs cells slots mc ms n0 z sk D cy lo S h1 h2 h3 hR hS hL
  exact lv_lor S.1 S.2.1 hd (k p l e Rm s m args below meth c H locs cells slots mc ms n0 z sk D cy lo S h1 h2 h3 hR hS hL)
theorem aw_land (q : Nat) {x y : Int64} (hd : decode μ.2.1 pc = .ok (.land, 1)) (hp : pc + 1 = q)  (k : AW μ d b1 b2 g q ls (.long (x &&& y) :: st) M V R Q) : AW μ d b1 b2 g pc ls (.long y :: .long x :: st) M V R Q := by
  subst hp
  intro p l e Rm s m args below meth c H locs cells slots mc ms n0 z sk D cy lo S h1 h2 h3 hR hS hL
  exact lv_land S.1 S.2.1 hd (k p l e Rm s m args below meth c H locs cells slots mc ms n0 z sk D cy lo S h1 h2 h3 hR hS hL)
theorem aw_lshl (q : Nat) {x v : Int64} {y : Int32} (hd : decode μ.2.1 pc = .ok (.lshl, 1)) (hp : pc + 1 = q) (hv : x <<< (y.toInt64 &&& 63) = v) (k : AW μ d b1 b2 g q ls (.long v :: st) M V R Q) : AW μ d b1 b2 g pc ls (.int y :: .long x :: st) M V R Q := by
  subst hp
  intro p l e Rm s m args below meth c H locs cells slots mc ms n0 z sk D cy lo S h1 h2 h3 hR hS hL
  exact lv_lshl S.1 S.2.1 hd hv (k p l e Rm s m args below meth c H locs cells slots mc ms n0 z sk D cy lo S h1 h2 h3 hR hS hL)
theorem aw_lushr (q : Nat) {x v : Int64} {y : Int32} (hd : decode μ.2.1 pc = .ok (.lushr, 1)) (hp : pc + 1 = q) (hv : (x.toUInt64 >>> (y.toInt64.toUInt64 &&& Int64.toUInt64 63)).toInt64 = v) (k : AW μ d b1 b2 g q ls (.long v :: st) M V R Q) : AW μ d b1 b2 g pc ls (.int y :: .long x :: st) M V R Q := by
  subst hp
  intro p l e Rm s m args below meth c H locs cells slots mc ms n0 z sk D cy lo S h1 h2 h3 hR hS hL
  exact lv_lushr S.1 S.2.1 hd hv (k p l e Rm s m args below meth c H locs cells slots mc ms n0 z sk D cy lo S h1 h2 h3 hR hS hL)
theorem aw_lcmp (q : Nat) {x y : Int64} (hd : decode μ.2.1 pc = .ok (.lcmp, 1)) (hp : pc + 1 = q)  (k : AW μ d b1 b2 g q ls (.int (lg_cmp x y) :: st) M V R Q) : AW μ d b1 b2 g pc ls (.long y :: .long x :: st) M V R Q := by
  subst hp
  intro p l e Rm s m args below meth c H locs cells slots mc ms n0 z sk D cy lo S h1 h2 h3 hR hS hL
  exact W.lcmp S.1 S.2.1 hd (k p l e Rm s m args below meth c H locs cells slots mc ms n0 z sk D cy lo S h1 h2 h3 hR hS hL)
theorem aw_dup (q : Nat) {v : Value} (hd : decode μ.2.1 pc = .ok (.dup, 1)) (hp : pc + 1 = q) (hv : v.category = 1) (k : AW μ d b1 b2 g q ls (v :: v :: st) M V R Q) : AW μ d b1 b2 g pc ls (v :: st) M V R Q := by
  subst hp
  intro p l e Rm s m args below meth c H locs cells slots mc ms n0 z sk D cy lo S h1 h2 h3 hR hS hL
  exact lv_dup S.1 S.2.1 hd (by rw [am_cv_cat]; exact hv) (k p l e Rm s m args below meth c H locs cells slots mc ms n0 z sk D cy lo S h1 h2 h3 hR hS hL)
theorem aw_dup2 (q : Nat) {u v : Value} (hd : decode μ.2.1 pc = .ok (.dup2, 1)) (hp : pc + 1 = q) (hu : u.category = 1) (hv : v.category = 1) (k : AW μ d b1 b2 g q ls (u :: v :: u :: v :: st) M V R Q) : AW μ d b1 b2 g pc ls (u :: v :: st) M V R Q := by
  subst hp
  intro p l e Rm s m args below meth c H locs cells slots mc ms n0 z sk D cy lo S h1 h2 h3 hR hS hL
  exact lv_dup2_11 S.1 S.2.1 hd (by rw [am_cv_cat]; exact hu) (by rw [am_cv_cat]; exact hv) (k p l e Rm s m args below meth c H locs cells slots mc ms n0 z sk D cy lo S h1 h2 h3 hR hS hL)
theorem aw_icmp_eq (t q : Nat) {x y : Int32} {off : Int} (hd : decode μ.2.1 pc = .ok (.if_icmp .eq off, 3)) (ht : (pc : Int) + off = (t : Int)) (hp : pc + 3 = q) (kt : x = y → AW μ d b1 b2 g t ls st M V R Q) (kf : ¬ x = y → AW μ d b1 b2 g q ls st M V R Q) : AW μ d b1 b2 g pc ls (.int y :: .int x :: st) M V R Q := by
  subst hp
  intro p l e Rm s m args below meth c H locs cells slots mc ms n0 z sk D cy lo S h1 h2 h3 hR hS hL
  exact lv_icmp_eq S.1 S.2.1 hd ht (fun q => kt q p l e Rm s m args below meth c H locs cells slots mc ms n0 z sk D cy lo S h1 h2 h3 hR hS hL) (fun q => kf q p l e Rm s m args below meth c H locs cells slots mc ms n0 z sk D cy lo S h1 h2 h3 hR hS hL)
theorem aw_icmp_ne (t q : Nat) {x y : Int32} {off : Int} (hd : decode μ.2.1 pc = .ok (.if_icmp .ne off, 3)) (ht : (pc : Int) + off = (t : Int)) (hp : pc + 3 = q) (kt : ¬ x = y → AW μ d b1 b2 g t ls st M V R Q) (kf : x = y → AW μ d b1 b2 g q ls st M V R Q) : AW μ d b1 b2 g pc ls (.int y :: .int x :: st) M V R Q := by
  subst hp
  intro p l e Rm s m args below meth c H locs cells slots mc ms n0 z sk D cy lo S h1 h2 h3 hR hS hL
  exact lv_icmp_ne S.1 S.2.1 hd ht (fun q => kt q p l e Rm s m args below meth c H locs cells slots mc ms n0 z sk D cy lo S h1 h2 h3 hR hS hL) (fun q => kf q p l e Rm s m args below meth c H locs cells slots mc ms n0 z sk D cy lo S h1 h2 h3 hR hS hL)
theorem aw_icmp_lt (t q : Nat) {x y : Int32} {off : Int} (hd : decode μ.2.1 pc = .ok (.if_icmp .lt off, 3)) (ht : (pc : Int) + off = (t : Int)) (hp : pc + 3 = q) (kt : x < y → AW μ d b1 b2 g t ls st M V R Q) (kf : ¬ x < y → AW μ d b1 b2 g q ls st M V R Q) : AW μ d b1 b2 g pc ls (.int y :: .int x :: st) M V R Q := by
  subst hp
  intro p l e Rm s m args below meth c H locs cells slots mc ms n0 z sk D cy lo S h1 h2 h3 hR hS hL
  exact lv_icmp_lt S.1 S.2.1 hd ht (fun q => kt q p l e Rm s m args below meth c H locs cells slots mc ms n0 z sk D cy lo S h1 h2 h3 hR hS hL) (fun q => kf q p l e Rm s m args below meth c H locs cells slots mc ms n0 z sk D cy lo S h1 h2 h3 hR hS hL)
theorem aw_icmp_ge (t q : Nat) {x y : Int32} {off : Int} (hd : decode μ.2.1 pc = .ok (.if_icmp .ge off, 3)) (ht : (pc : Int) + off = (t : Int)) (hp : pc + 3 = q) (kt : y ≤ x → AW μ d b1 b2 g t ls st M V R Q) (kf : ¬ y ≤ x → AW μ d b1 b2 g q ls st M V R Q) : AW μ d b1 b2 g pc ls (.int y :: .int x :: st) M V R Q := by
  subst hp
  intro p l e Rm s m args below meth c H locs cells slots mc ms n0 z sk D cy lo S h1 h2 h3 hR hS hL
  exact lv_icmp_ge S.1 S.2.1 hd ht (fun q => kt q p l e Rm s m args below meth c H locs cells slots mc ms n0 z sk D cy lo S h1 h2 h3 hR hS hL) (fun q => kf q p l e Rm s m args below meth c H locs cells slots mc ms n0 z sk D cy lo S h1 h2 h3 hR hS hL)
theorem aw_icmp_gt (t q : Nat) {x y : Int32} {off : Int} (hd : decode μ.2.1 pc = .ok (.if_icmp .gt off, 3)) (ht : (pc : Int) + off = (t : Int)) (hp : pc + 3 = q) (kt : y < x → AW μ d b1 b2 g t ls st M V R Q) (kf : ¬ y < x → AW μ d b1 b2 g q ls st M V R Q) : AW μ d b1 b2 g pc ls (.int y :: .int x :: st) M V R Q := by
  subst hp
  intro p l e Rm s m args below meth c H locs cells slots mc ms n0 z sk D cy lo S h1 h2 h3 hR hS hL
  exact lv_icmp_gt S.1 S.2.1 hd ht (fun q => kt q p l e Rm s m args below meth c H locs cells slots mc ms n0 z sk D cy lo S h1 h2 h3 hR hS hL) (fun q => kf q p l e Rm s m args below meth c H locs cells slots mc ms n0 z sk D cy lo S h1 h2 h3 hR hS hL)
theorem aw_icmp_le (t q : Nat) {x y : Int32} {off : Int} (hd : decode μ.2.1 pc = .ok (.if_icmp .le off, 3)) (ht : (pc : Int) + off = (t : Int)) (hp : pc + 3 = q) (kt : x ≤ y → AW μ d b1 b2 g t ls st M V R Q) (kf : ¬ x ≤ y → AW μ d b1 b2 g q ls st M V R Q) : AW μ d b1 b2 g pc ls (.int y :: .int x :: st) M V R Q := by
  subst hp
  intro p l e Rm s m args below meth c H locs cells slots mc ms n0 z sk D cy lo S h1 h2 h3 hR hS hL
  exact lv_icmp_le S.1 S.2.1 hd ht (fun q => kt q p l e Rm s m args below meth c H locs cells slots mc ms n0 z sk D cy lo S h1 h2 h3 hR hS hL) (fun q => kf q p l e Rm s m args below meth c H locs cells slots mc ms n0 z sk D cy lo S h1 h2 h3 hR hS hL)
theorem aw_if_eq (t q : Nat) {x : Int32} {off : Int} (hd : decode μ.2.1 pc = .ok (.ifCond .eq off, 3)) (ht : (pc : Int) + off = (t : Int)) (hp : pc + 3 = q) (kt : x = 0 → AW μ d b1 b2 g t ls st M V R Q) (kf : ¬ x = 0 → AW μ d b1 b2 g q ls st M V R Q) : AW μ d b1 b2 g pc ls (.int x :: st) M V R Q := by
  subst hp
  intro p l e Rm s m args below meth c H locs cells slots mc ms n0 z sk D cy lo S h1 h2 h3 hR hS hL
  exact lv_if_eq S.1 S.2.1 hd ht (fun q => kt q p l e Rm s m args below meth c H locs cells slots mc ms n0 z sk D cy lo S h1 h2 h3 hR hS hL) (fun q => kf q p l e Rm s m args below meth c H locs cells slots mc ms n0 z sk D cy lo S h1 h2 h3 hR hS hL)
theorem aw_if_ne (t q : Nat) {x : Int32} {off : Int} (hd : decode μ.2.1 pc = .ok (.ifCond .ne off, 3)) (ht : (pc : Int) + off = (t : Int)) (hp : pc + 3 = q) (kt : ¬ x = 0 → AW μ d b1 b2 g t ls st M V R Q) (kf : x = 0 → AW μ d b1 b2 g q ls st M V R Q) : AW μ d b1 b2 g pc ls (.int x :: st) M V R Q := by
  subst hp
  intro p l e Rm s m args below meth c H locs cells slots mc ms n0 z sk D cy lo S h1 h2 h3 hR hS hL
  exact lv_if_ne S.1 S.2.1 hd ht (fun q => kt q p l e Rm s m args below meth c H locs cells slots mc ms n0 z sk D cy lo S h1 h2 h3 hR hS hL) (fun q => kf q p l e Rm s m args below meth c H locs cells slots mc ms n0 z sk D cy lo S h1 h2 h3 hR hS hL)
theorem aw_if_lt (t q : Nat) {x : Int32} {off : Int} (hd : decode μ.2.1 pc = .ok (.ifCond .lt off, 3)) (ht : (pc : Int) + off = (t : Int)) (hp : pc + 3 = q) (kt : x < 0 → AW μ d b1 b2 g t ls st M V R Q) (kf : ¬ x < 0 → AW μ d b1 b2 g q ls st M V R Q) : AW μ d b1 b2 g pc ls (.int x :: st) M V R Q := by
  subst hp
  intro p l e Rm s m args below meth c H locs cells slots mc ms n0 z sk D cy lo S h1 h2 h3 hR hS hL
  exact lv_if_lt S.1 S.2.1 hd ht (fun q => kt q p l e Rm s m args below meth c H locs cells slots mc ms n0 z sk D cy lo S h1 h2 h3 hR hS hL) (fun q => kf q p l e Rm s m args below meth c H locs cells slots mc ms n0 z sk D cy lo S h1 h2 h3 hR hS hL)
theorem aw_if_ge (t q : Nat) {x : Int32} {off : Int} (hd : decode μ.2.1 pc = .ok (.ifCond .ge off, 3)) (ht : (pc : Int) + off = (t : Int)) (hp : pc + 3 = q) (kt : 0 ≤ x → AW μ d b1 b2 g t ls st M V R Q) (kf : ¬ 0 ≤ x → AW μ d b1 b2 g q ls st M V R Q) : AW μ d b1 b2 g pc ls (.int x :: st) M V R Q := by
  subst hp
  intro p l e Rm s m args below meth c H locs cells slots mc ms n0 z sk D cy lo S h1 h2 h3 hR hS hL
  exact lv_if_ge S.1 S.2.1 hd ht (fun q => kt q p l e Rm s m args below meth c H locs cells slots mc ms n0 z sk D cy lo S h1 h2 h3 hR hS hL) (fun q => kf q p l e Rm s m args below meth c H locs cells slots mc ms n0 z sk D cy lo S h1 h2 h3 hR hS hL)
theorem aw_if_gt (t q : Nat) {x : Int32} {off : Int} (hd : decode μ.2.1 pc = .ok (.ifCond .gt off, 3)) (ht : (pc : Int) + off = (t : Int)) (hp : pc + 3 = q) (kt : 0 < x → AW μ d b1 b2 g t ls st M V R Q) (kf : ¬ 0 < x → AW μ d b1 b2 g q ls st M V R Q) : AW μ d b1 b2 g pc ls (.int x :: st) M V R Q := by
  subst hp
  intro p l e Rm s m args below meth c H locs cells slots mc ms n0 z sk D cy lo S h1 h2 h3 hR hS hL
  exact lv_if_gt S.1 S.2.1 hd ht (fun q => kt q p l e Rm s m args below meth c H locs cells slots mc ms n0 z sk D cy lo S h1 h2 h3 hR hS hL) (fun q => kf q p l e Rm s m args below meth c H locs cells slots mc ms n0 z sk D cy lo S h1 h2 h3 hR hS hL)
theorem aw_if_le (t q : Nat) {x : Int32} {off : Int} (hd : decode μ.2.1 pc = .ok (.ifCond .le off, 3)) (ht : (pc : Int) + off = (t : Int)) (hp : pc + 3 = q) (kt : x ≤ 0 → AW μ d b1 b2 g t ls st M V R Q) (kf : ¬ x ≤ 0 → AW μ d b1 b2 g q ls st M V R Q) : AW μ d b1 b2 g pc ls (.int x :: st) M V R Q := by
  subst hp
  intro p l e Rm s m args below meth c H locs cells slots mc ms n0 z sk D cy lo S h1 h2 h3 hR hS hL
  exact lv_if_le S.1 S.2.1 hd ht (fun q => kt q p l e Rm s m args below meth c H locs cells slots mc ms n0 z sk D cy lo S h1 h2 h3 hR hS hL) (fun q => kf q p l e Rm s m args below meth c H locs cells slots mc ms n0 z sk D cy lo S h1 h2 h3 hR hS hL)
theorem aw_goto (t : Nat) {off : Int} (hd : decode μ.2.1 pc = .ok (.goto off, 3)) (ht : (pc : Int) + off = (t : Int)) (k : AW μ d b1 b2 g t ls st M V R Q) : AW μ d b1 b2 g pc ls st M V R Q := by
  intro p l e Rm s m args below meth c H locs cells slots mc ms n0 z sk D cy lo S h1 h2 h3 hR hS hL
  exact lv_goto S.1 S.2.1 hd ht (k p l e Rm s m args below meth c H locs cells slots mc ms n0 z sk D cy lo S h1 h2 h3 hR hS hL)
theorem aw_tableOut (t : Nat) {dflt lw hg : Int} {offs : Array Int} {len : Nat} {x : Int32} (hd : decode μ.2.1 pc = .ok (.tableswitch dflt lw hg offs, len)) (h : x.toInt < lw ∨ hg < x.toInt) (ht : (pc : Int) + dflt = (t : Int)) (k : AW μ d b1 b2 g t ls st M V R Q) : AW μ d b1 b2 g pc ls (.int x :: st) M V R Q := by
  intro p l e Rm s m args below meth c H locs cells slots mc ms n0 z sk D cy lo S h1 h2 h3 hR hS hL
  exact lv_tableOut S.1 S.2.1 hd h ht (k p l e Rm s m args below meth c H locs cells slots mc ms n0 z sk D cy lo S h1 h2 h3 hR hS hL)
theorem aw_tableIn (t : Nat) {dflt lw hg off : Int} {offs : Array Int} {len : Nat} {x : Int32} (hd : decode μ.2.1 pc = .ok (.tableswitch dflt lw hg offs, len)) (ha : ¬ x.toInt < lw) (hb : ¬ hg < x.toInt) (ho : offs[(x.toInt - lw).toNat]? = some off) (ht : (pc : Int) + off = (t : Int)) (k : AW μ d b1 b2 g t ls st M V R Q) : AW μ d b1 b2 g pc ls (.int x :: st) M V R Q := by
  intro p l e Rm s m args below meth c H locs cells slots mc ms n0 z sk D cy lo S h1 h2 h3 hR hS hL
  exact lv_tableIn S.1 S.2.1 hd ha hb ho ht (k p l e Rm s m args below meth c H locs cells slots mc ms n0 z sk D cy lo S h1 h2 h3 hR hS hL)
theorem aw_lookup (t : Nat) {dflt off : Int} {ps : Array (Int × Int)} {len : Nat} {x : Int32} (hd : decode μ.2.1 pc = .ok (.lookupswitch dflt ps, len)) (hq : (ps.toList.zip (ps.toList.drop 1)).all (fun (a, next) => a.1 < next.1) = true) (ho : Op.lookupswitch.offset ps.toList dflt x.toInt = off) (ht : (pc : Int) + off = (t : Int)) (k : AW μ d b1 b2 g t ls st M V R Q) : AW μ d b1 b2 g pc ls (.int x :: st) M V R Q := by
  intro p l e Rm s m args below meth c H locs cells slots mc ms n0 z sk D cy lo S h1 h2 h3 hR hS hL
  exact lv_lookup S.1 S.2.1 hd hq ho ht (k p l e Rm s m args below meth c H locs cells slots mc ms n0 z sk D cy lo S h1 h2 h3 hR hS hL)
end AR
