/-! The law walked over the same machine: a judgement of its own, for it reads the script. -/
def R_law : String := "HungPicturesLaw"
def lw_P (b : Addr) (xs : List Int32) (args : Array Value) (s : State) : Prop := args = #[.ref b] ∧ s.IntsAt b xs ∧ xs.length ≤ 1536 ∧ (Jvm.Cond.and given_1 narrow_1).before args s = true
def lw_Q (_ : Array Value) (s : State) (o : Outcome) (t : State) : Prop := o = .returned (some (.int 1)) ∧ Framed s o t [] 600000 7302250
def lw_Z (below : List Frame) (a : Array Value) (s : State) : State → Prop := fun t => ∃ o, t.status = .running ∧ Ended t below o ∧ lw_Q a s o t
/-- the law's own end, with 1 on the stack, nothing written that was there before, its room as the claim has it -/
theorem lw_ret {p : Program} {l : Launch} {e : Env} {s : State} {m : MethodId} {below : List Frame} {meth : Method} {c : Code} {b : Nat} (hx : p.tables.exec = Jvm.exec) (hb : c.code = code) (hr : meth.sig.returnType = ret) (hlocks : meth.locks = false) {pc : Nat} {H : Heap} {ls : Array Slot} (hdg : decode code pc = .ok (.ireturn, 1)) : W p l e room_1 s m #[Value.ref b] below meth c H [] 600000 7302250 (lw_Z below #[Value.ref b] s) (F0 m pc ls [.int 1]) := by
  intro T hT X
  obtain ⟨fs, hret, hrun, hended, hW, hframe⟩ := X.leave (v := some (.int 1)) (hlocks := hlocks) (fun h => by rw [hr] at h; cases h)
  have hmeth' : T.vm.method? m = some meth := X.method'
  refine ⟨T.setFrames fs, ?_, .returned (some (.int 1)), hrun, hended, rfl, ⟨_, rfl⟩, hW, hframe⟩
  jvm_step X.here [X.here.top, hx, hb, hdg, hmeth', hr, ret, narrow_b1]
  (try refine ⟨rfl, ?_⟩); (try refine ⟨rfl, ?_⟩)
  first | (intro acts; rw [hret _ acts rfl rfl rfl]) | rw [hret _ _ rfl rfl rfl]
  exact Steps.refl _
/-- what holds at the law's entry: the machine, the code, the tables' words (any of lw_tbl by 'hts w (by decide +kernel)'), the script of L ints xs at the cell b, what the Statement gives of the start (any of its parts by flat_of_before) -/
def lw_At (p : Program) (s : State) (m : MethodId) (meth : Method) (c : Code) (b L : Nat) (xs : Nat → Int32) : Prop :=
  p.tables.exec = Jvm.exec ∧ c.code = code ∧ meth.sig.returnType = ret ∧ c.maxLocals = 4 ∧ s.vm.findClass R_law = some m.cls ∧ (∀ w ∈ lw_tbl, w.before #[Value.ref b] s = true) ∧ va_X b L xs s s.heap ∧ b < s.heap.size ∧ meth.locks = false ∧ (Jvm.Cond.and given_1 narrow_1).before #[Value.ref b] s = true
def lwS (L : Nat) (xs : Nat → Int32) (p : Program) (s : State) (m : MethodId) (meth : Method) (c : Code) (b z : Nat) (sk : Nat → Nat) (D : va_G) (cy : Nat → ClassId) : Prop := p.tables.exec = Jvm.exec ∧ c.code = code ∧ meth.sig.returnType = ret ∧ c.maxLocals = 4 ∧ s.vm.findClass RL = some m.cls ∧ (∀ w ∈ am_g, w.before #[Value.ref b] s = true) ∧ meth.locks = false ∧ am_U z sk D cy s ∧ va_X b L xs s s.heap ∧ b < s.heap.size ∧ s.heap.size = z ∧ sk 13 = b
def LW (L : Nat) (xs : Nat → Int32) (b1 b2 : Nat) (g : am_G) (pc : Nat) (ls : List (Option Value)) (st : List Value) (M : am_I) (V : am_J) (R : am_O) : Prop :=
  ∀ (p : Program) (l : Launch) (e : Env) (s : State) (m : MethodId) (below : List Frame) (meth : Method) (c : Code) (H : Heap) (locs : List Loc) (cells slots z : Nat) (sk : Nat → Nat) (D : va_G) (cy : Nat → ClassId) (lo : Array Slot) (b : Nat),
    lwS L xs p s m meth c b z sk D cy → (cells + b1 ≤ 1000 ∧ slots + b2 ≤ 100000) → cells = g.1 → am_R z sk D cy g M V R H → va_S (am_A z) s.heap H locs → am_lo (am_as z sk) 4 ls lo →
    W p l e room_1 s m #[Value.ref b] below meth c H locs cells slots (lw_Z below #[Value.ref b] s) (F0 m pc lo (st.map (am_cv (am_as z sk))))
section LWR
variable {L : Nat} {xs : Nat → Int32} {b1 b2 : Nat} {g : am_G} {pc : Nat} {ls : List (Option Value)} {st : List Value} {M : am_I} {V : am_J} {R : am_O}
theorem lw_iconst (q : Nat) {n : Int} (v : Int32) (hd : decode code pc = .ok (.iconst n, 1)) (hp : pc + 1 = q) (hv : Int32.ofInt n = v) (k : LW L xs b1 b2 g q ls (.int v :: st) M V R) : LW L xs b1 b2 g pc ls st M V R := by
  subst hp
  intro p l e s m below meth c H locs cells slots z sk D cy lo b S h1 h3 hR hS hL
  obtain ⟨hx, hb, hret, hml, hown, hts, hlks, hU, hX, hbl, hz, hsk⟩ := id S
  exact lv_iconst hx hb hd hv (k p l e s m below meth c H locs cells slots z sk D cy lo b S h1 h3 hR hS hL)
theorem lw_bipush (q : Nat) {n : Int} (v : Int32) (hd : decode code pc = .ok (.bipush n, 2)) (hp : pc + 2 = q) (hv : (Int8.ofInt n).toInt32 = v) (k : LW L xs b1 b2 g q ls (.int v :: st) M V R) : LW L xs b1 b2 g pc ls st M V R := by
  subst hp
  intro p l e s m below meth c H locs cells slots z sk D cy lo b S h1 h3 hR hS hL
  obtain ⟨hx, hb, hret, hml, hown, hts, hlks, hU, hX, hbl, hz, hsk⟩ := id S
  exact lv_bipush hx hb hd hv (k p l e s m below meth c H locs cells slots z sk D cy lo b S h1 h3 hR hS hL)
theorem lw_iload_n (q : Nat) {i : Fin 4} {x : Int32} (hd : decode code pc = .ok (.iload_n i, 1)) (hp : pc + 1 = q) (hl : ls[(i : Nat)]? = some (some (.int x))) (k : LW L xs b1 b2 g q ls (.int x :: st) M V R) : LW L xs b1 b2 g pc ls st M V R := by
  subst hp
  intro p l e s m below meth c H locs cells slots z sk D cy lo b S h1 h3 hR hS hL
  obtain ⟨hx, hb, hret, hml, hown, hts, hlks, hU, hX, hbl, hz, hsk⟩ := id S
  exact lv_iload_n hx hb hd rfl (hL.2.2 _ _ hl) (k p l e s m below meth c H locs cells slots z sk D cy lo b S h1 h3 hR hS hL)
theorem lw_aload_n (q : Nat) {i : Fin 4} {x : Nat} (hd : decode code pc = .ok (.aload_n i, 1)) (hp : pc + 1 = q) (hl : ls[(i : Nat)]? = some (some (.ref x))) (k : LW L xs b1 b2 g q ls (.ref x :: st) M V R) : LW L xs b1 b2 g pc ls st M V R := by
  subst hp
  intro p l e s m below meth c H locs cells slots z sk D cy lo b S h1 h3 hR hS hL
  obtain ⟨hx, hb, hret, hml, hown, hts, hlks, hU, hX, hbl, hz, hsk⟩ := id S
  exact lv_aload_n hx hb hd rfl (hL.2.2 _ _ hl) (k p l e s m below meth c H locs cells slots z sk D cy lo b S h1 h3 hR hS hL)
theorem lw_istore_n (q : Nat) {i : Fin 4} {x : Int32} (ls' : List (Option Value)) (hd : decode code pc = .ok (.istore_n i, 1)) (hp : pc + 1 = q) (hc : am_c1 ls = true) (hi : (i : Nat) < ls.length) (hm : (i : Nat) < 4) (hs : ls.set (i : Nat) (some (.int x)) = ls') (k : LW L xs b1 b2 g q ls' st M V R) : LW L xs b1 b2 g pc ls (.int x :: st) M V R := by
  subst hs
  subst hp
  intro p l e s m below meth c H locs cells slots z sk D cy lo b S h1 h3 hR hS hL
  obtain ⟨hx, hb, hret, hml, hown, hts, hlks, hU, hX, hbl, hz, hsk⟩ := id S
  exact lv_istore_n hx hb hd rfl hL.has hm rfl (fun lo' hl' => (k p l e s m below meth c H locs cells slots z sk D cy lo' b S h1 h3 hR hS (am_lo.set (x := .int x) hc hi hl')))
theorem lw_astore_n (q : Nat) {i : Fin 4} {x : Nat} (ls' : List (Option Value)) (hd : decode code pc = .ok (.astore_n i, 1)) (hp : pc + 1 = q) (hc : am_c1 ls = true) (hi : (i : Nat) < ls.length) (hm : (i : Nat) < 4) (hs : ls.set (i : Nat) (some (.ref x)) = ls') (k : LW L xs b1 b2 g q ls' st M V R) : LW L xs b1 b2 g pc ls (.ref x :: st) M V R := by
  subst hs
  subst hp
  intro p l e s m below meth c H locs cells slots z sk D cy lo b S h1 h3 hR hS hL
  obtain ⟨hx, hb, hret, hml, hown, hts, hlks, hU, hX, hbl, hz, hsk⟩ := id S
  exact lv_astore_n hx hb hd rfl hL.has hm rfl (fun lo' hl' => (k p l e s m below meth c H locs cells slots z sk D cy lo' b S h1 h3 hR hS (am_lo.set (x := .ref x) hc hi hl')))
theorem lw_iinc (q : Nat) {i : Nat} {n : Int} {x : Int32} (v : Int32) (ls' : List (Option Value)) (hd : decode code pc = .ok (.iinc i n, 3)) (hp : pc + 3 = q) (hl : ls[i]? = some (some (.int x))) (hv : x + Int32.ofInt n = v) (hc : am_c1 ls = true) (hm : i < 4) (hs : ls.set i (some (.int v)) = ls') (k : LW L xs b1 b2 g q ls' st M V R) : LW L xs b1 b2 g pc ls st M V R := by
  subst hs
  subst hp
  intro p l e s m below meth c H locs cells slots z sk D cy lo b S h1 h3 hR hS hL
  obtain ⟨hx, hb, hret, hml, hown, hts, hlks, hU, hX, hbl, hz, hsk⟩ := id S
  have hi : i < ls.length := (List.getElem?_eq_some_iff.mp hl).1
  obtain ⟨j, hj⟩ := List.getElem?_of_mem (am_ll_mem (f := am_as z sk) hl)
  exact lv_iinc hx hb hd hL.has (k := j) hj hv hm rfl (fun lo' hl' => (k p l e s m below meth c H locs cells slots z sk D cy lo' b S h1 h3 hR hS (am_lo.set (x := .int v) hc hi hl')))
theorem lw_iadd (q : Nat) {x y : Int32} (hd : decode code pc = .ok (.iadd, 1)) (hp : pc + 1 = q)  (k : LW L xs b1 b2 g q ls (.int (x + y) :: st) M V R) : LW L xs b1 b2 g pc ls (.int y :: .int x :: st) M V R := by
  subst hp
  intro p l e s m below meth c H locs cells slots z sk D cy lo b S h1 h3 hR hS hL
  obtain ⟨hx, hb, hret, hml, hown, hts, hlks, hU, hX, hbl, hz, hsk⟩ := id S
  exact lv_iadd hx hb hd (k p l e s m below meth c H locs cells slots z sk D cy lo b S h1 h3 hR hS hL)
theorem lw_isub (q : Nat) {x y : Int32} (hd : decode code pc = .ok (.isub, 1)) (hp : pc + 1 = q)  (k : LW L xs b1 b2 g q ls (.int (x - y) :: st) M V R) : LW L xs b1 b2 g pc ls (.int y :: .int x :: st) M V R := by
  subst hp
  intro p l e s m below meth c H locs cells slots z sk D cy lo b S h1 h3 hR hS hL
  obtain ⟨hx, hb, hret, hml, hown, hts, hlks, hU, hX, hbl, hz, hsk⟩ := id S
  exact lv_isub hx hb hd (k p l e s m below meth c H locs cells slots z sk D cy lo b S h1 h3 hR hS hL)
theorem lw_iand (q : Nat) {x y : Int32} (hd : decode code pc = .ok (.iand, 1)) (hp : pc + 1 = q)  (k : LW L xs b1 b2 g q ls (.int (x &&& y) :: st) M V R) : LW L xs b1 b2 g pc ls (.int y :: .int x :: st) M V R := by
  subst hp
  intro p l e s m below meth c H locs cells slots z sk D cy lo b S h1 h3 hR hS hL
  obtain ⟨hx, hb, hret, hml, hown, hts, hlks, hU, hX, hbl, hz, hsk⟩ := id S
  exact lv_iand hx hb hd (k p l e s m below meth c H locs cells slots z sk D cy lo b S h1 h3 hR hS hL)
theorem lw_dup (q : Nat) {v : Value} (hd : decode code pc = .ok (.dup, 1)) (hp : pc + 1 = q) (hv : v.category = 1) (k : LW L xs b1 b2 g q ls (v :: v :: st) M V R) : LW L xs b1 b2 g pc ls (v :: st) M V R := by
  subst hp
  intro p l e s m below meth c H locs cells slots z sk D cy lo b S h1 h3 hR hS hL
  obtain ⟨hx, hb, hret, hml, hown, hts, hlks, hU, hX, hbl, hz, hsk⟩ := id S
  exact lv_dup hx hb hd (by rw [am_cv_cat]; exact hv) (k p l e s m below meth c H locs cells slots z sk D cy lo b S h1 h3 hR hS hL)
theorem lw_icmp_eq (t q : Nat) {x y : Int32} {off : Int} (hd : decode code pc = .ok (.if_icmp .eq off, 3)) (ht : (pc : Int) + off = (t : Int)) (hp : pc + 3 = q) (kt : x = y → LW L xs b1 b2 g t ls st M V R) (kf : ¬ x = y → LW L xs b1 b2 g q ls st M V R) : LW L xs b1 b2 g pc ls (.int y :: .int x :: st) M V R := by
  subst hp
  intro p l e s m below meth c H locs cells slots z sk D cy lo b S h1 h3 hR hS hL
  obtain ⟨hx, hb, hret, hml, hown, hts, hlks, hU, hX, hbl, hz, hsk⟩ := id S
  exact lv_icmp_eq hx hb hd ht (fun q => (kt q p l e s m below meth c H locs cells slots z sk D cy lo b S h1 h3 hR hS hL)) (fun q => (kf q p l e s m below meth c H locs cells slots z sk D cy lo b S h1 h3 hR hS hL))
theorem lw_icmp_gt (t q : Nat) {x y : Int32} {off : Int} (hd : decode code pc = .ok (.if_icmp .gt off, 3)) (ht : (pc : Int) + off = (t : Int)) (hp : pc + 3 = q) (kt : y < x → LW L xs b1 b2 g t ls st M V R) (kf : ¬ y < x → LW L xs b1 b2 g q ls st M V R) : LW L xs b1 b2 g pc ls (.int y :: .int x :: st) M V R := by
  subst hp
  intro p l e s m below meth c H locs cells slots z sk D cy lo b S h1 h3 hR hS hL
  obtain ⟨hx, hb, hret, hml, hown, hts, hlks, hU, hX, hbl, hz, hsk⟩ := id S
  exact lv_icmp_gt hx hb hd ht (fun q => (kt q p l e s m below meth c H locs cells slots z sk D cy lo b S h1 h3 hR hS hL)) (fun q => (kf q p l e s m below meth c H locs cells slots z sk D cy lo b S h1 h3 hR hS hL))
theorem lw_goto (t : Nat) {off : Int} (hd : decode code pc = .ok (.goto off, 3)) (ht : (pc : Int) + off = (t : Int)) (k : LW L xs b1 b2 g t ls st M V R) : LW L xs b1 b2 g pc ls st M V R := by
  intro p l e s m below meth c H locs cells slots z sk D cy lo b S h1 h3 hR hS hL
  obtain ⟨hx, hb, hret, hml, hown, hts, hlks, hU, hX, hbl, hz, hsk⟩ := id S
  exact lv_goto hx hb hd ht (k p l e s m below meth c H locs cells slots z sk D cy lo b S h1 h3 hR hS hL)
theorem lw_tableOut (t : Nat) {dflt lw hg : Int} {offs : Array Int} {len : Nat} {x : Int32} (hd : decode code pc = .ok (.tableswitch dflt lw hg offs, len)) (h : x.toInt < lw ∨ hg < x.toInt) (ht : (pc : Int) + dflt = (t : Int)) (k : LW L xs b1 b2 g t ls st M V R) : LW L xs b1 b2 g pc ls (.int x :: st) M V R := by
  intro p l e s m below meth c H locs cells slots z sk D cy lo b S h1 h3 hR hS hL
  obtain ⟨hx, hb, hret, hml, hown, hts, hlks, hU, hX, hbl, hz, hsk⟩ := id S
  exact lv_tableOut hx hb hd h ht (k p l e s m below meth c H locs cells slots z sk D cy lo b S h1 h3 hR hS hL)
theorem lw_tableIn (t j : Nat) (off : Int) {dflt lw hg : Int} {offs : Array Int} {len : Nat} {x : Int32} (hd : decode code pc = .ok (.tableswitch dflt lw hg offs, len)) (hxj : x.toInt = lw + j) (hj : ¬ hg < lw + j) (ho : offs[j]? = some off) (ht : (pc : Int) + off = (t : Int)) (k : LW L xs b1 b2 g t ls st M V R) : LW L xs b1 b2 g pc ls (.int x :: st) M V R := by
  intro p l e s m below meth c H locs cells slots z sk D cy lo b S h1 h3 hR hS hL
  obtain ⟨hx, hb, hret, hml, hown, hts, hlks, hU, hX, hbl, hz, hsk⟩ := id S
  exact lv_tableIn hx hb hd (by omega) (by omega) (by rw [show (x.toInt - lw).toNat = j by omega]; exact ho) ht (k p l e s m below meth c H locs cells slots z sk D cy lo b S h1 h3 hR hS hL)
theorem lw_slen (q : Nat) (hd : decode code pc = .ok (.arraylength, 1)) (hp : pc + 1 = q) (k : LW L xs b1 b2 g q ls (.int (nI L) :: st) M V R) : LW L xs b1 b2 g pc ls (.ref 1013 :: st) M V R := by
  subst hp
  intro p l e s m below meth c H locs cells slots z sk D cy lo b S h1 h3 hR hS hL
  obtain ⟨hx, hb, hret, hml, hown, hts, hlks, hU, hX, hbl, hz, hsk⟩ := id S
  show W p l e room_1 s m #[Value.ref b] below meth c H locs cells slots _ (F0 m pc lo (.ref (am_as z sk (1000 + 13)) :: st.map (am_cv (am_as z sk))))
  rw [as_s, hsk]
  exact va_slen hx hb hX hbl (fun q => absurd hbl (Nat.not_lt.mpr (by rw [hz]; exact q))) hS hd (k p l e s m below meth c H locs cells slots z sk D cy lo b S h1 h3 hR hS hL)
theorem lw_sld (q j : Nat) {i : Int32} (hd : decode code pc = .ok (.iaload, 1)) (hp : pc + 1 = q) (hi : i = nI j) (hj : j < L) (hL9 : L < 2 ^ 31) (k : LW L xs b1 b2 g q ls (.int (xs j) :: st) M V R) : LW L xs b1 b2 g pc ls (.int i :: .ref 1013 :: st) M V R := by
  subst hp
  subst hi
  intro p l e s m below meth c H locs cells slots z sk D cy lo b S h1 h3 hR hS hL
  obtain ⟨hx, hb, hret, hml, hown, hts, hlks, hU, hX, hbl, hz, hsk⟩ := id S
  show W p l e room_1 s m #[Value.ref b] below meth c H locs cells slots _ (F0 m pc lo (.int (nI j) :: .ref (am_as z sk (1000 + 13)) :: st.map (am_cv (am_as z sk))))
  rw [as_s, hsk]
  refine va_sld hx hb hX hbl (fun q => absurd hbl (Nat.not_lt.mpr (by rw [hz]; exact q))) hS (vp_in_nI hj hL9) hd ?_
  rw [nI_clamp (by omega)]
  exact (k p l e s m below meth c H locs cells slots z sk D cy lo b S h1 h3 hR hS hL)
theorem lw_new (q : Nat) {idx c0 : Nat} (hd : decode code pc = .ok (.new idx, 3)) (hp : pc + 3 = q) (hw : am_nw RL idx c0) (hlt : g.1 < 1000) (k : LW L xs b1 b2 (am_gN g (c0 + 4) 0) q ls (.ref g.1 :: st) (am_row M g.1 (fun _ => 0)) V (am_row R g.1 (fun _ => none))) : LW L xs (b1 + 1) (b2 + am_N c0) g pc ls st M V R := by
  subst hp
  intro p l e s m below meth c H locs cells slots z sk D cy lo b S h1 h3 hR hS hL
  obtain ⟨hx, hb, hret, hml, hown, hts, hlks, hU, hX, hbl, hz, hsk⟩ := id S
  obtain ⟨hc9, w1, w2, w3⟩ := hw
  refine am_size (n0 := 0) ⟨by omega, by omega⟩ hR hS (fun hsz => ?_)
  have hKn := hU.1.1 c0 _ (am_cl c0 hc9)
  refine W.newcK hx hb hown (hts _ w1) (hts _ w2) (hts _ w3) rfl hd (by show cells + 1 ≤ 600000; omega) (by show slots + am_N c0 ≤ 7302250; omega) hKn.2.1 hsz fun H1 kC hkC e1 z1 o1 => ?_
  have e9 : am_as z sk g.1 = z + g.1 := am_as_lt hlt
  have hk := k p l e s m below meth c H1 locs (cells + 1) (slots + am_N c0) z sk D cy lo b S ⟨by omega, by omega⟩ (by show cells + 1 = g.1 + 1; omega) (am_push hR hsz hlt (fun i hi => by simp [am_row, Nat.ne_of_lt hi]) (fun i _ => rfl) (fun i hi => by simp [am_row, Nat.ne_of_lt hi]) (by rw [hsz]; exact o1) (by
    rw [am_ce_ob (c := c0) (by simp [am_gN])]
    refine ⟨_, am_cl c0 hc9, (u_born (am_ty c0) hts (am_in c0 hc9) hKn hkC e1 (am_tyok c0 hc9)).to (fun j hj => ?_)⟩
    simp only [am_row, if_true]
    exact am_dflt hj hc9 _)) (am_S_push hS (by omega) (by rw [hsz]; exact o1)) hL
  rw [show ((Value.ref g.1 :: st).map (am_cv (am_as z sk))) = .ref (z + g.1) :: st.map (am_cv (am_as z sk)) by rw [← e9]; rfl] at hk
  exact hk
theorem lw_callV (q : Nat) {μ' : am_M} {idx n d' mc' ms' : Nat} {c0 : Nat} {r : Nat} {As rest : List Value} {Q' : am_Po} (hd : decode code pc = .ok (.invokevirtual idx, 3)) (hp : pc + 3 = q) (hl : Cond.methodLink RL idx μ'.1 ∈ am_g) (hm : am_mV μ' n c0) (ho : am_ob g r c0) (hC9 : Ct μ' d' mc' ms' (.ref r :: As) g M V R Q') (hn : As.length = n) (hst : st = As.reverse ++ .ref r :: rest) (hd9 : d' ≤ 20) (hct : (rest.map fun v => v.category).sum ≤ 8)
    (k : ∀ (v : Option Value) (g' : am_G) (M' : am_I) (V' : am_J) (R' : am_O), g'.1 = g.1 + mc' → Q' v g' M' V' R' → LW L xs b1 b2 g' q ls (v.toList ++ rest) M' V' R') : LW L xs (b1 + mc') (b2 + ms') g pc ls st M V R := by
  subst hp
  intro p l e s m below meth c H locs cells slots z sk D cy lo b S h1 h3 hR hS hL
  obtain ⟨hx, hb, hret, hml, hown, hts, hlks, hU, hX, hbl, hz, hsk⟩ := id S
  obtain ⟨⟨hpl, hcw, hin9, hdd, hml9⟩, hc9, hC, hinst, hsel⟩ := hm
  refine am_size (n0 := 0) ⟨by omega, by omega⟩ hR hS (fun hsz => ?_)
  have hpre : ∀ U : State, U.heap = H → s.WarmedH U.vm → am_P z sk D cy (.ref r :: As) g M V R (((.ref r :: As)).map (am_cv (am_as z sk))).toArray U := fun U hUh hW => ⟨rfl, hU.warm hW (by rw [hUh]; exact hS), by rw [hUh]; exact hsz, by rw [hUh]; exact hR⟩
  have hg9 := am_good hcw
  have hR9 : (am_rm d' mc' ms').frames + 1 ≤ room_1.frames ∧ 8 + (μ'.2.2.1 + 11) + (am_rm d' mc' ms').locals ≤ room_1.locals := ⟨by show d' + 1 ≤ 2048; omega, by show 8 + (μ'.2.2.1 + 11) + 64 * d' ≤ 84000; omega⟩
  have e9 : am_as z sk r = z + r := am_as_lt (Nat.lt_of_lt_of_le ho.1 hR.1)
  have hrec := va_recv hU.1 hR.2 (am_cl c0 hc9) (by have he := am_get (z := z) (f := am_as z sk) (cy := cy) (M := M) (V := V) (R := R) ho.1; rw [am_ce_ob ho.2] at he; exact he)
  have hrec2 : ∃ cell : Cell, H[am_as z sk r]? = some cell ∧ cell.vm.isStatics = false ∧ s.vm.findClass (am_C c0) = some cell.cls := by rw [e9]; exact hrec
  have hsel2 : (Cond.selects (am_C c0) μ'.1 μ'.1).before #[Value.ref b] s = true := by rw [← hC]; exact hts _ hsel
  refine am_after (va_runV (C := am_C c0) (b := am_as z sk r) (As := As.map (am_cv (am_as z sk))) (rest := rest.map (am_cv (am_as z sk))) ⟨hx, hb, hml, hown, hts⟩ (hC9 l z sk D cy) ⟨callB_of n hts hg9 rfl rfl rfl (hts _ hin9) (hts _ hl) hdd hR9, hts _ hinst, hsel2⟩ ⟨am_blind, hrec2, hpre⟩ rfl (by rw [List.length_map]; exact hn) hL.1 (by rw [hst]; simp only [List.map_append, List.map_reverse, List.map_cons]; rfl) (by show 2 * 0 + _ ≤ 8; rw [am_cat]; omega) hd ⟨by show cells + mc' ≤ 600000; omega, by show slots + ms' ≤ 7302250; omega⟩) hS (fun v g' M' V' R' H1 locs1 hg hq hR1 hS1 => ?_)
  rw [am_otl]
  exact k v g' M' V' R' hg hq p l e s m below meth c H1 locs1 (cells + mc') (slots + ms') z sk D cy lo b S ⟨by omega, by omega⟩ (by omega) hR1 hS1 hL
theorem lw_callI (q : Nat) {μ' : am_M} {idx n d' mc' ms' : Nat}  {r : Nat} {As rest : List Value} {Q' : am_Po} (hd : decode code pc = .ok (.invokespecial idx, 3)) (hp : pc + 3 = q) (hl : Cond.methodLink RL idx μ'.1 ∈ am_g) (hm : am_mI μ' n) (ho : r < g.1) (hC9 : Ct μ' d' mc' ms' (.ref r :: As) g M V R Q') (hn : As.length = n) (hst : st = As.reverse ++ .ref r :: rest) (hd9 : d' ≤ 20) (hct : (rest.map fun v => v.category).sum ≤ 8)
    (k : ∀ (v : Option Value) (g' : am_G) (M' : am_I) (V' : am_J) (R' : am_O), g'.1 = g.1 + mc' → Q' v g' M' V' R' → LW L xs b1 b2 g' q ls (v.toList ++ rest) M' V' R') : LW L xs (b1 + mc') (b2 + ms') g pc ls st M V R := by
  subst hp
  intro p l e s m below meth c H locs cells slots z sk D cy lo b S h1 h3 hR hS hL
  obtain ⟨hx, hb, hret, hml, hown, hts, hlks, hU, hX, hbl, hz, hsk⟩ := id S
  obtain ⟨⟨hpl, hcw, hin9, hdd, hml9⟩, hnI, hrI, hinst⟩ := hm
  refine am_size (n0 := 0) ⟨by omega, by omega⟩ hR hS (fun hsz => ?_)
  have hpre : ∀ U : State, U.heap = H → s.WarmedH U.vm → am_P z sk D cy (.ref r :: As) g M V R (((.ref r :: As)).map (am_cv (am_as z sk))).toArray U := fun U hUh hW => ⟨rfl, hU.warm hW (by rw [hUh]; exact hS), by rw [hUh]; exact hsz, by rw [hUh]; exact hR⟩
  have hg9 := am_good hcw
  have hR9 : (am_rm d' mc' ms').frames + 1 ≤ room_1.frames ∧ 8 + (μ'.2.2.1 + 11) + (am_rm d' mc' ms').locals ≤ room_1.locals := ⟨by show d' + 1 ≤ 2048; omega, by show 8 + (μ'.2.2.1 + 11) + 64 * d' ≤ 84000; omega⟩
  have e9 : am_as z sk r = z + r := am_as_lt (Nat.lt_of_lt_of_le ho hR.1)
  have hw9 : am_w μ' = Cond.code μ'.1 μ'.2.1 μ'.2.2.1 none :: am_g := by rw [← hrI]; rfl
  refine am_after (va_runI (b := am_as z sk r) (As := As.map (am_cv (am_as z sk))) (rest := rest.map (am_cv (am_as z sk))) ⟨hx, hb, hml, hown, hts⟩ (hC9 l z sk D cy) ⟨callB_of n hts hg9 hw9 rfl rfl (hts _ hin9) (hts _ hl) hdd hR9, hnI, hts _ hinst⟩ ⟨am_blind, hpre⟩ rfl (by rw [List.length_map]; exact hn) hL.1 (by rw [hst]; simp only [List.map_append, List.map_reverse, List.map_cons]; rfl) (by show 2 * 0 + _ ≤ 8; rw [am_cat]; omega) hd ⟨by show cells + mc' ≤ 600000; omega, by show slots + ms' ≤ 7302250; omega⟩) hS (fun v g' M' V' R' H1 locs1 hg hq hR1 hS1 => ?_)
  rw [am_otl]
  exact k v g' M' V' R' hg hq p l e s m below meth c H1 locs1 (cells + mc') (slots + ms') z sk D cy lo b S ⟨by omega, by omega⟩ (by omega) hR1 hS1 hL
theorem lw_end (hd : decode code pc = .ok (.ireturn, 1)) : LW L xs b1 b2 g pc ls [.int 1] M V R := by
  intro p l e s m below meth c H locs cells slots z sk D cy lo b S h1 h3 hR hS hL
  obtain ⟨hx, hb, hret, hml, hown, hts, hlks, hU, hX, hbl, hz, hsk⟩ := id S
  refine va_forget (fun q hq => by rw [hz]; exact hS.2.2 q hq) ?_
  refine W.widen (k := 600000) (n := 7302250) (by omega) (by omega) ?_
  exact lw_ret hx hb hret hlks hd
end LWR
