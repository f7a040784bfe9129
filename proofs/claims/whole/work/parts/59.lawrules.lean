/-! THE CLAIM OUT OF ONE WALK OF THE LAW'S BODY. Your part is whole_start (and what it stands on); all else here is the same for every law, but numbers. -/
def R_law : String := "RuleDepthsLaw"
def lw_P (b : Addr) (xs : List Int32) (args : Array Value) (s : State) : Prop := args = #[.ref b] ∧ s.IntsAt b xs ∧ xs.length ≤ 4096 ∧ (Jvm.Cond.and given_1 narrow_1).before args s = true
def lw_Q (_ : Array Value) (s : State) (o : Outcome) (t : State) : Prop := o = .returned (some (.int 1)) ∧ Framed s o t [] 600000 7302250
def lw_Z (below : List Frame) (a : Array Value) (s : State) : State → Prop := fun t => ∃ o, t.status = .running ∧ Ended t below o ∧ lw_Q a s o t
/-- the law's own end, with 1 on the stack, nothing written that was there before, its room as the claim has it -/
theorem lw_ret {p : Program} {l : Launch} {e : Env} {s : State} {m : MethodId} {below : List Frame} {meth : Method} {c : Code} {b : Nat} (hx : p.tables.exec = Jvm.exec) (hb : c.code = code) (hr : meth.sig.returnType = ret) (hlocks : meth.locks = false) {pc : Nat} {H : Heap} {ls : Array Slot} (hdg : decode code pc = .ok (.ireturn, 1)) : W p l e room_1 s m #[Value.ref b] below meth c H [] 600000 7302250 (lw_Z below #[Value.ref b] s) (F0 m pc ls [.int 1]) := by
  intro T hT X
  obtain ⟨fs, hret, hrun, hended, hW, hframe⟩ := X.leave (v := some (.int 1)) (hlocks := hlocks) (fun h => by rw [hr] at h; cases h)
  have hmeth' : T.vm.method? m = some meth := X.method'
  refine ⟨T.setFrames fs, ?_, .returned (some (.int 1)), hrun, hended, rfl, ⟨_, rfl⟩, hW, hframe⟩
  jvm_step X.here [X.here.top, hx, hb, hdg, hmeth', hr, ret, narrow_b1]
  (try refine ⟨rfl, ?_⟩); (try refine ⟨rfl, ?_⟩)
  first | (intro acts; rw [hret _ acts rfl rfl rfl]) | rw [hret _ _ rfl rfl rfl]
  exact Steps.refl _
/-- what holds at the law's entry: the machine, the code, the tables' words (any of lw_tbl by 'hts w (by decide +kernel)'), the script of L ints xs at the cell b, what the Statement gives of the start (any of its parts by flat_of_before) -/
def lw_At (p : Program) (s : State) (m : MethodId) (meth : Method) (c : Code) (b L : Nat) (xs : Nat → Int32) : Prop :=
  p.tables.exec = Jvm.exec ∧ c.code = code ∧ meth.sig.returnType = ret ∧ c.maxLocals = 4 ∧ s.vm.findClass R_law = some m.cls ∧ (∀ w ∈ lw_tbl, w.before #[Value.ref b] s = true) ∧ va_X b L xs s s.heap ∧ b < s.heap.size ∧ meth.locks = false ∧ (Jvm.Cond.and given_1 narrow_1).before #[Value.ref b] s = true

theorem tsw_out24 {x : Int32} (h0 : ¬ x = 0) (h1 : ¬ x = 1) (h2 : ¬ x = 2) (h3 : ¬ x = 3) (h4 : ¬ x = 4) (h5 : ¬ x = 5) (h6 : ¬ x = 6) (h7 : ¬ x = 7) (h8 : ¬ x = 8) (h9 : ¬ x = 9) (h10 : ¬ x = 10) (h11 : ¬ x = 11) (h12 : ¬ x = 12) (h13 : ¬ x = 13) (h14 : ¬ x = 14) (h15 : ¬ x = 15) (h16 : ¬ x = 16) (h17 : ¬ x = 17) (h18 : ¬ x = 18) (h19 : ¬ x = 19) (h20 : ¬ x = 20) (h21 : ¬ x = 21) (h22 : ¬ x = 22) (h23 : ¬ x = 23) : x.toInt < 0 ∨ 23 < x.toInt := by
  have e0 := tsw_out12 h0 h1 h2 h3 h4 h5 h6 h7 h8 h9 h10 h11
  have e12 : x.toInt ≠ 12 := i_ne h12
  have e13 : x.toInt ≠ 13 := i_ne h13
  have e14 : x.toInt ≠ 14 := i_ne h14
  have e15 : x.toInt ≠ 15 := i_ne h15
  have e16 : x.toInt ≠ 16 := i_ne h16
  have e17 : x.toInt ≠ 17 := i_ne h17
  have e18 : x.toInt ≠ 18 := i_ne h18
  have e19 : x.toInt ≠ 19 := i_ne h19
  have e20 : x.toInt ≠ 20 := i_ne h20
  have e21 : x.toInt ≠ 21 := i_ne h21
  have e22 : x.toInt ≠ 22 := i_ne h22
  have e23 : x.toInt ≠ 23 := i_ne h23
  omega
theorem chr_ok (x : Int32) : vp_nar .char ((x.toUInt32 % 65536).toInt32) = (x.toUInt32 % 65536).toInt32 := by
  rw [vp_nar_char]
  simp
  first
    | (congr 1; apply UInt32.toNat_inj.mp; simp; done)
    | (congr 1; apply UInt32.toNat_inj.mp; simp [UInt32.toNat_mod]; done)
    | (congr 1; apply UInt32.toNat_inj.mp; rw [UInt32.toNat_mod, UInt32.toNat_mod]; exact Nat.mod_mod _ _)
    | fail
theorem inst_in {ci : Nat} (h : ci < 12) : Cond.instantiable (cR ci) (cN ci) ∈ gtbl := by
  match ci, h with
  | 0, _ => exact nw_X0.1
  | 1, _ => exact nw_X1.1
  | 2, _ => exact nw_X2.1
  | 3, _ => exact nw_X3.1
  | 4, _ => exact nw_X4.1
  | 5, _ => exact nw_X5.1
  | 6, _ => exact nw_X6.1
  | 7, _ => exact nw_X7.1
  | 8, _ => exact nw_X8.1
  | 9, _ => exact nw_X9.1
  | 10, _ => exact nw_X10.1
  | 11, _ => exact nw_X11.1
  | n + 12, h => exact absurd h (by omega)
theorem arr_prim {args : Array Value} {s : State} {ty : FieldType} (hp : ∀ C, ty ≠ .object C) (h : (Cond.arrayClass ty).before args s = true) : ∃ cA, ArrOfT s cA ty ∧ va_RA s cA ty := by
  first
    | (obtain ⟨cA, kA, comp, h1, h2, h3⟩ := Cond.arrayClass_spec h
       refine ⟨cA, fun n z => ⟨fun k h => (by cases h), kA, h2, comp, h3⟩, ?_⟩
       cases ty with
       | object C => exact absurd rfl (hp C)
       | _ => exact h1)
    | fail
theorem arr_obj {s : State} {C : String} (h : va_AO C s) : ∃ cA, ArrOfT s cA (.object C) ∧ va_RA s cA (.object C) := by
  obtain ⟨comp, c, k, h1, h2, h3, h4, h5⟩ := Cond.arrayOver_spec h
  exact ⟨c, fun N z => ⟨(fun k h => by cases h), k, h3, comp, h4⟩, k, comp, h3, h4, h1, h5⟩
theorem law_Kn {b : Nat} {s : State} (hts : ∀ w ∈ lw_tbl, w.before #[Value.ref b] s = true) : ∃ (D : va_G) (kA : Nat → ClassId), Kn D kA s := by
  have htg : ∀ w ∈ gtbl, w.before #[Value.ref b] s = true := fun w hw => hts w (List.mem_filter.mp hw).1
  have h : ∀ ci, ∃ (cC : ClassId) (iS : Nat → Nat), ci < 12 → u_Kn s (cR ci) (cT ci) (cN ci) cC iS := fun ci => by
    by_cases hc : ci < 12
    · obtain ⟨cC, iS, hk⟩ := u_known (C := cR ci) (T := cT ci) (N := cN ci) (n := cN ci) htg (cws_in hc) (htg _ (inst_in hc))
      exact ⟨cC, iS, fun _ => hk⟩
    · exact ⟨0, fun _ => 0, fun z => absurd z hc⟩
  obtain ⟨a12, p12⟩ := arr_prim (ty := .char) (fun C z => by cases z) (htg _ ac_char)
  obtain ⟨a13, p13⟩ := arr_prim (ty := .int) (fun C z => by cases z) (htg _ ac_int)
  obtain ⟨a14, p14⟩ := arr_prim (ty := .boolean) (fun C z => by cases z) (htg _ ac_boolean)
  have hao : ∀ C ∈ aoW, va_AO C s := fun C hC => by
    have hin : Cond.arrayOver (.object C) ∈ lw_tbl := by
      simp only [aoW, List.mem_cons, List.not_mem_nil, or_false] at hC
      rcases hC with rfl | rfl | rfl <;> decide +kernel
    exact va_AO.of (hts _ hin)
  obtain ⟨a15, p15⟩ := arr_obj (hao RX4 (by decide +kernel))
  obtain ⟨a16, p16⟩ := arr_obj (hao RX5 (by decide +kernel))
  obtain ⟨a17, p17⟩ := arr_obj (hao RX7 (by decide +kernel))
  refine ⟨(fun ci => Classical.choose (h ci), fun ci => Classical.choose (Classical.choose_spec (h ci))), fun k => if k = 12 then a12 else if k = 13 then a13 else if k = 14 then a14 else if k = 15 then a15 else if k = 16 then a16 else a17, ⟨fun c q hq => ?_, fun k q hk => ?_⟩, fun w hw => ?_, hao⟩
  · have hc : c < 12 := by
      rcases Nat.lt_or_ge c 12 with z | z
      · exact z
      · have : vwCl.length = 12 := by decide
        rw [List.getElem?_eq_none (by omega)] at hq
        cases hq
    rw [cl_at hc] at hq
    cases hq
    exact Classical.choose_spec (Classical.choose_spec (h c)) hc
  · match k, hk with
    | 0, hk => cases hk; exact p12
    | 1, hk => cases hk; exact p13
    | 2, hk => cases hk; exact p14
    | 3, hk => cases hk; exact p15
    | 4, hk => cases hk; exact p16
    | 5, hk => cases hk; exact p17
    | k + 6, hk => cases hk
  · have hin : w ∈ lw_tbl := by
      simp only [nestW, List.mem_cons, List.not_mem_nil, or_false] at hw
      rcases hw with rfl | rfl | rfl | rfl | rfl | rfl | rfl | rfl | rfl | rfl <;> decide +kernel
    have hon : w.onTables = true := by
      simp only [nestW, List.mem_cons, List.not_mem_nil, or_false] at hw
      rcases hw with rfl | rfl | rfl | rfl | rfl | rfl | rfl | rfl | rfl | rfl <;> rfl
    exact va_Nw.of hon (hts w hin)
/-! the law's own judgement -/
def mLaw (nm : String) : MT := (⟨RL, nm, "([I)Z"⟩, cL_law, 4, ret)
def OkL (nm : String) (L : Nat) (xs : Nat → Int32) (J : JT) : Prop := ∃ (p : Program) (l : Launch) (e : Env) (s : State) (m : MethodId) (below : List Frame) (meth : Method) (c : Code) (b : Nat) (D : va_G) (kA : Nat → ClassId),
  meth.name = nm ∧ lw_At p s m meth c b L xs ∧ Kn D kA s ∧ J = wc p l e room_1 s m #[Value.ref b] below meth c s.heap.size b D kA 0 (lw_Z below #[Value.ref b] s) 4
theorem OkL.ok {nm : String} {L : Nat} {xs : Nat → Int32} {J : JT} (h : OkL nm L xs J) : Ok (mLaw nm) room_1 J := by
  obtain ⟨p, l, e, s, m, below, meth, c, b, D, kA, hnm, ⟨hx, hb, hr, hml, hown, hts, hX, hbl, hlocks, hgv⟩, hK, rfl⟩ := h
  exact ⟨p, l, e, s, m, _, below, meth, c, s.heap.size, b, D, kA, 0, _, ⟨hx, hb, hml, hr, hown, hlocks, hnm, fun w hw => hts w (List.mem_filter.mp hw).1, hK⟩, rfl, rfl⟩
theorem q_lld {nm : String} {L : Nat} {xs : Nat → Int32} {J : JT} (h : OkL nm L xs J) {cu su pc q : Nat} {ls : List (Option Value)} {st : List Value} {g : Geo} {I : MI} {R : MR} {x : Int32} {j : Nat} (hd : decode cL_law pc = .ok (.iaload, 1)) (hq : pc + 1 = q) (hx0 : x = nI j) (hj : j < L) (hL : L ≤ 4096) (k : J cu su q ls (.int (xs j) :: st) g I R) : J cu su pc ls (.int x :: .float 0 :: st) g I R := by
  obtain ⟨p, l, e, s, m, below, meth, c, b, D, kA, hnm, ⟨hx, hb, hr, hml, hown, hts, hX, hbl, hlocks, hgv⟩, hK, rfl⟩ := h
  subst hq hx0
  intro H locs lsA hg hP hS hLH
  have hk := k H locs lsA hg hP hS hLH
  refine va_sld hx hb hX hbl (Nat.not_le.mpr hbl) hS (vp_in_nI hj (by omega)) hd ?_
  rw [nI_clamp (by omega)]
  exact hk
theorem q_llen {nm : String} {L : Nat} {xs : Nat → Int32} {J : JT} (h : OkL nm L xs J) {cu su pc q : Nat} {ls : List (Option Value)} {st : List Value} {g : Geo} {I : MI} {R : MR} (hd : decode cL_law pc = .ok (.arraylength, 1)) (hq : pc + 1 = q) (k : J cu su q ls (.int (nI L) :: st) g I R) : J cu su pc ls (.float 0 :: st) g I R := by
  obtain ⟨p, l, e, s, m, below, meth, c, b, D, kA, hnm, ⟨hx, hb, hr, hml, hown, hts, hX, hbl, hlocks, hgv⟩, hK, rfl⟩ := h
  subst hq
  intro H locs lsA hg hP hS hLH
  exact va_slen hx hb hX hbl (Nat.not_le.mpr hbl) hS hd (k H locs lsA hg hP hS hLH)
theorem q_lret {nm : String} {L : Nat} {xs : Nat → Int32} {J : JT} (h : OkL nm L xs J) {cu su pc : Nat} {ls : List (Option Value)} {g : Geo} {I : MI} {R : MR} (hd : decode cL_law pc = .ok (.ireturn, 1)) (h1 : cu ≤ 600000) (h2 : su ≤ 7302250) : J cu su pc ls [.int 1] g I R := by
  obtain ⟨p, l, e, s, m, below, meth, c, b, D, kA, hnm, ⟨hx, hb, hr, hml, hown, hts, hX, hbl, hlocks, hgv⟩, hK, rfl⟩ := h
  intro H locs lsA hg hP hS hLH
  refine va_forget (fun q hq => hS.2.2 q hq) ?_
  refine W.widen (k := 600000) (n := 7302250) h1 h2 ?_
  exact lw_ret hx hb hr hlocks hd
