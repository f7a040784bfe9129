/-! THE CLAIM OUT OF ONE WALK OF THE LAW'S BODY. Your part is whole_start (and what it stands on); all else here is the same for every law, but numbers. -/
def R_law : String := "RuleDepthsLaw"
def lw_P (b : Addr) (xs : List Int32) (args : Array Value) (s : State) : Prop := args = #[.ref b] ∧ s.IntsAt b xs ∧ xs.length ≤ 260 ∧ (Jvm.Cond.and given_1 narrow_1).before args s = true
def lw_Q (_ : Array Value) (s : State) (o : Outcome) (t : State) : Prop := o = .returned (some (.int 1)) ∧ Framed s o t [] 600000 7302250
def lw_Z (below : List Frame) (a : Array Value) (s : State) : State → Prop := fun t => ∃ o, t.status = .running ∧ Ended t below o ∧ lw_Q a s o t
/-- the law's own end, with 1 on the stack, nothing written that was there before, its room as the claim has it -/
theorem lw_ret {p : Program} {l : Launch} {e : Env} {s : State} {m : MethodId} {below : List Frame} {meth : Method} {c : Code} {b : Nat} (hx : p.tables.exec = Jvm.exec) (hb : c.code = code) (hr : meth.sig.returnType = ret) (hlocks : meth.locks = false) {pc : Nat} {H : Heap} {ls : Array Slot} (hdg : decode code pc = .ok (.ireturn, 1)) : W p l e room_1 s m #[Value.ref b] below meth c H [] 600000 7302250 (lw_Z below #[Value.ref b] s) (F0 m pc ls [.int 1]) := by
  intro T hT X
  obtain ⟨fs, hret, hrun, hended, hW, hframe⟩ := X.leave (v := some (.int 1)) (hlocks := hlocks) (fun h => by rw [hr] at h; cases h)
  have hmeth' : T.vm.method? m = some meth := X.method'
  refine ⟨T.setFrames fs, ?_, .returned (some (.int 1)), hrun, hended, rfl, ⟨_, rfl⟩, hW, hframe⟩
  jvm_step X.here [X.here.top, hx, hb, hdg, hmeth', hr, ret, narrow_b1]
  (try refine ⟨rfl, ?_⟩); (try refine ⟨rfl, ?_⟩)
  first | (intro acts; rw [hret _ acts rfl rfl rfl]) | rw [hret _ _ rfl rfl rfl]
  exact Steps.refl _
/-- what holds at the law's entry: the machine, the code, the tables' words (any of lw_tbl by 'hts w (by decide +kernel)'), the script of L ints xs at the cell b, what the Statement gives of the start (any of its parts by flat_of_before) -/
def lw_At (p : Program) (s : State) (m : MethodId) (meth : Method) (c : Code) (b L : Nat) (xs : Nat → Int32) : Prop :=
  p.tables.exec = Jvm.exec ∧ c.code = code ∧ meth.sig.returnType = ret ∧ c.maxLocals = 4 ∧ s.vm.findClass R_law = some m.cls ∧ (∀ w ∈ lw_tbl, w.before #[Value.ref b] s = true) ∧ va_X b L xs s s.heap ∧ b < s.heap.size ∧ meth.locks = false ∧ (Jvm.Cond.and given_1 narrow_1).before #[Value.ref b] s = true

theorem inst_in {ci : Nat} (h : ci < 12) : Cond.instantiable (cR ci) (cN ci) ∈ gtbl := by
  match ci, h with
  | 0, _ => exact nw_X0.1
  | 1, _ => exact nw_X1.1
  | 2, _ => exact nw_X2.1
  | 3, _ => exact nw_X3.1
  | 4, _ => exact nw_X4.1
  | 5, _ => exact nw_X5.1
  | 6, _ => exact nw_X6.1
  | 7, _ => exact nw_X7.1
  | 8, _ => exact nw_X8.1
  | 9, _ => exact nw_X9.1
  | 10, _ => exact nw_X10.1
  | 11, _ => exact nw_X10.1
  | n + 12, h => exact absurd h (by omega)
theorem arr_prim {args : Array Value} {s : State} {ty : FieldType} (hp : ∀ C, ty ≠ .object C) (h : (Cond.arrayClass ty).before args s = true) : ∃ cA, ArrOfT s cA ty ∧ va_RA s cA ty := by
  first
    | (obtain ⟨cA, kA, comp, h1, h2, h3⟩ := Cond.arrayClass_spec h
       refine ⟨cA, fun n z => ⟨fun k h => (by cases h), kA, h2, comp, h3⟩, ?_⟩
       cases ty with
       | object C => exact absurd rfl (hp C)
       | _ => exact h1)
    | fail
theorem arr_obj {s : State} {C : String} (h : va_AO C s) : ∃ cA, ArrOfT s cA (.object C) ∧ va_RA s cA (.object C) := by
  obtain ⟨comp, c, k, h1, h2, h3, h4, h5⟩ := Cond.arrayOver_spec h
  exact ⟨c, fun N z => ⟨(fun k h => by cases h), k, h3, comp, h4⟩, k, comp, h3, h4, h1, h5⟩
theorem law_Kn {b : Nat} {s : State} (hts : ∀ w ∈ lw_tbl, w.before #[Value.ref b] s = true) : ∃ (D : va_G) (kA : Nat → ClassId), Kn D kA s := by
  have htg : ∀ w ∈ gtbl, w.before #[Value.ref b] s = true := fun w hw => hts w (List.mem_filter.mp hw).1
  have h : ∀ ci, ∃ (cC : ClassId) (iS : Nat → Nat), ci < 12 → u_Kn s (cR ci) (cT ci) (cN ci) cC iS := fun ci => by
    by_cases hc : ci < 12
    · obtain ⟨cC, iS, hk⟩ := u_known (C := cR ci) (T := cT ci) (N := cN ci) (n := cN ci) htg (cws_in hc) (htg _ (inst_in hc))
      exact ⟨cC, iS, fun _ => hk⟩
    · exact ⟨0, fun _ => 0, fun z => absurd z hc⟩
  obtain ⟨a12, p12⟩ := arr_prim (ty := .char) (fun C z => by cases z) (htg _ ac_char)
  obtain ⟨a13, p13⟩ := arr_prim (ty := .int) (fun C z => by cases z) (htg _ ac_int)
  obtain ⟨a14, p14⟩ := arr_prim (ty := .boolean) (fun C z => by cases z) (htg _ ac_boolean)
  have hao : ∀ C ∈ aoW, va_AO C s := fun C hC => by
    have hin : Cond.arrayOver (.object C) ∈ lw_tbl := by
      simp only [aoW, List.mem_cons, List.not_mem_nil, or_false] at hC
      rcases hC with rfl | rfl | rfl <;> decide +kernel
    exact va_AO.of (hts _ hin)
  obtain ⟨a15, p15⟩ := arr_obj (hao RX4 (by decide +kernel))
  obtain ⟨a16, p16⟩ := arr_obj (hao RX5 (by decide +kernel))
  obtain ⟨a17, p17⟩ := arr_obj (hao RX7 (by decide +kernel))
  refine ⟨(fun ci => Classical.choose (h ci), fun ci => Classical.choose (Classical.choose_spec (h ci))), fun k => if k = 12 then a12 else if k = 13 then a13 else if k = 14 then a14 else if k = 15 then a15 else if k = 16 then a16 else a17, ⟨fun c q hq => ?_, fun k q hk => ?_⟩, fun w hw => ?_, hao⟩
  · have hc : c < 12 := by
      rcases Nat.lt_or_ge c 12 with z | z
      · exact z
      · have : vwC.length = 12 := by decide
        rw [List.getElem?_eq_none (by omega)] at hq
        cases hq
    rw [cl_at hc] at hq
    cases hq
    exact Classical.choose_spec (Classical.choose_spec (h c)) hc
  · match k, hk with
    | 0, hk => cases hk; exact p12
    | 1, hk => cases hk; exact p13
    | 2, hk => cases hk; exact p14
    | 3, hk => cases hk; exact p15
    | 4, hk => cases hk; exact p16
    | 5, hk => cases hk; exact p17
    | k + 6, hk => cases hk
  · have hin : w ∈ lw_tbl := by
      simp only [nestW, List.mem_cons, List.not_mem_nil, or_false] at hw
      rcases hw with rfl | rfl | rfl | rfl | rfl | rfl | rfl | rfl | rfl | rfl <;> decide +kernel
    have hon : w.onTables = true := by
      simp only [nestW, List.mem_cons, List.not_mem_nil, or_false] at hw
      rcases hw with rfl | rfl | rfl | rfl | rfl | rfl | rfl | rfl | rfl | rfl <;> rfl
    exact va_Nw.of hon (hts w hin)
/-! the law's own judgement -/
def mLaw (nm : String) : MT := (⟨RL, nm, "([I)Z"⟩, cL_law, 4, ret)
def OkL (nm : String) (L : Nat) (xs : Nat → Int32) (J : JT) : Prop := ∃ (p : Program) (l : Launch) (e : Env) (s : State) (m : MethodId) (below : List Frame) (meth : Method) (c : Code) (b : Nat) (D : va_G) (kA : Nat → ClassId),
  meth.name = nm ∧ lw_At p s m meth c b L xs ∧ Kn D kA s ∧ J = wc p l e room_1 s m #[Value.ref b] below meth c s.heap.size b D kA 0 (lw_Z below #[Value.ref b] s) 4
theorem OkL.ok {nm : String} {L : Nat} {xs : Nat → Int32} {J : JT} (h : OkL nm L xs J) : Ok (mLaw nm) room_1 J := by
  obtain ⟨p, l, e, s, m, below, meth, c, b, D, kA, hnm, ⟨hx, hb, hr, hml, hown, hts, hX, hbl, hlocks, hgv⟩, hK, rfl⟩ := h
  exact ⟨p, l, e, s, m, _, below, meth, c, s.heap.size, b, D, kA, 0, _, ⟨hx, hb, hml, hr, hown, hlocks, hnm, fun w hw => hts w (List.mem_filter.mp hw).1, hK⟩, rfl, rfl⟩
theorem q_lret {nm : String} {L : Nat} {xs : Nat → Int32} {J : JT} (h : OkL nm L xs J) {cu su pc : Nat} {ls : List (Option Value)} {g : Geo} {I : MI} {R : MR} (hd : decode cL_law pc = .ok (.ireturn, 1)) (h1 : cu ≤ 600000) (h2 : su ≤ 7302250) : J cu su pc ls [.int 1] g I R := by
  obtain ⟨p, l, e, s, m, below, meth, c, b, D, kA, hnm, ⟨hx, hb, hr, hml, hown, hts, hX, hbl, hlocks, hgv⟩, hK, rfl⟩ := h
  intro H locs lsA hg hP hS hLH
  refine va_forget (fun q hq => hS.2.2 q hq) ?_
  refine W.widen (k := 600000) (n := 7302250) h1 h2 ?_
  exact lw_ret hx hb hr hlocks hd
/-! a method that reads the script: its contract has the script, too -/
def PcX (n0 sb : Nat) (D : va_G) (kA : Nat → ClassId) (as : List Value) (g : Geo) (I : MI) (R : MR) (L : Nat) (xs : Nat → Int32) : Array Value → State → Prop := fun v U => PcD n0 sb D kA as g I R v U ∧ va_X sb L xs U U.heap ∧ sb < n0
def SpX (d : Nat) (Y : MT) (L : Nat) (xs : Nat → Int32) (as : List Value) (g : Geo) (I : MI) (R : MR) (Φ : Po) : Prop :=
  ∀ (l : Launch) (n0 sb : Nat) (D : va_G) (kA : Nat → ClassId), Met l Y.1 (wsY Y) (rmD d 0 0) (PcX n0 sb D kA as g I R L xs) (QcD n0 sb D kA g.1 0 Φ) 0 0 (fun q => n0 ≤ q)
def OkX (Y : MT) (d nE L : Nat) (xs : Nat → Int32) (Φ : Po) (J : JT) : Prop := ∃ (p : Program) (l : Launch) (e : Env) (s : State) (m : MethodId) (args : Array Value) (below : List Frame) (meth : Method) (c : Code) (n0 sb : Nat) (D : va_G) (kA : Nat → ClassId),
  Fx Y p s m args meth c D kA ∧ s.heap.size = n0 + nE ∧ J = wc p l e (rmD d 0 0) s m args below meth c n0 sb D kA nE (MQ below (QcD n0 sb D kA nE 0 Φ) args s 0 0 (fun q => n0 ≤ q)) Y.2.2.1 ∧ va_X sb L xs s s.heap ∧ sb < n0
theorem OkX.m {Y : MT} {d nE L : Nat} {xs : Nat → Int32} {Φ : Po} {J : JT} (h : OkX Y d nE L xs Φ J) : OkM Y d 0 0 nE Φ J := by
  obtain ⟨p, l, e, s, m, args, below, meth, c, n0, sb, D, kA, hF, hz, hJ, _, _⟩ := h
  exact ⟨p, l, e, s, m, args, below, meth, c, n0, sb, D, kA, hF, hz, hJ⟩
theorem PcX.blind {n0 sb : Nat} {D : va_G} {kA : Nat → ClassId} {as : List Value} {g : Geo} {I : MI} {R : MR} {L : Nat} {xs : Nat → Int32} : FrameBlind (PcX n0 sb D kA as g I R L xs) := fun a U fr mk q =>
  ⟨PcD.blind a U fr mk q.1, va_X.moved (u := U) (U := U.calling fr mk a) (Vm.Alike.refl U.vm) q.2.1, q.2.2⟩
set_option maxHeartbeats 2000000 in
theorem SpX.on {Y : MT} {d L : Nat} {xs : Nat → Int32} {as : List Value} {g : Geo} {I : MI} {R : MR} {Φ : Po} (hp : plainName Y.1.cls = true) (hc : as.all (fun v => v.category == 1) = true) (hn : as.length ≤ Y.2.2.1) (h : ∀ J, OkX Y d g.1 L xs Φ J → J 0 0 0 (ent as Y.2.2.1) [] g I R) : SpX d Y L xs as g I R Φ := by
  have hc : ∀ v ∈ as, v.category = 1 := fun v hv => by simpa using List.all_eq_true.mp hc v hv
  intro l n0 sb D kA
  refine Met.ofW (cc := Y.2.1) (maxL := Y.2.2.1) (ret := Y.2.2.2) hp rfl ?_
  intro p e s m args below meth c s₁ B hml hv
  obtain ⟨⟨rfl, hsz, hP, hK⟩, hX, hlt⟩ := hv
  have hts0 := atoms_spec (ws := wsY Y) B.pre
  have hts : ∀ w ∈ gtbl, w.before ((as.map (sh n0 sb)).toArray) s = true := fun w hw => hts0 w (List.mem_cons_of_mem _ hw)
  have hF : Fx Y p s m ((as.map (sh n0 sb)).toArray) meth c D kA := ⟨B.exec, B.bytes, hml, B.returns, findClass_of_methodNamed B.named, B.notSynchronized, (name_of_methodNamed B.named B.method).1, hts, hK⟩
  have hk := h _ ⟨p, l, e, s, m, _, below, meth, c, n0, sb, D, kA, hF, hsz, rfl, hX, hlt⟩
  rw [lg_entry_eq]
  exact hk s.heap [] _ rfl hP va_S.rf (LH.entry as hc hn)
theorem q_xld {Y : MT} {d nE L : Nat} {xs : Nat → Int32} {Φ : Po} {J : JT} (h : OkX Y d nE L xs Φ J) {cu su pc q : Nat} {ls : List (Option Value)} {st : List Value} {g : Geo} {I : MI} {R : MR} {j : Nat} (hd : decode Y.2.1 pc = .ok (.iaload, 1)) (hq : pc + 1 = q) (hj : j < L) (hL : L ≤ 260) (k : J cu su q ls (.int (xs j) :: st) g I R) : J cu su pc ls (.int (nI j) :: .float 0 :: st) g I R := by
  obtain ⟨p, l, e, s, m, args, below, meth, c, n0, sb, D, kA, ⟨hx, hb, hml, hr, hown, hlk, hnm, hts, hK⟩, hz, rfl, hX, hlt⟩ := h
  subst hq
  intro H locs lsA hg hP hS hLH
  have hk := k H locs lsA hg hP hS hLH
  refine va_sld hx hb hX (by omega) (Nat.not_le.mpr hlt) hS (vp_in_nI hj (by omega)) hd ?_
  rw [nI_clamp (by omega)]
  exact hk
theorem q_xlen {Y : MT} {d nE L : Nat} {xs : Nat → Int32} {Φ : Po} {J : JT} (h : OkX Y d nE L xs Φ J) {cu su pc q : Nat} {ls : List (Option Value)} {st : List Value} {g : Geo} {I : MI} {R : MR} (hd : decode Y.2.1 pc = .ok (.arraylength, 1)) (hq : pc + 1 = q) (k : J cu su q ls (.int (nI L) :: st) g I R) : J cu su pc ls (.float 0 :: st) g I R := by
  obtain ⟨p, l, e, s, m, args, below, meth, c, n0, sb, D, kA, ⟨hx, hb, hml, hr, hown, hlk, hnm, hts, hK⟩, hz, rfl, hX, hlt⟩ := h
  subst hq
  intro H locs lsA hg hP hS hLH
  exact va_slen hx hb hX (by omega) (Nat.not_le.mpr hlt) hS hd (k H locs lsA hg hP hS hLH)
theorem q_callSX {nm : String} {L : Nat} {xs : Nat → Int32} {J : JT} (h : OkL nm L xs J) {cu su pc q : Nat} {ls : List (Option Value)} {st : List Value} {g : Geo} {I : MI} {R : MR} {Z : MT} {d n idx cu2 su2 : Nat} {as rest : List Value} {Φ : Po} (hd : decode cL_law pc = .ok (.invokestatic idx, 3)) (hq : pc + 3 = q) (S : SpX d Z L xs as g I R Φ) (hm : SMn Z n) (hl : Cond.methodLink RL idx Z.1 ∈ gtbl) (hn : as.length = n) (hst : as.reverse ++ rest = st) (hst2 : rest.all (fun v => v.category == 1) = true) (hst8 : rest.length ≤ 8) (hr1 : d + 1 ≤ room_1.frames ∧ 8 + (Z.2.2.1 + 11) + 40 * d ≤ room_1.locals) (hr2 : cu + 0 ≤ room_1.cells ∧ su + 0 ≤ room_1.slots) (hcu : cu + 0 = cu2) (hsu : su + 0 = su2)
    (kk : ∀ (r : Option Value) (g' : Geo) (I' : MI) (R' : MR), Φ r g' I' R' → J cu2 su2 q ls (r.toList ++ rest) g' I' R') : J cu su pc ls st g I R := by
  obtain ⟨p, l, e, s, m, below, meth, c, b, D, kA, hnm, ⟨hx, hb, hr, hml, hown, hts0, hX, hbl, hlocks, hgv⟩, hK, rfl⟩ := h
  have hts : ∀ w ∈ gtbl, w.before #[Value.ref b] s = true := fun w hw => hts0 w (List.mem_filter.mp hw).1
  subst hq hcu hsu
  intro H locs lsA hg hP hS hL
  refine W.sized fun z1 z2 => ?_
  have hsz : H.size = s.heap.size + g.1 := wl_size (nE := 0) rfl hg hP z1 z2
  have hF8 := st_sum hst2 hst8
  subst hst
  have hF : CallFix p m c cL_law 4 s #[Value.ref b] gtbl RL := ⟨hx, hb, hml, hown, hts⟩
  have hcb := callB_of (R := room_1) (rm := rmD d 0 0) (mc := 0) (ms := 0) (ret := Z.2.2.2) (bytes := Z.2.1) (maxL := Z.2.2.1) n hts (wsY_good hm.1.2.1) rfl rfl rfl (hts _ hm.1.1) (hts _ hl) hm.1.2.2 hr1
  refine q_after (va_runS (As := as.map (sh s.heap.size b)) (rest := rest.map (sh s.heap.size b)) hF (S l s.heap.size b D kA) ⟨hcb, hts _ hm.2⟩ ⟨PcX.blind, fun U hU hW => ⟨⟨rfl, by rw [hU]; exact hsz, by rw [hU]; exact hP, Kn.moved hW hK⟩, by rw [hU]; exact (va_X.moved hW.alike hX).kept (hS.2.1 b hbl (Nat.not_le.mpr hbl)), hbl⟩⟩ rfl (by rw [List.length_map]; exact hn) hL.2.1 (by simp [F0, sh]) (lv_room (cats_sum hF8.1 hF8.2)) hd hr2) hS (fun r g' I' R' hΦ hg' H1 locs1 hP1 hS1 => ?_)
  have hk := kk r g' I' R' hΦ H1 locs1 lsA (by omega) hP1 hS1 hL
  rw [List.map_append, show r.toList.map (sh s.heap.size b) = (r.map (sh s.heap.size b)).toList by cases r <;> rfl] at hk
  exact hk
def CelP (I : MI) (R : MR) : Po := fun r g' I' R' => ∃ x, r = some (.int x) ∧ g0 = g' ∧ I = I' ∧ R = R'
set_option maxRecDepth 100000 in
set_option maxHeartbeats 400000 in
theorem S_cell (L : Nat) (xs : Nat → Int32) (k : Nat) (hL : L ≤ 260) (hk : k < 1000) (I : MI) (R : MR) : SpX 0 mL_cell L xs [.float 0, .int (nI k)] g0 I R (CelP I R) := by
  refine SpX.on (by decide +kernel) rfl (Nat.le_of_ble_eq_true rfl) (fun J hX => ?_)
  have hM := hX.m
  have hJ := hM.ok
  refine q_iload_n hJ dL_cell_0 (q := 1) rfl rfl ?_
  refine q_aload_n hJ dL_cell_1 (q := 2) rfl rfl rfl ?_
  refine q_xlen hX dL_cell_2 (q := 3) rfl ?_
  refine q_icmp_ge hJ (tgt := 12) dL_cell_3 (q := 6) rfl (by decide) (fun c1 => ?_) (fun c1 => ?_)
  · refine q_sipush hJ (v := 7919) dL_cell_12 (q := 15) rfl (by decide) ?_
    refine q_iload_n hJ dL_cell_15 (q := 16) rfl rfl ?_
    refine q_iconst hJ (v := 3) dL_cell_16 (q := 17) rfl (by decide) ?_
    refine q_iadd hJ dL_cell_17 (q := 18) rfl ?_
    refine q_imul hJ dL_cell_18 (q := 19) rfl ?_
    refine q_iload_n hJ dL_cell_19 (q := 20) rfl rfl ?_
    refine q_bipush hJ (v := 11) dL_cell_20 (q := 22) rfl (by decide) ?_
    refine q_iadd hJ dL_cell_22 (q := 23) rfl ?_
    refine q_imul hJ dL_cell_23 (q := 24) rfl ?_
    refine q_iret hM dL_cell_24 rfl rfl ?_
    exact ⟨_, rfl, rfl, rfl, rfl⟩
  · refine q_aload_n hJ dL_cell_6 (q := 7) rfl rfl rfl ?_
    refine q_iload_n hJ dL_cell_7 (q := 8) rfl rfl ?_
    refine q_xld hX dL_cell_8 (q := 9) rfl (Nat.lt_of_not_le fun z => c1 ((nI_leI (by omega) (by omega)).mpr z)) hL ?_
    refine q_goto hJ (tgt := 24) dL_cell_9 (by decide) ?_
    refine q_iret hM dL_cell_24 rfl rfl ?_
    exact ⟨_, rfl, rfl, rfl, rfl⟩
