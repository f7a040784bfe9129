/-! NEW CELLS, and the JDK's own methods -/
def zI (I : MI) (a : Nat) : MI := fun b j => if b = a then 0 else I b j
def zR (R : MR) (a : Nat) : MR := fun b j => if b = a then none else R b j
theorem zI_self (I : MI) (a : Nat) : zI I a a = fun _ => 0 := by funext j; simp [zI]
theorem zR_self (R : MR) (a : Nat) : zR R a a = fun _ => none := by funext j; simp [zR]
def gN (g : Geo) (k n : Nat) : Geo := (g.1 + 1, fun b => if b = g.1 then (k, n) else g.2 b)
def cp0 (I : MI) (a0 a1 n : Nat) : MI := fun b j => if b = a1 ∧ j < n then I a0 j else I b j
theorem wl_push {n0 : Nat} {kA : Nat → ClassId} {g : Geo} {I : MI} {R : MR} {k n : Nat} {e : va_E} (he : cel n0 kA (gN g k n) (zI I g.1) (zR R g.1) g.1 = e) : wl n0 kA g I R ++ [(n0 + g.1, e)] = wl n0 kA (gN g k n) (zI I g.1) (zR R g.1) := by
  simp only [wl, gN, List.range_succ, List.map_append, List.map_cons, List.map_nil]
  congr 1
  · refine List.map_congr_left fun b hb => ?_
    have hb2 : b ≠ g.1 := Nat.ne_of_lt (List.mem_range.mp hb)
    have e1 : zI I g.1 b = I b := by funext j; simp [zI, hb2]
    have e2 : zR R g.1 b = R b := by funext j; simp [zR, hb2]
    simp only [cel, e1, e2, if_neg hb2]
  · rw [← he]
    rfl
theorem cdef {ci : Nat} (h : ci < 12) (n0 : Nat) : ∀ k, k < cN ci → defaultValue (cTy ci k) = vp_V (fls n0 ci (fun _ => 0) (fun _ => none)) k := by
  intro k hk
  have h1 : vp_V (fls n0 ci (fun _ => 0) (fun _ => none)) k = if isI (cTy ci k) = true then .int 0 else .null := by
    simp [vp_V, fls_get hk, rv]
  rw [h1]
  have key : ∀ ci, ci < 12 → ∀ k, k < cN ci → defaultValue (cTy ci k) = if isI (cTy ci k) = true then .int 0 else .null := by decide +kernel
  exact key ci h k hk
section New
variable {Y : MT} {Rm : Room} {J : JT} {cu su pc q : Nat} {ls : List (Option Value)} {st : List Value} {g : Geo} {I : MI} {R : MR}
theorem q_objInit (hJ : Ok Y Rm J) {idx a : Nat} (hd : decode Y.2.1 pc = .ok (.invokespecial idx, 3)) (hq : pc + 3 = q) (hl : Cond.methodLink Y.1.cls idx objectInit ∈ gtbl) (hw : Cond.instanceMethod objectInit ∈ gtbl ∧ Cond.code objectInit ⟨#[0xb1]⟩ 1 none ∈ gtbl) (hst2 : st.all (fun v => v.category == 1) = true) (hst8 : st.length ≤ 8) (hr1 : 1 ≤ Rm.frames ∧ 20 ≤ Rm.locals) (kk : J cu su q ls st g I R) : J cu su pc ls (.ref a :: st) g I R := by
  obtain ⟨p, l, e, s, m, args, below, meth, c, n0, sb, D, kA, nE, Q, ⟨hx, hb, hml, hr, hown, hlk, hnm, hts, hK⟩, hz, rfl⟩ := hJ
  subst hq
  intro H locs lsA hg hP hS hL
  have hF8 := st_sum hst2 hst8
  refine W.objInit hx hb hown (hts _ hl) (hts _ hw.1) (hts _ hw.2) rfl (by rw [hml]; exact hL.2.1) rfl hd hr1.1 ?_ (kk H locs lsA hg hP hS hL)
  have := cats_sum (n0 := n0) (sb := sb) hF8.1 hF8.2
  show 2 * 0 + _ + 12 ≤ _
  omega
theorem q_new (hJ : Ok Y Rm J) {idx ci : Nat} (hd : decode Y.2.1 pc = .ok (.new idx, 3)) (hq : pc + 3 = q) (hc : ci < 12) (hl : Cond.classLink Y.1.cls idx (cR ci) ∈ gtbl) (hw : Cond.instantiable (cR ci) (cN ci) ∈ gtbl ∧ Cond.initialized (cR ci) ∈ gtbl) (hr2 : cu + 1 ≤ Rm.cells ∧ su + cN ci ≤ Rm.slots) {cu2 su2 : Nat} (hcu : cu + 1 = cu2) (hsu : su + cN ci = su2) (kk : J cu2 su2 q ls (.ref g.1 :: st) (gN g ci 0) (zI I g.1) (zR R g.1)) : J cu su pc ls st g I R := by
  obtain ⟨p, l, e, s, m, args, below, meth, c, n0, sb, D, kA, nE, Q, ⟨hx, hb, hml, hr, hown, hlk, hnm, hts, hK⟩, hz, rfl⟩ := hJ
  subst hq
  intro H locs lsA hg hP hS hL
  subst hcu hsu
  refine W.sized fun z1 z2 => ?_
  have hsz : H.size = n0 + g.1 := wl_size hz hg hP z1 z2
  have hKn := hK.1.1 ci _ (cl_at hc)
  refine W.newcK hx hb hown (hts _ hl) (hts _ hw.1) (hts _ hw.2) rfl hd hr2.1 hr2.2 hKn.2.1 hsz fun H1 kC hkC e1 z1 o1 => ?_
  have hk : ∀ (k : Nat) (x : Nat × va_E), (wl n0 kA g I R)[k]? = some x → H1[x.1]? = H[x.1]? := fun k x hx => o1 x.1 (by rw [← hsz]; exact (hP k x hx).lt)
  have hP1 : va_P D vwC (wl n0 kA g I R ++ [(n0 + g.1, .inr (ci, fls n0 ci (fun _ => 0) (fun _ => none)))]) H1 := (hP.kept hk).app (fun k x hx => by
    have hz : k < 1 := (List.getElem?_eq_some_iff.mp hx).1
    rw [show k = 0 by omega] at hx
    cases hx
    exact ⟨_, cl_at hc, (u_born (cTy ci) hts (cws_in hc) hKn hkC e1 (cty_ok hc)).to (cdef hc n0)⟩)
  rw [wl_push (k := ci) (n := 0) (by
    rw [cel_obj (ci := ci) (by simp [gN]) hc, zI_self, zR_self])] at hP1
  have hS1 : va_S (fun q => n0 ≤ q) s.heap H1 locs := ⟨by omega, fun x h1 h2 => (o1 x (by omega)).trans (hS.2.1 x h1 h2), hS.2.2⟩
  exact kk H1 locs lsA (by simp [gN]; omega) hP1 hS1 hL
theorem q_newa (hJ : Ok Y Rm J) {n : Int32} {N k t0 : Nat} {aty : ArrayType} {ty : FieldType} (hd : decode Y.2.1 pc = .ok (.newarray aty, 2)) (hq : pc + 2 = q) (hty : newarray.typeOf aty = ty) (hk1 : (aty = .char ∧ k = 12) ∨ (aty = .int ∧ k = 13) ∨ (aty = .boolean ∧ k = 14)) (hw : Cond.arrayClass ty ∈ gtbl) (hn : ix n N (N + 1)) (hby : N ≤ 100000) (hr2 : cu + 1 ≤ Rm.cells ∧ su + N ≤ Rm.slots) {cu2 su2 : Nat} (hcu : cu + 1 = cu2) (hsu : su + N = su2) (kk : J cu2 su2 q ls (.ref g.1 :: st) (gN g k N) (zI I g.1) (zR R g.1)) : J cu su pc ls (.int n :: st) g I R := by
  obtain ⟨p, l, e, s, m, args, below, meth, c, n0, sb, D, kA, nE, Q, ⟨hx, hb, hml, hr, hown, hlk, hnm, hts, hK⟩, hz, rfl⟩ := hJ
  subst hq
  intro H locs lsA hg hP hS hL
  subst hcu hsu
  refine W.sized fun z1 z2 => ?_
  have hsz : H.size = n0 + g.1 := wl_size hz hg hP z1 z2
  refine va_newaK hx hb (by rw [hty]; exact hts _ hw) rfl hd rfl hn.nn hn.nat (by rcases hk1 with ⟨rfl, -⟩ | ⟨rfl, -⟩ | ⟨rfl, -⟩ <;> simp [newarray.typeOf, componentBytes] <;> omega) hr2.1 hr2.2 hsz fun H1 cA e1 z1 o1 hAr hNm => ?_
  have hcA : cA = kA k := by
    rcases hk1 with ⟨rfl, rfl⟩ | ⟨rfl, rfl⟩ | ⟨rfl, rfl⟩
    · exact Option.some.inj (hNm.symm.trans (hK.1.2 0 _ rfl).2)
    · exact Option.some.inj (hNm.symm.trans (hK.1.2 1 _ rfl).2)
    · exact Option.some.inj (hNm.symm.trans (hK.1.2 2 _ rfl).2)
  have hdv : defaultValue (newarray.typeOf aty) = .int 0 := by rcases hk1 with ⟨rfl, -⟩ | ⟨rfl, -⟩ | ⟨rfl, -⟩ <;> rfl
  have hk : ∀ (k : Nat) (x : Nat × va_E), (wl n0 kA g I R)[k]? = some x → H1[x.1]? = H[x.1]? := fun k x hx => o1 x.1 (by rw [← hsz]; exact (hP k x hx).lt)
  have hP1 : va_P D vwC (wl n0 kA g I R ++ [(n0 + g.1, .inl (kA k, N, .inl (fun _ => 0)))]) H1 := (hP.kept hk).app (fun j x hx => by
    have hz : j < 1 := (List.getElem?_eq_some_iff.mp hx).1
    rw [show j = 0 by omega] at hx
    cases hx
    show H1[n0 + g.1]? = some (vp_cell _ _)
    rw [e1, hdv, hcA]
    rfl)
  rw [wl_push (k := k) (n := N) (by
    rw [cel_ints (k := k) (n := N) (by simp [gN]) (by omega) (by omega), zI_self])] at hP1
  have hS1 : va_S (fun q => n0 ≤ q) s.heap H1 locs := ⟨by omega, fun x h1 h2 => (o1 x (by omega)).trans (hS.2.1 x h1 h2), hS.2.2⟩
  exact kk H1 locs lsA (by simp [gN]; omega) hP1 hS1 hL
theorem q_anew (hJ : Ok Y Rm J) {n : Int32} {N k idx : Nat} {C : String} (hd : decode Y.2.1 pc = .ok (.anewarray idx, 3)) (hq : pc + 3 = q) (hl : Cond.classLink Y.1.cls idx C ∈ gtbl) (hC : C ∈ aoW) (hk1 : (C = RX4 ∧ k = 15) ∨ (C = RX5 ∧ k = 16) ∨ (C = RX7 ∧ k = 17)) (hn : ix n N (N + 1)) (hby : N ≤ 100000) (hr2 : cu + 1 ≤ Rm.cells ∧ su + N ≤ Rm.slots) {cu2 su2 : Nat} (hcu : cu + 1 = cu2) (hsu : su + N = su2) (kk : J cu2 su2 q ls (.ref g.1 :: st) (gN g k N) (zI I g.1) (zR R g.1)) : J cu su pc ls (.int n :: st) g I R := by
  obtain ⟨p, l, e, s, m, args, below, meth, c, n0, sb, D, kA, nE, Q, ⟨hx, hb, hml, hr, hown, hlk, hnm, hts, hK⟩, hz, rfl⟩ := hJ
  subst hq
  intro H locs lsA hg hP hS hL
  subst hcu hsu
  refine W.sized fun z1 z2 => ?_
  have hsz : H.size = n0 + g.1 := wl_size hz hg hP z1 z2
  have hnat := hn.nat
  refine W.anew hx hb hown (hts _ hl) (va_AO.use (hK.2.2 C hC)) rfl hd rfl hn.nn (by omega) hr2.1 (by rw [hnat]; exact hr2.2) fun cA kA2 comp f1 f2 f3 f4 => ?_
  generalize hH1 : H.push ({ cls := cA, slots := Array.replicate n.toNatClampNeg .null, vm := .none } : Cell) = H1
  have z1 : H1.size = H.size + 1 := by rw [← hH1, Array.size_push]
  have e1 : H1[n0 + g.1]? = some (arrV cA N (fun _ => .null)) := by rw [← hsz, ← hH1, Array.getElem?_push_size, ← arrV_new, hnat]
  have o1 : ∀ q : Nat, q < H.size → H1[q]? = H[q]? := fun q hq => by rw [← hH1, Array.getElem?_push, if_neg (Nat.ne_of_lt hq)]
  have hcA : cA = kA k := by
    rcases hk1 with ⟨rfl, rfl⟩ | ⟨rfl, rfl⟩ | ⟨rfl, rfl⟩
    · obtain ⟨-, -, -, -, -, h4⟩ := (hK.1.2 3 _ rfl).2
      exact Option.some.inj (f1.symm.trans h4)
    · obtain ⟨-, -, -, -, -, h4⟩ := (hK.1.2 4 _ rfl).2
      exact Option.some.inj (f1.symm.trans h4)
    · obtain ⟨-, -, -, -, -, h4⟩ := (hK.1.2 5 _ rfl).2
      exact Option.some.inj (f1.symm.trans h4)
  have hk : ∀ (k : Nat) (x : Nat × va_E), (wl n0 kA g I R)[k]? = some x → H1[x.1]? = H[x.1]? := fun k x hx => o1 x.1 (hP k x hx).lt
  have hP1 : va_P D vwC (wl n0 kA g I R ++ [(n0 + g.1, .inl (kA k, N, .inr (.inr (.inr (.inr (fun _ => none))))))]) H1 := (hP.kept hk).app (fun j x hx => by
    have hz : j < 1 := (List.getElem?_eq_some_iff.mp hx).1
    rw [show j = 0 by omega] at hx
    cases hx
    show H1[n0 + g.1]? = some (vp_cell _ _)
    rw [e1, hcA]
    rfl)
  rw [wl_push (k := k) (n := N) (by
    rw [cel_refs (k := k) (n := N) (by simp [gN]) (by omega), zR_self]
    rfl)] at hP1
  have hS1 : va_S (fun q => n0 ≤ q) s.heap H1 locs := ⟨by omega, fun x h1 h2 => (o1 x (by omega)).trans (hS.2.1 x h1 h2), hS.2.2⟩
  rw [hnat]
  have hk9 := kk H1 locs lsA (by simp [gN]; omega) hP1 hS1 hL
  rw [List.map_cons] at hk9
  rw [hsz]
  exact hk9
def mW (y : MethodName) (b : ByteArray) : Prop := Cond.static y ∈ gtbl ∧ Cond.initialized "java/lang/Math" ∈ gtbl ∧ Cond.code y b 2 (some .int) ∈ gtbl
theorem q_max (hJ : Ok Y Rm J) {idx : Nat} {x y : Int32} (hd : decode Y.2.1 pc = .ok (.invokestatic idx, 3)) (hq : pc + 3 = q) (hl : Cond.methodLink Y.1.cls idx Lib.Math.max.name ∈ gtbl) (hw : mW Lib.Math.max.name Lib.Math.max.code) (hst2 : st.all (fun v => v.category == 1) = true) (hst8 : st.length ≤ 8) (hr1 : 1 ≤ Rm.frames ∧ 21 ≤ Rm.locals) (hr2 : cu ≤ Rm.cells ∧ su ≤ Rm.slots) (kk : J cu su q ls (.int (if x < y then y else x) :: st) g I R) : J cu su pc ls (.int y :: .int x :: st) g I R := by
  obtain ⟨p, l, e, s, m, args, below, meth, c, n0, sb, D, kA, nE, Q, ⟨hx, hb, hml, hr, hown, hlk, hnm, hts, hK⟩, hz, rfl⟩ := hJ
  subst hq
  intro H locs lsA hg hP hS hL
  have hF8 := st_sum hst2 hst8
  have h8 := cats_sum (n0 := n0) (sb := sb) hF8.1 hF8.2
  exact va_mmax hx hb (by rw [hml]; exact hL.2.1.symm) hown (hts _ hl) (hts _ hw.1) (hts _ hw.2.1) (hts _ hw.2.2) hr1.1 (by omega) hr2.1 hr2.2 hd (kk H locs lsA hg hP hS hL)
theorem q_min (hJ : Ok Y Rm J) {idx : Nat} {x y : Int32} (hd : decode Y.2.1 pc = .ok (.invokestatic idx, 3)) (hq : pc + 3 = q) (hl : Cond.methodLink Y.1.cls idx Lib.Math.min.name ∈ gtbl) (hw : mW Lib.Math.min.name Lib.Math.min.code) (hst2 : st.all (fun v => v.category == 1) = true) (hst8 : st.length ≤ 8) (hr1 : 1 ≤ Rm.frames ∧ 21 ≤ Rm.locals) (hr2 : cu ≤ Rm.cells ∧ su ≤ Rm.slots) (kk : J cu su q ls (.int (if y < x then y else x) :: st) g I R) : J cu su pc ls (.int y :: .int x :: st) g I R := by
  obtain ⟨p, l, e, s, m, args, below, meth, c, n0, sb, D, kA, nE, Q, ⟨hx, hb, hml, hr, hown, hlk, hnm, hts, hK⟩, hz, rfl⟩ := hJ
  subst hq
  intro H locs lsA hg hP hS hL
  have hF8 := st_sum hst2 hst8
  have h8 := cats_sum (n0 := n0) (sb := sb) hF8.1 hF8.2
  exact va_mmin hx hb (by rw [hml]; exact hL.2.1.symm) hown (hts _ hl) (hts _ hw.1) (hts _ hw.2.1) (hts _ hw.2.2) hr1.1 (by omega) hr2.1 hr2.2 hd (kk H locs lsA hg hP hS hL)
theorem q_copy (hJ : Ok Y Rm J) {idx a0 a1 n0' n1' N : Nat} {n : Int32} (hd : decode Y.2.1 pc = .ok (.invokestatic idx, 3)) (hq : pc + 3 = q) (hl : Cond.methodLink Y.1.cls idx arraycopyName ∈ gtbl) (hw : Cond.native arraycopyName ∈ gtbl ∧ Cond.static arraycopyName ∈ gtbl ∧ Cond.initialized "java/lang/System" ∈ gtbl) (hk0 : KA g a0 13 n0') (hk1 : KA g a1 13 n1') (hn : ix n N (N + 1)) (hn0 : N ≤ n0') (hn1 : N ≤ n1') (hst2 : st.all (fun v => v.category == 1) = true) (hst8 : st.length ≤ 8) (hr1 : 1 ≤ Rm.frames ∧ 40 ≤ Rm.locals) (kk : J cu su q ls st g (cp0 I a0 a1 N) R) : J cu su pc ls (.int n :: .int 0 :: .ref a1 :: .int 0 :: .ref a0 :: st) g I R := by
  obtain ⟨p, l, e, s, m, args, below, meth, c, n0, sb, D, kA, nE, Q, ⟨hx, hb, hml, hr, hown, hlk, hnm, hts, hK⟩, hz, rfl⟩ := hJ
  subst hq
  intro H locs lsA hg hP hS hL
  have hF8 := st_sum hst2 hst8
  have h8 := cats_sum (n0 := n0) (sb := sb) hF8.1 hF8.2
  have he0 : (wl n0 kA g I R)[a0]? = some (n0 + a0, .inl (kA 13, n0', .inl (I a0))) := by rw [wl_get hk0.1, cel_ints hk0.2 (by decide) (by decide)]
  have he1 : (wl n0 kA g I R)[a1]? = some (n0 + a1, .inl (kA 13, n1', .inl (I a1))) := by rw [wl_get hk1.1, cel_ints hk1.2 (by decide) (by decide)]
  have hz0 : (0 : Int32).toNatClampNeg = 0 := by decide
  have hn2 := hn.nat
  have hng : ¬ (0 : Int32) < 0 := by decide
  have h20 : nativeFrameWords "java/lang/System" "arraycopy" 5 ≤ 20 := by decide
  refine va_copyi hx hb (by rw [hml]; exact hL.2.1.symm) hown (hts _ hl) (hts _ hw.1) (hts _ hw.2.1) (hts _ hw.2.2) hK.1 hP (wl_D n0 kA g I R) hS a0 a1 1 1 he0 he1 rfl rfl rfl hng hng hn.nn (by rw [hz0]; omega) (by rw [hz0]; omega) (fun _ _ => rfl) hr1.1 (by omega) hd (fun H1 locs1 hP1 _ hS1 => ?_)
  rw [wl_set (I' := cp0 I a0 a1 N) (R' := R) (by
    rw [cel_ints hk1.2 (by decide) (by decide)]
    congr 4
    funext j
    simp only [cp0, va_cpy, hz0, hn2]
    by_cases hj : j < N
    · simp [hj]
    · simp [hj]) (fun b hb => by
    have e : cp0 I a0 a1 N b = I b := by funext j; simp [cp0, hb]
    simp only [cel, e])] at hP1
  exact kk H1 locs1 lsA hg hP1 hS1 hL
end New
