/-! CALLS -/
def wcode (Y : MT) : Cond := Cond.code Y.1 Y.2.1 Y.2.2.1 Y.2.2.2
def CMn (Y : MT) (n : Nat) : Prop := Cond.initialized Y.1.cls ∈ gtbl ∧ wcode Y ∈ gtbl ∧ (Y.1.cls ≠ "java/lang/invoke/MethodHandle" ∧ Y.1.cls ≠ "java/lang/invoke/VarHandle" ∧ (parseMethodDescriptor Y.1.desc).map (fun d => d.parameters.length) = some n)
def IMn (Y : MT) (n : Nat) : Prop := CMn Y n ∧ Cond.instanceMethod Y.1 ∈ gtbl ∧ Cond.selects Y.1.cls Y.1 Y.1 ∈ gtbl
def SMn (Y : MT) (n : Nat) : Prop := CMn Y n ∧ Cond.static Y.1 ∈ gtbl
def KMn (Y : MT) (n : Nat) : Prop := CMn Y n ∧ Cond.instanceMethod Y.1 ∈ gtbl ∧ Y.1.name = "<init>" ∧ Y.2.2.2 = none
theorem wsY_good {Y : MT} (h : wcode Y ∈ gtbl) : GoodIn gtbl (wsY Y) := by
  intro w hw
  rcases List.mem_cons.mp hw with rfl | hw
  · exact g_good h
  · exact g_good hw
theorem wl_size {n0 nE cu : Nat} {D : va_G} {kA : Nat → ClassId} {g : Geo} {I : MI} {R : MR} {H : Heap} {sz : Nat} (hz : sz = n0 + nE) (hg : g.1 = nE + cu) (hP : va_P D vwC (wl n0 kA g I R) H) (h1 : H.size ≤ sz + cu) (h2 : sz ≤ H.size) : H.size = n0 + g.1 := by
  by_cases h : g.1 = 0
  · omega
  · have h3 := (hP (g.1 - 1) _ (wl_get (by omega))).lt
    have h4 : n0 + (g.1 - 1) < H.size := h3
    omega
section Calls2
variable {p : Program} {l : Launch} {e : Env} {Rm : Room} {s : State} {m : MethodId} {args : Array Value} {below : List Frame} {meth : Method} {c : Code} {H : Heap} {locs : List Loc} {cu su : Nat} {Q : State → Prop}
theorem q_after {pc : Nat} {lsA : Array Slot} {rest st0 : List Value} {a : Array Value} {n0 sb : Nat} {D : va_G} {kA : Nat → ClassId} {nn mc ms : Nat} {Φ : Po} (hr : va_Run p l e Rm s m args below meth c H locs cu su mc ms (F0 m pc lsA st0) rest (QcD n0 sb D kA nn mc Φ a) (fun q => n0 ≤ q)) (hS : va_S (fun q => n0 ≤ q) s.heap H locs)
    (kk : ∀ (r : Option Value) (g : Geo) (I : MI) (R : MR), Φ r g I R → g.1 = nn + mc → ∀ (H1 : Heap) (locs1 : List Loc), va_P D vwC (wl n0 kA g I R) H1 → va_S (fun q => n0 ≤ q) s.heap H1 locs1 → W p l e Rm s m args below meth c H1 locs1 (cu + mc) (su + ms) Q (F0 m (pc + 3) lsA ((r.map (sh n0 sb)).toList ++ rest))) : W p l e Rm s m args below meth c H locs cu su Q (F0 m pc lsA st0) := by
  intro T hT X
  obtain ⟨v, st₀, t, T', L, h0, X', hL, e1, e2, ⟨⟨r, g, I, R, hv, hp, hgg, hP⟩, hz, hk⟩, st⟩ := hr T hT X
  cases hv
  rw [h0] at hz hk
  obtain ⟨t2, a1, b1⟩ := kk r g I R hp hgg T'.heap (locs ++ L) (by rw [e1]; exact hP)
    ⟨Nat.le_trans hS.1 (by rw [e1]; exact hz), fun q h1 h2 => by rw [e1, hk q (Nat.lt_of_lt_of_le h1 hS.1) h2]; exact hS.2.1 q h1 h2, fun q hq => by
      rcases List.mem_append.mp hq with h | h
      · exact hS.2.2 q h
      · exact hL q h⟩ T' rfl X'
  exact ⟨t2, st t2 a1, b1⟩
end Calls2
section Calls3
variable {Y : MT} {Rm : Room} {J : JT} {cu su pc q : Nat} {ls : List (Option Value)} {st : List Value} {g : Geo} {I : MI} {R : MR}
theorem cats_sum {n0 sb : Nat} {st : List Value} (h : (st.map fun v => v.category).sum ≤ 8) (h1 : ∀ v ∈ st, v.category = 1) : ((st.map (sh n0 sb)).map fun v => v.category).sum ≤ 8 := by
  have e : (st.map (sh n0 sb)).map (fun v => v.category) = st.map fun v => v.category := by
    rw [List.map_map]
    refine List.map_congr_left fun v hv => ?_
    show (sh n0 sb v).category = v.category
    rw [sh_cat (h1 v hv), h1 v hv]
  rw [e]; exact h
theorem ones_sum (st : List Value) : (st.map fun _ => 1).sum = st.length := by
  induction st with
  | nil => rfl
  | cons a t ih => simp only [List.map_cons, List.sum_cons, List.length_cons, ih]; omega
theorem st_sum {st : List Value} (h : st.all (fun v => v.category == 1) = true) (h8 : st.length ≤ 8) : (st.map fun v => v.category).sum ≤ 8 ∧ ∀ v ∈ st, v.category = 1 := by
  have h1 : ∀ v ∈ st, v.category = 1 := fun v hv => by simpa using List.all_eq_true.mp h v hv
  refine ⟨?_, h1⟩
  have e : st.map (fun v => v.category) = st.map fun _ => 1 := List.map_congr_left h1
  rw [e, ones_sum]
  exact h8
theorem q_callV (hJ : Ok Y Rm J) {Z : MT} {d mc ms n idx cu2 su2 : Nat} {t : Nat} {as rest : List Value} {Φ : Po} (hd : decode Y.2.1 pc = .ok (.invokevirtual idx, 3)) (hq : pc + 3 = q) (S : Sp d mc ms Z (.ref t :: as) g I R Φ) (hm : IMn Z n) (hl : Cond.methodLink Y.1.cls idx Z.1 ∈ gtbl) {ci : Nat} (hk : KA g t ci 0) (hc : ci < 12) (hcn : cR ci = Z.1.cls) (hn : as.length = n) (hst : as.reverse ++ .ref t :: rest = st) (hst2 : rest.all (fun v => v.category == 1) = true) (hst8 : rest.length ≤ 8) (hr1 : d + 1 ≤ Rm.frames ∧ 8 + (Z.2.2.1 + 11) + 40 * d ≤ Rm.locals) (hr2 : cu + mc ≤ Rm.cells ∧ su + ms ≤ Rm.slots) (hcu : cu + mc = cu2) (hsu : su + ms = su2)
    (kk : ∀ (r : Option Value) (g' : Geo) (I' : MI) (R' : MR), Φ r g' I' R' → J cu2 su2 q ls (r.toList ++ rest) g' I' R') : J cu su pc ls st g I R := by
  obtain ⟨p, l, e, s, m, args, below, meth, c, n0, sb, D, kA, nE, Q, ⟨hx, hb, hml, hr, hown, hlk, hnm, hts, hK⟩, hz, rfl⟩ := hJ
  subst hq hcu hsu
  intro H locs lsA hg hP hS hL
  refine W.sized fun z1 z2 => ?_
  have hsz : H.size = n0 + g.1 := wl_size hz hg hP z1 z2
  have hF8 := st_sum hst2 hst8
  subst hst
  have hF : CallFix p m c Y.2.1 Y.2.2.1 s args gtbl Y.1.cls := ⟨hx, hb, hml, hown, hts⟩
  have hcb := callB_of (R := Rm) (rm := rmD d mc ms) (mc := mc) (ms := ms) (ret := Z.2.2.2) (bytes := Z.2.1) (maxL := Z.2.2.1) n hts (wsY_good hm.1.2.1) rfl rfl rfl (hts _ hm.1.1) (hts _ hl) hm.1.2.2 hr1
  refine q_after (va_runV (As := as.map (sh n0 sb)) (rest := rest.map (sh n0 sb)) hF (S l n0 sb D kA) ⟨hcb, hts _ hm.2.1, hts _ hm.2.2⟩ ⟨PcD.blind, by have h9 := va_recv (s := s) hK.1 hP (cl_at hc) (by rw [wl_get hk.1, cel_obj (by rw [hk.2]) hc]); rw [← hcn]; exact h9, fun U hU hW => ⟨rfl, by rw [hU]; exact hsz, by rw [hU]; exact hP, Kn.moved hW hK⟩⟩ rfl (by rw [List.length_map]; exact hn) hL.2.1 (by simp [F0, sh]) (lv_room (cats_sum hF8.1 hF8.2)) hd hr2) hS (fun r g' I' R' hΦ hg' H1 locs1 hP1 hS1 => ?_)
  have hk := kk r g' I' R' hΦ H1 locs1 lsA (by omega) hP1 hS1 hL
  rw [List.map_append, show r.toList.map (sh n0 sb) = (r.map (sh n0 sb)).toList by cases r <;> rfl] at hk
  exact hk
theorem q_callS (hJ : Ok Y Rm J) {Z : MT} {d mc ms n idx cu2 su2 : Nat} {as rest : List Value} {Φ : Po} (hd : decode Y.2.1 pc = .ok (.invokestatic idx, 3)) (hq : pc + 3 = q) (S : Sp d mc ms Z as g I R Φ) (hm : SMn Z n) (hl : Cond.methodLink Y.1.cls idx Z.1 ∈ gtbl) (hn : as.length = n) (hst : as.reverse ++ rest = st) (hst2 : rest.all (fun v => v.category == 1) = true) (hst8 : rest.length ≤ 8) (hr1 : d + 1 ≤ Rm.frames ∧ 8 + (Z.2.2.1 + 11) + 40 * d ≤ Rm.locals) (hr2 : cu + mc ≤ Rm.cells ∧ su + ms ≤ Rm.slots) (hcu : cu + mc = cu2) (hsu : su + ms = su2)
    (kk : ∀ (r : Option Value) (g' : Geo) (I' : MI) (R' : MR), Φ r g' I' R' → J cu2 su2 q ls (r.toList ++ rest) g' I' R') : J cu su pc ls st g I R := by
  obtain ⟨p, l, e, s, m, args, below, meth, c, n0, sb, D, kA, nE, Q, ⟨hx, hb, hml, hr, hown, hlk, hnm, hts, hK⟩, hz, rfl⟩ := hJ
  subst hq hcu hsu
  intro H locs lsA hg hP hS hL
  refine W.sized fun z1 z2 => ?_
  have hsz : H.size = n0 + g.1 := wl_size hz hg hP z1 z2
  have hF8 := st_sum hst2 hst8
  subst hst
  have hF : CallFix p m c Y.2.1 Y.2.2.1 s args gtbl Y.1.cls := ⟨hx, hb, hml, hown, hts⟩
  have hcb := callB_of (R := Rm) (rm := rmD d mc ms) (mc := mc) (ms := ms) (ret := Z.2.2.2) (bytes := Z.2.1) (maxL := Z.2.2.1) n hts (wsY_good hm.1.2.1) rfl rfl rfl (hts _ hm.1.1) (hts _ hl) hm.1.2.2 hr1
  refine q_after (va_runS (As := as.map (sh n0 sb)) (rest := rest.map (sh n0 sb)) hF (S l n0 sb D kA) ⟨hcb, hts _ hm.2⟩ ⟨PcD.blind, fun U hU hW => ⟨rfl, by rw [hU]; exact hsz, by rw [hU]; exact hP, Kn.moved hW hK⟩⟩ rfl (by rw [List.length_map]; exact hn) hL.2.1 (by simp [F0, sh]) (lv_room (cats_sum hF8.1 hF8.2)) hd hr2) hS (fun r g' I' R' hΦ hg' H1 locs1 hP1 hS1 => ?_)
  have hk := kk r g' I' R' hΦ H1 locs1 lsA (by omega) hP1 hS1 hL
  rw [List.map_append, show r.toList.map (sh n0 sb) = (r.map (sh n0 sb)).toList by cases r <;> rfl] at hk
  exact hk
theorem q_callI (hJ : Ok Y Rm J) {Z : MT} {d mc ms n idx cu2 su2 : Nat} {t : Nat} {as rest : List Value} {Φ : Po} (hd : decode Y.2.1 pc = .ok (.invokespecial idx, 3)) (hq : pc + 3 = q) (S : Sp d mc ms Z (.ref t :: as) g I R Φ) (hm : KMn Z n) (hl : Cond.methodLink Y.1.cls idx Z.1 ∈ gtbl) (hn : as.length = n) (hst : as.reverse ++ .ref t :: rest = st) (hst2 : rest.all (fun v => v.category == 1) = true) (hst8 : rest.length ≤ 8) (hr1 : d + 1 ≤ Rm.frames ∧ 8 + (Z.2.2.1 + 11) + 40 * d ≤ Rm.locals) (hr2 : cu + mc ≤ Rm.cells ∧ su + ms ≤ Rm.slots) (hcu : cu + mc = cu2) (hsu : su + ms = su2)
    (kk : ∀ (r : Option Value) (g' : Geo) (I' : MI) (R' : MR), Φ r g' I' R' → J cu2 su2 q ls (r.toList ++ rest) g' I' R') : J cu su pc ls st g I R := by
  obtain ⟨p, l, e, s, m, args, below, meth, c, n0, sb, D, kA, nE, Q, ⟨hx, hb, hml, hr, hown, hlk, hnm, hts, hK⟩, hz, rfl⟩ := hJ
  subst hq hcu hsu
  intro H locs lsA hg hP hS hL
  refine W.sized fun z1 z2 => ?_
  have hsz : H.size = n0 + g.1 := wl_size hz hg hP z1 z2
  have hF8 := st_sum hst2 hst8
  subst hst
  have hF : CallFix p m c Y.2.1 Y.2.2.1 s args gtbl Y.1.cls := ⟨hx, hb, hml, hown, hts⟩
  have hcb := callB_of (R := Rm) (rm := rmD d mc ms) (mc := mc) (ms := ms) (ret := none) (bytes := Z.2.1) (maxL := Z.2.2.1) n hts (wsY_good hm.1.2.1) (by rw [wsY, hm.2.2.2]) rfl rfl (hts _ hm.1.1) (hts _ hl) hm.1.2.2 hr1
  refine q_after (va_runI (As := as.map (sh n0 sb)) (rest := rest.map (sh n0 sb)) hF (S l n0 sb D kA) ⟨hcb, hm.2.2.1, hts _ hm.2.1⟩ ⟨PcD.blind, fun U hU hW => ⟨rfl, by rw [hU]; exact hsz, by rw [hU]; exact hP, Kn.moved hW hK⟩⟩ rfl (by rw [List.length_map]; exact hn) hL.2.1 (by simp [F0, sh]) (lv_room (cats_sum hF8.1 hF8.2)) hd hr2) hS (fun r g' I' R' hΦ hg' H1 locs1 hP1 hS1 => ?_)
  have hk := kk r g' I' R' hΦ H1 locs1 lsA (by omega) hP1 hS1 hL
  rw [List.map_append, show r.toList.map (sh n0 sb) = (r.map (sh n0 sb)).toList by cases r <;> rfl] at hk
  exact hk
theorem q_callSN (hJ : Ok Y Rm J) {Z : MT} {d mc ms n idx cu2 su2 : Nat} {as rest : List Value} {Φ : Po} (hd : decode Y.2.1 pc = .ok (.invokestatic idx, 3)) (hq : pc + 3 = q) (S : Sp d mc ms Z as g I R Φ) (hm : SMn Z n) (hl : Cond.methodLinkNest Y.1.cls idx Z.1 RX10 ∈ nestW) (hn : as.length = n) (hst : as.reverse ++ rest = st) (hst2 : rest.all (fun v => v.category == 1) = true) (hst8 : rest.length ≤ 8) (hr1 : d + 1 ≤ Rm.frames ∧ 8 + (Z.2.2.1 + 11) + 40 * d ≤ Rm.locals) (hr2 : cu + mc ≤ Rm.cells ∧ su + ms ≤ Rm.slots) (hcu : cu + mc = cu2) (hsu : su + ms = su2)
    (kk : ∀ (r : Option Value) (g' : Geo) (I' : MI) (R' : MR), Φ r g' I' R' → J cu2 su2 q ls (r.toList ++ rest) g' I' R') : J cu su pc ls st g I R := by
  obtain ⟨p, l, e, s, m, args, below, meth, c, n0, sb, D, kA, nE, Q, ⟨hx, hb, hml, hr, hown, hlk, hnm, hts, hK⟩, hz, rfl⟩ := hJ
  subst hq hcu hsu
  intro H locs lsA hg hP hS hL
  refine W.sized fun z1 z2 => ?_
  have hsz : H.size = n0 + g.1 := wl_size hz hg hP z1 z2
  have hF8 := st_sum hst2 hst8
  subst hst
  have hF : CallFix p m c Y.2.1 Y.2.2.1 s args gtbl Y.1.cls := ⟨hx, hb, hml, hown, hts⟩
  have hcb := va_cnB (R := Rm) (rm := rmD d mc ms) (mc := mc) (ms := ms) (ret := Z.2.2.2) (bytes := Z.2.1) (maxL := Z.2.2.1) n hts (wsY_good hm.1.2.1) rfl rfl rfl (hK.2.1 _ hl) (hts _ hm.1.1) hm.1.2.2 hr1
  refine q_after (va_runSN (As := as.map (sh n0 sb)) (rest := rest.map (sh n0 sb)) hF (S l n0 sb D kA) ⟨hcb, hts _ hm.2, trivial⟩ ⟨PcD.blind, fun U hU hW => ⟨rfl, by rw [hU]; exact hsz, by rw [hU]; exact hP, Kn.moved hW hK⟩⟩ rfl (by rw [List.length_map]; exact hn) hL.2.1 (by simp [F0, sh]) (lv_room (cats_sum hF8.1 hF8.2)) hd hr2) hS (fun r g' I' R' hΦ hg' H1 locs1 hP1 hS1 => ?_)
  have hk := kk r g' I' R' hΦ H1 locs1 lsA (by omega) hP1 hS1 hL
  rw [List.map_append, show r.toList.map (sh n0 sb) = (r.map (sh n0 sb)).toList by cases r <;> rfl] at hk
  exact hk
theorem q_callIN (hJ : Ok Y Rm J) {Z : MT} {d mc ms n idx cu2 su2 : Nat} {t : Nat} {as rest : List Value} {Φ : Po} (hd : decode Y.2.1 pc = .ok (.invokespecial idx, 3)) (hq : pc + 3 = q) (S : Sp d mc ms Z (.ref t :: as) g I R Φ) (hm : KMn Z n) (hl : Cond.methodLinkNest Y.1.cls idx Z.1 RX10 ∈ nestW) (hn : as.length = n) (hst : as.reverse ++ .ref t :: rest = st) (hst2 : rest.all (fun v => v.category == 1) = true) (hst8 : rest.length ≤ 8) (hr1 : d + 1 ≤ Rm.frames ∧ 8 + (Z.2.2.1 + 11) + 40 * d ≤ Rm.locals) (hr2 : cu + mc ≤ Rm.cells ∧ su + ms ≤ Rm.slots) (hcu : cu + mc = cu2) (hsu : su + ms = su2)
    (kk : ∀ (r : Option Value) (g' : Geo) (I' : MI) (R' : MR), Φ r g' I' R' → J cu2 su2 q ls (r.toList ++ rest) g' I' R') : J cu su pc ls st g I R := by
  obtain ⟨p, l, e, s, m, args, below, meth, c, n0, sb, D, kA, nE, Q, ⟨hx, hb, hml, hr, hown, hlk, hnm, hts, hK⟩, hz, rfl⟩ := hJ
  subst hq hcu hsu
  intro H locs lsA hg hP hS hL
  refine W.sized fun z1 z2 => ?_
  have hsz : H.size = n0 + g.1 := wl_size hz hg hP z1 z2
  have hF8 := st_sum hst2 hst8
  subst hst
  have hF : CallFix p m c Y.2.1 Y.2.2.1 s args gtbl Y.1.cls := ⟨hx, hb, hml, hown, hts⟩
  have hcb := va_cnB (R := Rm) (rm := rmD d mc ms) (mc := mc) (ms := ms) (ret := none) (bytes := Z.2.1) (maxL := Z.2.2.1) n hts (wsY_good hm.1.2.1) (by rw [wsY, hm.2.2.2]) rfl rfl (hK.2.1 _ hl) (hts _ hm.1.1) hm.1.2.2 hr1
  refine q_after (va_runIN (As := as.map (sh n0 sb)) (rest := rest.map (sh n0 sb)) hF (S l n0 sb D kA) ⟨hcb, hm.2.2.1, hts _ hm.2.1⟩ ⟨PcD.blind, fun U hU hW => ⟨rfl, by rw [hU]; exact hsz, by rw [hU]; exact hP, Kn.moved hW hK⟩⟩ rfl (by rw [List.length_map]; exact hn) hL.2.1 (by simp [F0, sh]) (lv_room (cats_sum hF8.1 hF8.2)) hd hr2) hS (fun r g' I' R' hΦ hg' H1 locs1 hP1 hS1 => ?_)
  have hk := kk r g' I' R' hΦ H1 locs1 lsA (by omega) hP1 hS1 hL
  rw [List.map_append, show r.toList.map (sh n0 sb) = (r.map (sh n0 sb)).toList by cases r <;> rfl] at hk
  exact hk

end Calls3
