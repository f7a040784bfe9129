/-! THE JUDGEMENT: J cu su pc ls st g I R : the machine at pc, with these locals, this stack, these cells, comes to its end as its contract says -/
def tysOf (kA : Nat → ClassId) : List (ClassId × FieldType) := [(kA 12, .char), (kA 13, .int), (kA 14, .boolean), (kA 15, .object RX4), (kA 16, .object RX5), (kA 17, .object RX7)]
def rmD (d mc ms : Nat) : Room := { frames := d, cells := mc, slots := ms, locals := 40 * d }
def wsY (Y : MT) : List Cond := Cond.code Y.1 Y.2.1 Y.2.2.1 Y.2.2.2 :: gtbl
def Kn (D : va_G) (kA : Nat → ClassId) (U : State) : Prop := va_K D vwC (tysOf kA) U ∧ (∀ w ∈ nestW, va_Nw w U) ∧ ∀ C ∈ aoW, va_AO C U
def Fx (Y : MT) (p : Program) (s : State) (m : MethodId) (args : Array Value) (meth : Method) (c : Code) (D : va_G) (kA : Nat → ClassId) : Prop :=
  p.tables.exec = Jvm.exec ∧ c.code = Y.2.1 ∧ c.maxLocals = Y.2.2.1 ∧ meth.sig.returnType = Y.2.2.2 ∧ s.vm.findClass Y.1.cls = some m.cls ∧ meth.locks = false ∧ meth.name = Y.1.name ∧ (∀ w ∈ gtbl, w.before args s = true) ∧ Kn D kA s
def wc (p : Program) (l : Launch) (e : Env) (Rm : Room) (s : State) (m : MethodId) (args : Array Value) (below : List Frame) (meth : Method) (c : Code) (n0 sb : Nat) (D : va_G) (kA : Nat → ClassId) (nE : Nat) (Q : State → Prop) (nL : Nat) : JT := fun cu su pc ls st g I R =>
  ∀ (H : Heap) (locs : List Loc) (lsA : Array Slot), g.1 = nE + cu → va_P D vwC (wl n0 kA g I R) H → va_S (fun q => n0 ≤ q) s.heap H locs → LH n0 sb nL lsA ls → W p l e Rm s m args below meth c H locs cu su Q (F0 m pc lsA (st.map (sh n0 sb)))
def Ok (Y : MT) (Rm : Room) (J : JT) : Prop := ∃ (p : Program) (l : Launch) (e : Env) (s : State) (m : MethodId) (args : Array Value) (below : List Frame) (meth : Method) (c : Code) (n0 sb : Nat) (D : va_G) (kA : Nat → ClassId) (nE : Nat) (Q : State → Prop),
  Fx Y p s m args meth c D kA ∧ s.heap.size = n0 + nE ∧ J = wc p l e Rm s m args below meth c n0 sb D kA nE Q Y.2.2.1
def QcD (n0 sb : Nat) (D : va_G) (kA : Nat → ClassId) (nE mc : Nat) (Φ : Po) : Array Value → State → Outcome → State → Prop := fun _ st o t =>
  (∃ (r : Option Value) (g : Geo) (I : MI) (R : MR), o = .returned (r.map (sh n0 sb)) ∧ Φ r g I R ∧ g.1 = nE + mc ∧ va_P D vwC (wl n0 kA g I R) t.heap) ∧ va_F (fun q => n0 ≤ q) st t
def PcD (n0 sb : Nat) (D : va_G) (kA : Nat → ClassId) (as : List Value) (g : Geo) (I : MI) (R : MR) : Array Value → State → Prop := fun v U =>
  v = (as.map (sh n0 sb)).toArray ∧ U.heap.size = n0 + g.1 ∧ va_P D vwC (wl n0 kA g I R) U.heap ∧ Kn D kA U
/-- a method's contract over the pure machine -/
def Sp (d mc ms : Nat) (Y : MT) (as : List Value) (g : Geo) (I : MI) (R : MR) (Φ : Po) : Prop :=
  ∀ (l : Launch) (n0 sb : Nat) (D : va_G) (kA : Nat → ClassId), Met l Y.1 (wsY Y) (rmD d mc ms) (PcD n0 sb D kA as g I R) (QcD n0 sb D kA g.1 mc Φ) mc ms (fun q => n0 ≤ q)
def OkM (Y : MT) (d mc ms nE : Nat) (Φ : Po) (J : JT) : Prop := ∃ (p : Program) (l : Launch) (e : Env) (s : State) (m : MethodId) (args : Array Value) (below : List Frame) (meth : Method) (c : Code) (n0 sb : Nat) (D : va_G) (kA : Nat → ClassId),
  Fx Y p s m args meth c D kA ∧ s.heap.size = n0 + nE ∧ J = wc p l e (rmD d mc ms) s m args below meth c n0 sb D kA nE (MQ below (QcD n0 sb D kA nE mc Φ) args s mc ms (fun q => n0 ≤ q)) Y.2.2.1
theorem OkM.ok {Y : MT} {d mc ms nE : Nat} {Φ : Po} {J : JT} (h : OkM Y d mc ms nE Φ J) : Ok Y (rmD d mc ms) J := by
  obtain ⟨p, l, e, s, m, args, below, meth, c, n0, sb, D, kA, hF, hz, rfl⟩ := h
  exact ⟨p, l, e, s, m, args, below, meth, c, n0, sb, D, kA, nE, _, hF, hz, rfl⟩
theorem Kn.moved {D : va_G} {kA : Nat → ClassId} {s U : State} (hW : s.WarmedH U.vm) (h : Kn D kA s) : Kn D kA U := by
  obtain ⟨h1, h2, h3⟩ := h
  refine ⟨va_K.moved hW.alike h1, fun w hw => ?_, fun C hC => va_AO.moved hW.alike (h3 C hC)⟩
  have hz := h2 w hw
  simp only [nestW, List.mem_cons, List.not_mem_nil, or_false] at hw
  rcases hw with rfl | rfl | rfl | rfl | rfl | rfl | rfl | rfl | rfl | rfl <;> exact va_Nw.warmM hW hz
theorem Kn.same {D : va_G} {kA : Nat → ClassId} {s U : State} (hvm : s.vm = U.vm) (h : Kn D kA s) : Kn D kA U := by
  obtain ⟨h1, h2, h3⟩ := h
  refine ⟨va_K.moved (by rw [hvm]; exact Vm.Alike.refl U.vm) h1, fun w hw => ?_, fun C hC => va_AO.moved (by rw [hvm]; exact Vm.Alike.refl U.vm) (h3 C hC)⟩
  have hz := h2 w hw
  simp only [nestW, List.mem_cons, List.not_mem_nil, or_false] at hw
  rcases hw with rfl | rfl | rfl | rfl | rfl | rfl | rfl | rfl | rfl | rfl <;> exact va_Nw.same rfl hvm hz
theorem PcD.blind {n0 sb : Nat} {D : va_G} {kA : Nat → ClassId} {as : List Value} {g : Geo} {I : MI} {R : MR} : FrameBlind (PcD n0 sb D kA as g I R) := fun a U fr mk q => by
  obtain ⟨q1, q2, q3, q4⟩ := q
  exact ⟨q1, q2, q3, Kn.same (s := U) (U := U.calling fr mk a) rfl q4⟩
set_option maxHeartbeats 2000000 in
theorem Sp.of {Y : MT} {d mc ms : Nat} {as : List Value} {g : Geo} {I : MI} {R : MR} {Φ : Po} (hp : plainName Y.1.cls = true) (hc : ∀ v ∈ as, v.category = 1) (hn : as.length ≤ Y.2.2.1) (h : ∀ J, OkM Y d mc ms g.1 Φ J → J 0 0 0 (ent as Y.2.2.1) [] g I R) : Sp d mc ms Y as g I R Φ := by
  intro l n0 sb D kA
  refine Met.ofW (cc := Y.2.1) (maxL := Y.2.2.1) (ret := Y.2.2.2) hp rfl ?_
  intro p e s m args below meth c s₁ B hml hv
  obtain ⟨rfl, hsz, hP, hK⟩ := hv
  have hts0 := atoms_spec (ws := wsY Y) B.pre
  have hts : ∀ w ∈ gtbl, w.before ((as.map (sh n0 sb)).toArray) s = true := fun w hw => hts0 w (List.mem_cons_of_mem _ hw)
  have hF : Fx Y p s m ((as.map (sh n0 sb)).toArray) meth c D kA := ⟨B.exec, B.bytes, hml, B.returns, findClass_of_methodNamed B.named, B.notSynchronized, (name_of_methodNamed B.named B.method).1, hts, hK⟩
  have hk := h _ ⟨p, l, e, s, m, _, below, meth, c, n0, sb, D, kA, hF, hsz, rfl⟩
  rw [lg_entry_eq]
  exact hk s.heap [] _ rfl hP va_S.rf (LH.entry as hc hn)
/-- the heap is as long as the geometry says -/
theorem W.sized {p : Program} {l : Launch} {e : Env} {R : Room} {s : State} {m : MethodId} {args : Array Value} {below : List Frame} {meth : Method} {c : Code} {H : Heap} {locs : List Loc} {cells slots : Nat} {Q : State → Prop} {g : JFrame}
    (k : H.size ≤ s.heap.size + cells → s.heap.size ≤ H.size → W p l e R s m args below meth c H locs cells slots Q g) : W p l e R s m args below meth c H locs cells slots Q g := by
  intro T hT X
  have hs := X.same
  have h1 : H.size ≤ s.heap.size + cells := by rw [← hT]; exact hs.2.2.1
  have h2 : s.heap.size ≤ H.size := by rw [← hT]; exact hs.2.1
  exact k h1 h2 T hT X
def KA (g : Geo) (a k n : Nat) : Prop := a < g.1 ∧ g.2 a = (k, n)
def FL (own : String) (idx ci k : Nat) : Prop := ci < 12 ∧ k < cN ci ∧ Cond.fieldLink own idx (cT ci k).1 (cT ci k).2.1 (cT ci k).2.2.1 ∈ gtbl
def isR (v : Value) : Bool := match v with
  | .ref _ => true
  | .null => true
  | .float _ => true
  | _ => false
theorem isR_cases {v : Value} (h : isR v = true) (n0 sb : Nat) : (∃ a, sh n0 sb v = .ref a) ∨ sh n0 sb v = .null := by
  cases v <;> simp_all [isR, sh]
theorem isR_cat {v : Value} (h : isR v = true) : v.category = 1 := by
  cases v <;> simp_all [isR, Value.category]
/-- an index within, and the slot that it names -/
def ix (i : Int32) (j n : Nat) : Prop := i.toInt = (j : Int) ∧ j < n
theorem ix.nat {i : Int32} {j n : Nat} (h : ix i j n) : i.toNatClampNeg = j := by
  show i.toInt.toNat = j
  rw [h.1]; rfl
theorem ix.nn {i : Int32} {j n : Nat} (h : ix i j n) : ¬ i < 0 := by
  intro q
  have h1 := Int32.lt_iff_toInt_lt.mp q
  rw [h.1] at h1
  have h2 : (0 : Int32).toInt = 0 := by decide
  rw [h2] at h1
  omega
theorem ix.in {i : Int32} {j n : Nat} (h : ix i j n) : vp_in i n := by
  rintro (q | q)
  · exact h.nn q
  · rw [h.nat] at q
    exact absurd h.2 (Nat.not_lt.mpr q)
section Rules
variable {Y : MT} {Rm : Room} {J : JT} {cu su pc q : Nat} {ls : List (Option Value)} {st : List Value} {g : Geo} {I : MI} {R : MR}
theorem q_iconst (hJ : Ok Y Rm J) {n : Int} {v : Int32} (hd : decode Y.2.1 pc = .ok (.iconst n, 1)) (hq : pc + 1 = q) (hv : Int32.ofInt n = v) (k : J cu su q ls (.int v :: st) g I R) : J cu su pc ls (st) g I R := by
  obtain ⟨p, l, e, s, m, args, below, meth, c, n0, sb, D, kA, nE, Q, ⟨hx, hb, hml, hr, hown, hlk, hnm, hts, hK⟩, hz, rfl⟩ := hJ
  subst hq
  intro H locs lsA hg hP hS hL
  exact lv_iconst hx hb hd hv (k H locs lsA hg hP hS hL)
theorem q_bipush (hJ : Ok Y Rm J) {n : Int} {v : Int32} (hd : decode Y.2.1 pc = .ok (.bipush n, 2)) (hq : pc + 2 = q) (hv : (Int8.ofInt n).toInt32 = v) (k : J cu su q ls (.int v :: st) g I R) : J cu su pc ls (st) g I R := by
  obtain ⟨p, l, e, s, m, args, below, meth, c, n0, sb, D, kA, nE, Q, ⟨hx, hb, hml, hr, hown, hlk, hnm, hts, hK⟩, hz, rfl⟩ := hJ
  subst hq
  intro H locs lsA hg hP hS hL
  exact lv_bipush hx hb hd hv (k H locs lsA hg hP hS hL)
theorem q_sipush (hJ : Ok Y Rm J) {n : Int} {v : Int32} (hd : decode Y.2.1 pc = .ok (.sipush n, 3)) (hq : pc + 3 = q) (hv : (Int16.ofInt n).toInt32 = v) (k : J cu su q ls (.int v :: st) g I R) : J cu su pc ls (st) g I R := by
  obtain ⟨p, l, e, s, m, args, below, meth, c, n0, sb, D, kA, nE, Q, ⟨hx, hb, hml, hr, hown, hlk, hnm, hts, hK⟩, hz, rfl⟩ := hJ
  subst hq
  intro H locs lsA hg hP hS hL
  exact lv_sipush hx hb hd hv (k H locs lsA hg hP hS hL)
theorem q_iload_n (hJ : Ok Y Rm J) {i : Fin 4} {x : Int32} (hd : decode Y.2.1 pc = .ok (.iload_n i, 1)) (hq : pc + 1 = q) (hv : ls[(i : Nat)]? = some (some (.int x))) (k : J cu su q ls (.int x :: st) g I R) : J cu su pc ls (st) g I R := by
  obtain ⟨p, l, e, s, m, args, below, meth, c, n0, sb, D, kA, nE, Q, ⟨hx, hb, hml, hr, hown, hlk, hnm, hts, hK⟩, hz, rfl⟩ := hJ
  subst hq
  intro H locs lsA hg hP hS hL
  exact lv_iload_n hx hb hd rfl (hL.2.2.2 _ _ hv).2 (k H locs lsA hg hP hS hL)
theorem q_iload (hJ : Ok Y Rm J) {i : Nat} {x : Int32} (hd : decode Y.2.1 pc = .ok (.iload i, 2)) (hq : pc + 2 = q) (hv : ls[i]? = some (some (.int x))) (k : J cu su q ls (.int x :: st) g I R) : J cu su pc ls (st) g I R := by
  obtain ⟨p, l, e, s, m, args, below, meth, c, n0, sb, D, kA, nE, Q, ⟨hx, hb, hml, hr, hown, hlk, hnm, hts, hK⟩, hz, rfl⟩ := hJ
  subst hq
  intro H locs lsA hg hP hS hL
  exact lv_iload hx hb hd (hL.2.2.2 _ _ hv).2 (k H locs lsA hg hP hS hL)
theorem q_iadd (hJ : Ok Y Rm J) {x y : Int32} (hd : decode Y.2.1 pc = .ok (.iadd, 1)) (hq : pc + 1 = q) (k : J cu su q ls (.int (x + y) :: st) g I R) : J cu su pc ls (.int y :: .int x :: st) g I R := by
  obtain ⟨p, l, e, s, m, args, below, meth, c, n0, sb, D, kA, nE, Q, ⟨hx, hb, hml, hr, hown, hlk, hnm, hts, hK⟩, hz, rfl⟩ := hJ
  subst hq
  intro H locs lsA hg hP hS hL
  exact lv_iadd hx hb hd (k H locs lsA hg hP hS hL)
theorem q_isub (hJ : Ok Y Rm J) {x y : Int32} (hd : decode Y.2.1 pc = .ok (.isub, 1)) (hq : pc + 1 = q) (k : J cu su q ls (.int (x - y) :: st) g I R) : J cu su pc ls (.int y :: .int x :: st) g I R := by
  obtain ⟨p, l, e, s, m, args, below, meth, c, n0, sb, D, kA, nE, Q, ⟨hx, hb, hml, hr, hown, hlk, hnm, hts, hK⟩, hz, rfl⟩ := hJ
  subst hq
  intro H locs lsA hg hP hS hL
  exact lv_isub hx hb hd (k H locs lsA hg hP hS hL)
theorem q_imul (hJ : Ok Y Rm J) {x y : Int32} (hd : decode Y.2.1 pc = .ok (.imul, 1)) (hq : pc + 1 = q) (k : J cu su q ls (.int (x * y) :: st) g I R) : J cu su pc ls (.int y :: .int x :: st) g I R := by
  obtain ⟨p, l, e, s, m, args, below, meth, c, n0, sb, D, kA, nE, Q, ⟨hx, hb, hml, hr, hown, hlk, hnm, hts, hK⟩, hz, rfl⟩ := hJ
  subst hq
  intro H locs lsA hg hP hS hL
  exact lv_imul hx hb hd (k H locs lsA hg hP hS hL)
theorem q_iand (hJ : Ok Y Rm J) {x y : Int32} (hd : decode Y.2.1 pc = .ok (.iand, 1)) (hq : pc + 1 = q) (k : J cu su q ls (.int (x &&& y) :: st) g I R) : J cu su pc ls (.int y :: .int x :: st) g I R := by
  obtain ⟨p, l, e, s, m, args, below, meth, c, n0, sb, D, kA, nE, Q, ⟨hx, hb, hml, hr, hown, hlk, hnm, hts, hK⟩, hz, rfl⟩ := hJ
  subst hq
  intro H locs lsA hg hP hS hL
  exact lv_iand hx hb hd (k H locs lsA hg hP hS hL)
theorem q_irem (hJ : Ok Y Rm J) {x y : Int32} (hd : decode Y.2.1 pc = .ok (.irem, 1)) (hq : pc + 1 = q) (hy : ¬ y = 0) (k : J cu su q ls (.int (x - x / y * y) :: st) g I R) : J cu su pc ls (.int y :: .int x :: st) g I R := by
  obtain ⟨p, l, e, s, m, args, below, meth, c, n0, sb, D, kA, nE, Q, ⟨hx, hb, hml, hr, hown, hlk, hnm, hts, hK⟩, hz, rfl⟩ := hJ
  subst hq
  intro H locs lsA hg hP hS hL
  exact lv_irem hx hb hd hy (k H locs lsA hg hP hS hL)
theorem q_idiv (hJ : Ok Y Rm J) {x y : Int32} (hd : decode Y.2.1 pc = .ok (.idiv, 1)) (hq : pc + 1 = q) (hy : ¬ y = 0) (k : J cu su q ls (.int (x / y) :: st) g I R) : J cu su pc ls (.int y :: .int x :: st) g I R := by
  obtain ⟨p, l, e, s, m, args, below, meth, c, n0, sb, D, kA, nE, Q, ⟨hx, hb, hml, hr, hown, hlk, hnm, hts, hK⟩, hz, rfl⟩ := hJ
  subst hq
  intro H locs lsA hg hP hS hL
  exact lv_idiv hx hb hd hy (k H locs lsA hg hP hS hL)
theorem q_ishr (hJ : Ok Y Rm J) {x y : Int32} (hd : decode Y.2.1 pc = .ok (.ishr, 1)) (hq : pc + 1 = q) (k : J cu su q ls (.int (x >>> (y &&& 31)) :: st) g I R) : J cu su pc ls (.int y :: .int x :: st) g I R := by
  obtain ⟨p, l, e, s, m, args, below, meth, c, n0, sb, D, kA, nE, Q, ⟨hx, hb, hml, hr, hown, hlk, hnm, hts, hK⟩, hz, rfl⟩ := hJ
  subst hq
  intro H locs lsA hg hP hS hL
  exact lv_ishr hx hb hd (k H locs lsA hg hP hS hL)
theorem q_ldc (hJ : Ok Y Rm J) {idx : Nat} {v : Int32} (hd : decode Y.2.1 pc = .ok (.ldc idx, 2)) (hq : pc + 2 = q) (hw : Cond.constant Y.1.cls idx v ∈ gtbl) (k : J cu su q ls (.int v :: st) g I R) : J cu su pc ls (st) g I R := by
  obtain ⟨p, l, e, s, m, args, below, meth, c, n0, sb, D, kA, nE, Q, ⟨hx, hb, hml, hr, hown, hlk, hnm, hts, hK⟩, hz, rfl⟩ := hJ
  subst hq
  intro H locs lsA hg hP hS hL
  exact lv_ldc hx hb hown (hts _ hw) hd (k H locs lsA hg hP hS hL)
theorem q_ineg (hJ : Ok Y Rm J) {x : Int32} (hd : decode Y.2.1 pc = .ok (.ineg, 1)) (hq : pc + 1 = q) (k : J cu su q ls (.int (-x) :: st) g I R) : J cu su pc ls (.int x :: st) g I R := by
  obtain ⟨p, l, e, s, m, args, below, meth, c, n0, sb, D, kA, nE, Q, ⟨hx, hb, hml, hr, hown, hlk, hnm, hts, hK⟩, hz, rfl⟩ := hJ
  subst hq
  intro H locs lsA hg hP hS hL
  exact lv_ineg hx hb hd (k H locs lsA hg hP hS hL)
theorem q_i2c (hJ : Ok Y Rm J) {x v : Int32} (hd : decode Y.2.1 pc = .ok (.i2c, 1)) (hq : pc + 1 = q) (hv : (x.toUInt32 % 65536).toInt32 = v) (k : J cu su q ls (.int v :: st) g I R) : J cu su pc ls (.int x :: st) g I R := by
  obtain ⟨p, l, e, s, m, args, below, meth, c, n0, sb, D, kA, nE, Q, ⟨hx, hb, hml, hr, hown, hlk, hnm, hts, hK⟩, hz, rfl⟩ := hJ
  subst hq
  intro H locs lsA hg hP hS hL
  exact lv_i2c hx hb hd hv (k H locs lsA hg hP hS hL)
theorem q_dup (hJ : Ok Y Rm J) {v : Value} (hd : decode Y.2.1 pc = .ok (.dup, 1)) (hq : pc + 1 = q) (hv : v.category = 1) (k : J cu su q ls (v :: v :: st) g I R) : J cu su pc ls (v :: st) g I R := by
  obtain ⟨p, l, e, s, m, args, below, meth, c, n0, sb, D, kA, nE, Q, ⟨hx, hb, hml, hr, hown, hlk, hnm, hts, hK⟩, hz, rfl⟩ := hJ
  subst hq
  intro H locs lsA hg hP hS hL
  exact lv_dup hx hb hd (sh_cat hv) (k H locs lsA hg hP hS hL)
theorem q_pop (hJ : Ok Y Rm J) {v : Value} (hd : decode Y.2.1 pc = .ok (.pop, 1)) (hq : pc + 1 = q) (hv : v.category = 1) (k : J cu su q ls (st) g I R) : J cu su pc ls (v :: st) g I R := by
  obtain ⟨p, l, e, s, m, args, below, meth, c, n0, sb, D, kA, nE, Q, ⟨hx, hb, hml, hr, hown, hlk, hnm, hts, hK⟩, hz, rfl⟩ := hJ
  subst hq
  intro H locs lsA hg hP hS hL
  exact lv_pop hx hb hd (sh_cat hv) (k H locs lsA hg hP hS hL)
theorem q_dup2 (hJ : Ok Y Rm J) {v w : Value} (hd : decode Y.2.1 pc = .ok (.dup2, 1)) (hq : pc + 1 = q) (hv : v.category = 1) (hw : w.category = 1) (k : J cu su q ls (v :: w :: v :: w :: st) g I R) : J cu su pc ls (v :: w :: st) g I R := by
  obtain ⟨p, l, e, s, m, args, below, meth, c, n0, sb, D, kA, nE, Q, ⟨hx, hb, hml, hr, hown, hlk, hnm, hts, hK⟩, hz, rfl⟩ := hJ
  subst hq
  intro H locs lsA hg hP hS hL
  exact lv_dup2_11 hx hb hd (sh_cat hv) (sh_cat hw) (k H locs lsA hg hP hS hL)
theorem q_null (hJ : Ok Y Rm J) (hd : decode Y.2.1 pc = .ok (.aconst_null, 1)) (hq : pc + 1 = q) (k : J cu su q ls (.null :: st) g I R) : J cu su pc ls (st) g I R := by
  obtain ⟨p, l, e, s, m, args, below, meth, c, n0, sb, D, kA, nE, Q, ⟨hx, hb, hml, hr, hown, hlk, hnm, hts, hK⟩, hz, rfl⟩ := hJ
  subst hq
  intro H locs lsA hg hP hS hL
  exact lv_null hx hb hd (k H locs lsA hg hP hS hL)
theorem q_aload_n (hJ : Ok Y Rm J) {i : Fin 4} {v : Value} (hd : decode Y.2.1 pc = .ok (.aload_n i, 1)) (hq : pc + 1 = q) (hv : ls[(i : Nat)]? = some (some v)) (hR : isR v = true) (k : J cu su q ls (v :: st) g I R) : J cu su pc ls st g I R := by
  obtain ⟨p, l, e, s, m, args, below, meth, c, n0, sb, D, kA, nE, Q, ⟨hx, hb, hml, hr, hown, hlk, hnm, hts, hK⟩, hz, rfl⟩ := hJ
  subst hq
  intro H locs lsA hg hP hS hL
  have hv2 := (hL.2.2.2 _ _ hv).2
  have hk := k H locs lsA hg hP hS hL
  rw [List.map_cons] at hk
  rcases isR_cases hR n0 sb with ⟨a, ha⟩ | ha
  · rw [ha] at hv2 hk
    exact lv_aload_n hx hb hd rfl hv2 hk
  · rw [ha] at hv2 hk
    exact lv_aload_nN hx hb hd rfl hv2 hk
theorem q_aload (hJ : Ok Y Rm J) {i : Nat} {v : Value} (hd : decode Y.2.1 pc = .ok (.aload i, 2)) (hq : pc + 2 = q) (hv : ls[i]? = some (some v)) (hR : isR v = true) (k : J cu su q ls (v :: st) g I R) : J cu su pc ls st g I R := by
  obtain ⟨p, l, e, s, m, args, below, meth, c, n0, sb, D, kA, nE, Q, ⟨hx, hb, hml, hr, hown, hlk, hnm, hts, hK⟩, hz, rfl⟩ := hJ
  subst hq
  intro H locs lsA hg hP hS hL
  have hv2 := (hL.2.2.2 _ _ hv).2
  have hk := k H locs lsA hg hP hS hL
  rw [List.map_cons] at hk
  rcases isR_cases hR n0 sb with ⟨a, ha⟩ | ha
  · rw [ha] at hv2 hk
    exact lv_aload hx hb hd hv2 hk
  · rw [ha] at hv2 hk
    exact lv_aloadN hx hb hd hv2 hk
theorem q_istore_n (hJ : Ok Y Rm J) {i : Fin 4} {x : Int32} (hd : decode Y.2.1 pc = .ok (.istore_n i, 1)) (hq : pc + 1 = q) (hi : (i : Nat) < Y.2.2.1) (k : J cu su q (ls.set (i : Nat) (some (.int x))) st g I R) : J cu su pc ls (.int x :: st) g I R := by
  obtain ⟨p, l, e, s, m, args, below, meth, c, n0, sb, D, kA, nE, Q, ⟨hx, hb, hml, hr, hown, hlk, hnm, hts, hK⟩, hz, rfl⟩ := hJ
  subst hq
  intro H locs lsA hg hP hS hL
  refine lv_istore_n (lv := lvl n0 sb ls) hx hb hd rfl hL.has hi rfl (fun lsB hB => ?_)
  exact k H locs lsB hg hP hS (hL.set rfl hB)
theorem q_istore (hJ : Ok Y Rm J) {i : Nat} {x : Int32} (hd : decode Y.2.1 pc = .ok (.istore i, 2)) (hq : pc + 2 = q) (hi : i < Y.2.2.1) (k : J cu su q (ls.set i (some (.int x))) st g I R) : J cu su pc ls (.int x :: st) g I R := by
  obtain ⟨p, l, e, s, m, args, below, meth, c, n0, sb, D, kA, nE, Q, ⟨hx, hb, hml, hr, hown, hlk, hnm, hts, hK⟩, hz, rfl⟩ := hJ
  subst hq
  intro H locs lsA hg hP hS hL
  refine lv_istore (lv := lvl n0 sb ls) hx hb hd hL.has hi rfl (fun lsB hB => ?_)
  exact k H locs lsB hg hP hS (hL.set rfl hB)
theorem q_astore_n (hJ : Ok Y Rm J) {i : Fin 4} {v : Value} (hd : decode Y.2.1 pc = .ok (.astore_n i, 1)) (hq : pc + 1 = q) (hi : (i : Nat) < Y.2.2.1) (hR : isR v = true) (k : J cu su q (ls.set (i : Nat) (some v)) st g I R) : J cu su pc ls (v :: st) g I R := by
  obtain ⟨p, l, e, s, m, args, below, meth, c, n0, sb, D, kA, nE, Q, ⟨hx, hb, hml, hr, hown, hlk, hnm, hts, hK⟩, hz, rfl⟩ := hJ
  subst hq
  intro H locs lsA hg hP hS hL
  have hset : ∀ lsB : Array Slot, lv_has lsB Y.2.2.1 (((i : Nat), sh n0 sb v) :: (lvl n0 sb ls).filter (fun q => !(q.1 == (i : Nat)) && !(q.1 + 1 == (i : Nat) && q.2.category == 2))) → LH n0 sb Y.2.2.1 lsB (ls.set (i : Nat) (some v)) := fun lsB hB => hL.set (isR_cat hR) hB
  rw [List.map_cons]
  rcases isR_cases hR n0 sb with ⟨a, ha⟩ | ha
  · rw [ha] at hset ⊢
    exact lv_astore_n (lv := lvl n0 sb ls) hx hb hd rfl hL.has hi rfl (fun lsB hB => k H locs lsB hg hP hS (hset lsB hB))
  · rw [ha] at hset ⊢
    exact lv_astore_nN (lv := lvl n0 sb ls) hx hb hd rfl hL.has hi rfl (fun lsB hB => k H locs lsB hg hP hS (hset lsB hB))
theorem q_astore (hJ : Ok Y Rm J) {i : Nat} {v : Value} (hd : decode Y.2.1 pc = .ok (.astore i, 2)) (hq : pc + 2 = q) (hi : i < Y.2.2.1) (hR : isR v = true) (k : J cu su q (ls.set i (some v)) st g I R) : J cu su pc ls (v :: st) g I R := by
  obtain ⟨p, l, e, s, m, args, below, meth, c, n0, sb, D, kA, nE, Q, ⟨hx, hb, hml, hr, hown, hlk, hnm, hts, hK⟩, hz, rfl⟩ := hJ
  subst hq
  intro H locs lsA hg hP hS hL
  have hset : ∀ lsB : Array Slot, lv_has lsB Y.2.2.1 ((i, sh n0 sb v) :: (lvl n0 sb ls).filter (fun q => !(q.1 == i) && !(q.1 + 1 == i && q.2.category == 2))) → LH n0 sb Y.2.2.1 lsB (ls.set i (some v)) := fun lsB hB => hL.set (isR_cat hR) hB
  rw [List.map_cons]
  rcases isR_cases hR n0 sb with ⟨a, ha⟩ | ha
  · rw [ha] at hset ⊢
    exact lv_astore (lv := lvl n0 sb ls) hx hb hd hL.has hi rfl (fun lsB hB => k H locs lsB hg hP hS (hset lsB hB))
  · rw [ha] at hset ⊢
    exact lv_astoreN (lv := lvl n0 sb ls) hx hb hd hL.has hi rfl (fun lsB hB => k H locs lsB hg hP hS (hset lsB hB))
theorem q_iinc (hJ : Ok Y Rm J) {i : Nat} {n : Int} {x v : Int32} (hd : decode Y.2.1 pc = .ok (.iinc i n, 3)) (hq : pc + 3 = q) (hi : i < Y.2.2.1) (hx0 : ls[i]? = some (some (.int x))) (hv : x + Int32.ofInt n = v) (k : J cu su q (ls.set i (some (.int v))) st g I R) : J cu su pc ls st g I R := by
  obtain ⟨p, l, e, s, m, args, below, meth, c, n0, sb, D, kA, nE, Q, ⟨hx, hb, hml, hr, hown, hlk, hnm, hts, hK⟩, hz, rfl⟩ := hJ
  subst hq
  intro H locs lsA hg hP hS hL
  have hm := lvl_mem (n0 := n0) (sb := sb) hx0
  obtain ⟨kk, hkk⟩ := List.getElem?_of_mem hm
  refine lv_iinc (lv := lvl n0 sb ls) hx hb hd hL.has hkk hv hi rfl (fun lsB hB => ?_)
  exact k H locs lsB hg hP hS (hL.set rfl hB)
theorem q_if_eq (hJ : Ok Y Rm J) {x : Int32} {off : Int} {tgt : Nat} (hd : decode Y.2.1 pc = .ok (.ifCond .eq off, 3)) (hq : pc + 3 = q) (ht : (pc : Int) + off = (tgt : Int)) (kt : x = 0 → J cu su tgt ls st g I R) (kf : ¬ x = 0 → J cu su q ls st g I R) : J cu su pc ls (.int x :: st) g I R := by
  obtain ⟨p, l, e, s, m, args, below, meth, c, n0, sb, D, kA, nE, Q, ⟨hx, hb, hml, hr, hown, hlk, hnm, hts, hK⟩, hz, rfl⟩ := hJ
  subst hq
  intro H locs lsA hg hP hS hL
  exact lv_if_eq hx hb hd ht (fun h => kt h H locs lsA hg hP hS hL) (fun h => kf h H locs lsA hg hP hS hL)
theorem q_icmp_eq (hJ : Ok Y Rm J) {x y : Int32} {off : Int} {tgt : Nat} (hd : decode Y.2.1 pc = .ok (.if_icmp .eq off, 3)) (hq : pc + 3 = q) (ht : (pc : Int) + off = (tgt : Int)) (kt : x = y → J cu su tgt ls st g I R) (kf : ¬ x = y → J cu su q ls st g I R) : J cu su pc ls (.int y :: .int x :: st) g I R := by
  obtain ⟨p, l, e, s, m, args, below, meth, c, n0, sb, D, kA, nE, Q, ⟨hx, hb, hml, hr, hown, hlk, hnm, hts, hK⟩, hz, rfl⟩ := hJ
  subst hq
  intro H locs lsA hg hP hS hL
  exact lv_icmp_eq hx hb hd ht (fun h => kt h H locs lsA hg hP hS hL) (fun h => kf h H locs lsA hg hP hS hL)
theorem q_if_ne (hJ : Ok Y Rm J) {x : Int32} {off : Int} {tgt : Nat} (hd : decode Y.2.1 pc = .ok (.ifCond .ne off, 3)) (hq : pc + 3 = q) (ht : (pc : Int) + off = (tgt : Int)) (kt : ¬ x = 0 → J cu su tgt ls st g I R) (kf : x = 0 → J cu su q ls st g I R) : J cu su pc ls (.int x :: st) g I R := by
  obtain ⟨p, l, e, s, m, args, below, meth, c, n0, sb, D, kA, nE, Q, ⟨hx, hb, hml, hr, hown, hlk, hnm, hts, hK⟩, hz, rfl⟩ := hJ
  subst hq
  intro H locs lsA hg hP hS hL
  exact lv_if_ne hx hb hd ht (fun h => kt h H locs lsA hg hP hS hL) (fun h => kf h H locs lsA hg hP hS hL)
theorem q_icmp_ne (hJ : Ok Y Rm J) {x y : Int32} {off : Int} {tgt : Nat} (hd : decode Y.2.1 pc = .ok (.if_icmp .ne off, 3)) (hq : pc + 3 = q) (ht : (pc : Int) + off = (tgt : Int)) (kt : ¬ x = y → J cu su tgt ls st g I R) (kf : x = y → J cu su q ls st g I R) : J cu su pc ls (.int y :: .int x :: st) g I R := by
  obtain ⟨p, l, e, s, m, args, below, meth, c, n0, sb, D, kA, nE, Q, ⟨hx, hb, hml, hr, hown, hlk, hnm, hts, hK⟩, hz, rfl⟩ := hJ
  subst hq
  intro H locs lsA hg hP hS hL
  exact lv_icmp_ne hx hb hd ht (fun h => kt h H locs lsA hg hP hS hL) (fun h => kf h H locs lsA hg hP hS hL)
theorem q_if_lt (hJ : Ok Y Rm J) {x : Int32} {off : Int} {tgt : Nat} (hd : decode Y.2.1 pc = .ok (.ifCond .lt off, 3)) (hq : pc + 3 = q) (ht : (pc : Int) + off = (tgt : Int)) (kt : x < 0 → J cu su tgt ls st g I R) (kf : ¬ x < 0 → J cu su q ls st g I R) : J cu su pc ls (.int x :: st) g I R := by
  obtain ⟨p, l, e, s, m, args, below, meth, c, n0, sb, D, kA, nE, Q, ⟨hx, hb, hml, hr, hown, hlk, hnm, hts, hK⟩, hz, rfl⟩ := hJ
  subst hq
  intro H locs lsA hg hP hS hL
  exact lv_if_lt hx hb hd ht (fun h => kt h H locs lsA hg hP hS hL) (fun h => kf h H locs lsA hg hP hS hL)
theorem q_icmp_lt (hJ : Ok Y Rm J) {x y : Int32} {off : Int} {tgt : Nat} (hd : decode Y.2.1 pc = .ok (.if_icmp .lt off, 3)) (hq : pc + 3 = q) (ht : (pc : Int) + off = (tgt : Int)) (kt : x < y → J cu su tgt ls st g I R) (kf : ¬ x < y → J cu su q ls st g I R) : J cu su pc ls (.int y :: .int x :: st) g I R := by
  obtain ⟨p, l, e, s, m, args, below, meth, c, n0, sb, D, kA, nE, Q, ⟨hx, hb, hml, hr, hown, hlk, hnm, hts, hK⟩, hz, rfl⟩ := hJ
  subst hq
  intro H locs lsA hg hP hS hL
  exact lv_icmp_lt hx hb hd ht (fun h => kt h H locs lsA hg hP hS hL) (fun h => kf h H locs lsA hg hP hS hL)
theorem q_if_ge (hJ : Ok Y Rm J) {x : Int32} {off : Int} {tgt : Nat} (hd : decode Y.2.1 pc = .ok (.ifCond .ge off, 3)) (hq : pc + 3 = q) (ht : (pc : Int) + off = (tgt : Int)) (kt : 0 ≤ x → J cu su tgt ls st g I R) (kf : ¬ 0 ≤ x → J cu su q ls st g I R) : J cu su pc ls (.int x :: st) g I R := by
  obtain ⟨p, l, e, s, m, args, below, meth, c, n0, sb, D, kA, nE, Q, ⟨hx, hb, hml, hr, hown, hlk, hnm, hts, hK⟩, hz, rfl⟩ := hJ
  subst hq
  intro H locs lsA hg hP hS hL
  exact lv_if_ge hx hb hd ht (fun h => kt h H locs lsA hg hP hS hL) (fun h => kf h H locs lsA hg hP hS hL)
theorem q_icmp_ge (hJ : Ok Y Rm J) {x y : Int32} {off : Int} {tgt : Nat} (hd : decode Y.2.1 pc = .ok (.if_icmp .ge off, 3)) (hq : pc + 3 = q) (ht : (pc : Int) + off = (tgt : Int)) (kt : y ≤ x → J cu su tgt ls st g I R) (kf : ¬ y ≤ x → J cu su q ls st g I R) : J cu su pc ls (.int y :: .int x :: st) g I R := by
  obtain ⟨p, l, e, s, m, args, below, meth, c, n0, sb, D, kA, nE, Q, ⟨hx, hb, hml, hr, hown, hlk, hnm, hts, hK⟩, hz, rfl⟩ := hJ
  subst hq
  intro H locs lsA hg hP hS hL
  exact lv_icmp_ge hx hb hd ht (fun h => kt h H locs lsA hg hP hS hL) (fun h => kf h H locs lsA hg hP hS hL)
theorem q_if_gt (hJ : Ok Y Rm J) {x : Int32} {off : Int} {tgt : Nat} (hd : decode Y.2.1 pc = .ok (.ifCond .gt off, 3)) (hq : pc + 3 = q) (ht : (pc : Int) + off = (tgt : Int)) (kt : 0 < x → J cu su tgt ls st g I R) (kf : ¬ 0 < x → J cu su q ls st g I R) : J cu su pc ls (.int x :: st) g I R := by
  obtain ⟨p, l, e, s, m, args, below, meth, c, n0, sb, D, kA, nE, Q, ⟨hx, hb, hml, hr, hown, hlk, hnm, hts, hK⟩, hz, rfl⟩ := hJ
  subst hq
  intro H locs lsA hg hP hS hL
  exact lv_if_gt hx hb hd ht (fun h => kt h H locs lsA hg hP hS hL) (fun h => kf h H locs lsA hg hP hS hL)
theorem q_icmp_gt (hJ : Ok Y Rm J) {x y : Int32} {off : Int} {tgt : Nat} (hd : decode Y.2.1 pc = .ok (.if_icmp .gt off, 3)) (hq : pc + 3 = q) (ht : (pc : Int) + off = (tgt : Int)) (kt : y < x → J cu su tgt ls st g I R) (kf : ¬ y < x → J cu su q ls st g I R) : J cu su pc ls (.int y :: .int x :: st) g I R := by
  obtain ⟨p, l, e, s, m, args, below, meth, c, n0, sb, D, kA, nE, Q, ⟨hx, hb, hml, hr, hown, hlk, hnm, hts, hK⟩, hz, rfl⟩ := hJ
  subst hq
  intro H locs lsA hg hP hS hL
  exact lv_icmp_gt hx hb hd ht (fun h => kt h H locs lsA hg hP hS hL) (fun h => kf h H locs lsA hg hP hS hL)
theorem q_if_le (hJ : Ok Y Rm J) {x : Int32} {off : Int} {tgt : Nat} (hd : decode Y.2.1 pc = .ok (.ifCond .le off, 3)) (hq : pc + 3 = q) (ht : (pc : Int) + off = (tgt : Int)) (kt : x ≤ 0 → J cu su tgt ls st g I R) (kf : ¬ x ≤ 0 → J cu su q ls st g I R) : J cu su pc ls (.int x :: st) g I R := by
  obtain ⟨p, l, e, s, m, args, below, meth, c, n0, sb, D, kA, nE, Q, ⟨hx, hb, hml, hr, hown, hlk, hnm, hts, hK⟩, hz, rfl⟩ := hJ
  subst hq
  intro H locs lsA hg hP hS hL
  exact lv_if_le hx hb hd ht (fun h => kt h H locs lsA hg hP hS hL) (fun h => kf h H locs lsA hg hP hS hL)
theorem q_icmp_le (hJ : Ok Y Rm J) {x y : Int32} {off : Int} {tgt : Nat} (hd : decode Y.2.1 pc = .ok (.if_icmp .le off, 3)) (hq : pc + 3 = q) (ht : (pc : Int) + off = (tgt : Int)) (kt : x ≤ y → J cu su tgt ls st g I R) (kf : ¬ x ≤ y → J cu su q ls st g I R) : J cu su pc ls (.int y :: .int x :: st) g I R := by
  obtain ⟨p, l, e, s, m, args, below, meth, c, n0, sb, D, kA, nE, Q, ⟨hx, hb, hml, hr, hown, hlk, hnm, hts, hK⟩, hz, rfl⟩ := hJ
  subst hq
  intro H locs lsA hg hP hS hL
  exact lv_icmp_le hx hb hd ht (fun h => kt h H locs lsA hg hP hS hL) (fun h => kf h H locs lsA hg hP hS hL)
theorem q_goto (hJ : Ok Y Rm J) {off : Int} {tgt : Nat} (hd : decode Y.2.1 pc = .ok (.goto off, 3)) (ht : (pc : Int) + off = (tgt : Int)) (k : J cu su tgt ls st g I R) : J cu su pc ls st g I R := by
  obtain ⟨p, l, e, s, m, args, below, meth, c, n0, sb, D, kA, nE, Q, ⟨hx, hb, hml, hr, hown, hlk, hnm, hts, hK⟩, hz, rfl⟩ := hJ
  intro H locs lsA hg hP hS hL
  exact lv_goto hx hb hd ht (k H locs lsA hg hP hS hL)
theorem q_nullY (hJ : Ok Y Rm J) {a : Nat} {off : Int} {tgt : Nat} (hd : decode Y.2.1 pc = .ok (.ifnull off, 3)) (ht : (pc : Int) + off = (tgt : Int)) (k : J cu su tgt ls st g I R) : J cu su pc ls (.null :: st) g I R := by
  obtain ⟨p, l, e, s, m, args, below, meth, c, n0, sb, D, kA, nE, Q, ⟨hx, hb, hml, hr, hown, hlk, hnm, hts, hK⟩, hz, rfl⟩ := hJ
  intro H locs lsA hg hP hS hL
  exact lv_ifnullN hx hb hd ht (k H locs lsA hg hP hS hL)
theorem q_nullN (hJ : Ok Y Rm J) {a : Nat} {off : Int} (hd : decode Y.2.1 pc = .ok (.ifnull off, 3)) (hq : pc + 3 = q) (k : J cu su q ls st g I R) : J cu su pc ls (.ref a :: st) g I R := by
  obtain ⟨p, l, e, s, m, args, below, meth, c, n0, sb, D, kA, nE, Q, ⟨hx, hb, hml, hr, hown, hlk, hnm, hts, hK⟩, hz, rfl⟩ := hJ
  subst hq
  intro H locs lsA hg hP hS hL
  exact lv_ifnull hx hb hd (k H locs lsA hg hP hS hL)
theorem q_nonnullN (hJ : Ok Y Rm J) {a : Nat} {off : Int} {tgt : Nat} (hd : decode Y.2.1 pc = .ok (.ifnonnull off, 3)) (ht : (pc : Int) + off = (tgt : Int)) (k : J cu su tgt ls st g I R) : J cu su pc ls (.ref a :: st) g I R := by
  obtain ⟨p, l, e, s, m, args, below, meth, c, n0, sb, D, kA, nE, Q, ⟨hx, hb, hml, hr, hown, hlk, hnm, hts, hK⟩, hz, rfl⟩ := hJ
  intro H locs lsA hg hP hS hL
  exact lv_ifnonnull hx hb hd ht (k H locs lsA hg hP hS hL)
theorem q_nonnullY (hJ : Ok Y Rm J) {a : Nat} {off : Int} (hd : decode Y.2.1 pc = .ok (.ifnonnull off, 3)) (hq : pc + 3 = q) (k : J cu su q ls st g I R) : J cu su pc ls (.null :: st) g I R := by
  obtain ⟨p, l, e, s, m, args, below, meth, c, n0, sb, D, kA, nE, Q, ⟨hx, hb, hml, hr, hown, hlk, hnm, hts, hK⟩, hz, rfl⟩ := hJ
  subst hq
  intro H locs lsA hg hP hS hL
  exact lv_ifnonnullN hx hb hd (k H locs lsA hg hP hS hL)
theorem q_tswIn (hJ : Ok Y Rm J) {dflt lo hi : Int} {offs : Array Int} {len : Nat} {x : Int32} {off : Int} {tgt : Nat} (hd : decode Y.2.1 pc = .ok (.tableswitch dflt lo hi offs, len)) (h1 : ¬ x.toInt < lo) (h2 : ¬ hi < x.toInt) (ho : offs[(x.toInt - lo).toNat]? = some off) (ht : (pc : Int) + off = (tgt : Int)) (k : J cu su tgt ls st g I R) : J cu su pc ls (.int x :: st) g I R := by
  obtain ⟨p, l, e, s, m, args, below, meth, c, n0, sb, D, kA, nE, Q, ⟨hx, hb, hml, hr, hown, hlk, hnm, hts, hK⟩, hz, rfl⟩ := hJ
  intro H locs lsA hg hP hS hL
  exact lv_tableIn hx hb hd h1 h2 ho ht (k H locs lsA hg hP hS hL)
theorem q_tswOut (hJ : Ok Y Rm J) {dflt lo hi : Int} {offs : Array Int} {len : Nat} {x : Int32} {tgt : Nat} (hd : decode Y.2.1 pc = .ok (.tableswitch dflt lo hi offs, len)) (h1 : x.toInt < lo ∨ hi < x.toInt) (ht : (pc : Int) + dflt = (tgt : Int)) (k : J cu su tgt ls st g I R) : J cu su pc ls (.int x :: st) g I R := by
  obtain ⟨p, l, e, s, m, args, below, meth, c, n0, sb, D, kA, nE, Q, ⟨hx, hb, hml, hr, hown, hlk, hnm, hts, hK⟩, hz, rfl⟩ := hJ
  intro H locs lsA hg hP hS hL
  exact lv_tableOut hx hb hd h1 ht (k H locs lsA hg hP hS hL)
theorem q_lsw (hJ : Ok Y Rm J) {dflt : Int} {ps : Array (Int × Int)} {len : Nat} {x : Int32} {off : Int} {tgt : Nat} (hd : decode Y.2.1 pc = .ok (.lookupswitch dflt ps, len)) (hp : (ps.toList.zip (ps.toList.drop 1)).all (fun (a, next) => a.1 < next.1) = true) (ho : Op.lookupswitch.offset ps.toList dflt x.toInt = off) (ht : (pc : Int) + off = (tgt : Int)) (k : J cu su tgt ls st g I R) : J cu su pc ls (.int x :: st) g I R := by
  obtain ⟨p, l, e, s, m, args, below, meth, c, n0, sb, D, kA, nE, Q, ⟨hx, hb, hml, hr, hown, hlk, hnm, hts, hK⟩, hz, rfl⟩ := hJ
  intro H locs lsA hg hP hS hL
  exact lv_lookup hx hb hd hp ho ht (k H locs lsA hg hP hS hL)
end Rules
