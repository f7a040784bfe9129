/-! THE PURE MACHINE'S WORDS: geometry (how many cells, kind and length of each), ints and references of the cells by cell and slot; a value on the stack with its address counted from the first cell of ours -/
abbrev Geo : Type := Nat × (Nat → Nat × Nat)
abbrev MI : Type := Nat → Nat → Int32
abbrev MR : Type := Nat → Nat → Option Nat
abbrev Po : Type := Option Value → Geo → MI → MR → Prop
abbrev MT : Type := MethodName × ByteArray × Nat × Option FieldType
abbrev JT : Type := Nat → Nat → Nat → List (Option Value) → List Value → Geo → MI → MR → Prop
def up2 {α : Type} (f : Nat → Nat → α) (a k : Nat) (v : α) : Nat → Nat → α := fun b j => if b = a ∧ j = k then v else f b j
theorem up2_row {α : Type} (f : Nat → Nat → α) (a k : Nat) (v : α) : up2 f a k v a = fun j => if j = k then v else f a j := by
  funext j
  simp [up2]
theorem up2_other {α : Type} (f : Nat → Nat → α) (a k : Nat) (v : α) {b : Nat} (h : b ≠ a) : up2 f a k v b = f b := by
  funext j
  simp [up2, h]
/-- the words that keep -/
def gtbl : List Cond := lw_tbl.filter goodWord
theorem gin {w : Cond} (i : Nat) (h : lw_tbl[i]? = some w) (hg : goodWord w = true) : w ∈ gtbl := List.mem_filter.mpr ⟨List.mem_of_getElem? h, hg⟩
theorem g_good {w : Cond} (h : w ∈ gtbl) : w ∈ gtbl ∧ ((w.onTables && w.keeps) = true ∨ ∃ ty, w = .arrayClass ty) := ⟨h, good_of_word (List.mem_filter.mp h).2⟩
def nestW : List Cond := [.methodLinkNest RX0 11 yX7_init RX10, .methodLinkNest RX8 17 yX4_init RX10, .methodLinkNest RX6 21 yX5_init RX10, .methodLinkNest RX7 27 yX1_init RX10, .methodLinkNest RX3 9 yX4_init RX10, .methodLinkNest RX10 18 yX7_init RX10, .methodLinkNest RX2 17 yX7_init RX10, .methodLinkNest RX10 35 yX9_init RX10, .methodLinkNest RX0 31 yX10_within RX10, .methodLinkNest RX0 35 yX10_isValue RX10]
/-- the classes of the cells; the last stands twice, so that there are twelve -/
abbrev vwC : List vw_C := vwCl ++ [(RX10, TX10, 6)]
def aoW : List String := [RX4, RX5, RX7]
def cR : Nat → String := fun ci => match ci with
  | 0 => RX0 | 1 => RX1 | 2 => RX2 | 3 => RX3 | 4 => RX4 | 5 => RX5 | 6 => RX6 | 7 => RX7 | 8 => RX8 | 9 => RX9 | 10 => RX10 | _ => RX10
def cT : Nat → u_T := fun ci => match ci with
  | 0 => TX0 | 1 => TX1 | 2 => TX2 | 3 => TX3 | 4 => TX4 | 5 => TX5 | 6 => TX6 | 7 => TX7 | 8 => TX8 | 9 => TX9 | 10 => TX10 | _ => TX10
def cN : Nat → Nat := fun ci => match ci with
  | 0 => 8 | 1 => 4 | 2 => 2 | 3 => 3 | 4 => 4 | 5 => 12 | 6 => 3 | 7 => 9 | 8 => 2 | 9 => 10 | 10 => 6 | _ => 6
def cTy : Nat → Nat → FieldType := fun ci => match ci with
  | 0 => tyX0 | 1 => tyX1 | 2 => tyX2 | 3 => tyX3 | 4 => tyX4 | 5 => tyX5 | 6 => tyX6 | 7 => tyX7 | 8 => tyX8 | 9 => tyX9 | 10 => tyX10 | _ => tyX10
theorem cl_at {ci : Nat} (h : ci < 12) : vwC[ci]? = some (cR ci, cT ci, cN ci) := by
  match ci, h with
  | 0, _ => rfl | 1, _ => rfl | 2, _ => rfl | 3, _ => rfl | 4, _ => rfl | 5, _ => rfl | 6, _ => rfl | 7, _ => rfl | 8, _ => rfl | 9, _ => rfl | 10, _ => rfl | 11, _ => rfl
  | n + 12, h => exact absurd h (by omega)
theorem cty_ok {ci : Nat} (h : ci < 12) : ∀ k, k < cN ci → parseFieldDescriptor (cT ci k).2.2.1 = some (cTy ci k) := by
  match ci, h with
  | 0, _ => exact tyX0_ok | 1, _ => exact tyX1_ok | 2, _ => exact tyX2_ok | 3, _ => exact tyX3_ok | 4, _ => exact tyX4_ok | 5, _ => exact tyX5_ok | 6, _ => exact tyX6_ok | 7, _ => exact tyX7_ok | 8, _ => exact tyX8_ok | 9, _ => exact tyX9_ok | 10, _ => exact tyX10_ok | 11, _ => exact tyX10_ok
  | n + 12, h => exact absurd h (by omega)
theorem cnm_ok {ci : Nat} (h : ci < 12) : ∀ a, a < cN ci → ∀ b, b < cN ci → a ≠ b → (cT ci a).2.1 ≠ (cT ci b).2.1 := by
  match ci, h with
  | 0, _ => exact nmX0 | 1, _ => exact nmX1 | 2, _ => exact nmX2 | 3, _ => exact nmX3 | 4, _ => exact nmX4 | 5, _ => exact nmX5 | 6, _ => exact nmX6 | 7, _ => exact nmX7 | 8, _ => exact nmX8 | 9, _ => exact nmX9 | 10, _ => exact nmX10 | 11, _ => exact nmX10
  | n + 12, h => exact absurd h (by omega)
theorem cws_0 : ∀ w ∈ u_ws RX0 TX0 8, w ∈ gtbl := by
  intro w hw
  have h1 : u_ws RX0 TX0 8 = [263, 265, 267, 269, 271, 273, 275, 277].filterMap (fun i => lw_tbl[i]?) := by decide +kernel
  have h2 : (u_ws RX0 TX0 8).all goodWord = true := by decide +kernel
  have hg := List.all_eq_true.mp h2 w hw
  rw [h1] at hw
  obtain ⟨i, -, hi⟩ := List.mem_filterMap.mp hw
  exact gin i hi hg
theorem cws_1 : ∀ w ∈ u_ws RX1 TX1 4, w ∈ gtbl := by
  intro w hw
  have h1 : u_ws RX1 TX1 4 = [181, 183, 185, 187].filterMap (fun i => lw_tbl[i]?) := by decide +kernel
  have h2 : (u_ws RX1 TX1 4).all goodWord = true := by decide +kernel
  have hg := List.all_eq_true.mp h2 w hw
  rw [h1] at hw
  obtain ⟨i, -, hi⟩ := List.mem_filterMap.mp hw
  exact gin i hi hg
theorem cws_2 : ∀ w ∈ u_ws RX2 TX2 2, w ∈ gtbl := by
  intro w hw
  have h1 : u_ws RX2 TX2 2 = [294, 296].filterMap (fun i => lw_tbl[i]?) := by decide +kernel
  have h2 : (u_ws RX2 TX2 2).all goodWord = true := by decide +kernel
  have hg := List.all_eq_true.mp h2 w hw
  rw [h1] at hw
  obtain ⟨i, -, hi⟩ := List.mem_filterMap.mp hw
  exact gin i hi hg
theorem cws_3 : ∀ w ∈ u_ws RX3 TX3 3, w ∈ gtbl := by
  intro w hw
  have h1 : u_ws RX3 TX3 3 = [246, 248, 250].filterMap (fun i => lw_tbl[i]?) := by decide +kernel
  have h2 : (u_ws RX3 TX3 3).all goodWord = true := by decide +kernel
  have hg := List.all_eq_true.mp h2 w hw
  rw [h1] at hw
  obtain ⟨i, -, hi⟩ := List.mem_filterMap.mp hw
  exact gin i hi hg
theorem cws_4 : ∀ w ∈ u_ws RX4 TX4 4, w ∈ gtbl := by
  intro w hw
  have h1 : u_ws RX4 TX4 4 = [80, 82, 84, 86].filterMap (fun i => lw_tbl[i]?) := by decide +kernel
  have h2 : (u_ws RX4 TX4 4).all goodWord = true := by decide +kernel
  have hg := List.all_eq_true.mp h2 w hw
  rw [h1] at hw
  obtain ⟨i, -, hi⟩ := List.mem_filterMap.mp hw
  exact gin i hi hg
theorem cws_5 : ∀ w ∈ u_ws RX5 TX5 12, w ∈ gtbl := by
  intro w hw
  have h1 : u_ws RX5 TX5 12 = [130, 132, 134, 136, 138, 140, 142, 144, 146, 148, 150, 152].filterMap (fun i => lw_tbl[i]?) := by decide +kernel
  have h2 : (u_ws RX5 TX5 12).all goodWord = true := by decide +kernel
  have hg := List.all_eq_true.mp h2 w hw
  rw [h1] at hw
  obtain ⟨i, -, hi⟩ := List.mem_filterMap.mp hw
  exact gin i hi hg
theorem cws_6 : ∀ w ∈ u_ws RX6 TX6 3, w ∈ gtbl := by
  intro w hw
  have h1 : u_ws RX6 TX6 3 = [162, 164, 166].filterMap (fun i => lw_tbl[i]?) := by decide +kernel
  have h2 : (u_ws RX6 TX6 3).all goodWord = true := by decide +kernel
  have hg := List.all_eq_true.mp h2 w hw
  rw [h1] at hw
  obtain ⟨i, -, hi⟩ := List.mem_filterMap.mp hw
  exact gin i hi hg
theorem cws_7 : ∀ w ∈ u_ws RX7 TX7 9, w ∈ gtbl := by
  intro w hw
  have h1 : u_ws RX7 TX7 9 = [213, 215, 217, 219, 221, 223, 225, 227, 229].filterMap (fun i => lw_tbl[i]?) := by decide +kernel
  have h2 : (u_ws RX7 TX7 9).all goodWord = true := by decide +kernel
  have hg := List.all_eq_true.mp h2 w hw
  rw [h1] at hw
  obtain ⟨i, -, hi⟩ := List.mem_filterMap.mp hw
  exact gin i hi hg
theorem cws_8 : ∀ w ∈ u_ws RX8 TX8 2, w ∈ gtbl := by
  intro w hw
  have h1 : u_ws RX8 TX8 2 = [93, 95].filterMap (fun i => lw_tbl[i]?) := by decide +kernel
  have h2 : (u_ws RX8 TX8 2).all goodWord = true := by decide +kernel
  have hg := List.all_eq_true.mp h2 w hw
  rw [h1] at hw
  obtain ⟨i, -, hi⟩ := List.mem_filterMap.mp hw
  exact gin i hi hg
theorem cws_9 : ∀ w ∈ u_ws RX9 TX9 10, w ∈ gtbl := by
  intro w hw
  have h1 : u_ws RX9 TX9 10 = [322, 324, 326, 328, 330, 332, 334, 336, 338, 340].filterMap (fun i => lw_tbl[i]?) := by decide +kernel
  have h2 : (u_ws RX9 TX9 10).all goodWord = true := by decide +kernel
  have hg := List.all_eq_true.mp h2 w hw
  rw [h1] at hw
  obtain ⟨i, -, hi⟩ := List.mem_filterMap.mp hw
  exact gin i hi hg
theorem cws_10 : ∀ w ∈ u_ws RX10 TX10 6, w ∈ gtbl := by
  intro w hw
  have h1 : u_ws RX10 TX10 6 = [350, 352, 354, 356, 358, 360].filterMap (fun i => lw_tbl[i]?) := by decide +kernel
  have h2 : (u_ws RX10 TX10 6).all goodWord = true := by decide +kernel
  have hg := List.all_eq_true.mp h2 w hw
  rw [h1] at hw
  obtain ⟨i, -, hi⟩ := List.mem_filterMap.mp hw
  exact gin i hi hg
theorem cws_11 : ∀ w ∈ u_ws RX10 TX10 6, w ∈ gtbl := by
  intro w hw
  have h1 : u_ws RX10 TX10 6 = [350, 352, 354, 356, 358, 360].filterMap (fun i => lw_tbl[i]?) := by decide +kernel
  have h2 : (u_ws RX10 TX10 6).all goodWord = true := by decide +kernel
  have hg := List.all_eq_true.mp h2 w hw
  rw [h1] at hw
  obtain ⟨i, -, hi⟩ := List.mem_filterMap.mp hw
  exact gin i hi hg
theorem cws_in {ci : Nat} (h : ci < 12) : ∀ w ∈ u_ws (cR ci) (cT ci) (cN ci), w ∈ gtbl := by
  match ci, h with
  | 0, _ => exact cws_0 | 1, _ => exact cws_1 | 2, _ => exact cws_2 | 3, _ => exact cws_3 | 4, _ => exact cws_4 | 5, _ => exact cws_5 | 6, _ => exact cws_6 | 7, _ => exact cws_7 | 8, _ => exact cws_8 | 9, _ => exact cws_9 | 10, _ => exact cws_10 | 11, _ => exact cws_11
  | n + 12, h => exact absurd h (by omega)
def isI (ty : FieldType) : Bool := match ty with
  | .object _ => false
  | .array _ => false
  | _ => true
def rv (n0 : Nat) (r : Option Nat) : Value := match r with
  | none => .null
  | some a => .ref (n0 + a)
/-- the script stands in the locals as a float -/
def sh (n0 sb : Nat) (v : Value) : Value := match v with
  | .ref a => .ref (n0 + a)
  | .float _ => .ref sb
  | v => v
def rr (r : Option Nat) : Value := match r with
  | none => .null
  | some a => .ref a
theorem sh_rr (n0 sb : Nat) (r : Option Nat) : sh n0 sb (rr r) = rv n0 r := by cases r <;> rfl
def fls (n0 ci : Nat) (i : Nat → Int32) (r : Nat → Option Nat) : List Value := (List.range (cN ci)).map fun k => if isI (cTy ci k) = true then .int (i k) else rv n0 (r k)
def cel (n0 : Nat) (kA : Nat → ClassId) (g : Geo) (I : MI) (R : MR) (a : Nat) : va_E :=
  if (g.2 a).1 < 12 then .inr ((g.2 a).1, fls n0 (g.2 a).1 (I a) (R a))
  else if (g.2 a).1 < 15 then .inl (kA (g.2 a).1, (g.2 a).2, .inl (I a))
  else .inl (kA (g.2 a).1, (g.2 a).2, .inr (.inr (.inr (.inr (fun j => (R a j).map (n0 + ·))))))
def wl (n0 : Nat) (kA : Nat → ClassId) (g : Geo) (I : MI) (R : MR) : va_W := (List.range g.1).map fun a => (n0 + a, cel n0 kA g I R a)
theorem wl_get {n0 : Nat} {kA : Nat → ClassId} {g : Geo} {I : MI} {R : MR} {a : Nat} (h : a < g.1) : (wl n0 kA g I R)[a]? = some (n0 + a, cel n0 kA g I R a) := by
  simp [wl, h]
theorem wl_D (n0 : Nat) (kA : Nat → ClassId) (g : Geo) (I : MI) (R : MR) : va_D (fun q => n0 ≤ q) (wl n0 kA g I R) := by
  have key : ∀ (i : Nat) (p : Nat × va_E), (wl n0 kA g I R)[i]? = some p → p.1 = n0 + i := by
    intro i p hp
    simp only [wl, List.getElem?_map] at hp
    by_cases hi : i < g.1
    · simp [hi] at hp
      rw [← hp]
    · simp [hi] at hp
  refine ⟨fun i j p q hp hq h => ?_, fun k q hq => ?_⟩
  · have h1 := key i p hp
    have h2 := key j q hq
    omega
  · show n0 ≤ q.1
    rw [key k q hq]
    omega
theorem wl_set {n0 : Nat} {kA : Nat → ClassId} {g : Geo} {I I' : MI} {R R' : MR} {a : Nat} {e : va_E} (he : cel n0 kA g I' R' a = e) (hn : ∀ b, b ≠ a → cel n0 kA g I' R' b = cel n0 kA g I R b) : (wl n0 kA g I R).set a (n0 + a, e) = wl n0 kA g I' R' := by
  refine List.ext_getElem? fun i => ?_
  rw [List.getElem?_set]
  by_cases hi : a = i
  · subst hi
    rw [if_pos rfl]
    by_cases hl : a < g.1
    · rw [if_pos (by simpa [wl] using hl), wl_get hl, he]
    · rw [if_neg (by simpa [wl] using hl)]
      simp [wl, hl]
  · rw [if_neg hi]
    simp only [wl, List.getElem?_map]
    by_cases hl : i < g.1
    · simp [hl, hn i (fun h => hi h.symm)]
    · simp [hl]
theorem cel_obj {n0 : Nat} {kA : Nat → ClassId} {g : Geo} {I : MI} {R : MR} {a ci : Nat} (h : (g.2 a).1 = ci) (hc : ci < 12) : cel n0 kA g I R a = .inr (ci, fls n0 ci (I a) (R a)) := by
  subst h
  simp [cel, hc]
theorem cel_ints {n0 : Nat} {kA : Nat → ClassId} {g : Geo} {I : MI} {R : MR} {a k n : Nat} (h : g.2 a = (k, n)) (h1 : 12 ≤ k) (h2 : k < 15) : cel n0 kA g I R a = .inl (kA k, n, .inl (I a)) := by
  simp [cel, h, Nat.not_lt.mpr h1, h2]
theorem cel_refs {n0 : Nat} {kA : Nat → ClassId} {g : Geo} {I : MI} {R : MR} {a k n : Nat} (h : g.2 a = (k, n)) (h1 : 15 ≤ k) : cel n0 kA g I R a = .inl (kA k, n, .inr (.inr (.inr (.inr (fun j => (R a j).map (n0 + ·)))))) := by
  have h2 : ¬ k < 12 := by omega
  simp [cel, h, Nat.not_lt.mpr h1, h2]
theorem fls_get {n0 ci : Nat} {i : Nat → Int32} {r : Nat → Option Nat} {k : Nat} (hk : k < cN ci) : (fls n0 ci i r)[k]? = some (if isI (cTy ci k) = true then .int (i k) else rv n0 (r k)) := by
  simp [fls, hk]
theorem fls_len {n0 ci : Nat} {i : Nat → Int32} {r : Nat → Option Nat} : (fls n0 ci i r).length = cN ci := by simp [fls]
theorem fls_setI {n0 ci : Nat} {i : Nat → Int32} {r : Nat → Option Nat} {k : Nat} {x : Int32} (ht : isI (cTy ci k) = true) : (fls n0 ci i r).set k (.int x) = fls n0 ci (fun j => if j = k then x else i j) r := by
  refine List.ext_getElem? fun j => ?_
  rw [List.getElem?_set]
  by_cases h : k = j
  · subst h
    by_cases hl : k < cN ci
    · rw [if_pos rfl, if_pos (by rw [fls_len]; exact hl), fls_get hl, if_pos ht, if_pos rfl]
    · rw [if_pos rfl, if_neg (by rw [fls_len]; exact hl)]
      simp [fls, hl]
  · rw [if_neg h]
    by_cases hl : j < cN ci
    · rw [fls_get hl, fls_get hl]
      simp [show ¬ j = k from fun q => h q.symm]
    · simp [fls, hl]
theorem fls_setR {n0 ci : Nat} {i : Nat → Int32} {r : Nat → Option Nat} {k : Nat} {x : Option Nat} (ht : isI (cTy ci k) = false) : (fls n0 ci i r).set k (rv n0 x) = fls n0 ci i (fun j => if j = k then x else r j) := by
  refine List.ext_getElem? fun j => ?_
  rw [List.getElem?_set]
  by_cases h : k = j
  · subst h
    by_cases hl : k < cN ci
    · rw [if_pos rfl, if_pos (by rw [fls_len]; exact hl), fls_get hl, if_neg (by rw [ht]; decide), if_pos rfl]
    · rw [if_pos rfl, if_neg (by rw [fls_len]; exact hl)]
      simp [fls, hl]
  · rw [if_neg h]
    by_cases hl : j < cN ci
    · rw [fls_get hl, fls_get hl]
      simp [show ¬ j = k from fun q => h q.symm]
    · simp [fls, hl]
/-! locals -/
def LH (n0 sb nL : Nat) (lsA : Array Slot) (ls : List (Option Value)) : Prop :=
  ls.length = nL ∧ lsA.size = nL ∧ lv_wf lsA ∧ ∀ (i : Nat) (v : Value), ls[i]? = some (some v) → v.category = 1 ∧ lsA[i]? = some (.val (sh n0 sb v))
theorem sh_cat {n0 sb : Nat} {v : Value} (h : v.category = 1) : (sh n0 sb v).category = 1 := by
  cases v <;> simp_all [sh, Value.category]
def lvl (n0 sb : Nat) (ls : List (Option Value)) : List (Nat × Value) := (List.range ls.length).filterMap fun i => match ls[i]? with
  | some (some v) => some (i, sh n0 sb v)
  | _ => none
theorem LH.has {n0 sb nL : Nat} {lsA : Array Slot} {ls : List (Option Value)} (h : LH n0 sb nL lsA ls) : lv_has lsA nL (lvl n0 sb ls) := by
  obtain ⟨h1, h2, h3, h4⟩ := h
  refine ⟨h2, h3, fun q hq => ?_⟩
  obtain ⟨i, hi, hs⟩ := List.mem_filterMap.mp hq
  cases hl : ls[i]? with
  | none => rw [hl] at hs; cases hs
  | some o =>
    rw [hl] at hs
    cases o with
    | none => cases hs
    | some v =>
      cases hs
      exact (h4 i v hl).2
theorem lvl_mem {n0 sb : Nat} {ls : List (Option Value)} {i : Nat} {v : Value} (h : ls[i]? = some (some v)) : (i, sh n0 sb v) ∈ lvl n0 sb ls := by
  refine List.mem_filterMap.mpr ⟨i, List.mem_range.mpr (List.getElem?_eq_some_iff.mp h).1, ?_⟩
  rw [h]
theorem LH.set {n0 sb nL i : Nat} {lsA lsB : Array Slot} {ls : List (Option Value)} {v : Value} (h : LH n0 sb nL lsA ls) (hv : v.category = 1) (hB : lv_has lsB nL ((i, sh n0 sb v) :: (lvl n0 sb ls).filter (fun q => !(q.1 == i) && !(q.1 + 1 == i && q.2.category == 2)))) : LH n0 sb nL lsB (ls.set i (some v)) := by
  obtain ⟨h1, h2, h3, h4⟩ := h
  obtain ⟨b1, b2, b3⟩ := hB
  refine ⟨by simpa using h1, b1, b2, fun j w hj => ?_⟩
  rw [List.getElem?_set] at hj
  by_cases hij : i = j
  · subst hij
    rw [if_pos rfl] at hj
    split at hj
    next => cases hj; exact ⟨hv, b3 _ List.mem_cons_self⟩
    next => cases hj
  · rw [if_neg hij] at hj
    have hc := (h4 j w hj).1
    refine ⟨hc, b3 (j, sh n0 sb w) (List.mem_cons_of_mem _ (List.mem_filter.mpr ⟨lvl_mem hj, ?_⟩))⟩
    have := sh_cat (n0 := n0) (sb := sb) hc
    simp [this, Ne.symm hij]
theorem lv_args_at {n0 sb : Nat} (as : List Value) (hc : ∀ v ∈ as, v.category = 1) (k : Nat) : ∀ (i : Nat) (v : Value), as[i]? = some v → (k + i, sh n0 sb v) ∈ lv_args k (as.map (sh n0 sb)) := by
  induction as generalizing k with
  | nil => intro i v h; simp at h
  | cons a t ih =>
    intro i v h
    have ha := sh_cat (n0 := n0) (sb := sb) (hc a List.mem_cons_self)
    show _ ∈ (k, sh n0 sb a) :: lv_args (if (sh n0 sb a).category = 2 then k + 2 else k + 1) (t.map (sh n0 sb))
    rw [if_neg (by omega)]
    cases i with
    | zero => simp at h; subst h; exact List.mem_cons_self
    | succ i =>
      have := ih (fun v hv => hc v (List.mem_cons_of_mem _ hv)) (k + 1) i v (by simpa using h)
      rw [show k + (i + 1) = k + 1 + i by omega]
      exact List.mem_cons_of_mem _ this
theorem lg_sl_len {n0 sb : Nat} (as : List Value) (hc : ∀ v ∈ as, v.category = 1) : (lg_sl (as.map (sh n0 sb))).length = as.length := by
  induction as with
  | nil => rfl
  | cons a t ih =>
    have ha := sh_cat (n0 := n0) (sb := sb) (hc a List.mem_cons_self)
    have := ih (fun v hv => hc v (List.mem_cons_of_mem _ hv))
    simp only [lg_sl, List.map_cons, List.flatMap_cons, List.length_append] at this ⊢
    rw [if_neg (by omega), this]
    simp
    omega
def ent (as : List Value) (nL : Nat) : List (Option Value) := as.map some ++ List.replicate (nL - as.length) none
theorem LH.entry {n0 sb nL : Nat} (as : List Value) (hc : ∀ v ∈ as, v.category = 1) (hn : as.length ≤ nL) : LH n0 sb nL ((lg_sl (as.map (sh n0 sb)) ++ List.replicate (nL - (lg_sl (as.map (sh n0 sb))).length) Slot.unset).toArray) (ent as nL) := by
  have hlen := lg_sl_len (n0 := n0) (sb := sb) as hc
  obtain ⟨e1, e2, e3⟩ := lv_entry (as.map (sh n0 sb)) (n := nL) (by rw [hlen]; exact hn)
  refine ⟨by simp [ent]; omega, e1, e2, fun i v hv => ?_⟩
  have hi : as[i]? = some v := by
    simp only [ent] at hv
    by_cases hl : i < as.length
    · rw [List.getElem?_append_left (by simpa using hl), List.getElem?_map] at hv
      cases h : as[i]? with
      | none => rw [h] at hv; cases hv
      | some w => rw [h] at hv; cases hv; rfl
    · rw [List.getElem?_append_right (by simpa using hl), List.getElem?_replicate] at hv
      split at hv <;> cases hv
  refine ⟨hc v (List.mem_of_getElem? hi), ?_⟩
  have := e3 _ (lv_args_at (n0 := n0) (sb := sb) as hc 0 i v hi)
  simpa using this
