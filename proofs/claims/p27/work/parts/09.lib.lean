/-! LIBRARY: numbers, indexes, the layout of the cells -/
theorem Sp.on {Y : MT} {d mc ms : Nat} {as : List Value} {g : Geo} {I : MI} {R : MR} {Φ : Po} (hp : plainName Y.1.cls = true) (hc : as.all (fun v => v.category == 1) = true) (hn : Nat.ble as.length Y.2.2.1 = true) (h : ∀ J, OkM Y d mc ms g.1 Φ J → J 0 0 0 (ent as Y.2.2.1) [] g I R) : Sp d mc ms Y as g I R Φ :=
  Sp.of hp (fun v hv => by simpa using List.all_eq_true.mp hc v hv) (Nat.le_of_ble_eq_true hn) h
def Rt (r0 : Option Value) (g : Geo) (I2 : MI) (R2 : MR) : Po := fun r g' I' R' => r = r0 ∧ g = g' ∧ I2 = I' ∧ R2 = R'
theorem i_ne {x k : Int32} (h : ¬ x = k) : x.toInt ≠ k.toInt := fun q => h (Int32.toInt_inj.mp q)
theorem tsw_out3 {x : Int32} (h0 : ¬ x = 0) (h1 : ¬ x = 1) (h2 : ¬ x = 2) : x.toInt < 0 ∨ 2 < x.toInt := by
  have e0 : x.toInt ≠ 0 := i_ne h0
  have e1 : x.toInt ≠ 1 := i_ne h1
  have e2 : x.toInt ≠ 2 := i_ne h2
  omega
theorem tsw_out4 {x : Int32} (h0 : ¬ x = 0) (h1 : ¬ x = 1) (h2 : ¬ x = 2) (h3 : ¬ x = 3) : x.toInt < 0 ∨ 3 < x.toInt := by
  have e0 : x.toInt ≠ 0 := i_ne h0
  have e1 : x.toInt ≠ 1 := i_ne h1
  have e2 : x.toInt ≠ 2 := i_ne h2
  have e3 : x.toInt ≠ 3 := i_ne h3
  omega
theorem tsw_out5 {x : Int32} (h0 : ¬ x = 0) (h1 : ¬ x = 1) (h2 : ¬ x = 2) (h3 : ¬ x = 3) (h4 : ¬ x = 4) : x.toInt < 0 ∨ 4 < x.toInt := by
  have e0 : x.toInt ≠ 0 := i_ne h0
  have e1 : x.toInt ≠ 1 := i_ne h1
  have e2 : x.toInt ≠ 2 := i_ne h2
  have e3 : x.toInt ≠ 3 := i_ne h3
  have e4 : x.toInt ≠ 4 := i_ne h4
  omega
theorem tsw_out10 {x : Int32} (h0 : ¬ x = 0) (h1 : ¬ x = 1) (h2 : ¬ x = 2) (h3 : ¬ x = 3) (h4 : ¬ x = 4) (h5 : ¬ x = 5) (h6 : ¬ x = 6) (h7 : ¬ x = 7) (h8 : ¬ x = 8) (h9 : ¬ x = 9) : x.toInt < 0 ∨ 9 < x.toInt := by
  have e0 : x.toInt ≠ 0 := i_ne h0
  have e1 : x.toInt ≠ 1 := i_ne h1
  have e2 : x.toInt ≠ 2 := i_ne h2
  have e3 : x.toInt ≠ 3 := i_ne h3
  have e4 : x.toInt ≠ 4 := i_ne h4
  have e5 : x.toInt ≠ 5 := i_ne h5
  have e6 : x.toInt ≠ 6 := i_ne h6
  have e7 : x.toInt ≠ 7 := i_ne h7
  have e8 : x.toInt ≠ 8 := i_ne h8
  have e9 : x.toInt ≠ 9 := i_ne h9
  omega
theorem tsw_out12 {x : Int32} (h0 : ¬ x = 0) (h1 : ¬ x = 1) (h2 : ¬ x = 2) (h3 : ¬ x = 3) (h4 : ¬ x = 4) (h5 : ¬ x = 5) (h6 : ¬ x = 6) (h7 : ¬ x = 7) (h8 : ¬ x = 8) (h9 : ¬ x = 9) (h10 : ¬ x = 10) (h11 : ¬ x = 11) : x.toInt < 0 ∨ 11 < x.toInt := by
  have e0 := tsw_out10 h0 h1 h2 h3 h4 h5 h6 h7 h8 h9
  have e10 : x.toInt ≠ 10 := i_ne h10
  have e11 : x.toInt ≠ 11 := i_ne h11
  omega
theorem lsw_out2 {x k0 k1 : Int32} {a0 a1 o0 o1 d : Int} (e0 : k0.toInt = a0) (h0 : ¬ x = k0) (e1 : k1.toInt = a1) (h1 : ¬ x = k1) : Op.lookupswitch.offset [(a0, o0), (a1, o1)] d x.toInt = d := by
  rw [lv_osw h0 e0, lv_osw h1 e1]; rfl
theorem lsw_out3 {x k0 k1 k2 : Int32} {a0 a1 a2 o0 o1 o2 d : Int} (e0 : k0.toInt = a0) (h0 : ¬ x = k0) (e1 : k1.toInt = a1) (h1 : ¬ x = k1) (e2 : k2.toInt = a2) (h2 : ¬ x = k2) : Op.lookupswitch.offset [(a0, o0), (a1, o1), (a2, o2)] d x.toInt = d := by
  rw [lv_osw h0 e0, lv_osw h1 e1, lv_osw h2 e2]; rfl
theorem ix_nI {j n : Nat} (h : j < n) (hn : n ≤ 2000000) : ix (nI j) j n := ⟨nI_toInt (by omega), h⟩
theorem nI_mul (a b : Nat) : nI a * nI b = nI (a * b) := (Int32.ofNat_mul a b).symm
theorem nI_sub {a b : Nat} (h : b ≤ a) : nI a - nI b = nI (a - b) := by
  have e : nI a = nI (a - b) + nI b := by rw [nI_add]; congr 1; omega
  rw [e, Int32.add_sub_cancel]
theorem up2_app {α : Type} (f : Nat → Nat → α) (a k : Nat) (v : α) (b j : Nat) : up2 f a k v b j = if b = a ∧ j = k then v else f b j := rfl
/-! the layout: a state's forty-two cells, and all three hundred and eighteen (317: the law's own nine ints) -/
def stK (o : Nat) : Nat × Nat := if o = 0 then (7, 0) else if o = 1 then (8, 0) else if o = 2 then (15, 20) else if o < 23 then (4, 0) else if o = 23 then (6, 0) else if o = 24 then (16, 12) else if o = 25 then (13, 12) else if o < 38 then (5, 0) else if o = 38 then (1, 0) else (13, 60)
def K0 (a : Nat) : Nat × Nat :=
  if a = 0 then (10, 0) else if a = 1 then (0, 0) else if a < 44 then stK (a - 2) else if a = 44 then (14, 12) else if a < 61 then (if a % 2 = 1 then (3, 0) else (4, 0))
  else if a < 103 then stK (a - 61) else if a < 145 then stK (a - 103) else if a = 145 then (2, 0) else if a = 146 then (17, 4) else if a < 315 then stK ((a - 147) % 42) else if a = 315 then (9, 0) else if a = 316 then (12, 80)
  else if a = 317 then (13, 9) else (0, 0)
def g0 : Geo := (318, K0)
def isB (b : Nat) : Prop := b = 2 ∨ b = 61 ∨ b = 103 ∨ b = 147 ∨ b = 189 ∨ b = 231 ∨ b = 273
theorem ka0 {a k n : Nat} (h : decide (a < 318 ∧ K0 a = (k, n)) = true) : KA g0 a k n := (of_decide_eq_true h : a < 318 ∧ K0 a = (k, n))
theorem ka_st {b o : Nat} (hB : isB b) (ho : o < 42) : KA g0 (b + o) (stK o).1 (stK o).2 := by
  have key : ∀ o, o < 42 → (2 + o < 318 ∧ K0 (2 + o) = stK o) ∧ (61 + o < 318 ∧ K0 (61 + o) = stK o) ∧ (103 + o < 318 ∧ K0 (103 + o) = stK o) ∧ (147 + o < 318 ∧ K0 (147 + o) = stK o) ∧ (189 + o < 318 ∧ K0 (189 + o) = stK o) ∧ (231 + o < 318 ∧ K0 (231 + o) = stK o) ∧ (273 + o < 318 ∧ K0 (273 + o) = stK o) := by decide +kernel
  obtain ⟨h1, h2, h3, h4, h5, h6, h7⟩ := key o ho
  rcases hB with rfl | rfl | rfl | rfl | rfl | rfl | rfl <;> assumption
theorem ka_sta {b : Nat} (hB : isB b) : KA g0 b 7 0 := ka_st (o := 0) hB (by decide)
theorem ka_tbl {b : Nat} (hB : isB b) : KA g0 (b + 1) 8 0 := ka_st (o := 1) hB (by decide)
theorem ka_rws {b : Nat} (hB : isB b) : KA g0 (b + 2) 15 20 := ka_st (o := 2) hB (by decide)
theorem ka_rls {b : Nat} (hB : isB b) : KA g0 (b + 23) 6 0 := ka_st (o := 23) hB (by decide)
theorem ka_rla {b : Nat} (hB : isB b) : KA g0 (b + 24) 16 12 := ka_st (o := 24) hB (by decide)
theorem ka_num {b : Nat} (hB : isB b) : KA g0 (b + 25) 13 12 := ka_st (o := 25) hB (by decide)
theorem ka_log {b : Nat} (hB : isB b) : KA g0 (b + 38) 1 0 := ka_st (o := 38) hB (by decide)
theorem ka_l0 {b : Nat} (hB : isB b) : KA g0 (b + 39) 13 60 := ka_st (o := 39) hB (by decide)
theorem ka_l1 {b : Nat} (hB : isB b) : KA g0 (b + 40) 13 60 := ka_st (o := 40) hB (by decide)
theorem ka_l2 {b : Nat} (hB : isB b) : KA g0 (b + 41) 13 60 := ka_st (o := 41) hB (by decide)
theorem ka_row {b a : Nat} (hB : isB b) (h1 : b + 3 ≤ a) (h2 : a < b + 23) : KA g0 a 4 0 := by
  have h := ka_st (o := a - b) hB (by omega)
  rw [show b + (a - b) = a by omega] at h
  have e : stK (a - b) = (4, 0) := by
    have h3 : ¬ a - b = 0 := by omega
    have h4 : ¬ a - b = 1 := by omega
    have h5 : ¬ a - b = 2 := by omega
    have h6 : a - b < 23 := by omega
    simp only [stK, if_neg h3, if_neg h4, if_neg h5, if_pos h6]
  rw [e] at h
  exact h
theorem ka_rul {b a : Nat} (hB : isB b) (h1 : b + 26 ≤ a) (h2 : a < b + 38) : KA g0 a 5 0 := by
  have h := ka_st (o := a - b) hB (by omega)
  rw [show b + (a - b) = a by omega] at h
  have e : stK (a - b) = (5, 0) := by
    have key : ∀ o, 26 ≤ o → o < 38 → stK o = (5, 0) := by
      intro o h1 h2
      have : ∀ o, o < 38 → 26 ≤ o → stK o = (5, 0) := by decide +kernel
      exact this o h2 h1
    exact key _ (by omega) (by omega)
  rw [e] at h
  exact h
/-- the references that never change -/
def SR (R : MR) (b : Nat) : Prop := R b 0 = some (b + 1) ∧ R b 1 = some (b + 23) ∧ R b 2 = some (b + 38) ∧ R (b + 1) 0 = some (b + 2) ∧ R (b + 23) 0 = some (b + 24) ∧ R (b + 23) 1 = some (b + 25) ∧ R (b + 38) 0 = some (b + 39) ∧ R (b + 38) 1 = some (b + 40) ∧ R (b + 38) 2 = some (b + 41)
def FR (R : MR) : Prop := (∀ b, isB b → SR R b) ∧ (R 0 0 = some 1 ∧ R 0 1 = some 61 ∧ R 0 2 = some 103 ∧ R 0 4 = some 145 ∧ R 0 5 = some 315) ∧ (R 1 0 = some 2 ∧ R 1 1 = some 59 ∧ R 1 2 = some 44) ∧ (R 145 0 = some 146 ∧ R 315 0 = some 316) ∧ (∀ d, 1 ≤ d → d ≤ 8 → R (61 - 2 * d) 2 = some (62 - 2 * d) ∧ R (61 - 2 * d) 1 = if d = 8 then none else some (59 - 2 * d)) ∧ True
def raA (a : Nat) : Prop := 15 ≤ (K0 a).1
theorem raA_2 {b : Nat} (hB : isB b) : raA (b + 2) := by
  rcases hB with rfl | rfl | rfl | rfl | rfl | rfl | rfl <;> (unfold raA; decide)
theorem raA_24 {b : Nat} (hB : isB b) : raA (b + 24) := by
  rcases hB with rfl | rfl | rfl | rfl | rfl | rfl | rfl <;> (unfold raA; decide)
theorem FR.upd {R : MR} (h : FR R) {a k : Nat} {v : Option Nat} (ha : raA a) : FR (up2 R a k v) := by
  have ne : ∀ c, ¬ raA c → up2 R a k v c = R c := fun c hc => up2_other R a k v (fun e => hc (e ▸ ha))
  obtain ⟨h1, ⟨h2, h3, h4, h5, h6⟩, ⟨h7, h8, h9⟩, ⟨h10, h11⟩, h12, -⟩ := h
  have n0 : ¬ raA 0 := by unfold raA; decide
  have n1 : ¬ raA 1 := by unfold raA; decide
  have n145 : ¬ raA 145 := by unfold raA; decide
  have n315 : ¬ raA 315 := by unfold raA; decide
  refine ⟨fun b hB => ?_, ?_, ?_, ?_, fun d hd1 hd8 => ?_, ?_⟩
  · have m0 : ¬ raA b := by rcases hB with rfl | rfl | rfl | rfl | rfl | rfl | rfl <;> (unfold raA; decide)
    have m1 : ¬ raA (b + 1) := by rcases hB with rfl | rfl | rfl | rfl | rfl | rfl | rfl <;> (unfold raA; decide)
    have m23 : ¬ raA (b + 23) := by rcases hB with rfl | rfl | rfl | rfl | rfl | rfl | rfl <;> (unfold raA; decide)
    have m38 : ¬ raA (b + 38) := by rcases hB with rfl | rfl | rfl | rfl | rfl | rfl | rfl <;> (unfold raA; decide)
    have q := h1 b hB
    unfold SR at q ⊢
    rw [ne _ m0, ne _ m1, ne _ m23, ne _ m38]
    exact q
  · rw [ne _ n0]; exact ⟨h2, h3, h4, h5, h6⟩
  · rw [ne _ n1]; exact ⟨h7, h8, h9⟩
  · rw [ne _ n145, ne _ n315]; exact ⟨h10, h11⟩
  · have m : ¬ raA (61 - 2 * d) := by
      have key : ∀ d, d ≤ 8 → 1 ≤ d → ¬ 15 ≤ (K0 (61 - 2 * d)).1 := by decide +kernel
      exact key d hd8 hd1
    rw [ne _ m]
    exact h12 d hd1 hd8
  · trivial
