/-! THE ENGINE'S LEAVES -/
def RulQ (I : MI) (R : MR) (b : Nat) (Q : Nat → Nat) (U : Nat → Nat → Int32) (m : Nat) : Prop := US I R b Q m ∧ (∀ j, j < m → ∀ f, f < 12 → I (Q j) f = U j f) ∧ ∀ j, j < m → I (b + 25) j = nI (osrt (rkF U) m j)
def EX (Q : Nat → Nat) (I : MI) (R : MR) (X : XS) : Prop := SetC I 2 (aS (xA X)) ∧ TabC I R 2 (aK (xA X)) (aN (xA X)) ∧ RulQ I R 2 Q (aU (xA X)) (aM (xA X)) ∧ LogC I 2 (aC (xA X)) (aR (xA X)) ∧ (I 1 3 = nI (xO X) ∧ I 1 4 = xF X ∧ I 1 5 = xD X ∧ I 1 6 = xR X ∧ I 1 7 = xW X)
theorem RulQ.agr {I I' : MI} {R R' : MR} {b m : Nat} {Q : Nat → Nat} {U : Nat → Nat → Int32} (h : RulQ I R b Q U m) (h1 : Agr I I' (b + 23) (b + 38)) (h2 : Agr R R' (b + 23) (b + 38)) : RulQ I' R' b Q U m := by
  obtain ⟨⟨e1, e2, e3⟩, e4, e5⟩ := h
  refine ⟨⟨by rw [h1 _ (by omega) (by omega)]; exact e1, e2, fun j hj => by rw [h2 _ (by omega) (by omega)]; exact e3 j hj⟩, fun j hj f hf => ?_, fun j hj => by rw [h1 _ (by omega) (by omega)]; exact e5 j hj⟩
  have := e3 j (by omega)
  rw [h1 _ (by omega) (by omega)]
  exact e4 j hj f hf
theorem EX.agr {I I' : MI} {R R' : MR} {Q : Nat → Nat} {X : XS} (h : EX Q I R X) (h1 : Agr I I' 1 44) (h2 : Agr R R' 2 44) : EX Q I' R' X :=
  ⟨h.1.agr (fun a q1 q2 => h1 a (by omega) (by omega)), h.2.1.agr (fun a q1 q2 => h1 a (by omega) (by omega)) (fun a q1 q2 => h2 a (by omega) (by omega)), h.2.2.1.agr (fun a q1 q2 => h1 a (by omega) (by omega)) (fun a q1 q2 => h2 a (by omega) (by omega)), h.2.2.2.1.agr (fun a q1 q2 => h1 a (by omega) (by omega)), by rw [h1 1 (by omega) (by omega)]; exact h.2.2.2.2⟩
theorem isR_rr (x : Option Nat) : isR (rr x) = true := by cases x <;> rfl
theorem ka1 : KA g0 1 0 0 := ka0 (by decide)
theorem ka44 : KA g0 44 14 12 := ka0 (by decide)
theorem kaL {d : Nat} (h1 : 1 ≤ d) (h8 : d ≤ 8) : KA g0 (61 - 2 * d) 3 0 := by
  have key : ∀ d, d ≤ 8 → 1 ≤ d → 61 - 2 * d < 318 ∧ K0 (61 - 2 * d) = (3, 0) := by decide +kernel
  exact key d h8 h1
theorem kaI {d : Nat} (h1 : 1 ≤ d) (h8 : d ≤ 8) : KA g0 (62 - 2 * d) 4 0 := by
  have key : ∀ d, d ≤ 8 → 1 ≤ d → 62 - 2 * d < 318 ∧ K0 (62 - 2 * d) = (4, 0) := by decide +kernel
  exact key d h8 h1
theorem isB2 : isB 2 := Or.inl rfl
theorem rowF_congr {i j : Nat → Int32} (h : ∀ f, f < 4 → i f = j f) (f : Int32) : rowF i f = rowF j f := by
  unfold rowF
  rw [h 0 (by decide), h 1 (by decide), h 2 (by decide), h 3 (by decide)]
def PrPo (I : MI) (R : MR) (x : Nat) (o : Option (Nat → Int32)) : Po := fun r g' I' R' => g0 = g' ∧ R = R' ∧ (∀ a, a ≠ x → I' a = I a) ∧ ((o = none ∧ r = some (.int 0)) ∨ ∃ img2, o = some img2 ∧ r = some (.int 1) ∧ ∀ f, f < 4 → I' x f = img2 f)
def insF (A : AS) (k z o t : Int32) : Int32 := if inR k 0 99 = 0 then -1002 else if inR z (-999) 999 = 0 then -1002 else if inR o (-999) 999 = 0 then -1002 else if inR t (-999) 999 = 0 then -1002 else if (fK A k).isSome then -1004 else if aN A < 20 then 0 else -1003
def updF (A : AS) (k f v : Int32) : Int32 := match fK A k with
  | none => -1001
  | some i => if inR f 0 2 = 0 then -1002 else if inR v (-999) 999 = 0 then -1002 else if rowF (aK A i) f = v then -1006 else 0
def dltF (A : AS) (k : Int32) : Int32 := if (fK A k).isSome then 0 else -1001
theorem some_iff {o : Option Nat} : o.isSome = true ↔ ∃ i, o = some i := by cases o <;> simp
theorem rwC_at {I : MI} {a : Nat} {f x : Int32} {img : Nat → Int32} (h : ∀ t, t < 4 → I a t = img t) : ∀ t, t < 4 → rwC I a f x a t = chgF img f x t := by
  intro t ht
  unfold rwC chgF
  by_cases h0 : f = 0
  · simp only [if_pos h0, up2_app]
    by_cases e : t = 1
    · rw [if_pos ⟨trivial, e⟩, if_pos e]
    · rw [if_neg (fun z => e z.2), if_neg e]; exact h t ht
  · by_cases h1 : f = 1
    · simp only [if_neg h0, if_pos h1, up2_app]
      by_cases e : t = 2
      · rw [if_pos ⟨trivial, e⟩, if_pos e]
      · rw [if_neg (fun z => e z.2), if_neg e]; exact h t ht
    · simp only [if_neg h0, if_neg h1, up2_app]
      by_cases e : t = 3
      · rw [if_pos ⟨trivial, e⟩, if_pos e]
      · rw [if_neg (fun z => e z.2), if_neg e]; exact h t ht
theorem rwC_other {I : MI} {a b : Nat} {f x : Int32} (h : b ≠ a) : rwC I a f x b = I b := by
  unfold rwC
  split
  · exact up2_other _ _ _ _ h
  · split <;> exact up2_other _ _ _ _ h
set_option maxRecDepth 100000 in
set_option maxHeartbeats 400000 in
theorem S_take20 (b n x : Nat) (P : Nat → Nat) (I : MI) (R : MR) (hB : isB b) (hFR : FR R) (hT : TS I R b P n) (hge : ¬ n < 20) : Sp 1 0 0 mX8_take [.ref (b + 1), .ref x] g0 I R (Rt none g0 I R) := by
  obtain ⟨hc, hn, hP⟩ := hT
  have hka := ka_tbl hB
  have hkw := ka_rws hB
  have hr0 : R (b + 1) 0 = some (b + 2) := (hFR.1 b hB).2.2.2.1
  refine Sp.on (by decide +kernel) rfl rfl (fun J hM => ?_)
  have hJ := hM.ok
  refine q_aload_n hJ dX8_take_0 (q := 1) rfl rfl (by first | rfl | exact isR_rr _) ?_
  refine q_getI hJ dX8_take_1 (q := 4) rfl fl_X8_18 rfl (by assumption) hc ?_
  refine q_if_lt hJ (tgt := 19) dX8_take_4 (q := 7) rfl (by decide) (fun c0 => absurd c0 (nI_pos (by omega))) (fun _ => ?_)
  refine q_aload_n hJ dX8_take_7 (q := 8) rfl rfl (by first | rfl | exact isR_rr _) ?_
  refine q_getI hJ dX8_take_8 (q := 11) rfl fl_X8_18 rfl (by assumption) hc ?_
  refine q_aload_n hJ dX8_take_11 (q := 12) rfl rfl (by first | rfl | exact isR_rr _) ?_
  refine q_getR hJ dX8_take_12 (q := 15) rfl fl_X8_11 rfl (by assumption) (by assumption) rfl ?_
  refine q_alen hJ (v := 20) dX8_take_15 (q := 16) rfl (by assumption) (by decide) (by decide) (by decide) ?_
  refine q_icmp_lt hJ (tgt := 20) dX8_take_16 (q := 19) rfl (by decide) (fun c1 => absurd (by rw [nI_20] at c1; exact (nI_ltI (by omega) (by decide)).mp c1) hge) (fun _ => ?_)
  refine q_vret hM dX8_take_19 rfl ?_
  exact ⟨rfl, rfl, rfl, rfl⟩

set_option maxRecDepth 100000 in
set_option maxHeartbeats 400000 in
theorem S_dropN (b n : Nat) (P : Nat → Nat) (key : Int32) (I : MI) (R : MR) (hB : isB b) (hFR : FR R) (hT : TS I R b P n) (hno : ∀ j, j < n → ¬ I (P j) 0 = key) : Sp 0 0 0 mX8_drop [.ref (b + 1), .int key] g0 I R (Rt none g0 I R) := by
  obtain ⟨hc, hn, hP⟩ := hT
  have hka := ka_tbl hB
  have hkw := ka_rws hB
  have hr0 : R (b + 1) 0 = some (b + 2) := (hFR.1 b hB).2.2.2.1
  refine Sp.on (by decide +kernel) rfl rfl (fun J hM => ?_)
  have hJ := hM.ok
  have loop : ∀ (k j : Nat) (w : Option Value), j + k = n → J 0 0 4 [some (.ref (b + 1)), some (.int key), some .null, some (.int (nI j)), w] [] g0 I R := by
    intro k
    induction k with
    | zero =>
      intro j w hj
      refine q_iload_n hJ dX8_drop_4 (q := 5) rfl rfl ?_
      refine q_aload_n hJ dX8_drop_5 (q := 6) rfl rfl (by first | rfl | exact isR_rr _) ?_
      refine q_getI hJ dX8_drop_6 (q := 9) rfl fl_X8_18 rfl (by assumption) hc ?_
      refine q_icmp_ge hJ (tgt := 99) dX8_drop_9 (q := 12) rfl (by decide) (fun _ => ?_) (fun c1 => absurd ((nI_leI (by omega) (by omega)).mpr (by omega)) c1)
      refine q_aload_n hJ dX8_drop_99 (q := 100) rfl rfl (by first | rfl | exact isR_rr _) ?_
      refine q_nullY hJ (a := 0) (tgt := 113) dX8_drop_100 (by decide) ?_
      refine q_vret hM dX8_drop_113 rfl ?_
      exact ⟨rfl, rfl, rfl, rfl⟩
    | succ k ih =>
      intro j w hj
      have hrow := hP j (by omega)
      have hkr := ka_row hB hrow.2.1 hrow.2.2.1
      refine q_iload_n hJ dX8_drop_4 (q := 5) rfl rfl ?_
      refine q_aload_n hJ dX8_drop_5 (q := 6) rfl rfl (by first | rfl | exact isR_rr _) ?_
      refine q_getI hJ dX8_drop_6 (q := 9) rfl fl_X8_18 rfl (by assumption) hc ?_
      refine q_icmp_ge hJ (tgt := 99) dX8_drop_9 (q := 12) rfl (by decide) (fun c1 => absurd ((nI_leI (by omega) (by omega)).mp c1) (by omega)) (fun _ => ?_)
      refine q_iload_n hJ dX8_drop_12 (q := 13) rfl rfl ?_
      refine q_aload_n hJ dX8_drop_13 (q := 14) rfl rfl (by first | rfl | exact isR_rr _) ?_
      refine q_getR hJ dX8_drop_14 (q := 17) rfl fl_X8_11 rfl (by assumption) hr0 rfl ?_
      refine q_alen hJ (v := 20) dX8_drop_17 (q := 18) rfl (by assumption) (by decide) (by decide) (by decide) ?_
      refine q_icmp_ge hJ (tgt := 99) dX8_drop_18 (q := 21) rfl (by decide) (fun c2 => absurd (by rw [nI_20] at c2; exact (nI_leI (by decide) (by omega)).mp c2) (by omega)) (fun _ => ?_)
      refine q_aload_n hJ dX8_drop_21 (q := 22) rfl rfl (by first | rfl | exact isR_rr _) ?_
      refine q_getR hJ dX8_drop_22 (q := 25) rfl fl_X8_11 rfl (by assumption) hr0 rfl ?_
      refine q_iload_n hJ dX8_drop_25 (q := 26) rfl rfl ?_
      refine q_aald hJ dX8_drop_26 (q := 27) rfl (by assumption) (by decide) (ix_nI (by omega) (by decide)) hrow.1 rfl ?_
      refine q_astore hJ dX8_drop_27 (q := 29) rfl (by decide) (by first | rfl | exact isR_rr _) ?_
      refine q_aload_n hJ dX8_drop_29 (q := 30) rfl rfl (by first | rfl | exact isR_rr _) ?_
      refine q_nonnullY hJ (a := 0) dX8_drop_30 (q := 33) rfl ?_
      refine q_aload hJ dX8_drop_33 (q := 35) rfl rfl (by first | rfl | exact isR_rr _) ?_
      refine q_nullN hJ dX8_drop_35 (q := 38) rfl ?_
      refine q_aload hJ dX8_drop_38 (q := 40) rfl rfl (by first | rfl | exact isR_rr _) ?_
      refine q_getI hJ dX8_drop_40 (q := 43) rfl fl_X8_22 rfl (by assumption) rfl ?_
      refine q_iload_n hJ dX8_drop_43 (q := 44) rfl rfl ?_
      refine q_icmp_ne hJ (tgt := 50) dX8_drop_44 (q := 47) rfl (by decide) (fun _ => ?_) (fun c3 => absurd c3 (hno j (by omega)))
      refine q_aload_n hJ dX8_drop_50 (q := 51) rfl rfl (by first | rfl | exact isR_rr _) ?_
      refine q_nullY hJ (a := 0) (tgt := 93) dX8_drop_51 (by decide) ?_
      refine q_iinc hJ dX8_drop_93 (q := 96) rfl (by decide) rfl (nI_1 j) ?_
      refine q_goto hJ (tgt := 4) dX8_drop_96 (by decide) ?_
      exact ih (j + 1) _ (by omega)
  refine q_null hJ dX8_drop_0 (q := 1) rfl ?_
  refine q_astore_n hJ dX8_drop_1 (q := 2) rfl (by decide) (by first | rfl | exact isR_rr _) ?_
  refine q_iconst hJ (v := 0) dX8_drop_2 (q := 3) rfl (by decide) ?_
  refine q_istore_n hJ dX8_drop_3 (q := 4) rfl (by decide) ?_
  exact loop n 0 none (by omega)

set_option maxRecDepth 100000 in
set_option maxHeartbeats 400000 in
theorem S_canTake (A : AS) (key : Int32) (I : MI) (R : MR) (hFR : FR R) (hT : TabC I R 2 (aK A) (aN A)) : Sp 1 0 0 mX0_canTake [.ref 1, .int key] g0 I R (Rt (some (.int (cantA A key))) g0 I R) := by
  obtain ⟨P, hS, hK⟩ := hT
  have hP := hS.2.2
  have hn := hS.2.1
  have hk1 := ka1
  have hk2 := ka_sta isB2
  have hk3 := ka_tbl isB2
  have he0 := hFR.2.2.1.1
  have he1 : R 2 0 = some 3 := (hFR.1 2 isB2).1
  refine Sp.on (by decide +kernel) rfl rfl (fun J hM => ?_)
  have hJ := hM.ok
  refine q_iload_n hJ dX0_canTake_0 (q := 1) rfl rfl ?_
  refine q_iconst hJ (v := 0) dX0_canTake_1 (q := 2) rfl (by decide) ?_
  refine q_bipush hJ (v := 99) dX0_canTake_2 (q := 4) rfl (by decide) ?_
  refine q_callSN hJ dX0_canTake_4 (q := 7) rfl (S_within key 0 99 I R) imX10_within (by decide +kernel) rfl rfl rfl (Nat.le_of_ble_eq_true rfl) (by decide) (by decide) rfl rfl (fun rv gv Iv Rv hv => ?_)
  obtain ⟨rfl, rfl, rfl, rfl⟩ := hv
  refine q_if_eq hJ (tgt := 41) dX0_canTake_7 (q := 10) rfl (by decide) (fun c1 => ?_) (fun c1 => ?_)
  · refine q_iconst hJ (v := 0) dX0_canTake_41 (q := 42) rfl (by decide) ?_
    refine q_iret hM dX0_canTake_42 rfl (nz rfl (by decide)) ?_
    have e : cantA A key = if inR key 0 99 = 0 then 0 else if (fndF (fun j => aK A j 0 = key) 0 (aN A)).isSome then 0 else if aN A < 20 then 1 else 0 := rfl
    by_cases hl : aN A < 20
    · first | exact absurd (if_pos hl) c2 | exact ⟨by rw [e]; simp [*], rfl, rfl, rfl⟩
    · first | (rw [if_neg hl] at c2; exact absurd c2 (by decide)) | exact ⟨by rw [e]; simp [*], rfl, rfl, rfl⟩
  · refine q_aload_n hJ dX0_canTake_10 (q := 11) rfl rfl (by first | rfl | exact isR_rr _) ?_
    refine q_getR hJ dX0_canTake_11 (q := 14) rfl fl_X0_12 rfl (by assumption) (by assumption) rfl ?_
    refine q_getR hJ dX0_canTake_14 (q := 17) rfl fl_X0_39 rfl (by assumption) (by assumption) rfl ?_
    refine q_iload_n hJ dX0_canTake_17 (q := 18) rfl rfl ?_
    refine q_callV hJ dX0_canTake_18 (q := 21) rfl (S_rowOf 2 _ P key I R isB2 hFR hS) imX8_rowOf ln_X0_43 hk3 (by decide) rfl rfl rfl rfl (Nat.le_of_ble_eq_true rfl) (by decide) (by decide) rfl rfl (fun rv gv Iv Rv hv => ?_)
    obtain ⟨rfl, rfl, rfl, rfl⟩ := hv
    rw [tab_fnd hK key]
    rcases hf : fndF (fun j => aK A j 0 = key) 0 (aN A) with _ | i
    · refine q_nonnullY hJ (a := 0) dX0_canTake_21 (q := 24) rfl ?_
      refine q_aload_n hJ dX0_canTake_24 (q := 25) rfl rfl (by first | rfl | exact isR_rr _) ?_
      refine q_getR hJ dX0_canTake_25 (q := 28) rfl fl_X0_12 rfl (by assumption) (by assumption) rfl ?_
      refine q_getR hJ dX0_canTake_28 (q := 31) rfl fl_X0_39 rfl (by assumption) (by assumption) rfl ?_
      refine q_callV hJ dX0_canTake_31 (q := 34) rfl (S_isFull 2 _ P I R isB2 hFR hS) imX8_isFull ln_X0_49 hk3 (by decide) rfl rfl rfl rfl (Nat.le_of_ble_eq_true rfl) (by decide) (by decide) rfl rfl (fun rv gv Iv Rv hv => ?_)
      obtain ⟨rfl, rfl, rfl, rfl⟩ := hv
      refine q_if_ne hJ (tgt := 41) dX0_canTake_34 (q := 37) rfl (by decide) (fun c2 => ?_) (fun c2 => ?_)
      · refine q_iconst hJ (v := 0) dX0_canTake_41 (q := 42) rfl (by decide) ?_
        refine q_iret hM dX0_canTake_42 rfl (nz rfl (by decide)) ?_
        have e : cantA A key = if inR key 0 99 = 0 then 0 else if (fndF (fun j => aK A j 0 = key) 0 (aN A)).isSome then 0 else if aN A < 20 then 1 else 0 := rfl
        by_cases hl : aN A < 20
        · first | exact absurd (if_pos hl) c2 | exact ⟨by rw [e]; simp [*], rfl, rfl, rfl⟩
        · first | (rw [if_neg hl] at c2; exact absurd c2 (by decide)) | exact ⟨by rw [e]; simp [*], rfl, rfl, rfl⟩
      · refine q_iconst hJ (v := 1) dX0_canTake_37 (q := 38) rfl (by decide) ?_
        refine q_goto hJ (tgt := 42) dX0_canTake_38 (by decide) ?_
        refine q_iret hM dX0_canTake_42 rfl (nz rfl (by decide)) ?_
        have e : cantA A key = if inR key 0 99 = 0 then 0 else if (fndF (fun j => aK A j 0 = key) 0 (aN A)).isSome then 0 else if aN A < 20 then 1 else 0 := rfl
        by_cases hl : aN A < 20
        · first | exact absurd (if_pos hl) c2 | exact ⟨by rw [e]; simp [*], rfl, rfl, rfl⟩
        · first | (rw [if_neg hl] at c2; exact absurd c2 (by decide)) | exact ⟨by rw [e]; simp [*], rfl, rfl, rfl⟩
    · refine q_nonnullN hJ (tgt := 41) dX0_canTake_21 (by decide) ?_
      refine q_iconst hJ (v := 0) dX0_canTake_41 (q := 42) rfl (by decide) ?_
      refine q_iret hM dX0_canTake_42 rfl (nz rfl (by decide)) ?_
      have e : cantA A key = if inR key 0 99 = 0 then 0 else if (fndF (fun j => aK A j 0 = key) 0 (aN A)).isSome then 0 else if aN A < 20 then 1 else 0 := rfl
      by_cases hl : aN A < 20
      · first | exact absurd (if_pos hl) c2 | exact ⟨by rw [e]; simp [*], rfl, rfl, rfl⟩
      · first | (rw [if_neg hl] at c2; exact absurd c2 (by decide)) | exact ⟨by rw [e]; simp [*], rfl, rfl, rfl⟩

set_option maxRecDepth 100000 in
set_option maxHeartbeats 400000 in
theorem S_prepUpd (A : AS) (x : Nat) (key f v : Int32) (I : MI) (R : MR) (hFR : FR R) (hT : TabC I R 2 (aK A) (aN A)) (hkx : KA g0 x 4 0) : Sp 1 0 0 mX0_prepareUpdate [.ref 1, .ref x, .int key, .int f, .int v] g0 I R (PrPo I R x (prUp A key f v)) := by
  obtain ⟨P, hS, hK⟩ := hT
  have hP := hS.2.2
  have hn := hS.2.1
  have hk1 := ka1
  have hk2 := ka_sta isB2
  have hk3 := ka_tbl isB2
  have he0 := hFR.2.2.1.1
  have he1 : R 2 0 = some 3 := (hFR.1 2 isB2).1
  refine Sp.on (by decide +kernel) rfl rfl (fun J hM => ?_)
  have hJ := hM.ok
  refine q_aload_n hJ dX0_prepareUpdate_0 (q := 1) rfl rfl (by first | rfl | exact isR_rr _) ?_
  refine q_getR hJ dX0_prepareUpdate_1 (q := 4) rfl fl_X0_12 rfl (by assumption) (by assumption) rfl ?_
  refine q_getR hJ dX0_prepareUpdate_4 (q := 7) rfl fl_X0_39 rfl (by assumption) (by assumption) rfl ?_
  refine q_iload_n hJ dX0_prepareUpdate_7 (q := 8) rfl rfl ?_
  refine q_callV hJ dX0_prepareUpdate_8 (q := 11) rfl (S_rowOf 2 _ P key I R isB2 hFR hS) imX8_rowOf ln_X0_43 hk3 (by decide) rfl rfl rfl rfl (Nat.le_of_ble_eq_true rfl) (by decide) (by decide) rfl rfl (fun rv gv Iv Rv hv => ?_)
  obtain ⟨rfl, rfl, rfl, rfl⟩ := hv
  rw [tab_fnd hK key]
  refine q_astore hJ dX0_prepareUpdate_11 (q := 13) rfl (by decide) (by first | rfl | exact isR_rr _) ?_
  refine q_aload hJ dX0_prepareUpdate_13 (q := 15) rfl rfl (by first | rfl | exact isR_rr _) ?_
  have ep : prUp A key f v = (match fndF (fun j => aK A j 0 = key) 0 (aN A) with | none => none | some i => if rowF (aK A i) f = v then none else some (chgF (aK A i) f v)) := rfl
  rcases hf : fndF (fun j => aK A j 0 = key) 0 (aN A) with _ | i
  · refine q_nullY hJ (a := 0) (tgt := 29) dX0_prepareUpdate_15 (by decide) ?_
    refine q_iconst hJ (v := 0) dX0_prepareUpdate_29 (q := 30) rfl (by decide) ?_
    refine q_iret hM dX0_prepareUpdate_30 rfl (nz rfl (by decide)) ?_
    rw [hf] at ep
    refine ⟨rfl, rfl, fun a _ => rfl, Or.inl ⟨?_, rfl⟩⟩
    rw [ep]
    all_goals exact if_pos c1
  · refine q_nullN hJ dX0_prepareUpdate_15 (q := 18) rfl ?_
    have hin : i < aN A := by have := (fndF_some hf).2.1; omega
    have hpi := hP i (by omega)
    have hki := ka_row isB2 hpi.2.1 hpi.2.2.1
    refine q_aload hJ dX0_prepareUpdate_18 (q := 20) rfl rfl (by first | rfl | exact isR_rr _) ?_
    refine q_iload_n hJ dX0_prepareUpdate_20 (q := 21) rfl rfl ?_
    refine q_callV hJ dX0_prepareUpdate_21 (q := 24) rfl (S_valueOf (P i) f I R hki) imX4_valueOf ln_X0_53 hki (by decide) rfl rfl rfl rfl (Nat.le_of_ble_eq_true rfl) (by decide) (by decide) rfl rfl (fun rv gv Iv Rv hv => ?_)
    obtain ⟨rfl, rfl, rfl, rfl⟩ := hv
    rw [rowF_congr (hK i hin) f]
    refine q_iload hJ dX0_prepareUpdate_24 (q := 26) rfl rfl ?_
    refine q_icmp_ne hJ (tgt := 31) dX0_prepareUpdate_26 (q := 29) rfl (by decide) (fun c1 => ?_) (fun c1 => ?_)
    · refine q_aload_n hJ dX0_prepareUpdate_31 (q := 32) rfl rfl (by first | rfl | exact isR_rr _) ?_
      refine q_aload hJ dX0_prepareUpdate_32 (q := 34) rfl rfl (by first | rfl | exact isR_rr _) ?_
      refine q_callV hJ dX0_prepareUpdate_34 (q := 37) rfl (S_rowCp x (P i) I R hkx hki) imX4_copyFrom ln_X0_133 hkx (by decide) rfl rfl rfl rfl (Nat.le_of_ble_eq_true rfl) (by decide) (by decide) rfl rfl (fun rv gv Iv Rv hv => ?_)
      obtain ⟨rfl, rfl, rfl, rfl⟩ := hv
      refine q_aload_n hJ dX0_prepareUpdate_37 (q := 38) rfl rfl (by first | rfl | exact isR_rr _) ?_
      refine q_iload_n hJ dX0_prepareUpdate_38 (q := 39) rfl rfl ?_
      refine q_iload hJ dX0_prepareUpdate_39 (q := 41) rfl rfl ?_
      refine q_callV hJ dX0_prepareUpdate_41 (q := 44) rfl (S_change x f v _ R hkx) imX4_change ln_X0_137 hkx (by decide) rfl rfl rfl rfl (Nat.le_of_ble_eq_true rfl) (by decide) (by decide) rfl rfl (fun rv gv Iv Rv hv => ?_)
      obtain ⟨rfl, rfl, rfl, rfl⟩ := hv
      refine q_iconst hJ (v := 1) dX0_prepareUpdate_44 (q := 45) rfl (by decide) ?_
      refine q_iret hM dX0_prepareUpdate_45 rfl (nz rfl (by decide)) ?_
      rw [hf] at ep
      refine ⟨rfl, rfl, fun a ha => ?_, Or.inr ⟨chgF (aK A i) f v, ?_, rfl, rwC_at (fun t ht => ?_)⟩⟩
      · rw [rwC_other ha]; funext t; exact cp0_other ha t
      · rw [ep]; exact if_neg c1
      · rw [cp0_in ht]; exact hK i hin t ht
    · refine q_iconst hJ (v := 0) dX0_prepareUpdate_29 (q := 30) rfl (by decide) ?_
      refine q_iret hM dX0_prepareUpdate_30 rfl (nz rfl (by decide)) ?_
      rw [hf] at ep
      refine ⟨rfl, rfl, fun a _ => rfl, Or.inl ⟨?_, rfl⟩⟩
      rw [ep]
      all_goals exact if_pos c1

set_option maxRecDepth 100000 in
set_option maxHeartbeats 400000 in
theorem S_prepDel (A : AS) (x : Nat) (key : Int32) (I : MI) (R : MR) (hFR : FR R) (hT : TabC I R 2 (aK A) (aN A)) (hkx : KA g0 x 4 0) : Sp 1 0 0 mX0_prepareDelete [.ref 1, .ref x, .int key] g0 I R (PrPo I R x (prDel A key)) := by
  obtain ⟨P, hS, hK⟩ := hT
  have hP := hS.2.2
  have hn := hS.2.1
  have hk1 := ka1
  have hk2 := ka_sta isB2
  have hk3 := ka_tbl isB2
  have he0 := hFR.2.2.1.1
  have he1 : R 2 0 = some 3 := (hFR.1 2 isB2).1
  refine Sp.on (by decide +kernel) rfl rfl (fun J hM => ?_)
  have hJ := hM.ok
  refine q_aload_n hJ dX0_prepareDelete_0 (q := 1) rfl rfl (by first | rfl | exact isR_rr _) ?_
  refine q_getR hJ dX0_prepareDelete_1 (q := 4) rfl fl_X0_12 rfl (by assumption) (by assumption) rfl ?_
  refine q_getR hJ dX0_prepareDelete_4 (q := 7) rfl fl_X0_39 rfl (by assumption) (by assumption) rfl ?_
  refine q_iload_n hJ dX0_prepareDelete_7 (q := 8) rfl rfl ?_
  refine q_callV hJ dX0_prepareDelete_8 (q := 11) rfl (S_rowOf 2 _ P key I R isB2 hFR hS) imX8_rowOf ln_X0_43 hk3 (by decide) rfl rfl rfl rfl (Nat.le_of_ble_eq_true rfl) (by decide) (by decide) rfl rfl (fun rv gv Iv Rv hv => ?_)
  obtain ⟨rfl, rfl, rfl, rfl⟩ := hv
  rw [tab_fnd hK key]
  refine q_astore_n hJ dX0_prepareDelete_11 (q := 12) rfl (by decide) (by first | rfl | exact isR_rr _) ?_
  refine q_aload_n hJ dX0_prepareDelete_12 (q := 13) rfl rfl (by first | rfl | exact isR_rr _) ?_
  have ep : prDel A key = (match fndF (fun j => aK A j 0 = key) 0 (aN A) with | none => none | some i => some (aK A i)) := rfl
  rcases hf : fndF (fun j => aK A j 0 = key) 0 (aN A) with _ | i
  · refine q_nonnullY hJ (a := 0) dX0_prepareDelete_13 (q := 16) rfl ?_
    refine q_iconst hJ (v := 0) dX0_prepareDelete_16 (q := 17) rfl (by decide) ?_
    refine q_iret hM dX0_prepareDelete_17 rfl (nz rfl (by decide)) ?_
    rw [hf] at ep
    exact ⟨rfl, rfl, fun a _ => rfl, Or.inl ⟨ep, rfl⟩⟩
  · refine q_nonnullN hJ (tgt := 18) dX0_prepareDelete_13 (by decide) ?_
    have hin : i < aN A := by have := (fndF_some hf).2.1; omega
    have hpi := hP i (by omega)
    have hki := ka_row isB2 hpi.2.1 hpi.2.2.1
    refine q_aload_n hJ dX0_prepareDelete_18 (q := 19) rfl rfl (by first | rfl | exact isR_rr _) ?_
    refine q_aload_n hJ dX0_prepareDelete_19 (q := 20) rfl rfl (by first | rfl | exact isR_rr _) ?_
    refine q_callV hJ dX0_prepareDelete_20 (q := 23) rfl (S_rowCp x (P i) I R hkx hki) imX4_copyFrom ln_X0_133 hkx (by decide) rfl rfl rfl rfl (Nat.le_of_ble_eq_true rfl) (by decide) (by decide) rfl rfl (fun rv gv Iv Rv hv => ?_)
    obtain ⟨rfl, rfl, rfl, rfl⟩ := hv
    refine q_iconst hJ (v := 1) dX0_prepareDelete_23 (q := 24) rfl (by decide) ?_
    refine q_iret hM dX0_prepareDelete_24 rfl (nz rfl (by decide)) ?_
    rw [hf] at ep
    refine ⟨rfl, rfl, fun a ha => ?_, Or.inr ⟨aK A i, ep, rfl, fun t ht => ?_⟩⟩
    · funext t; exact cp0_other ha t
    · rw [cp0_in ht]; exact hK i hin t ht

set_option maxRecDepth 100000 in
set_option maxHeartbeats 400000 in
theorem S_refuse (y w : Int32) (I : MI) (R : MR) : Sp 0 0 0 mX0_refuse [.ref 1, .int y, .int w] g0 I R (Rt none g0 (up2 (up2 I 1 6 y) 1 7 w) R) := by
  have hk1 := ka1
  refine Sp.on (by decide +kernel) rfl rfl (fun J hM => ?_)
  have hJ := hM.ok
  refine q_aload_n hJ dX0_refuse_0 (q := 1) rfl rfl (by first | rfl | exact isR_rr _) ?_
  refine q_iload_n hJ dX0_refuse_1 (q := 2) rfl rfl ?_
  refine q_putI hJ dX0_refuse_2 (q := 5) rfl fl_X0_96 rfl rfl (by assumption) rfl rfl ?_
  refine q_aload_n hJ dX0_refuse_5 (q := 6) rfl rfl (by first | rfl | exact isR_rr _) ?_
  refine q_iload_n hJ dX0_refuse_6 (q := 7) rfl rfl ?_
  refine q_putI hJ dX0_refuse_7 (q := 10) rfl fl_X0_121 rfl rfl (by assumption) rfl rfl ?_
  refine q_vret hM dX0_refuse_10 rfl ?_
  exact ⟨rfl, rfl, rfl, rfl⟩

set_option maxRecDepth 100000 in
set_option maxHeartbeats 400000 in
theorem S_mark (r : Nat) (v : Int32) (I : MI) (R : MR) (hFR : FR R) (hr12 : r < 12) (hv : v = 0 ∨ v = 1) : Sp 0 0 0 mX0_mark [.ref 1, .int (nI r), .int v] g0 I R (Rt none g0 (up2 I 44 r v) R) := by
  have hk1 := ka1
  have hk44 := ka44
  have hr := hFR.2.2.1.2.2
  refine Sp.on (by decide +kernel) rfl rfl (fun J hM => ?_)
  have hJ := hM.ok
  refine q_iload_n hJ dX0_mark_0 (q := 1) rfl rfl ?_
  refine q_if_lt hJ (tgt := 20) dX0_mark_1 (q := 4) rfl (by decide) (fun c1 => absurd c1 (nI_pos (by omega))) (fun _ => ?_)
  refine q_iload_n hJ dX0_mark_4 (q := 5) rfl rfl ?_
  refine q_aload_n hJ dX0_mark_5 (q := 6) rfl rfl (by first | rfl | exact isR_rr _) ?_
  refine q_getR hJ dX0_mark_6 (q := 9) rfl fl_X0_18 rfl hk1 hr rfl ?_
  refine q_alen hJ (v := 12) dX0_mark_9 (q := 10) rfl hk44 (by decide) (by decide) (by decide) ?_
  refine q_icmp_ge hJ (tgt := 20) dX0_mark_10 (q := 13) rfl (by decide) (fun c2 => absurd (by rw [nI_12] at c2; exact (nI_leI (by decide) (by omega)).mp c2) (by omega)) (fun _ => ?_)
  refine q_aload_n hJ dX0_mark_13 (q := 14) rfl rfl (by first | rfl | exact isR_rr _) ?_
  refine q_getR hJ dX0_mark_14 (q := 17) rfl fl_X0_18 rfl hk1 hr rfl ?_
  refine q_iload_n hJ dX0_mark_17 (q := 18) rfl rfl ?_
  refine q_iload_n hJ dX0_mark_18 (q := 19) rfl rfl ?_
  refine q_zast hJ dX0_mark_19 (q := 20) rfl hk44 (ix_nI hr12 (by decide)) (by rcases hv with rfl | rfl <;> decide) ?_
  refine q_vret hM dX0_mark_20 rfl ?_
  exact ⟨rfl, rfl, rfl, rfl⟩

set_option maxRecDepth 100000 in
set_option maxHeartbeats 400000 in
theorem S_heldBack (r : Nat) (I : MI) (R : MR) (hFR : FR R) (hr12 : r < 12) : Sp 0 0 0 mX0_isHeldBack [.ref 1, .int (nI r)] g0 I R (Rt (some (.int (if I 2 4 = 1 ∧ ¬ I 44 r = 0 then 1 else 0))) g0 I R) := by
  have hk1 := ka1
  have hk44 := ka44
  have hr := hFR.2.2.1.2.2
  have he0 := hFR.2.2.1.1
  have hk2 := ka_sta isB2
  refine Sp.on (by decide +kernel) rfl rfl (fun J hM => ?_)
  have hJ := hM.ok
  refine q_aload_n hJ dX0_isHeldBack_0 (q := 1) rfl rfl (by first | rfl | exact isR_rr _) ?_
  refine q_getR hJ dX0_isHeldBack_1 (q := 4) rfl fl_X0_12 rfl hk1 he0 rfl ?_
  refine q_getI hJ dX0_isHeldBack_4 (q := 7) rfl fl_X0_236 rfl hk2 rfl ?_
  refine q_iconst hJ (v := 1) dX0_isHeldBack_7 (q := 8) rfl (by decide) ?_
  refine q_icmp_ne hJ (tgt := 37) dX0_isHeldBack_8 (q := 11) rfl (by decide) (fun c0 => ?_) (fun c0 => ?_)
  · refine q_iconst hJ (v := 0) dX0_isHeldBack_37 (q := 38) rfl (by decide) ?_
    refine q_iret hM dX0_isHeldBack_38 rfl (nz rfl (by decide)) ?_
    exact ⟨by simp [*], rfl, rfl, rfl⟩
  · refine q_iload_n hJ dX0_isHeldBack_11 (q := 12) rfl rfl ?_
    refine q_if_lt hJ (tgt := 37) dX0_isHeldBack_12 (q := 15) rfl (by decide) (fun c1 => absurd c1 (nI_pos (by omega))) (fun _ => ?_)
    refine q_iload_n hJ dX0_isHeldBack_15 (q := 16) rfl rfl ?_
    refine q_aload_n hJ dX0_isHeldBack_16 (q := 17) rfl rfl (by first | rfl | exact isR_rr _) ?_
    refine q_getR hJ dX0_isHeldBack_17 (q := 20) rfl fl_X0_18 rfl hk1 hr rfl ?_
    refine q_alen hJ (v := 12) dX0_isHeldBack_20 (q := 21) rfl hk44 (by decide) (by decide) (by decide) ?_
    refine q_icmp_ge hJ (tgt := 37) dX0_isHeldBack_21 (q := 24) rfl (by decide) (fun c2 => absurd (by rw [nI_12] at c2; exact (nI_leI (by decide) (by omega)).mp c2) (by omega)) (fun _ => ?_)
    refine q_aload_n hJ dX0_isHeldBack_24 (q := 25) rfl rfl (by first | rfl | exact isR_rr _) ?_
    refine q_getR hJ dX0_isHeldBack_25 (q := 28) rfl fl_X0_18 rfl hk1 hr rfl ?_
    refine q_iload_n hJ dX0_isHeldBack_28 (q := 29) rfl rfl ?_
    refine q_zald hJ dX0_isHeldBack_29 (q := 30) rfl hk44 (ix_nI hr12 (by decide)) rfl ?_
    refine q_if_eq hJ (tgt := 37) dX0_isHeldBack_30 (q := 33) rfl (by decide) (fun c3 => ?_) (fun c3 => ?_)
    · refine q_iconst hJ (v := 0) dX0_isHeldBack_37 (q := 38) rfl (by decide) ?_
      refine q_iret hM dX0_isHeldBack_38 rfl (nz rfl (by decide)) ?_
      exact ⟨by simp [*], rfl, rfl, rfl⟩
    · refine q_iconst hJ (v := 1) dX0_isHeldBack_33 (q := 34) rfl (by decide) ?_
      refine q_goto hJ (tgt := 38) dX0_isHeldBack_34 (by decide) ?_
      refine q_iret hM dX0_isHeldBack_38 rfl (nz rfl (by decide)) ?_
      exact ⟨by simp [*], rfl, rfl, rfl⟩

set_option maxRecDepth 100000 in
set_option maxHeartbeats 400000 in
theorem S_insFault (A : AS) (k z o t : Int32) (I : MI) (R : MR) (hFR : FR R) (hT : TabC I R 2 (aK A) (aN A)) : Sp 2 0 0 mX0_insertFault [.ref 1, .int k, .int z, .int o, .int t] g0 I R (Rt (some (.int (insF A k z o t))) g0 I R) := by
  obtain ⟨P, hS, hK⟩ := hT
  have hP := hS.2.2
  have hn := hS.2.1
  have hk1 := ka1
  have hk2 := ka_sta isB2
  have hk3 := ka_tbl isB2
  have he0 := hFR.2.2.1.1
  have he1 : R 2 0 = some 3 := (hFR.1 2 isB2).1
  refine Sp.on (by decide +kernel) rfl rfl (fun J hM => ?_)
  have hJ := hM.ok
  refine q_iload_n hJ dX0_insertFault_0 (q := 1) rfl rfl ?_
  refine q_iconst hJ (v := 0) dX0_insertFault_1 (q := 2) rfl (by decide) ?_
  refine q_bipush hJ (v := 99) dX0_insertFault_2 (q := 4) rfl (by decide) ?_
  refine q_callSN hJ dX0_insertFault_4 (q := 7) rfl (S_within k 0 99 I R) imX10_within (by decide +kernel) rfl rfl rfl (Nat.le_of_ble_eq_true rfl) (by decide) (by decide) rfl rfl (fun rv gv Iv Rv hv => ?_)
  obtain ⟨rfl, rfl, rfl, rfl⟩ := hv
  refine q_if_eq hJ (tgt := 32) dX0_insertFault_7 (q := 10) rfl (by decide) (fun c1 => ?_) (fun c1 => ?_)
  · refine q_sipush hJ (v := (-1002)) dX0_insertFault_32 (q := 35) rfl (by decide) ?_
    refine q_iret hM dX0_insertFault_35 rfl rfl ?_
    have e : insF A k z o t = if inR k 0 99 = 0 then -1002 else if inR z (-999) 999 = 0 then -1002 else if inR o (-999) 999 = 0 then -1002 else if inR t (-999) 999 = 0 then -1002 else if (fndF (fun j => aK A j 0 = k) 0 (aN A)).isSome then -1004 else if aN A < 20 then 0 else -1003 := rfl
    exact ⟨by rw [e]; simp [*], rfl, rfl, rfl⟩
  · refine q_iload_n hJ dX0_insertFault_10 (q := 11) rfl rfl ?_
    refine q_callSN hJ dX0_insertFault_11 (q := 14) rfl (S_isValue z I R) imX10_isValue (by decide +kernel) rfl rfl rfl (Nat.le_of_ble_eq_true rfl) (by decide) (by decide) rfl rfl (fun rv gv Iv Rv hv => ?_)
    obtain ⟨rfl, rfl, rfl, rfl⟩ := hv
    refine q_if_eq hJ (tgt := 32) dX0_insertFault_14 (q := 17) rfl (by decide) (fun c2 => ?_) (fun c2 => ?_)
    · refine q_sipush hJ (v := (-1002)) dX0_insertFault_32 (q := 35) rfl (by decide) ?_
      refine q_iret hM dX0_insertFault_35 rfl rfl ?_
      have e : insF A k z o t = if inR k 0 99 = 0 then -1002 else if inR z (-999) 999 = 0 then -1002 else if inR o (-999) 999 = 0 then -1002 else if inR t (-999) 999 = 0 then -1002 else if (fndF (fun j => aK A j 0 = k) 0 (aN A)).isSome then -1004 else if aN A < 20 then 0 else -1003 := rfl
      exact ⟨by rw [e]; simp [*], rfl, rfl, rfl⟩
    · refine q_iload_n hJ dX0_insertFault_17 (q := 18) rfl rfl ?_
      refine q_callSN hJ dX0_insertFault_18 (q := 21) rfl (S_isValue o I R) imX10_isValue (by decide +kernel) rfl rfl rfl (Nat.le_of_ble_eq_true rfl) (by decide) (by decide) rfl rfl (fun rv gv Iv Rv hv => ?_)
      obtain ⟨rfl, rfl, rfl, rfl⟩ := hv
      refine q_if_eq hJ (tgt := 32) dX0_insertFault_21 (q := 24) rfl (by decide) (fun c3 => ?_) (fun c3 => ?_)
      · refine q_sipush hJ (v := (-1002)) dX0_insertFault_32 (q := 35) rfl (by decide) ?_
        refine q_iret hM dX0_insertFault_35 rfl rfl ?_
        have e : insF A k z o t = if inR k 0 99 = 0 then -1002 else if inR z (-999) 999 = 0 then -1002 else if inR o (-999) 999 = 0 then -1002 else if inR t (-999) 999 = 0 then -1002 else if (fndF (fun j => aK A j 0 = k) 0 (aN A)).isSome then -1004 else if aN A < 20 then 0 else -1003 := rfl
        exact ⟨by rw [e]; simp [*], rfl, rfl, rfl⟩
      · refine q_iload hJ dX0_insertFault_24 (q := 26) rfl rfl ?_
        refine q_callSN hJ dX0_insertFault_26 (q := 29) rfl (S_isValue t I R) imX10_isValue (by decide +kernel) rfl rfl rfl (Nat.le_of_ble_eq_true rfl) (by decide) (by decide) rfl rfl (fun rv gv Iv Rv hv => ?_)
        obtain ⟨rfl, rfl, rfl, rfl⟩ := hv
        refine q_if_ne hJ (tgt := 36) dX0_insertFault_29 (q := 32) rfl (by decide) (fun c4 => ?_) (fun c4 => ?_)
        · refine q_aload_n hJ dX0_insertFault_36 (q := 37) rfl rfl (by first | rfl | exact isR_rr _) ?_
          refine q_getR hJ dX0_insertFault_37 (q := 40) rfl fl_X0_12 rfl (by assumption) (by assumption) rfl ?_
          refine q_getR hJ dX0_insertFault_40 (q := 43) rfl fl_X0_39 rfl (by assumption) (by assumption) rfl ?_
          refine q_iload_n hJ dX0_insertFault_43 (q := 44) rfl rfl ?_
          refine q_callV hJ dX0_insertFault_44 (q := 47) rfl (S_rowOf 2 _ P k I R isB2 hFR hS) imX8_rowOf ln_X0_43 hk3 (by decide) rfl rfl rfl rfl (Nat.le_of_ble_eq_true rfl) (by decide) (by decide) rfl rfl (fun rv gv Iv Rv hv => ?_)
          obtain ⟨rfl, rfl, rfl, rfl⟩ := hv
          rw [tab_fnd hK k]
          rcases hf : fndF (fun j => aK A j 0 = k) 0 (aN A) with _ | i
          · refine q_nullY hJ (a := 0) (tgt := 54) dX0_insertFault_47 (by decide) ?_
            refine q_aload_n hJ dX0_insertFault_54 (q := 55) rfl rfl (by first | rfl | exact isR_rr _) ?_
            refine q_getR hJ dX0_insertFault_55 (q := 58) rfl fl_X0_12 rfl (by assumption) (by assumption) rfl ?_
            refine q_getR hJ dX0_insertFault_58 (q := 61) rfl fl_X0_39 rfl (by assumption) (by assumption) rfl ?_
            refine q_callV hJ dX0_insertFault_61 (q := 64) rfl (S_isFull 2 _ P I R isB2 hFR hS) imX8_isFull ln_X0_49 hk3 (by decide) rfl rfl rfl rfl (Nat.le_of_ble_eq_true rfl) (by decide) (by decide) rfl rfl (fun rv gv Iv Rv hv => ?_)
            obtain ⟨rfl, rfl, rfl, rfl⟩ := hv
            refine q_if_eq hJ (tgt := 73) dX0_insertFault_64 (q := 67) rfl (by decide) (fun c5 => ?_) (fun c5 => ?_)
            · have hl : aN A < 20 := Decidable.byContradiction fun z => by rw [if_neg z] at c5; exact absurd c5 (by decide)
              refine q_iconst hJ (v := 0) dX0_insertFault_73 (q := 74) rfl (by decide) ?_
              refine q_iret hM dX0_insertFault_74 rfl rfl ?_
              have e : insF A k z o t = if inR k 0 99 = 0 then -1002 else if inR z (-999) 999 = 0 then -1002 else if inR o (-999) 999 = 0 then -1002 else if inR t (-999) 999 = 0 then -1002 else if (fndF (fun j => aK A j 0 = k) 0 (aN A)).isSome then -1004 else if aN A < 20 then 0 else -1003 := rfl
              exact ⟨by rw [e, if_neg c1, if_neg c2, if_neg c3, if_neg c4, hf]; simp [hl], rfl, rfl, rfl⟩
            · have hl : ¬ aN A < 20 := fun z => c5 (if_pos z)
              refine q_sipush hJ (v := (-1003)) dX0_insertFault_67 (q := 70) rfl (by decide) ?_
              refine q_goto hJ (tgt := 74) dX0_insertFault_70 (by decide) ?_
              refine q_iret hM dX0_insertFault_74 rfl rfl ?_
              have e : insF A k z o t = if inR k 0 99 = 0 then -1002 else if inR z (-999) 999 = 0 then -1002 else if inR o (-999) 999 = 0 then -1002 else if inR t (-999) 999 = 0 then -1002 else if (fndF (fun j => aK A j 0 = k) 0 (aN A)).isSome then -1004 else if aN A < 20 then 0 else -1003 := rfl
              exact ⟨by rw [e, if_neg c1, if_neg c2, if_neg c3, if_neg c4, hf]; simp [hl], rfl, rfl, rfl⟩
          · refine q_nullN hJ dX0_insertFault_47 (q := 50) rfl ?_
            refine q_sipush hJ (v := (-1004)) dX0_insertFault_50 (q := 53) rfl (by decide) ?_
            refine q_iret hM dX0_insertFault_53 rfl rfl ?_
            have e : insF A k z o t = if inR k 0 99 = 0 then -1002 else if inR z (-999) 999 = 0 then -1002 else if inR o (-999) 999 = 0 then -1002 else if inR t (-999) 999 = 0 then -1002 else if (fndF (fun j => aK A j 0 = k) 0 (aN A)).isSome then -1004 else if aN A < 20 then 0 else -1003 := rfl
            exact ⟨by rw [e]; simp [*], rfl, rfl, rfl⟩
        · refine q_sipush hJ (v := (-1002)) dX0_insertFault_32 (q := 35) rfl (by decide) ?_
          refine q_iret hM dX0_insertFault_35 rfl rfl ?_
          have e : insF A k z o t = if inR k 0 99 = 0 then -1002 else if inR z (-999) 999 = 0 then -1002 else if inR o (-999) 999 = 0 then -1002 else if inR t (-999) 999 = 0 then -1002 else if (fndF (fun j => aK A j 0 = k) 0 (aN A)).isSome then -1004 else if aN A < 20 then 0 else -1003 := rfl
          exact ⟨by rw [e]; simp [*], rfl, rfl, rfl⟩

set_option maxRecDepth 100000 in
set_option maxHeartbeats 400000 in
theorem S_updFault (A : AS) (k f v : Int32) (I : MI) (R : MR) (hFR : FR R) (hT : TabC I R 2 (aK A) (aN A)) : Sp 2 0 0 mX0_updateFault [.ref 1, .int k, .int f, .int v] g0 I R (Rt (some (.int (updF A k f v))) g0 I R) := by
  obtain ⟨P, hS, hK⟩ := hT
  have hP := hS.2.2
  have hn := hS.2.1
  have hk1 := ka1
  have hk2 := ka_sta isB2
  have hk3 := ka_tbl isB2
  have he0 := hFR.2.2.1.1
  have he1 : R 2 0 = some 3 := (hFR.1 2 isB2).1
  refine Sp.on (by decide +kernel) rfl rfl (fun J hM => ?_)
  have hJ := hM.ok
  refine q_aload_n hJ dX0_updateFault_0 (q := 1) rfl rfl (by first | rfl | exact isR_rr _) ?_
  refine q_getR hJ dX0_updateFault_1 (q := 4) rfl fl_X0_12 rfl (by assumption) (by assumption) rfl ?_
  refine q_getR hJ dX0_updateFault_4 (q := 7) rfl fl_X0_39 rfl (by assumption) (by assumption) rfl ?_
  refine q_iload_n hJ dX0_updateFault_7 (q := 8) rfl rfl ?_
  refine q_callV hJ dX0_updateFault_8 (q := 11) rfl (S_rowOf 2 _ P k I R isB2 hFR hS) imX8_rowOf ln_X0_43 hk3 (by decide) rfl rfl rfl rfl (Nat.le_of_ble_eq_true rfl) (by decide) (by decide) rfl rfl (fun rv gv Iv Rv hv => ?_)
  obtain ⟨rfl, rfl, rfl, rfl⟩ := hv
  rw [tab_fnd hK k]
  refine q_astore hJ dX0_updateFault_11 (q := 13) rfl (by decide) (by first | rfl | exact isR_rr _) ?_
  refine q_aload hJ dX0_updateFault_13 (q := 15) rfl rfl (by first | rfl | exact isR_rr _) ?_
  have ep : updF A k f v = (match fndF (fun j => aK A j 0 = k) 0 (aN A) with | none => -1001 | some i => if inR f 0 2 = 0 then -1002 else if inR v (-999) 999 = 0 then -1002 else if rowF (aK A i) f = v then -1006 else 0) := rfl
  rcases hf : fndF (fun j => aK A j 0 = k) 0 (aN A) with _ | i
  · refine q_nonnullY hJ (a := 0) dX0_updateFault_15 (q := 18) rfl ?_
    refine q_sipush hJ (v := (-1001)) dX0_updateFault_18 (q := 21) rfl (by decide) ?_
    refine q_iret hM dX0_updateFault_21 rfl rfl ?_
    rw [hf] at ep
    exact ⟨by first | (rw [ep]; done) | (rw [ep]; simp [*]), rfl, rfl, rfl⟩
  · refine q_nonnullN hJ (tgt := 22) dX0_updateFault_15 (by decide) ?_
    have hin : i < aN A := by have := (fndF_some hf).2.1; omega
    have hpi := hP i (by omega)
    have hki := ka_row isB2 hpi.2.1 hpi.2.2.1
    refine q_iload_n hJ dX0_updateFault_22 (q := 23) rfl rfl ?_
    refine q_iconst hJ (v := 0) dX0_updateFault_23 (q := 24) rfl (by decide) ?_
    refine q_iconst hJ (v := 2) dX0_updateFault_24 (q := 25) rfl (by decide) ?_
    refine q_callSN hJ dX0_updateFault_25 (q := 28) rfl (S_within f 0 2 I R) imX10_within (by decide +kernel) rfl rfl rfl (Nat.le_of_ble_eq_true rfl) (by decide) (by decide) rfl rfl (fun rv gv Iv Rv hv => ?_)
    obtain ⟨rfl, rfl, rfl, rfl⟩ := hv
    refine q_if_eq hJ (tgt := 38) dX0_updateFault_28 (q := 31) rfl (by decide) (fun c1 => ?_) (fun c1 => ?_)
    · refine q_sipush hJ (v := (-1002)) dX0_updateFault_38 (q := 41) rfl (by decide) ?_
      refine q_iret hM dX0_updateFault_41 rfl rfl ?_
      rw [hf] at ep
      exact ⟨by first | (rw [ep]; done) | (rw [ep]; simp [*]), rfl, rfl, rfl⟩
    · refine q_iload_n hJ dX0_updateFault_31 (q := 32) rfl rfl ?_
      refine q_callSN hJ dX0_updateFault_32 (q := 35) rfl (S_isValue v I R) imX10_isValue (by decide +kernel) rfl rfl rfl (Nat.le_of_ble_eq_true rfl) (by decide) (by decide) rfl rfl (fun rv gv Iv Rv hv => ?_)
      obtain ⟨rfl, rfl, rfl, rfl⟩ := hv
      refine q_if_ne hJ (tgt := 42) dX0_updateFault_35 (q := 38) rfl (by decide) (fun c2 => ?_) (fun c2 => ?_)
      · refine q_aload hJ dX0_updateFault_42 (q := 44) rfl rfl (by first | rfl | exact isR_rr _) ?_
        refine q_iload_n hJ dX0_updateFault_44 (q := 45) rfl rfl ?_
        refine q_callV hJ dX0_updateFault_45 (q := 48) rfl (S_valueOf (P i) f I R hki) imX4_valueOf ln_X0_53 hki (by decide) rfl rfl rfl rfl (Nat.le_of_ble_eq_true rfl) (by decide) (by decide) rfl rfl (fun rv gv Iv Rv hv => ?_)
        obtain ⟨rfl, rfl, rfl, rfl⟩ := hv
        rw [rowF_congr (hK i hin) f]
        refine q_iload_n hJ dX0_updateFault_48 (q := 49) rfl rfl ?_
        refine q_icmp_ne hJ (tgt := 58) dX0_updateFault_49 (q := 52) rfl (by decide) (fun c3 => ?_) (fun c3 => ?_)
        · refine q_iconst hJ (v := 0) dX0_updateFault_58 (q := 59) rfl (by decide) ?_
          refine q_iret hM dX0_updateFault_59 rfl rfl ?_
          rw [hf] at ep
          exact ⟨by first | (rw [ep]; done) | (rw [ep]; simp [*]), rfl, rfl, rfl⟩
        · refine q_sipush hJ (v := (-1006)) dX0_updateFault_52 (q := 55) rfl (by decide) ?_
          refine q_goto hJ (tgt := 59) dX0_updateFault_55 (by decide) ?_
          refine q_iret hM dX0_updateFault_59 rfl rfl ?_
          rw [hf] at ep
          exact ⟨by first | (rw [ep]; done) | (rw [ep]; simp [*]), rfl, rfl, rfl⟩
      · refine q_sipush hJ (v := (-1002)) dX0_updateFault_38 (q := 41) rfl (by decide) ?_
        refine q_iret hM dX0_updateFault_41 rfl rfl ?_
        rw [hf] at ep
        exact ⟨by first | (rw [ep]; done) | (rw [ep]; simp [*]), rfl, rfl, rfl⟩

set_option maxRecDepth 100000 in
set_option maxHeartbeats 400000 in
theorem S_delFault (A : AS) (k : Int32) (I : MI) (R : MR) (hFR : FR R) (hT : TabC I R 2 (aK A) (aN A)) : Sp 1 0 0 mX0_deleteFault [.ref 1, .int k] g0 I R (Rt (some (.int (dltF A k))) g0 I R) := by
  obtain ⟨P, hS, hK⟩ := hT
  have hP := hS.2.2
  have hn := hS.2.1
  have hk1 := ka1
  have hk2 := ka_sta isB2
  have hk3 := ka_tbl isB2
  have he0 := hFR.2.2.1.1
  have he1 : R 2 0 = some 3 := (hFR.1 2 isB2).1
  refine Sp.on (by decide +kernel) rfl rfl (fun J hM => ?_)
  have hJ := hM.ok
  refine q_aload_n hJ dX0_deleteFault_0 (q := 1) rfl rfl (by first | rfl | exact isR_rr _) ?_
  refine q_getR hJ dX0_deleteFault_1 (q := 4) rfl fl_X0_12 rfl (by assumption) (by assumption) rfl ?_
  refine q_getR hJ dX0_deleteFault_4 (q := 7) rfl fl_X0_39 rfl (by assumption) (by assumption) rfl ?_
  refine q_iload_n hJ dX0_deleteFault_7 (q := 8) rfl rfl ?_
  refine q_callV hJ dX0_deleteFault_8 (q := 11) rfl (S_rowOf 2 _ P k I R isB2 hFR hS) imX8_rowOf ln_X0_43 hk3 (by decide) rfl rfl rfl rfl (Nat.le_of_ble_eq_true rfl) (by decide) (by decide) rfl rfl (fun rv gv Iv Rv hv => ?_)
  obtain ⟨rfl, rfl, rfl, rfl⟩ := hv
  rw [tab_fnd hK k]
  have ep : dltF A k = if (fndF (fun j => aK A j 0 = k) 0 (aN A)).isSome then 0 else -1001 := rfl
  rcases hf : fndF (fun j => aK A j 0 = k) 0 (aN A) with _ | i
  · refine q_nonnullY hJ (a := 0) dX0_deleteFault_11 (q := 14) rfl ?_
    refine q_sipush hJ (v := (-1001)) dX0_deleteFault_14 (q := 17) rfl (by decide) ?_
    refine q_goto hJ (tgt := 21) dX0_deleteFault_17 (by decide) ?_
    refine q_iret hM dX0_deleteFault_21 rfl rfl ?_
    rw [hf] at ep
    exact ⟨by rw [ep]; simp, rfl, rfl, rfl⟩
  · refine q_nonnullN hJ (tgt := 20) dX0_deleteFault_11 (by decide) ?_
    refine q_iconst hJ (v := 0) dX0_deleteFault_20 (q := 21) rfl (by decide) ?_
    refine q_iret hM dX0_deleteFault_21 rfl rfl ?_
    rw [hf] at ep
    exact ⟨by rw [ep]; simp, rfl, rfl, rfl⟩

set_option maxRecDepth 100000 in
set_option maxHeartbeats 400000 in
theorem S_begin (I : MI) (R : MR) (hFR : FR R) : Sp 0 0 0 mX0_begin [.ref 1] g0 I R (Rt none g0 (up2 (up2 (up2 (up2 (up2 (up2 I 40 3 0) 1 3 0) 1 4 0) 1 5 0) 1 6 0) 1 7 (-1006)) R) := by
  have hk1 := ka1
  have hk2 := ka_sta isB2
  have he0 := hFR.2.2.1.1
  refine Sp.on (by decide +kernel) rfl rfl (fun J hM => ?_)
  have hJ := hM.ok
  refine q_aload_n hJ dX0_begin_0 (q := 1) rfl rfl (by first | rfl | exact isR_rr _) ?_
  refine q_getR hJ dX0_begin_1 (q := 4) rfl fl_X0_12 rfl hk1 he0 rfl ?_
  refine q_getR hJ dX0_begin_4 (q := 7) rfl fl_X0_124 rfl hk2 (hFR.1 2 isB2).2.2.1 rfl ?_
  refine q_iconst hJ (v := 0) dX0_begin_7 (q := 8) rfl (by decide) ?_
  refine q_putI hJ dX0_begin_8 (q := 11) rfl fl_X0_128 rfl rfl (ka_log isB2) rfl rfl ?_
  refine q_aload_n hJ dX0_begin_11 (q := 12) rfl rfl (by first | rfl | exact isR_rr _) ?_
  refine q_iconst hJ (v := 0) dX0_begin_12 (q := 13) rfl (by decide) ?_
  refine q_putI hJ dX0_begin_13 (q := 16) rfl fl_X0_106 rfl rfl hk1 rfl rfl ?_
  refine q_aload_n hJ dX0_begin_16 (q := 17) rfl rfl (by first | rfl | exact isR_rr _) ?_
  refine q_iconst hJ (v := 0) dX0_begin_17 (q := 18) rfl (by decide) ?_
  refine q_putI hJ dX0_begin_18 (q := 21) rfl fl_X0_110 rfl rfl hk1 rfl rfl ?_
  refine q_aload_n hJ dX0_begin_21 (q := 22) rfl rfl (by first | rfl | exact isR_rr _) ?_
  refine q_iconst hJ (v := 0) dX0_begin_22 (q := 23) rfl (by decide) ?_
  refine q_putI hJ dX0_begin_23 (q := 26) rfl fl_X0_114 rfl rfl hk1 rfl rfl ?_
  refine q_aload_n hJ dX0_begin_26 (q := 27) rfl rfl (by first | rfl | exact isR_rr _) ?_
  refine q_iconst hJ (v := 0) dX0_begin_27 (q := 28) rfl (by decide) ?_
  refine q_putI hJ dX0_begin_28 (q := 31) rfl fl_X0_96 rfl rfl hk1 rfl rfl ?_
  refine q_aload_n hJ dX0_begin_31 (q := 32) rfl rfl (by first | rfl | exact isR_rr _) ?_
  refine q_sipush hJ (v := (-1006)) dX0_begin_32 (q := 35) rfl (by decide) ?_
  refine q_putI hJ dX0_begin_35 (q := 38) rfl fl_X0_121 rfl rfl hk1 rfl rfl ?_
  refine q_vret hM dX0_begin_38 rfl ?_
  exact ⟨rfl, rfl, rfl, rfl⟩

set_option maxRecDepth 100000 in
set_option maxHeartbeats 400000 in
theorem S_report (w : Int32) (I : MI) (R : MR) : Sp 0 0 0 mX0_report [.ref 1, .int w] g0 I R (Rt (some (.int (if w = 0 then I 1 6 else if w = 1 then I 1 7 else if w = 2 then I 1 3 else if w = 3 then I 1 4 else I 1 5))) g0 I R) := by
  have hk1 := ka1
  refine Sp.on (by decide +kernel) rfl rfl (fun J hM => ?_)
  have hJ := hM.ok
  refine q_iload_n hJ dX0_report_0 (q := 1) rfl rfl ?_
  by_cases k1_0 : w = 0
  · refine q_tswIn hJ (off := 31) (tgt := 32) dX0_report_1 (by rw [k1_0]; decide) (by rw [k1_0]; decide) (by rw [k1_0]; decide) (by decide) ?_
    refine q_aload_n hJ dX0_report_32 (q := 33) rfl rfl (by first | rfl | exact isR_rr _) ?_
    refine q_getI hJ dX0_report_33 (q := 36) rfl fl_X0_96 rfl (by assumption) rfl ?_
    refine q_iret hM dX0_report_36 rfl rfl ?_
    exact ⟨by simp [*], rfl, rfl, rfl⟩
  by_cases k1_1 : w = 1
  · refine q_tswIn hJ (off := 36) (tgt := 37) dX0_report_1 (by rw [k1_1]; decide) (by rw [k1_1]; decide) (by rw [k1_1]; decide) (by decide) ?_
    refine q_aload_n hJ dX0_report_37 (q := 38) rfl rfl (by first | rfl | exact isR_rr _) ?_
    refine q_getI hJ dX0_report_38 (q := 41) rfl fl_X0_121 rfl (by assumption) rfl ?_
    refine q_iret hM dX0_report_41 rfl rfl ?_
    exact ⟨by simp [*], rfl, rfl, rfl⟩
  by_cases k1_2 : w = 2
  · refine q_tswIn hJ (off := 41) (tgt := 42) dX0_report_1 (by rw [k1_2]; decide) (by rw [k1_2]; decide) (by rw [k1_2]; decide) (by decide) ?_
    refine q_aload_n hJ dX0_report_42 (q := 43) rfl rfl (by first | rfl | exact isR_rr _) ?_
    refine q_getI hJ dX0_report_43 (q := 46) rfl fl_X0_106 rfl (by assumption) rfl ?_
    refine q_iret hM dX0_report_46 rfl rfl ?_
    exact ⟨by simp [*], rfl, rfl, rfl⟩
  by_cases k1_3 : w = 3
  · refine q_tswIn hJ (off := 46) (tgt := 47) dX0_report_1 (by rw [k1_3]; decide) (by rw [k1_3]; decide) (by rw [k1_3]; decide) (by decide) ?_
    refine q_aload_n hJ dX0_report_47 (q := 48) rfl rfl (by first | rfl | exact isR_rr _) ?_
    refine q_getI hJ dX0_report_48 (q := 51) rfl fl_X0_110 rfl (by assumption) rfl ?_
    refine q_iret hM dX0_report_51 rfl rfl ?_
    exact ⟨by simp [*], rfl, rfl, rfl⟩
  refine q_tswOut hJ (tgt := 52) dX0_report_1 (tsw_out4 k1_0 k1_1 k1_2 k1_3) (by decide) ?_
  refine q_aload_n hJ dX0_report_52 (q := 53) rfl rfl (by first | rfl | exact isR_rr _) ?_
  refine q_getI hJ dX0_report_53 (q := 56) rfl fl_X0_114 rfl (by assumption) rfl ?_
  refine q_iret hM dX0_report_56 rfl rfl ?_
  exact ⟨by simp [*], rfl, rfl, rfl⟩

