/-! ANOTHER GREATEST DEPTH: the same run, or refused -/
def dpX (j : Nat) (X : XS) : XS := (dpA (xA X) j, X.2)
theorem dp_cnt (j d r : Nat) (img : Nat → Int32) (X : XS) : cntA d r img (dpX j X) = dpX j (cntA d r img X) := by
  have e1 : xA (cntA d r img (dpX j X)) = recA (setU (dpA (xA X) j) (up2 (aU (xA X)) r 11 (aU (xA X) r 11 + 1))) (nI r) (nI d) (img 0) := rfl
  have e2 : xA (cntA d r img X) = recA (setU (xA X) (up2 (aU (xA X)) r 11 (aU (xA X) r 11 + 1))) (nI r) (nI d) (img 0) := rfl
  refine Prod.ext ?_ rfl
  show xA (cntA d r img (dpX j X)) = dpA (xA (cntA d r img X)) j
  rw [e1, e2]
  by_cases h : aR (xA X) < 60
  · have h1 : aR (setU (dpA (xA X) j) (up2 (aU (xA X)) r 11 (aU (xA X) r 11 + 1))) < 60 := h
    have h2 : aR (setU (xA X) (up2 (aU (xA X)) r 11 (aU (xA X) r 11 + 1))) < 60 := h
    rw [recA, recA, if_pos h1, if_pos h2]
    rfl
  · have h1 : ¬ aR (setU (dpA (xA X) j) (up2 (aU (xA X)) r 11 (aU (xA X) r 11 + 1))) < 60 := h
    have h2 : ¬ aR (setU (xA X) (up2 (aU (xA X)) r 11 (aU (xA X) r 11 + 1))) < 60 := h
    rw [recA, recA, if_neg h1, if_neg h2]
    rfl
theorem dp_ref (j : Nat) (X : XS) (y w : Int32) : refA (dpX j X) y w = dpX j (refA X y w) := rfl
theorem dp_beg (j d : Nat) (X : XS) : begA d (dpX j X) = dpX j (begA d X) := rfl
theorem dp_hit (j : Nat) (X : XS) (cs : List Nat) (ev mo : Int32) (r : Nat) (img : Nat → Int32) : hitA (dpX j X) cs ev mo r img = hitA X cs ev mo r img := rfl
theorem dp_prep (A : AS) (j : Nat) (u img : Nat → Int32) : prepA (dpA A j) u img = prepA A u img := rfl
theorem dp_car (A : AS) (j : Nat) (ev : Int32) (img : Nat → Int32) : carA ev img (dpA A j) = dpA (carA ev img A) j := by
  have eN : aN (dpA A j) = aN A := rfl
  have eF : fK (dpA A j) (img 0) = fK A (img 0) := rfl
  unfold carA
  by_cases h0 : ev = 0
  · rw [if_pos h0, if_pos h0, eN]
    by_cases hn : aN A < 20
    · rw [if_pos hn, if_pos hn]; rfl
    · rw [if_neg hn, if_neg hn]
  · rw [if_neg h0, if_neg h0, eF]
    rcases fK A (img 0) with _ | i
    · by_cases h1 : ev = 1
      · rw [if_pos h1, if_pos h1]
      · rw [if_neg h1, if_neg h1]
    · by_cases h1 : ev = 1
      · rw [if_pos h1, if_pos h1]; rfl
      · rw [if_neg h1, if_neg h1]; rfl
def DpO (G j : Nat) (F : Int32 → Int32 → (Nat → Int32) → XS → XS) : Prop := ∀ (ev ca : Int32) (img : Nat → Int32) (X : XS), aS (xA X) 0 = nI G → F ev ca img (dpX j X) = dpX j (F ev ca img X) ∨ ¬ xR (F ev ca img (dpX j X)) = 0
def DpS (G j d : Nat) (sub : SubT) : Prop := sub = none ∨ ∃ F, sub = some F ∧ SubS (some F) ∧ ∀ (ev : Int32) (r : Nat) (img : Nat → Int32) (X : XS), aS (xA X) 0 = nI G → F ev r img (dpX j X) = dpX j (F ev r img X) ∨ ¬ xR (F ev r img (dpX j X)) = 0
theorem cause_dp {G j d r : Nat} {sub : SubT} {img : Nat → Int32} {X : XS} (hj : j ≤ G) (h8 : G ≤ 8) (hd : d ≤ 8) (hs : DpS G j d sub) (hG : aS (xA X) 0 = nI G) : causeA sub d r img (dpX j X) = dpX j (causeA sub d r img X) ∨ ¬ xR (causeA sub d r img (dpX j X)) = 0 := by
  rcases hs with rfl | ⟨F, rfl, _, hF⟩
  · exact Or.inl rfl
  · unfold causeA
    simp only
    have ej : aS (xA (dpX j X)) 0 = nI j := rfl
    have ep : prepA (xA (dpX j X)) (aU (xA (dpX j X)) r) img = prepA (xA X) (aU (xA X) r) img := rfl
    rw [ej, ep, hG]
    by_cases h1 : nI j ≤ nI d
    · rw [if_pos h1]
      exact Or.inr (by show ¬ (2 : Int32) = 0; decide)
    · have h2 : ¬ nI G ≤ nI d := fun z => h1 ((nI_leI (by omega) (by omega)).mpr (Nat.le_trans hj ((nI_leI (by omega) (by omega)).mp z)))
      rw [if_neg h1, if_neg h2]
      rcases prepA (xA X) (aU (xA X) r) img with _ | img2
      · exact Or.inl rfl
      · exact hF _ r img2 X hG
theorem fire_dp {G j d r : Nat} {sub : SubT} {img : Nat → Int32} {X : XS} (hj : j ≤ G) (h8 : G ≤ 8) (hd : d ≤ 8) (hs : DpS G j d sub) (hG : aS (xA X) 0 = nI G) : fireA sub d r img (dpX j X) = ((fireA sub d r img X).1, (fireA sub d r img X).2.1, dpX j (fireA sub d r img X).2.2) ∨ ((fireA sub d r img (dpX j X)).1 = false ∧ ¬ xR (fireA sub d r img (dpX j X)).2.2 = 0) := by
  have eU : aU (xA (dpX j X)) r = aU (xA X) r := rfl
  have hc : aS (xA (cntA d r img X)) 0 = nI G := by rw [(cnt_stb d r img X).2.2]; exact hG
  have key := cause_dp (r := r) (img := img) hj h8 hd hs hc
  unfold fireA
  rw [eU, dp_cnt]
  by_cases k0 : aU (xA X) r 3 = 0
  · rw [if_pos k0, if_pos k0]; exact Or.inl rfl
  · rw [if_neg k0, if_neg k0]
    by_cases k1 : aU (xA X) r 3 = 1
    · rw [if_pos k1, if_pos k1]; exact Or.inl rfl
    · rw [if_neg k1, if_neg k1]
      by_cases k2 : aU (xA X) r 3 = 2
      · rw [if_pos k2, if_pos k2]; exact Or.inl rfl
      · rw [if_neg k2, if_neg k2]
        rcases key with h | h
        · rw [h]; exact Or.inl rfl
        · exact Or.inr ⟨decide_eq_false h, h⟩
theorem fld_dp {G j d : Nat} {sub : SubT} {cs : List Nat} {ev mo : Int32} {od : Nat → Nat} (hj : j ≤ G) (h8 : G ≤ 8) (hd : d ≤ 8) (hss : SubS sub) (hs : DpS G j d sub) : ∀ (k p : Nat) (img : Nat → Int32) (X : XS), aS (xA X) 0 = nI G → fldA sub d cs ev mo od p k img (dpX j X) = ((fldA sub d cs ev mo od p k img X).1, (fldA sub d cs ev mo od p k img X).2.1, dpX j (fldA sub d cs ev mo od p k img X).2.2) ∨ ((fldA sub d cs ev mo od p k img (dpX j X)).1 = false ∧ ¬ xR (fldA sub d cs ev mo od p k img (dpX j X)).2.2 = 0) := by
  intro k
  induction k with
  | zero => exact fun p img X _ => Or.inl rfl
  | succ k ih =>
    intro p img X hG
    unfold fldA
    rw [dp_hit]
    by_cases hh : hitA X cs ev mo (od p) img = true
    · rw [if_pos hh, if_pos hh]
      have hst := fire_stb hss d (od p) img X
      rcases fire_dp (r := od p) (img := img) hj h8 hd hs hG with h | ⟨h, h2⟩
      · rw [h]
        by_cases ht : (fireA sub d (od p) img X).1 = true
        · rw [if_pos ht, if_pos ht]
          exact ih (p + 1) _ _ (by rw [hst.1.2.2]; exact hG)
        · rw [if_neg ht, if_neg ht]
          exact Or.inl rfl
      · rw [if_neg (by rw [h]; decide)]
        exact Or.inr ⟨h, h2⟩
    · rw [if_neg hh, if_neg hh]
      exact ih (p + 1) img X hG
theorem opC_dp {G j d : Nat} {sub : SubT} {cs : List Nat} {ev : Int32} {img : Nat → Int32} {X Y : XS} (hj : j ≤ G) (h8 : G ≤ 8) (hd : d ≤ 8) (hss : SubS sub) (hs : DpS G j d sub) (hG : aS (xA Y) 0 = nI G) : opC sub d cs ev img (dpX j X) (dpX j Y) = dpX j (opC sub d cs ev img X Y) ∨ ¬ xR (opC sub d cs ev img (dpX j X) (dpX j Y)) = 0 := by
  have eo : odA (xA (dpX j X)) = odA (xA X) := rfl
  have eM : aM (xA (dpX j X)) = aM (xA X) := rfl
  have h0 := fld_stb hss d cs ev 0 (odA (xA X)) 0 (aM (xA X)) img Y
  have k0 := fld_dp (cs := cs) (ev := ev) (mo := 0) (od := odA (xA X)) hj h8 hd hss hs (aM (xA X)) 0 img Y hG
  unfold opC
  rw [eo, eM]
  rcases k0 with h | ⟨h, h2⟩
  · rw [h]
    generalize fldA sub d cs ev 0 (odA (xA X)) 0 (aM (xA X)) img Y = F at *
    by_cases ht : F.1 = true
    · rw [if_pos ht, if_pos ht]
      have hc := car_U ev F.2.1 (xA F.2.2)
      have e : ((carA ev F.2.1 (xA (dpX j F.2.2)), (dpX j F.2.2).2) : XS) = dpX j ((carA ev F.2.1 (xA F.2.2), F.2.2.2) : XS) := by
        refine Prod.ext ?_ rfl
        exact dp_car _ _ _ _
      have k1 := fld_dp (cs := cs) (ev := ev) (mo := 1) (od := odA (xA X)) hj h8 hd hss hs (aM (xA X)) 0 F.2.1 ((carA ev F.2.1 (xA F.2.2), F.2.2.2) : XS) (by show aS (carA ev F.2.1 (xA F.2.2)) 0 = nI G; rw [hc.2.2.1, h0.1.2.2]; exact hG)
      rw [← e] at k1
      rcases k1 with k | ⟨k, k2⟩
      · exact Or.inl (by rw [k])
      · exact Or.inr k2
    · rw [if_neg ht, if_neg ht]
      exact Or.inl rfl
  · rw [if_neg (by rw [h]; decide)]
    exact Or.inr h2
theorem opB_dp {G j d : Nat} {sub : SubT} {cs : List Nat} (hj : j ≤ G) (h8 : G ≤ 8) (hd : d ≤ 8) (hss : SubS sub) (hs : DpS G j d sub) : DpO G j (fun ev ca img X => opB sub d cs ev ca img X) := by
  intro ev ca img X hG
  show opB sub d cs ev ca img (dpX j X) = dpX j (opB sub d cs ev ca img X) ∨ ¬ xR (opB sub d cs ev ca img (dpX j X)) = 0
  rw [opB_C, opB_C]
  have eO : xO (dpX j X) = xO X := rfl
  rw [eO]
  by_cases h : 100 ≤ xO X
  · rw [if_pos h, if_pos h]; exact Or.inl rfl
  · rw [if_neg h, if_neg h, dp_beg]
    exact opC_dp hj h8 hd hss hs hG
theorem subS_opA (lv : Nat) (cs : List Nat) : SubS (some (fun ev2 r img2 X2 => opA lv (r :: cs) ev2 (nI r) img2 X2)) := fun F h ev r img X => by
  cases h
  exact opA_stb lv _ _ _ _ _
theorem opA_dp {G j : Nat} (hj : j ≤ G) (h8 : G ≤ 8) (lv : Nat) : ∀ (cs : List Nat), lv ≤ 7 → DpO G j (fun ev ca img X => opA lv cs ev ca img X) := by
  induction lv with
  | zero => exact fun cs _ => opB_dp hj h8 (by decide) (fun F h => by cases h) (Or.inl rfl)
  | succ lv ih =>
    intro cs hl
    have key := opB_dp (cs := cs) (d := 7 - lv) hj h8 (by omega) (subS_opA lv cs) (Or.inr ⟨_, rfl, subS_opA lv cs, fun ev r img X hG => ih (r :: cs) (by omega) ev (nI r) img X hG⟩)
    exact fun ev ca img X hG => key ev ca img X hG
theorem XR_dp {A : AS} {G j : Nat} {ev : Int32} {img : Nat → Int32} (hj : j ≤ G) (h8 : G ≤ 8) (hG : aS A 0 = nI G) : XR ev img (dpA A j) = dpX j (XR ev img A) ∨ ¬ xR (XR ev img (dpA A j)) = 0 := opA_dp hj h8 7 [] (Nat.le_refl 7) ev (-1006) img (X0 A) hG
theorem dpA_same {A : AS} {G : Nat} (hG : aS A 0 = nI G) : dpA A G = A := by
  have e : (fun i => if i = 0 then nI G else aS A i) = aS A := by
    funext i
    by_cases h : i = 0
    · rw [if_pos h, h, hG]
    · rw [if_neg h]
  unfold dpA
  rw [e]
  rfl
theorem nI_ge0 {n : Nat} (h : n < 1000) {x : Int32} (hx : x < 0) : ¬ nI n = x := fun z => nI_pos (n := n) (by omega) (by rw [z]; exact hx)
/-- the least greatest depth, told of an update that isn't refused -/
theorem dpF_ok {A : AS} {k f v : Int32} {G : Nat} (hG : aS A 0 = nI G) (hr : xR (XR 1 (updI A k f v) A) = 0) (hO : xO (XR 1 (updI A k f v) A) ≤ 100) (n : Nat) : ∀ j, j ≤ G → G < n + j → ∃ i, j ≤ i ∧ i ≤ G ∧ dpF A k f v n j = nI i := by
  induction n with
  | zero => intro j h1 h2; omega
  | succ n ih =>
    intro j h1 h2
    by_cases e : runR (XR 1 (updI A k f v) (dpA A j)) = -1005
    · have hne : ¬ j = G := fun z => by
        rw [z, dpA_same hG, runR, if_pos hr] at e
        exact nI_ge0 (by omega) (by decide) e
      obtain ⟨i, i1, i2, i3⟩ := ih (j + 1) (by omega) (by omega)
      exact ⟨i, by omega, i2, by rw [dpF, if_pos e]; exact i3⟩
    · exact ⟨j, Nat.le_refl _, h1, by rw [dpF, if_neg e]⟩
theorem dpF_no {A : AS} {k f v : Int32} {G : Nat} (hG : aS A 0 = nI G) (h8 : G ≤ 8) (hr : ¬ xR (XR 1 (updI A k f v) A) = 0) (n : Nat) : ∀ j, n + j = 9 → dpF A k f v n j = -1006 ∨ ∃ i, G < i ∧ i ≤ 8 ∧ dpF A k f v n j = nI i := by
  induction n with
  | zero => exact fun j _ => Or.inl rfl
  | succ n ih =>
    intro j h
    by_cases e : runR (XR 1 (updI A k f v) (dpA A j)) = -1005
    · rw [dpF, if_pos e]
      exact ih (j + 1) (by omega)
    · rw [dpF, if_neg e]
      refine Or.inr ⟨j, ?_, by omega, rfl⟩
      refine Nat.lt_of_not_le fun hj => e ?_
      have hx : ¬ xR (XR 1 (updI A k f v) (dpA A j)) = 0 := by
        rcases XR_dp (ev := 1) (img := updI A k f v) hj h8 hG with h | h
        · rw [h]; exact hr
        · exact h
      rw [runR, if_neg hx]
