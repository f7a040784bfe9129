/-! THE RUN OF A STATEMENT: what stays, and the cells -/
def Stb (X X' : XS) : Prop := (∀ r f, f ≠ 11 → aU (xA X') r f = aU (xA X) r f) ∧ aM (xA X') = aM (xA X) ∧ aS (xA X') = aS (xA X)
theorem Stb.rf (X : XS) : Stb X X := ⟨fun _ _ _ => rfl, rfl, rfl⟩
theorem Stb.trans {X Y Z : XS} (h1 : Stb X Y) (h2 : Stb Y Z) : Stb X Z := ⟨fun r f hf => (h2.1 r f hf).trans (h1.1 r f hf), h2.2.1.trans h1.2.1, h2.2.2.trans h1.2.2⟩
def SubS (sub : SubT) : Prop := ∀ f, sub = some f → ∀ ev r img X, Stb X (f ev r img X) ∧ (xO X ≤ 100 → xO (f ev r img X) ≤ 100)
theorem rec_U (A : AS) (r d k : Int32) : aU (recA A r d k) = aU A ∧ aM (recA A r d k) = aM A ∧ aS (recA A r d k) = aS A ∧ aK (recA A r d k) = aK A ∧ aN (recA A r d k) = aN A := by
  unfold recA
  split <;> exact ⟨rfl, rfl, rfl, rfl, rfl⟩
theorem cnt_U (d r : Nat) (img : Nat → Int32) (X : XS) : aU (xA (cntA d r img X)) = up2 (aU (xA X)) r 11 (aU (xA X) r 11 + 1) := (rec_U _ _ _ _).1
theorem cnt_stb (d r : Nat) (img : Nat → Int32) (X : XS) : Stb X (cntA d r img X) := by
  refine ⟨fun q f hf => ?_, (rec_U _ _ _ _).2.1, (rec_U _ _ _ _).2.2.1⟩
  rw [cnt_U, up2_app, if_neg (fun z => hf z.2)]
theorem cnt_O (d r : Nat) (img : Nat → Int32) (X : XS) : xO (cntA d r img X) = xO X := rfl
theorem cause_stb {sub : SubT} (hs : SubS sub) (d r : Nat) (img : Nat → Int32) (X : XS) : Stb X (causeA sub d r img X) ∧ (xO X ≤ 100 → xO (causeA sub d r img X) ≤ 100) := by
  unfold causeA
  split
  · exact ⟨Stb.rf X, fun h => h⟩
  · rename_i f
    split
    · exact ⟨Stb.rf X, fun h => h⟩
    · split
      · exact ⟨Stb.rf X, fun h => h⟩
      · exact hs f rfl _ _ _ _
theorem fire_stb {sub : SubT} (hs : SubS sub) (d r : Nat) (img : Nat → Int32) (X : XS) : Stb X (fireA sub d r img X).2.2 ∧ (xO X ≤ 100 → xO (fireA sub d r img X).2.2 ≤ 100) := by
  unfold fireA
  split
  · exact ⟨cnt_stb _ _ _ _, fun h => h⟩
  · split
    · exact ⟨cnt_stb _ _ _ _, fun h => h⟩
    · split
      · exact ⟨cnt_stb _ _ _ _, fun h => h⟩
      · have h := cause_stb hs d r img (cntA d r img X)
        exact ⟨(cnt_stb _ _ _ _).trans h.1, fun z => h.2 z⟩
theorem fld_stb {sub : SubT} (hs : SubS sub) (d : Nat) (cs : List Nat) (ev mo : Int32) (od : Nat → Nat) (j k : Nat) (img : Nat → Int32) (X : XS) : Stb X (fldA sub d cs ev mo od j k img X).2.2 ∧ (xO X ≤ 100 → xO (fldA sub d cs ev mo od j k img X).2.2 ≤ 100) := by
  induction k generalizing j img X with
  | zero => exact ⟨Stb.rf X, fun h => h⟩
  | succ k ih =>
    unfold fldA
    split
    · have h := fire_stb hs d (od j) img X
      split
      · have h2 := ih (j + 1) (fireA sub d (od j) img X).2.1 (fireA sub d (od j) img X).2.2
        exact ⟨h.1.trans h2.1, fun z => h2.2 (h.2 z)⟩
      · exact h
    · exact ih _ _ _
theorem car_U (ev : Int32) (img : Nat → Int32) (A : AS) : aU (carA ev img A) = aU A ∧ aM (carA ev img A) = aM A ∧ aS (carA ev img A) = aS A ∧ aC (carA ev img A) = aC A ∧ aR (carA ev img A) = aR A := by
  unfold carA
  split
  · split <;> exact ⟨rfl, rfl, rfl, rfl, rfl⟩
  · split
    · split <;> exact ⟨rfl, rfl, rfl, rfl, rfl⟩
    · split <;> exact ⟨rfl, rfl, rfl, rfl, rfl⟩
theorem opB_stb {sub : SubT} (hs : SubS sub) (d : Nat) (cs : List Nat) (ev cause : Int32) (img : Nat → Int32) (X : XS) : Stb X (opB sub d cs ev cause img X) ∧ (xO X ≤ 100 → xO (opB sub d cs ev cause img X) ≤ 100) := by
  unfold opB
  split
  · exact ⟨Stb.rf X, fun h => h⟩
  · rename_i h100
    have h0 := fld_stb hs d cs ev 0 (odA (xA X)) 0 (aM (xA X)) img (begA d X)
    have hb : Stb X (begA d X) := Stb.rf X
    have hbO : xO (begA d X) ≤ 100 := by show xO X + 1 ≤ 100; omega
    split
    · generalize hF : fldA sub d cs ev 0 (odA (xA X)) 0 (aM (xA X)) img (begA d X) = F at h0 ⊢
      have hc := car_U ev F.2.1 (xA F.2.2)
      have h1 := fld_stb hs d cs ev 1 (odA (xA X)) 0 (aM (xA X)) F.2.1 ((carA ev F.2.1 (xA F.2.2), F.2.2.2) : XS)
      have hm : Stb F.2.2 ((carA ev F.2.1 (xA F.2.2), F.2.2.2) : XS) := ⟨fun r f hf => by show aU (carA ev F.2.1 (xA F.2.2)) r f = _; rw [hc.1], hc.2.1, hc.2.2.1⟩
      exact ⟨((hb.trans h0.1).trans hm).trans h1.1, fun _ => h1.2 (h0.2 hbO)⟩
    · exact ⟨hb.trans h0.1, fun _ => h0.2 hbO⟩
theorem opA_stb (lv : Nat) : ∀ (cs : List Nat) (ev cause : Int32) (img : Nat → Int32) (X : XS), Stb X (opA lv cs ev cause img X) ∧ (xO X ≤ 100 → xO (opA lv cs ev cause img X) ≤ 100) := by
  induction lv with
  | zero =>
    intro cs ev cause img X
    exact opB_stb (sub := none) (fun f h => by cases h) 8 cs ev cause img X
  | succ lv ih =>
    intro cs ev cause img X
    exact opB_stb (sub := some (fun ev2 r img2 X2 => opA lv (r :: cs) ev2 (nI r) img2 X2)) (fun f h ev2 r img2 X2 => by cases h; exact ih _ _ _ _ _) (7 - lv) cs ev cause img X
theorem odA_stb {X X' : XS} (h : Stb X X') : odA (xA X') = odA (xA X) := by
  unfold odA
  have e : rkF (aU (xA X')) = rkF (aU (xA X)) := by
    funext r
    exact h.1 r 2 (by decide)
  rw [e, h.2.1]
/-! the cells of a run -/
def Lv (I : MI) : Prop := ∀ d, 1 ≤ d → d ≤ 8 → I (61 - 2 * d) 0 = nI d
def FlG (I : MI) (G : Int32) (cs : List Nat) : Prop := G = 1 → ∀ r, r < 12 → I 44 r = if r ∈ cs then 1 else 0
def FlP (I I' : MI) (G : Int32) : Prop := (∀ r, I' 44 r = I 44 r ∨ I' 44 r = 0) ∧ (G = 1 → ∀ r, r < 12 → I' 44 r = I 44 r)
def FrE (hi : Nat) (I I' : MI) : Prop := ∀ a, a = 0 ∨ (45 ≤ a ∧ (a % 2 = 1 ∨ hi < a)) → I' a = I a
theorem FrE.trans {hi : Nat} {I I' I2 : MI} (h1 : FrE hi I I') (h2 : FrE hi I' I2) : FrE hi I I2 := fun a h => (h2 a h).trans (h1 a h)
theorem FrE.wide {hi h2 : Nat} {I I' : MI} (h : FrE hi I I') (hh : hi ≤ h2) : FrE h2 I I' := fun a ha => h a (by omega)
theorem FrE.rf (hi : Nat) (I : MI) : FrE hi I I := fun _ _ => rfl
theorem FlP.rf (I : MI) (G : Int32) : FlP I I G := ⟨fun _ => Or.inl rfl, fun _ _ _ => rfl⟩
theorem FlP.same {I I' : MI} {G : Int32} (h : I' 44 = I 44) : FlP I I' G := ⟨fun r => Or.inl (congrFun h r), fun _ r _ => congrFun h r⟩
theorem FlP.trans {I I' I2 : MI} {G : Int32} (h1 : FlP I I' G) (h2 : FlP I' I2 G) : FlP I I2 G :=
  ⟨fun r => by
    rcases h2.1 r with h | h
    · rcases h1.1 r with q | q
      · exact Or.inl (h.trans q)
      · exact Or.inr (h.trans q)
    · exact Or.inr h, fun g r hr => (h2.2 g r hr).trans (h1.2 g r hr)⟩
theorem FlG.keep {I I' : MI} {G : Int32} {cs : List Nat} (h : FlG I G cs) (hp : FlP I I' G) : FlG I' G cs := fun g r hr => (hp.2 g r hr).trans (h g r hr)
theorem Lv.keep {hi : Nat} {I I' : MI} (h : Lv I) (hf : FrE hi I I') : Lv I' := fun d h1 h8 => by rw [hf _ (Or.inr ⟨by omega, Or.inl (by omega)⟩)]; exact h d h1 h8
def OpPo (Q : Nat → Nat) (I : MI) (R : MR) (hi : Nat) (G : Int32) (X' : XS) : Po := fun r g' I' R' => r = none ∧ g0 = g' ∧ EX Q I' R' X' ∧ FrE hi I I' ∧ Out R R' 4 5 ∧ FR R' ∧ FlP I I' G
theorem EX.ref {Q : Nat → Nat} {I : MI} {R : MR} {X : XS} (h : EX Q I R X) (y w : Int32) : EX Q (up2 (up2 I 1 6 y) 1 7 w) R (refA X y w) := by
  obtain ⟨h1, h2, h3, h4, h5, h6, h7, h8, h9⟩ := h
  have ag : Agr I (up2 (up2 I 1 6 y) 1 7 w) 2 44 := fun a q1 q2 => by rw [up2_other _ _ _ _ (by omega), up2_other _ _ _ _ (by omega)]
  exact ⟨h1.agr (fun a q1 q2 => ag a (by omega) (by omega)), h2.agr (fun a q1 q2 => ag a (by omega) (by omega)) (Agr.rf _ _ _), h3.agr (fun a q1 q2 => ag a (by omega) (by omega)) (Agr.rf _ _ _), h4.agr (fun a q1 q2 => ag a (by omega) (by omega)), by show _ = nI (xO X); simp [up2_app, h5], by show _ = xF X; simp [up2_app, h6], by show _ = xD X; simp [up2_app, h7], by simp [up2_app, refA], by simp [up2_app, refA]⟩
theorem FrE.up {hi : Nat} {I I' : MI} (h : FrE hi I I') {a k : Nat} {v : Int32} (ha : 1 ≤ a ∧ a < 45 ∨ (a % 2 = 0 ∧ a ≤ hi ∧ 0 < a)) : FrE hi I (up2 I' a k v) := fun c hc => by
  rw [up2_other _ _ _ _ (by omega)]
  exact h c hc
theorem Q_in {Q : Nat → Nat} {I : MI} {R : MR} {U : Nat → Nat → Int32} {m r : Nat} (h : RulQ I R 2 Q U m) (hr : r < 12) : 28 ≤ Q r ∧ Q r < 40 := by
  have := h.1.2.2 r hr
  omega
theorem EX.cnt {Q : Nat → Nat} {I : MI} {R : MR} {X : XS} (h : EX Q I R X) (d r : Nat) (img : Nat → Int32) (hr : r < aM (xA X)) : EX Q (addL (up2 (up2 I 1 4 (xF X + 1)) (Q r) 11 (aU (xA X) r 11 + 1)) 2 (aR (xA X)) (nI r) (nI d) (img 0)) R (cntA d r img X) := by
  obtain ⟨h1, h2, h3, h4, h5, h6, h7, h8, h9⟩ := h
  have hm := h3.1.2.1
  have hq := Q_in h3 (r := r) (by omega)
  have hadd : ∀ a, (a < 40 ∨ 44 ≤ a) → addL (up2 (up2 I 1 4 (xF X + 1)) (Q r) 11 (aU (xA X) r 11 + 1)) 2 (aR (xA X)) (nI r) (nI d) (img 0) a = up2 (up2 I 1 4 (xF X + 1)) (Q r) 11 (aU (xA X) r 11 + 1) a := by
    intro a ha
    unfold addL
    split
    · rw [up2_other _ _ _ _ (by omega), up2_other _ _ _ _ (by omega), up2_other _ _ _ _ (by omega), up2_other _ _ _ _ (by omega)]
    · rfl
  have hlow : ∀ a, 2 ≤ a → a < 28 → addL (up2 (up2 I 1 4 (xF X + 1)) (Q r) 11 (aU (xA X) r 11 + 1)) 2 (aR (xA X)) (nI r) (nI d) (img 0) a = I a := fun a q1 q2 => by
    rw [hadd a (by omega), up2_other _ _ _ _ (by omega), up2_other _ _ _ _ (by omega)]
  have hone : ∀ k, addL (up2 (up2 I 1 4 (xF X + 1)) (Q r) 11 (aU (xA X) r 11 + 1)) 2 (aR (xA X)) (nI r) (nI d) (img 0) 1 k = up2 I 1 4 (xF X + 1) 1 k := fun k => by
    rw [hadd 1 (by omega), up2_other _ _ _ _ (by omega)]
  obtain ⟨eU, eM, eS, eK, eN⟩ := rec_U (setU (xA X) (up2 (aU (xA X)) r 11 (aU (xA X) r 11 + 1))) (nI r) (nI d) (img 0)
  refine ⟨?_, ?_, ⟨⟨?_, ?_, ?_⟩, fun j hj f hf => ?_, fun j hj => ?_⟩, ?_, ?_, ?_, ?_, ?_, ?_⟩
  · show SetC _ 2 (aS (recA _ _ _ _))
    rw [eS]
    exact h1.agr (fun a q1 q2 => hlow a (by omega) (by omega))
  · show TabC _ R 2 (aK (recA _ _ _ _)) (aN (recA _ _ _ _))
    rw [eK, eN]
    exact h2.agr (fun a q1 q2 => hlow a (by omega) (by omega)) (Agr.rf _ _ _)
  · show _ = nI (aM (recA _ _ _ _))
    rw [eM, hlow _ (by omega) (by omega)]
    exact h3.1.1
  · show aM (recA _ _ _ _) ≤ 12
    rw [eM]
    exact hm
  · exact h3.1.2.2
  · have hj2 : j < aM (xA X) := by have hj' : j < aM (recA _ _ _ _) := hj; rw [eM] at hj'; exact hj'
    have hqj := Q_in h3 (r := j) (Nat.lt_of_lt_of_le hj2 hm)
    show _ = aU (recA _ _ _ _) j f
    rw [eU, hadd _ (by omega)]
    have hj12 : j < 12 := Nat.lt_of_lt_of_le hj2 hm
    have hr12 : r < 12 := Nat.lt_of_lt_of_le hr hm
    have e1 : up2 I 1 4 (xF X + 1) (Q j) f = aU (xA X) j f := by rw [up2_other _ _ _ _ (by omega)]; exact h3.2.1 j hj2 f hf
    have e2 : (Q j = Q r ∧ f = 11) ↔ (j = r ∧ f = 11) := ⟨fun z => ⟨(h3.1.2.2 r hr12).2.2.2 j hj12 z.1, z.2⟩, fun z => ⟨by rw [z.1], z.2⟩⟩
    show (if Q j = Q r ∧ f = 11 then _ else up2 I 1 4 (xF X + 1) (Q j) f) = (if j = r ∧ f = 11 then _ else aU (xA X) j f)
    by_cases hz : j = r ∧ f = 11
    · rw [if_pos hz, if_pos (e2.mpr hz)]
    · rw [if_neg hz, if_neg (fun z => hz (e2.mp z)), e1]
  · have hj2 : j < aM (xA X) := by have hj' : j < aM (recA _ _ _ _) := hj; rw [eM] at hj'; exact hj'
    show _ = nI (osrt (rkF (aU (recA _ _ _ _))) (aM (recA _ _ _ _)) j)
    have ek : rkF (up2 (aU (xA X)) r 11 (aU (xA X) r 11 + 1)) = rkF (aU (xA X)) := by funext q; simp [rkF, up2_app]
    rw [eU, eM, hlow _ (by omega) (by omega)]
    show _ = nI (osrt (rkF (up2 _ _ _ _)) _ j)
    rw [ek]
    exact h3.2.2 j hj2
  · obtain ⟨g1, g2, g3⟩ := h4
    show LogC _ 2 (aC (recA _ _ _ _)) (aR (recA _ _ _ _))
    unfold recA addL
    by_cases hl : aR (xA X) < 60
    · have hl2 : aR (setU (xA X) (up2 (aU (xA X)) r 11 (aU (xA X) r 11 + 1))) < 60 := hl
      rw [if_pos hl2, if_pos hl]
      refine ⟨by simp [up2_app]; rfl, by show aR (xA X) + 1 ≤ 60; omega, fun i hi w hw => ?_⟩
      have hi2 : i < aR (xA X) + 1 := hi
      have ew : ∀ (w : Nat), w < 3 → up2 (up2 I 1 4 (xF X + 1)) (Q r) 11 (aU (xA X) r 11 + 1) (2 + 39 + w) i = I (2 + 39 + w) i := fun w _ => by rw [up2_other _ _ _ _ (by omega), up2_other _ _ _ _ (by omega)]
      show _ = (if i = aR (xA X) then (if w = 0 then nI r else if w = 1 then nI d else img 0) else aC (xA X) i w)
      rcases (show w = 0 ∨ w = 1 ∨ w = 2 by omega) with rfl | rfl | rfl
      · by_cases e : i = aR (xA X)
        · simp [up2_app, e]
        · have e0 := ew 0 (by omega)
          simp only [up2_app, e, if_false, and_false] at e0 ⊢
          simpa [e] using e0.trans (g3 i (by omega) 0 (by omega))
      · by_cases e : i = aR (xA X)
        · simp [up2_app, e]
        · have e0 := ew 1 (by omega)
          simp only [up2_app, e, if_false, and_false] at e0 ⊢
          simpa [e] using e0.trans (g3 i (by omega) 1 (by omega))
      · by_cases e : i = aR (xA X)
        · simp [up2_app, e]
        · have e0 := ew 2 (by omega)
          simp only [up2_app, e, if_false, and_false] at e0 ⊢
          simpa [e] using e0.trans (g3 i (by omega) 2 (by omega))
    · have hl2 : ¬ aR (setU (xA X) (up2 (aU (xA X)) r 11 (aU (xA X) r 11 + 1))) < 60 := hl
      rw [if_neg hl2, if_neg hl]
      exact LogC.agr ⟨g1, g2, g3⟩ (fun a q1 q2 => by rw [up2_other _ _ _ _ (by omega), up2_other _ _ _ _ (by omega)])
  · rw [hone]; simp [up2_app, h5]; rfl
  · rw [hone]; simp [up2_app]; rfl
  · rw [hone]; simp [up2_app, h7]; rfl
  · rw [hone]; simp [up2_app, h8]; rfl
  · rw [hone]; simp [up2_app, h9]; rfl
theorem rmOK {d d' mL : Nat} (hd : d' + 1 ≤ d) (hm : mL ≤ 21) : d' + 1 ≤ (rmD d 0 0).frames ∧ 8 + (mL + 11) + 40 * d' ≤ (rmD d 0 0).locals :=
  ⟨hd, by show 8 + (mL + 11) + 40 * d' ≤ 40 * d; omega⟩
