/-! WHAT HOLDS OF A RUN, second part: through cause, fire, the rules, operations -/
def Pst (A : AS) (G d dd f b : Nat) (X X' : XS) : Prop := ∃ f', RI A G d dd f' X' ∧ f ≤ f' ∧ xO X ≤ xO X' ∧ f' + 24 * xO X ≤ f + 24 * xO X' + b
theorem Pst.rf {A : AS} {G d dd f : Nat} {X : XS} (h : RI A G d dd f X) (b : Nat) : Pst A G d dd f b X X := ⟨f, h, Nat.le_refl _, Nat.le_refl _, by omega⟩
theorem Pst.weak {A : AS} {G d dd f b d' dd' : Nat} {X X' : XS} (h : Pst A G d dd f b X X') (h1 : d' ≤ d) (h2 : dd' ≤ dd) : Pst A G d' dd' f b X X' := by
  obtain ⟨f', a, b, c, e⟩ := h
  exact ⟨f', a.weak h1 h2, b, c, e⟩
def OpI (A : AS) (G d : Nat) (F : Int32 → Int32 → (Nat → Int32) → XS → XS) : Prop := ∀ (ev ca : Int32) (img : Nat → Int32) (X : XS) (f : Nat), RI A G d (d - 1) f X → xR X = 0 → ImG img → CanC (xA X) ev img → (100 ≤ xO X → ∃ r, r < aM A ∧ ca = nI r ∧ aU A r 10 = 1 ∧ Knd (aU A r) ∧ 0 < f) → Pst A G d (d - 1) f 0 X (F ev ca img X)
def SubI (A : AS) (G d : Nat) (sub : SubT) : Prop := (sub = none ∧ d = 8) ∨ ∃ F, sub = some F ∧ (d + 1 ≤ G → ∀ (r : Nat), OpI A G (d + 1) (fun ev _ img X => F ev r img X) ∨ (∃ H : Int32 → Int32 → (Nat → Int32) → XS → XS, OpI A G (d + 1) H ∧ ∀ ev img X, F ev r img X = H ev (nI r) img X))
theorem cause_I {A : AS} {G d f r : Nat} {sub : SubT} {img : Nat → Int32} {X : XS} (ok : okM A) (hG : aS A 0 = nI G) (h8 : G ≤ 8) (h1 : 1 ≤ d) (hd : d ≤ 8) (hs : ∃ H : Nat → Int32 → Int32 → (Nat → Int32) → XS → XS, (sub = none ∧ d = 8) ∨ (sub = some (fun ev r img X => H r ev (nI r) img X) ∧ (d + 1 ≤ G → ∀ r, OpI A G (d + 1) (H r)))) (h : RI A G (d + 1) d f X) (hz : xR X = 0) (hf : 0 < f) (hr : r < aM A) (hon : aU A r 10 = 1) (hk : Knd (aU A r)) (hi : ImG img) : Pst A G (d + 1) d f 0 X (causeA sub d r img X) := by
  obtain ⟨H, ⟨rfl, h8'⟩ | ⟨rfl, hsub⟩⟩ := hs
  · exact Pst.rf (h.ref hr hon hf (Or.inr (Or.inl ⟨rfl, hk, by omega⟩))) 0
  · unfold causeA
    simp only
    rw [h.S, hG]
    by_cases hg : nI G ≤ nI d
    · rw [if_pos hg]
      have hg2 : G ≤ d := (nI_leI (by omega) (by omega)).mp hg
      exact Pst.rf (h.ref hr hon hf (Or.inr (Or.inl ⟨rfl, hk, hg2⟩))) 0
    · rw [if_neg hg]
      have hg2 : ¬ G ≤ d := fun z => hg ((nI_leI (by omega) (by omega)).mpr z)
      rcases hp : prepA (xA X) (aU (xA X) r) img with _ | img2
      · exact Pst.rf h 0
      · have hk2 : Knd (aU (xA X) r) := by unfold Knd at hk ⊢; rw [h.rule r 3 (by decide)]; exact hk
        have hru := ok.2.1 r hr
        obtain ⟨c1, _, _⟩ := prep_can (h.ok ok) hk2 (by rw [h.rule r 4 (by decide)]; exact hru.2.1.1) hp
        exact hsub (by omega) r _ _ img2 X f h hz (prep_ImG h.2.1 hi hp) c1 (fun _ => ⟨r, hr, rfl, hon, hk, hf⟩)
theorem fire_I {A : AS} {G d f r : Nat} {sub : SubT} {img : Nat → Int32} {X : XS} (ok : okM A) (hG : aS A 0 = nI G) (h8 : G ≤ 8) (h1 : 1 ≤ d) (hd : d ≤ 8) (hs : ∃ H : Nat → Int32 → Int32 → (Nat → Int32) → XS → XS, (sub = none ∧ d = 8) ∨ (sub = some (fun ev r img X => H r ev (nI r) img X) ∧ (d + 1 ≤ G → ∀ r, OpI A G (d + 1) (H r)))) (h : RI A G d d f X) (hz : xR X = 0) (hr : r < aM A) (hon : aU A r 10 = 1) (hi : ImG img) : Pst A G d d f 1 X (fireA sub d r img X).2.2 ∧ ImG (fireA sub d r img X).2.1 ∧ ((fireA sub d r img X).1 = true → xR (fireA sub d r img X).2.2 = 0) := by
  have hc := h.cnt h1 hz hr hon hi
  have hru := ok.2.1 r hr
  have p1 : ∀ X2, RI A G d d (f + 1) X2 → xO X2 = xO X → Pst A G d d f 1 X X2 := fun X2 q1 q2 => ⟨f + 1, q1, by omega, by omega, by omega⟩
  unfold fireA
  by_cases k0 : aU (xA X) r 3 = 0
  · rw [if_pos k0]
    exact ⟨p1 _ (hc.weak (by omega) (by omega)) rfl, hi.chg _ (clamp_VI _), fun _ => hz⟩
  · rw [if_neg k0]
    by_cases k1 : aU (xA X) r 3 = 1
    · rw [if_pos k1]
      exact ⟨p1 _ ((hc.ref hr hon (by omega) (Or.inl ⟨rfl, by rw [← h.rule r 3 (by decide)]; exact k1⟩)).weak (by omega) (by omega)) rfl, hi, fun z => absurd z (by simp)⟩
    · rw [if_neg k1]
      by_cases k2 : aU (xA X) r 3 = 2
      · rw [if_pos k2]
        exact ⟨p1 _ (hc.weak (by omega) (by omega)) rfl, hi, fun z => absurd z (by simp)⟩
      · rw [if_neg k2]
        have hk : Knd (aU A r) := by
          have e := h.rule r 3 (by decide)
          rw [e] at k0 k1 k2
          rcases kind_cases hru with ⟨_, z | z | z⟩ | ⟨_, z | z | z | z⟩
          · exact absurd z k0
          · exact absurd z k1
          · exact absurd z k2
          · exact absurd z k1
          · exact Or.inl z
          · exact Or.inr (Or.inl z)
          · exact Or.inr (Or.inr z)
        obtain ⟨f', q1, q2, q3, q4⟩ := cause_I ok hG h8 h1 hd hs hc hz (by omega) hr hon hk hi
        have q3' : xO X ≤ xO (causeA sub d r img (cntA d r img X)) := q3
        have q4' : f' + 24 * xO X ≤ f + 1 + 24 * xO (causeA sub d r img (cntA d r img X)) + 0 := q4
        exact ⟨⟨f', q1.weak (by omega) (by omega), by omega, q3', by show f' + 24 * xO X ≤ f + 24 * xO (causeA sub d r img (cntA d r img X)) + 1; omega⟩, hi, fun z => of_decide_eq_true z⟩
theorem fld_I {A : AS} {G d : Nat} {sub : SubT} {cs : List Nat} {ev mo : Int32} {od : Nat → Nat} (ok : okM A) (hG : aS A 0 = nI G) (h8 : G ≤ 8) (h1 : 1 ≤ d) (hd : d ≤ 8) (hs : ∃ H : Nat → Int32 → Int32 → (Nat → Int32) → XS → XS, (sub = none ∧ d = 8) ∨ (sub = some (fun ev r img X => H r ev (nI r) img X) ∧ (d + 1 ≤ G → ∀ r, OpI A G (d + 1) (H r)))) : ∀ (k j f : Nat) (img : Nat → Int32) (X : XS), RI A G d d f X → xR X = 0 → ImG img → (∀ t, j ≤ t → t < j + k → od t < aM A) → Pst A G d d f k X (fldA sub d cs ev mo od j k img X).2.2 ∧ ImG (fldA sub d cs ev mo od j k img X).2.1 ∧ ((fldA sub d cs ev mo od j k img X).1 = true → xR (fldA sub d cs ev mo od j k img X).2.2 = 0) := by
  intro k
  induction k with
  | zero => exact fun j f img X h hz hi _ => ⟨Pst.rf h 0, hi, fun _ => hz⟩
  | succ k ih =>
    intro j f img X h hz hi ho
    unfold fldA
    by_cases hh : hitA X cs ev mo (od j) img = true
    · rw [if_pos hh]
      have hr : od j < aM A := ho j (Nat.le_refl _) (by omega)
      have hon : aU A (od j) 10 = 1 := by
        have q : ¬ aU (xA X) (od j) 10 = 0 := (of_decide_eq_true hh).1
        rw [h.rule (od j) 10 (by decide)] at q
        exact (ok.2.1 (od j) hr).2.2.resolve_left q
      obtain ⟨⟨f1, a1, a2, a3, a4⟩, b, c⟩ := fire_I ok hG h8 h1 hd hs h hz hr hon hi
      by_cases ht : (fireA sub d (od j) img X).1 = true
      · rw [if_pos ht]
        obtain ⟨⟨f2, e1, e2, e3, e4⟩, e5⟩ := ih (j + 1) f1 _ _ a1 (c ht) b (fun t q1 q2 => ho t (by omega) (by omega))
        exact ⟨⟨f2, e1, by omega, by omega, by omega⟩, e5⟩
      · rw [if_neg ht]
        exact ⟨⟨f1, a1, a2, a3, by omega⟩, b, c⟩
    · rw [if_neg hh]
      obtain ⟨⟨f2, e1, e2, e3, e4⟩, e5⟩ := ih (j + 1) f img X h hz hi (fun t q1 q2 => ho t (by omega) (by omega))
      exact ⟨⟨f2, e1, e2, e3, by omega⟩, e5⟩
/-- an operation that has begun -/
def opC (sub : SubT) (d : Nat) (cs : List Nat) (ev : Int32) (img : Nat → Int32) (X Y : XS) : XS :=
  if (fldA sub d cs ev 0 (odA (xA X)) 0 (aM (xA X)) img Y).1 = true then
    (fldA sub d cs ev 1 (odA (xA X)) 0 (aM (xA X)) (fldA sub d cs ev 0 (odA (xA X)) 0 (aM (xA X)) img Y).2.1 ((carA ev (fldA sub d cs ev 0 (odA (xA X)) 0 (aM (xA X)) img Y).2.1 (xA (fldA sub d cs ev 0 (odA (xA X)) 0 (aM (xA X)) img Y).2.2), (fldA sub d cs ev 0 (odA (xA X)) 0 (aM (xA X)) img Y).2.2.2) : XS)).2.2
  else (fldA sub d cs ev 0 (odA (xA X)) 0 (aM (xA X)) img Y).2.2
theorem opB_C (sub : SubT) (d : Nat) (cs : List Nat) (ev cause : Int32) (img : Nat → Int32) (X : XS) : opB sub d cs ev cause img X = if 100 ≤ xO X then refA X 3 cause else opC sub d cs ev img X (begA d X) := rfl
theorem opC_I {A : AS} {G d f : Nat} {sub : SubT} {cs : List Nat} {ev : Int32} {img : Nat → Int32} {X : XS} (ok : okM A) (hM : aM A ≤ 12) (hG : aS A 0 = nI G) (h8 : G ≤ 8) (h1 : 1 ≤ d) (hdG : d ≤ G) (hs : ∃ H : Nat → Int32 → Int32 → (Nat → Int32) → XS → XS, (sub = none ∧ d = 8) ∨ (sub = some (fun ev r img X => H r ev (nI r) img X) ∧ (d + 1 ≤ G → ∀ r, OpI A G (d + 1) (H r)))) (h : RI A G d (d - 1) f X) (hz : xR X = 0) (hi : ImG img) (hc : CanC (xA X) ev img) (hO : xO X < 100) : Pst A G d d f 24 (begA d X) (opC sub d cs ev img X (begA d X)) := by
  have hb := h.beg h1 hdG h8 hz hO
  have hM2 : aM (xA X) ≤ 12 := by rw [h.M]; exact hM
  have hod : ∀ t, 0 ≤ t → t < 0 + aM (xA X) → odA (xA X) t < aM A := fun t _ ht => by
    have := osrt_lt (rkF (aU (xA X))) (aM (xA X)) t (by omega)
    rw [h.M] at this
    unfold odA
    rw [h.M]
    exact this
  obtain ⟨⟨f1, a1, a2, a3, a4⟩, b, c⟩ := fld_I (cs := cs) (ev := ev) (mo := 0) ok hG h8 h1 (by omega) hs (aM (xA X)) 0 f img (begA d X) hb hz hi hod
  have hrw := fld_rows sub d cs ev (odA (xA X)) 0 (aM (xA X)) img (begA d X) (hb.ok ok).2.1 (fun t q1 q2 => by have := hod t q1 q2; rw [hb.M]; exact this)
  have hky := fld_key sub d cs ev 0 (odA (xA X)) 0 (aM (xA X)) img (begA d X)
  unfold opC
  generalize fldA sub d cs ev 0 (odA (xA X)) 0 (aM (xA X)) img (begA d X) = F at *
  by_cases ht : F.1 = true
  · rw [if_pos ht]
    have hc2 : CanC (xA F.2.2) ev F.2.1 := hc.congr hrw.1 hrw.2 hky
    have hcar := a1.car (c ht) b hc2
    obtain ⟨⟨f2, e1, e2, e3, e4⟩, _⟩ := fld_I (cs := cs) (ev := ev) (mo := 1) ok hG h8 h1 (by omega) hs (aM (xA X)) 0 f1 F.2.1 _ hcar (c ht) b hod
    have e3' : xO F.2.2 ≤ xO (fldA sub d cs ev 1 (odA (xA X)) 0 (aM (xA X)) F.2.1 ((carA ev F.2.1 (xA F.2.2), F.2.2.2) : XS)).2.2 := e3
    have e4' : f2 + 24 * xO F.2.2 ≤ f1 + 24 * xO (fldA sub d cs ev 1 (odA (xA X)) 0 (aM (xA X)) F.2.1 ((carA ev F.2.1 (xA F.2.2), F.2.2.2) : XS)).2.2 + aM (xA X) := e4
    exact ⟨f2, e1, by omega, by omega, by omega⟩
  · rw [if_neg ht]
    exact ⟨f1, a1, a2, a3, by omega⟩
theorem opB_I {A : AS} {G d : Nat} {sub : SubT} {cs : List Nat} (ok : okM A) (hM : aM A ≤ 12) (hG : aS A 0 = nI G) (h8 : G ≤ 8) (h1 : 1 ≤ d) (hdG : d ≤ G) (hs : ∃ H : Nat → Int32 → Int32 → (Nat → Int32) → XS → XS, (sub = none ∧ d = 8) ∨ (sub = some (fun ev r img X => H r ev (nI r) img X) ∧ (d + 1 ≤ G → ∀ r, OpI A G (d + 1) (H r)))) : OpI A G d (fun ev ca img X => opB sub d cs ev ca img X) := by
  intro ev ca img X f h hz hi hc hca
  show Pst A G d (d - 1) f 0 X (opB sub d cs ev ca img X)
  rw [opB_C]
  by_cases hO : 100 ≤ xO X
  · rw [if_pos hO]
    obtain ⟨r, q1, rfl, q3, q4, q5⟩ := hca hO
    have hx : xO X = 100 := by have := h.2.2.1; omega
    exact Pst.rf (h.ref q1 q3 q5 (Or.inr (Or.inr ⟨rfl, q4, hx⟩))) 0
  · rw [if_neg hO]
    obtain ⟨f', e1, e2, e3, e4⟩ := opC_I (cs := cs) ok hM hG h8 h1 hdG hs h hz hi hc (by omega)
    have e3' : xO X + 1 ≤ xO (opC sub d cs ev img X (begA d X)) := e3
    have e4' : f' + 24 * (xO X + 1) ≤ f + 24 * xO (opC sub d cs ev img X (begA d X)) + 24 := e4
    exact ⟨f', e1.weak (Nat.le_refl _) (by omega), e2, by omega, by omega⟩
theorem opA_I {A : AS} {G : Nat} (ok : okM A) (hM : aM A ≤ 12) (hG : aS A 0 = nI G) (h8 : G ≤ 8) (lv : Nat) : ∀ (d : Nat) (cs : List Nat), d + lv = 8 → 1 ≤ d → d ≤ G → OpI A G d (fun ev ca img X => opA lv cs ev ca img X) := by
  induction lv with
  | zero =>
    intro d cs hd h1 hdG
    have e : d = 8 := by omega
    subst e
    exact opB_I ok hM hG h8 h1 hdG ⟨fun _ _ _ _ X => X, Or.inl ⟨rfl, rfl⟩⟩
  | succ lv ih =>
    intro d cs hd h1 hdG
    have e : 7 - lv = d := by omega
    have key := opB_I (cs := cs) (sub := some (fun ev2 r img2 X2 => opA lv (r :: cs) ev2 (nI r) img2 X2)) ok hM hG h8 h1 hdG ⟨fun r ev ca img X => opA lv (r :: cs) ev ca img X, Or.inr ⟨rfl, fun hg r => ih (d + 1) (r :: cs) (by omega) (by omega) hg⟩⟩
    intro ev ca img X f a1 a2 a3 a4 a5
    have k2 := key ev ca img X f a1 a2 a3 a4 a5
    show Pst A G d (d - 1) f 0 X (opB _ (7 - lv) cs ev ca img X)
    rw [e]
    exact k2
/-- the sub of the top -/
def sub1 : SubT := some (fun ev2 r img2 X2 => opA 6 (r :: []) ev2 (nI r) img2 X2)
theorem XR_C (ev : Int32) (img : Nat → Int32) (A : AS) : XR ev img A = opC sub1 1 [] ev img (X0 A) (begA 1 (X0 A)) := rfl
def Run (A : AS) (G : Nat) (X : XS) : Prop := ∃ f, f ≤ 2400 ∧ 1 ≤ xO X ∧ RI A G 1 1 f X
theorem XR_I {A : AS} {G : Nat} {ev : Int32} {img : Nat → Int32} (ok : okM A) (hT : TbG (aK A) (aN A)) (hM : aM A ≤ 12) (hG : aS A 0 = nI G) (h1 : 1 ≤ G) (h8 : G ≤ 8) (hi : ImG img) (hc : CanC A ev img) : Run A G (XR ev img A) := by
  have h0 : RI A G 1 (1 - 1) 0 (X0 A) := ⟨Stb.rf _, hT, Nat.zero_le _, rfl, rfl, ⟨0, fun _ => 0, rfl, Nat.le_refl _, Nat.zero_le _, fun k hk => absurd hk (Nat.not_lt_zero _), Or.inr (Nat.le_refl _), fun z => absurd rfl z⟩, fun _ => rfl⟩
  obtain ⟨f', e1, e2, e3, e4⟩ := opC_I (cs := []) (sub := sub1) (ev := ev) ok hM hG h8 (Nat.le_refl 1) h1 ⟨fun r ev ca img X => opA 6 (r :: []) ev ca img X, Or.inr ⟨rfl, fun hg r => opA_I ok hM hG h8 6 2 (r :: []) rfl (by decide) hg⟩⟩ h0 rfl hi hc (by show 0 < 100; decide)
  have e3' : 1 ≤ xO (XR ev img A) := e3
  have e4' : f' + 24 * 1 ≤ 0 + 24 * xO (XR ev img A) + 24 := e4
  have e5 : xO (XR ev img A) ≤ 100 := e1.2.2.1
  exact ⟨f', by omega, e3', e1⟩
