/-! WHAT HOLDS OF A RUN, first part: values, rows, images -/
theorem i_irr (x : Int32) : ¬ x < x := fun h => absurd (Int32.lt_iff_toInt_lt.mp h) (Int.lt_irrefl _)
def VI (x : Int32) : Prop := ¬ x < -999 ∧ ¬ 999 < x
def ImG (img : Nat → Int32) : Prop := (∃ q, q < 100 ∧ img 0 = nI q) ∧ VI (img 1) ∧ VI (img 2) ∧ VI (img 3)
def TbG (K : Nat → Nat → Int32) (n : Nat) : Prop := n ≤ 20 ∧ okK K n ∧ ∀ i, i < n → VI (K i 1) ∧ VI (K i 2) ∧ VI (K i 3)
theorem clamp_VI (v : Int32) : VI (clampF v) := by
  have hx2 : ¬ 999 < (if v < 999 then v else 999) := by
    by_cases h : v < 999
    · rw [if_pos h]; exact fun z => i_irr _ (Int32.lt_trans h z)
    · rw [if_neg h]; exact i_irr _
  unfold clampF
  generalize (if v < 999 then v else 999) = x at hx2 ⊢
  by_cases h : -999 < x
  · rw [if_pos h]; exact ⟨fun z => i_irr _ (Int32.lt_trans h z), hx2⟩
  · rw [if_neg h]; exact ⟨i_irr _, by decide⟩
theorem chg_or (img : Nat → Int32) (f x : Int32) (t : Nat) : chgF img f x t = x ∨ chgF img f x t = img t := by
  unfold chgF
  by_cases h : t = (if f = 0 then 1 else if f = 1 then 2 else 3)
  · exact Or.inl (if_pos h)
  · exact Or.inr (if_neg h)
theorem ImG.chg {img : Nat → Int32} (h : ImG img) (f : Int32) {x : Int32} (hx : VI x) : ImG (chgF img f x) := by
  have key : ∀ t, VI (img t) → VI (chgF img f x t) := fun t ht => by
    rcases chg_or img f x t with e | e
    · rw [e]; exact hx
    · rw [e]; exact ht
  exact ⟨by rw [chgF_0]; exact h.1, key 1 h.2.1, key 2 h.2.2.1, key 3 h.2.2.2⟩
theorem TbG.row {K : Nat → Nat → Int32} {n i : Nat} (h : TbG K n) (hi : i < n) : ImG (K i) := ⟨h.2.1.1 i hi, h.2.2 i hi⟩
theorem TbG.ins {K : Nat → Nat → Int32} {n : Nat} {img : Nat → Int32} (h : TbG K n) (hi : ImG img) (hf : fndF (fun j => K j 0 = img 0) 0 n = none) (hn : n < 20) : TbG (insK K n img) (n + 1) := by
  refine ⟨by omega, okK.ins h.2.1 hi.1 hf, fun i hin => ?_⟩
  have hle := insP_le (fun j => K j 0) (img 0) n
  unfold insK
  by_cases h1 : i < insP (fun j => K j 0) (img 0) n
  · rw [if_pos h1]; exact h.2.2 i (by omega)
  · rw [if_neg h1]
    by_cases h2 : i = insP (fun j => K j 0) (img 0) n
    · rw [if_pos h2]; exact hi.2
    · rw [if_neg h2]; exact h.2.2 (i - 1) (by omega)
theorem TbG.put {K : Nat → Nat → Int32} {n i : Nat} {img : Nat → Int32} (h : TbG K n) (hi : ImG img) (he : img 0 = K i 0) : TbG (putK K i img) n := by
  refine ⟨h.1, okK.put h.2.1 he, fun t ht => ?_⟩
  unfold putK
  by_cases h2 : t = i
  · rw [if_pos h2]; exact hi.2
  · rw [if_neg h2]; exact h.2.2 t ht
theorem TbG.del {K : Nat → Nat → Int32} {n i : Nat} (h : TbG K n) (hi : i < n) : TbG (delK K i) (n - 1) := by
  refine ⟨by have := h.1; omega, okK.del h.2.1 hi, fun t ht => ?_⟩
  unfold delK
  by_cases h2 : t < i
  · rw [if_pos h2]; exact h.2.2 t (by omega)
  · rw [if_neg h2]; exact h.2.2 (t + 1) (by omega)
theorem car_TbG {A : AS} {ev : Int32} {img : Nat → Int32} (h : TbG (aK A) (aN A)) (hi : ImG img) (hc : CanC A ev img) : TbG (aK (carA ev img A)) (aN (carA ev img A)) := by
  rcases hc with ⟨rfl, hc⟩ | ⟨he, i, hf⟩
  · obtain ⟨-, hf, hn⟩ := cant_1 hc
    unfold carA
    rw [if_pos rfl, if_pos hn]
    exact h.ins hi hf hn
  · obtain ⟨_, f2, f3, _⟩ := fndF_some hf
    have hin : i < aN A := by omega
    rcases he with rfl | rfl
    · unfold carA
      rw [if_neg (by decide), if_pos rfl, hf]
      exact h.put hi f3.symm
    · unfold carA
      rw [if_neg (by decide), if_neg (by decide), hf]
      exact h.del hin
theorem prep_ImG {A : AS} {u img img2 : Nat → Int32} (h : TbG (aK A) (aN A)) (hi : ImG img) (hp : prepA A u img = some img2) : ImG img2 := by
  have row : ∀ {key : Int32} {i : Nat}, fK A key = some i → ImG (aK A i) := fun {key i} hf => by
    obtain ⟨_, h2, _, _⟩ := fndF_some hf
    exact h.row (by omega)
  unfold prepA at hp
  by_cases h3 : u 3 = 3
  · rw [if_pos h3] at hp
    by_cases hc : cantA A (valF u img) = 0
    · rw [if_pos hc] at hp; exact absurd hp (by simp)
    · rw [if_neg hc] at hp
      have e := Option.some.inj hp
      subst e
      refine ⟨?_, hi.2⟩
      refine in_99 (x := valF u img) (fun z => hc ?_)
      unfold cantA
      rw [if_pos z]
  · rw [if_neg h3] at hp
    by_cases h4 : u 3 = 4
    · rw [if_pos h4, prUp] at hp
      rcases hf : fK A (nxt (img 0)) with _ | i
      · rw [hf] at hp; exact absurd hp (by simp)
      · rw [hf] at hp
        simp only at hp
        split at hp
        · exact absurd hp (by simp)
        · rw [← Option.some.inj hp]
          exact (row hf).chg _ (clamp_VI _)
    · rw [if_neg h4, prDel] at hp
      rcases hf : fK A (valF u img) with _ | i
      · rw [hf] at hp; exact absurd hp (by simp)
      · rw [hf] at hp
        rw [← Option.some.inj hp]
        exact row hf
/-! the record, refusals -/
def prv (e : Nat → Nat) : Nat → Nat
  | 0 => 0
  | n + 1 => e n
def RcG (U : Nat → Nat → Int32) (m : Nat) (C : Nat → Nat → Int32) (n D : Nat) (e : Nat → Nat) : Prop := ∀ k, k < n → C k 1 = nI (e k) ∧ 1 ≤ e k ∧ e k ≤ D ∧ e k ≤ prv e k + 1 ∧ (∃ r, r < m ∧ C k 0 = nI r ∧ U r 10 = 1) ∧ ∃ q, q < 100 ∧ C k 2 = nI q
def Knd (u : Nat → Int32) : Prop := u 3 = 3 ∨ u 3 = 4 ∨ u 3 = 5
def RfG (A : AS) (G f D : Nat) (X : XS) : Prop := ∃ r, r < aM A ∧ xW X = nI r ∧ aU A r 10 = 1 ∧ 0 < f ∧ ((xR X = 1 ∧ aU A r 3 = 1) ∨ (xR X = 2 ∧ Knd (aU A r) ∧ D = G) ∨ (xR X = 3 ∧ Knd (aU A r) ∧ xO X = 100))
/-- A: the state ahead of the statement; G: the greatest depth; d, dd: how deep the run is; f: the firings so far -/
def RI (A : AS) (G d dd f : Nat) (X : XS) : Prop := Stb (X0 A) X ∧ TbG (aK (xA X)) (aN (xA X)) ∧ xO X ≤ 100 ∧ xF X = nI f ∧ aR (xA X) = min f 60 ∧ (∃ D e, xD X = nI D ∧ dd ≤ D ∧ D ≤ G ∧ RcG (aU A) (aM A) (aC (xA X)) (aR (xA X)) D e ∧ (60 ≤ f ∨ d ≤ prv e f + 1) ∧ (¬ xR X = 0 → RfG A G f D X)) ∧ (xR X = 0 → xW X = -1006)
theorem RI.weak {A : AS} {G d dd f d' dd' : Nat} {X : XS} (h : RI A G d dd f X) (h1 : d' ≤ d) (h2 : dd' ≤ dd) : RI A G d' dd' f X := by
  obtain ⟨a, b, c, g, i, ⟨D, e, e1, e2, e3, e4, e5, e6⟩, k⟩ := h
  exact ⟨a, b, c, g, i, ⟨D, e, e1, by omega, e3, e4, by omega, e6⟩, k⟩
theorem RI.rule {A : AS} {G d dd f : Nat} {X : XS} (h : RI A G d dd f X) (r t : Nat) (ht : t ≠ 11) : aU (xA X) r t = aU A r t := h.1.1 r t ht
theorem RI.M {A : AS} {G d dd f : Nat} {X : XS} (h : RI A G d dd f X) : aM (xA X) = aM A := h.1.2.1
theorem RI.S {A : AS} {G d dd f : Nat} {X : XS} (h : RI A G d dd f X) : aS (xA X) = aS A := h.1.2.2
theorem okRu_eq {u v : Nat → Int32} (h0 : okRu u) (e : ∀ t, t ≠ 11 → v t = u t) : okRu v := by
  unfold okRu at h0 ⊢
  rw [e 0 (by decide), e 1 (by decide), e 2 (by decide), e 3 (by decide), e 4 (by decide), e 5 (by decide), e 7 (by decide), e 8 (by decide), e 10 (by decide)]
  exact h0
theorem RI.ok {A : AS} {G d dd f : Nat} {X : XS} (h : RI A G d dd f X) (ok : okM A) : okM (xA X) := by
  refine ⟨h.2.1.2.1, fun r hr => okRu_eq (ok.2.1 r (by rw [h.M] at hr; exact hr)) (fun t ht => h.rule r t ht), ?_⟩
  obtain ⟨G', g1, g2, g3⟩ := ok.2.2
  exact ⟨G', g1, g2, by rw [h.S]; exact g3⟩
theorem cnt_C1 (d r : Nat) (img : Nat → Int32) (X : XS) (h : aR (xA X) < 60) : aR (xA (cntA d r img X)) = aR (xA X) + 1 ∧ aC (xA (cntA d r img X)) = fun i w => if i = aR (xA X) then (if w = 0 then nI r else if w = 1 then nI d else img 0) else aC (xA X) i w := by
  have h2 : aR (setU (xA X) (up2 (aU (xA X)) r 11 (aU (xA X) r 11 + 1))) < 60 := h
  have e : xA (cntA d r img X) = recA (setU (xA X) (up2 (aU (xA X)) r 11 (aU (xA X) r 11 + 1))) (nI r) (nI d) (img 0) := rfl
  rw [e, recA, if_pos h2]
  exact ⟨rfl, rfl⟩
theorem cnt_C2 (d r : Nat) (img : Nat → Int32) (X : XS) (h : ¬ aR (xA X) < 60) : aR (xA (cntA d r img X)) = aR (xA X) ∧ aC (xA (cntA d r img X)) = aC (xA X) := by
  have h2 : ¬ aR (setU (xA X) (up2 (aU (xA X)) r 11 (aU (xA X) r 11 + 1))) < 60 := h
  have e : xA (cntA d r img X) = recA (setU (xA X) (up2 (aU (xA X)) r 11 (aU (xA X) r 11 + 1))) (nI r) (nI d) (img 0) := rfl
  rw [e, recA, if_neg h2]
  exact ⟨rfl, rfl⟩
theorem RI.cnt {A : AS} {G d f r : Nat} {img : Nat → Int32} {X : XS} (h : RI A G d d f X) (h1 : 1 ≤ d) (hz : xR X = 0) (hr : r < aM A) (hon : aU A r 10 = 1) (hi : ImG img) : RI A G (d + 1) d (f + 1) (cntA d r img X) := by
  obtain ⟨a, b, c, g, i, ⟨D, e, e1, e2, e3, e4, e5, e6⟩, k⟩ := h
  have q := cnt_eq d r img X
  refine ⟨a.trans (cnt_stb d r img X), by rw [q.1, q.2.1]; exact b, c, ?_, ?_, ?_, k⟩
  · show xF X + 1 = nI (f + 1)
    rw [g]; exact nI_1 f
  · by_cases hl : aR (xA X) < 60
    · rw [(cnt_C1 d r img X hl).1]; omega
    · rw [(cnt_C2 d r img X hl).1]; omega
  · by_cases hl : aR (xA X) < 60
    · have hf : aR (xA X) = f := by omega
      refine ⟨D, fun t => if t = f then d else e t, e1, e2, e3, ?_, Or.inr ?_, fun z => absurd hz z⟩
      · rw [(cnt_C1 d r img X hl).1, (cnt_C1 d r img X hl).2, hf]
        intro t ht
        have pe : prv (fun t => if t = f then d else e t) t = prv e t := by
          cases t with
          | zero => rfl
          | succ t => exact if_neg (by omega)
        rw [pe]
        by_cases et : t = f
        · subst et
          simp only [if_pos]
          exact ⟨by simp, h1, e2, by omega, ⟨r, hr, by simp, hon⟩, by obtain ⟨q, q1, q2⟩ := hi.1; exact ⟨q, q1, by simpa using q2⟩⟩
        · simp only [if_neg et]
          exact e4 t (by omega)
      · show d + 1 ≤ (if f = f then d else e f) + 1
        rw [if_pos rfl]
        exact Nat.le_refl _
    · refine ⟨D, e, e1, e2, e3, ?_, Or.inl (by omega), fun z => absurd hz z⟩
      rw [(cnt_C2 d r img X hl).1, (cnt_C2 d r img X hl).2]
      exact e4
theorem RI.ref {A : AS} {G d dd f r : Nat} {X : XS} {y : Int32} (h : RI A G d dd f X) (hr : r < aM A) (hon : aU A r 10 = 1) (hf : 0 < f) (hy : (y = 1 ∧ aU A r 3 = 1) ∨ (y = 2 ∧ Knd (aU A r) ∧ G ≤ dd) ∨ (y = 3 ∧ Knd (aU A r) ∧ xO X = 100)) : RI A G d dd f (refA X y (nI r)) := by
  obtain ⟨a, b, c, g, i, ⟨D, e, e1, e2, e3, e4, e5, e6⟩, k⟩ := h
  refine ⟨a, b, c, g, i, ⟨D, e, e1, e2, e3, e4, e5, fun _ => ⟨r, hr, rfl, hon, hf, ?_⟩⟩, fun z => ?_⟩
  · rcases hy with h | h | h
    · exact Or.inl h
    · exact Or.inr (Or.inl ⟨h.1, h.2.1, by omega⟩)
    · exact Or.inr (Or.inr h)
  · have z2 : y = 0 := z
    rcases hy with h | h | h <;> (rw [h.1] at z2; exact absurd z2 (by decide))
theorem RI.beg {A : AS} {G d f : Nat} {X : XS} (h : RI A G d (d - 1) f X) (h1 : 1 ≤ d) (hG : d ≤ G) (h8 : G ≤ 8) (hz : xR X = 0) (hO : xO X < 100) : RI A G d d f (begA d X) := by
  obtain ⟨a, b, c, g, i, ⟨D, e, e1, e2, e3, e4, e5, e6⟩, k⟩ := h
  refine ⟨a, b, by show xO X + 1 ≤ 100; omega, g, i, ?_, k⟩
  have hx : xD (begA d X) = if xD X < nI d then nI d else xD X := rfl
  by_cases hl : D < d
  · refine ⟨d, e, ?_, Nat.le_refl _, hG, fun t ht => ?_, e5, fun z => absurd hz z⟩
    · rw [hx, e1, if_pos ((nI_ltI (by omega) (by omega)).mpr hl)]
    · obtain ⟨p1, p2, p3, p4⟩ := e4 t ht
      exact ⟨p1, p2, by omega, p4⟩
  · refine ⟨D, e, ?_, by omega, e3, e4, e5, fun z => absurd hz z⟩
    rw [hx, e1, if_neg (fun z => hl ((nI_ltI (by omega) (by omega)).mp z))]
theorem RI.car {A : AS} {G d dd f : Nat} {X : XS} {ev : Int32} {img : Nat → Int32} (h : RI A G d dd f X) (hz : xR X = 0) (hi : ImG img) (hc : CanC (xA X) ev img) : RI A G d dd f ((carA ev img (xA X), X.2) : XS) := by
  obtain ⟨a, b, c, g, i, ⟨D, e, e1, e2, e3, e4, e5, e6⟩, k⟩ := h
  have q := car_U ev img (xA X)
  refine ⟨⟨fun r t ht => ?_, ?_, ?_⟩, car_TbG b hi hc, c, g, ?_, ⟨D, e, e1, e2, e3, ?_, e5, fun z => absurd hz z⟩, k⟩
  · show aU (carA ev img (xA X)) r t = _
    rw [q.1]; exact a.1 r t ht
  · show aM (carA ev img (xA X)) = _
    rw [q.2.1]; exact a.2.1
  · show aS (carA ev img (xA X)) = _
    rw [q.2.2.1]; exact a.2.2
  · show aR (carA ev img (xA X)) = _
    rw [q.2.2.2.2]; exact i
  · show RcG _ _ (aC (carA ev img (xA X))) (aR (carA ev img (xA X))) D e
    rw [q.2.2.2.1, q.2.2.2.2]; exact e4
