/-! THE MODEL: a state beside another -/
def okK (K : Nat → Nat → Int32) (n : Nat) : Prop := (∀ i, i < n → ∃ q, q < 100 ∧ K i 0 = nI q) ∧ ∀ i j, i < j → j < n → K i 0 < K j 0
def okRu (u : Nat → Int32) : Prop := (inR (u 0) 0 2 = 1 ∧ inR (u 1) 0 1 = 1 ∧ (∃ q, q < 100 ∧ u 2 = nI q) ∧ kindF (u 1) (u 3) = 1) ∧ (inR (u 4) 0 2 = 1 ∧ inR (u 5) 0 3 = 1 ∧ inR (u 7) 0 3 = 1 ∧ inR (u 8) 0 5 = 1) ∧ (u 10 = 0 ∨ u 10 = 1)
def okM (A : AS) : Prop := okK (aK A) (aN A) ∧ (∀ r, r < aM A → okRu (aU A r)) ∧ ∃ G, 1 ≤ G ∧ G ≤ 8 ∧ aS A 0 = nI G
def RowQ (M : Nat → Int32) (p : Nat) (K : Nat → Nat → Int32) (n : Nat) : Prop := M (p + 0) = nI n ∧ n ≤ 20 ∧ (∀ i, i < n → ∃ j, j < n ∧ ∀ f, f < 4 → M (p + 1 + 4 * j + f) = K i f) ∧ (∀ j, j < n → ∃ i, i < n ∧ ∀ f, f < 4 → M (p + 1 + 4 * j + f) = K i f) ∧ ∀ i j, i < n → j < n → M (p + 1 + 4 * i) = M (p + 1 + 4 * j) → i = j
def SetQ (M : Nat → Int32) (p : Nat) (S : Nat → Int32) : Prop := ∀ i, i < 6 → M (p + 226 + i) = S i
def LogQ (M : Nat → Int32) (p : Nat) (C : Nat → Nat → Int32) (n : Nat) : Prop := M (p + 232) = nI n ∧ n ≤ 60 ∧ ∀ i, i < n → ∀ w, w < 3 → M (p + 233 + 3 * i + w) = C i w
def MS (M : Nat → Int32) (p : Nat) (A : AS) : Prop := RowQ M p (aK A) (aN A) ∧ RuW M p (aU A) (aM A) ∧ SetQ M p (aS A) ∧ LogQ M p (aC A) (aR A)
/-- the same window, perhaps elsewhere -/
def Wnd (M M' : Nat → Int32) (p p' : Nat) : Prop := ∀ i, i < 413 → ∀ x y, x = p + i → y = p' + i → M' y = M x
theorem RowQ.at {M M' : Nat → Int32} {p p' : Nat} {K : Nat → Nat → Int32} {n : Nat} (h : RowQ M p K n) (w : Wnd M M' p p') : RowQ M' p' K n := by
  obtain ⟨h1, h2, h3, h4, h5⟩ := h
  refine ⟨by rw [w 0 (by decide) (p + 0) (p' + 0) rfl rfl]; exact h1, h2, fun i hi => ?_, fun j hj => ?_, fun i j hi hj e => ?_⟩
  · obtain ⟨j, hj, hf⟩ := h3 i hi
    exact ⟨j, hj, fun f hf4 => by rw [w (1 + 4 * j + f) (by omega) (p + 1 + 4 * j + f) _ (by omega) (by omega)]; exact hf f hf4⟩
  · obtain ⟨i, hi, hf⟩ := h4 j hj
    exact ⟨i, hi, fun f hf4 => by rw [w (1 + 4 * j + f) (by omega) (p + 1 + 4 * j + f) _ (by omega) (by omega)]; exact hf f hf4⟩
  · refine h5 i j hi hj ?_
    rw [← w (1 + 4 * i) (by omega) (p + 1 + 4 * i) (p' + 1 + 4 * i) (by omega) (by omega), ← w (1 + 4 * j) (by omega) (p + 1 + 4 * j) (p' + 1 + 4 * j) (by omega) (by omega)]
    exact e
theorem RuW.at {M M' : Nat → Int32} {p p' : Nat} {U : Nat → Nat → Int32} {m : Nat} (h : RuW M p U m) (w : Wnd M M' p p') : RuW M' p' U m :=
  ⟨by rw [w 81 (by decide) (p + 81) (p' + 81) rfl rfl]; exact h.1, h.2.1, fun r hr f hf => by have := h.2.1; rw [w (82 + 12 * r + f) (by omega) (p + 82 + 12 * r + f) _ (by omega) (by omega)]; exact h.2.2 r hr f hf⟩
theorem SetQ.at {M M' : Nat → Int32} {p p' : Nat} {S : Nat → Int32} (h : SetQ M p S) (w : Wnd M M' p p') : SetQ M' p' S := fun i hi => by rw [w (226 + i) (by omega) (p + 226 + i) _ (by omega) (by omega)]; exact h i hi
theorem LogQ.at {M M' : Nat → Int32} {p p' : Nat} {C : Nat → Nat → Int32} {n : Nat} (h : LogQ M p C n) (w : Wnd M M' p p') : LogQ M' p' C n :=
  ⟨by rw [w 232 (by decide) (p + 232) (p' + 232) rfl rfl]; exact h.1, h.2.1, fun i hi f hf => by have := h.2.1; rw [w (233 + 3 * i + f) (by omega) (p + 233 + 3 * i + f) _ (by omega) (by omega)]; exact h.2.2 i hi f hf⟩
theorem MS.at {M M' : Nat → Int32} {p p' : Nat} {A : AS} (h : MS M p A) (w : Wnd M M' p p') : MS M' p' A := ⟨h.1.at w, h.2.1.at w, h.2.2.1.at w, h.2.2.2.at w⟩
theorem Wnd.of {M M' : Nat → Int32} {p : Nat} (h : ∀ i, p ≤ i → i < p + 413 → M' i = M i) : Wnd M M' p p := fun i hi x y hx hy => by rw [hx, hy]; exact h _ (by omega) (by omega)
theorem RowQ.of {M M' : Nat → Int32} {p : Nat} {K : Nat → Nat → Int32} {n : Nat} (h : RowQ M p K n) (w : ∀ i, p ≤ i → i < p + 81 → M' i = M i) : RowQ M' p K n := by
  obtain ⟨h1, h2, h3, h4, h5⟩ := h
  refine ⟨by rw [w _ (by omega) (by omega)]; exact h1, h2, fun i hi => ?_, fun j hj => ?_, fun i j hi hj e => ?_⟩
  · obtain ⟨j, hj, hf⟩ := h3 i hi
    exact ⟨j, hj, fun f hf4 => by rw [w _ (by omega) (by omega)]; exact hf f hf4⟩
  · obtain ⟨i, hi, hf⟩ := h4 j hj
    exact ⟨i, hi, fun f hf4 => by rw [w _ (by omega) (by omega)]; exact hf f hf4⟩
  · refine h5 i j hi hj ?_
    rw [← w _ (by omega) (by omega), ← w _ (by omega) (by omega)]
    exact e
theorem RuW.of {M M' : Nat → Int32} {p : Nat} {U : Nat → Nat → Int32} {m : Nat} (h : RuW M p U m) (w : ∀ i, p + 81 ≤ i → i < p + 226 → M' i = M i) : RuW M' p U m :=
  ⟨by rw [w _ (by omega) (by omega)]; exact h.1, h.2.1, fun r hr f hf => by have := h.2.1; rw [w _ (by omega) (by omega)]; exact h.2.2 r hr f hf⟩
theorem SetQ.of {M M' : Nat → Int32} {p : Nat} {S : Nat → Int32} (h : SetQ M p S) (w : ∀ i, p + 226 ≤ i → i < p + 232 → M' i = M i) : SetQ M' p S := fun i hi => by rw [w _ (by omega) (by omega)]; exact h i hi
theorem LogQ.of {M M' : Nat → Int32} {p : Nat} {C : Nat → Nat → Int32} {n : Nat} (h : LogQ M p C n) (w : ∀ i, p + 232 ≤ i → i < p + 413 → M' i = M i) : LogQ M' p C n :=
  ⟨by rw [w _ (by omega) (by omega)]; exact h.1, h.2.1, fun i hi f hf => by have := h.2.1; rw [w _ (by omega) (by omega)]; exact h.2.2 i hi f hf⟩
theorem okK.inj {K : Nat → Nat → Int32} {n i j : Nat} (h : okK K n) (hi : i < n) (hj : j < n) (e : K i 0 = K j 0) : i = j := by
  rcases Nat.lt_trichotomy i j with z | z | z
  · have := h.2 i j z hj; rw [e] at this; exact absurd this Int32.lt_irrefl
  · exact z
  · have := h.2 j i z hi; rw [e] at this; exact absurd this Int32.lt_irrefl
theorem RowQ.none {M : Nat → Int32} {p : Nat} {K : Nat → Nat → Int32} {n : Nat} {key : Int32} (h : RowQ M p K n) (hf : fndF (fun i => K i 0 = key) 0 n = none) : fndF (fun t => M (p + 1 + 4 * t) = key) 0 n = none := by
  rcases hm : fndF (fun t => M (p + 1 + 4 * t) = key) 0 n with _ | j
  · rfl
  · obtain ⟨h1, h2, h3, h4⟩ := fndF_some hm
    obtain ⟨i, hi, he⟩ := h.2.2.2.1 j (by omega)
    exact absurd ((he 0 (by decide)).symm.trans h3) (fndF_none hf i (Nat.zero_le _) (by omega))
theorem RowQ.some {M : Nat → Int32} {p : Nat} {K : Nat → Nat → Int32} {n i : Nat} {key : Int32} (h : RowQ M p K n) (ok : okK K n) (hf : fndF (fun i => K i 0 = key) 0 n = some i) : ∃ j, j < n ∧ fndF (fun t => M (p + 1 + 4 * t) = key) 0 n = some j ∧ ∀ f, f < 4 → M (p + 1 + 4 * j + f) = K i f := by
  obtain ⟨h1, h2, h3, h4⟩ := fndF_some hf
  rcases hm : fndF (fun t => M (p + 1 + 4 * t) = key) 0 n with _ | j
  · obtain ⟨j, hj, he⟩ := h.2.2.1 i (by omega)
    exact absurd ((he 0 (by decide)).trans h3) (fndF_none hm j (Nat.zero_le _) (by omega))
  · obtain ⟨g1, g2, g3, g4⟩ := fndF_some hm
    obtain ⟨i', hi', he⟩ := h.2.2.2.1 j (by omega)
    have : i' = i := ok.inj hi' (by omega) (by rw [h3]; exact (he 0 (by decide)).symm.trans g3)
    subst this
    exact ⟨j, by omega, rfl, he⟩
/-- the run beside, with its counts -/
def EM (I : MI) (p : Nat) (X : XS) : Prop := MS (I 318) p (xA X) ∧ okM (xA X) ∧ (I 317 8 = nI (xO X) ∧ I 317 9 = xF X ∧ I 317 10 = xD X ∧ I 317 11 = xR X ∧ I 317 12 = xW X)
theorem EM.of {I I' : MI} {p : Nat} {X : XS} (h : EM I p X) (h1 : ∀ k, 8 ≤ k → k < 13 → I' 317 k = I 317 k) (h2 : ∀ i, p ≤ i → i < p + 413 → I' 318 i = I 318 i) : EM I' p X := by
  obtain ⟨a, b, c1, c2, c3, c4, c5⟩ := h
  exact ⟨a.at (Wnd.of h2), b, by rw [h1 8 (by decide) (by decide)]; exact c1, by rw [h1 9 (by decide) (by decide)]; exact c2, by rw [h1 10 (by decide) (by decide)]; exact c3, by rw [h1 11 (by decide) (by decide)]; exact c4, by rw [h1 12 (by decide) (by decide)]; exact c5⟩
/-- what a run leaves -/
def Kp (p : Nat) (I I' : MI) : Prop := (∀ a, a ≠ 317 → a ≠ 318 → a ≠ 322 → I' a = I a) ∧ (∀ k, k < 8 → I' 317 k = I 317 k) ∧ ∀ i, i < p ∨ p + 413 ≤ i → I' 318 i = I 318 i
theorem Kp.rf (p : Nat) (I : MI) : Kp p I I := ⟨fun _ _ _ _ => rfl, fun _ _ => rfl, fun _ _ => rfl⟩
theorem Kp.tr {p : Nat} {I I' I'' : MI} (h : Kp p I I') (k : Kp p I' I'') : Kp p I I'' := ⟨fun a h1 h2 h3 => (k.1 a h1 h2 h3).trans (h.1 a h1 h2 h3), fun t ht => (k.2.1 t ht).trans (h.2.1 t ht), fun i hi => (k.2.2 i hi).trans (h.2.2 i hi)⟩
theorem Kp.u322 {p : Nat} {I I' : MI} (h : Kp p I I') (k : Nat) (v : Int32) : Kp p I (up2 I' 322 k v) := h.tr ⟨fun a _ _ h3 => up2_other _ _ _ _ h3, fun _ _ => congrFun (up2_other _ _ _ _ (by decide)) _, fun _ _ => congrFun (up2_other _ _ _ _ (by decide)) _⟩
theorem Kp.u317 {p : Nat} {I I' : MI} (h : Kp p I I') {k : Nat} (hk : 8 ≤ k) (v : Int32) : Kp p I (up2 I' 317 k v) := h.tr ⟨fun a h1 _ _ => up2_other _ _ _ _ h1, fun t ht => up2_slot _ _ _ _ (by omega), fun _ _ => congrFun (up2_other _ _ _ _ (by decide)) _⟩
theorem Kp.u318 {p : Nat} {I I' : MI} (h : Kp p I I') {k : Nat} (hk : p ≤ k ∧ k < p + 413) (v : Int32) : Kp p I (up2 I' 318 k v) := h.tr ⟨fun a _ h2 _ => up2_other _ _ _ _ h2, fun _ _ => congrFun (up2_other _ _ _ _ (by decide)) _, fun i hi => up2_slot _ _ _ _ (by omega)⟩
/-- a frame of the depth d -/
def FrP (I : MI) (d : Nat) (ev : Int32) (img : Nat → Int32) (mo pl ca : Int32) : Prop := I 322 (8 * d + 0) = ev ∧ (∀ t, t < 4 → I 322 (8 * d + 1 + t) = img t) ∧ I 322 (8 * d + 5) = mo ∧ I 322 (8 * d + 6) = pl ∧ I 322 (8 * d + 7) = ca
theorem nxt_eq {x : Int32} (h : ∃ q, q < 100 ∧ x = nI q) : x + 1 - (x + 1) / 100 * 100 = nxt x := by
  obtain ⟨q, hq, rfl⟩ := h
  have key : ∀ q : Fin 100, nI q.1 + 1 - (nI q.1 + 1) / 100 * 100 = nxt (nI q.1) := by decide +kernel
  exact key ⟨q, hq⟩
theorem in_03 {x : Int32} (h : inR x 0 3 = 1) : x = 0 ∨ x = 1 ∨ x = 2 ∨ x = 3 := by
  obtain ⟨h1, h2⟩ := inR_iff (fun z => absurd (h.symm.trans z) (by decide))
  obtain ⟨j, hj, rfl⟩ := nI_of2 (M := 3) (n := 3) rfl h1 (Int32.not_lt.mp h2)
  rcases (show j = 0 ∨ j = 1 ∨ j = 2 ∨ j = 3 by omega) with rfl | rfl | rfl | rfl
  · exact Or.inl rfl
  · exact Or.inr (Or.inl rfl)
  · exact Or.inr (Or.inr (Or.inl rfl))
  · exact Or.inr (Or.inr (Or.inr rfl))
theorem in_02 {x : Int32} (h : inR x 0 2 = 1) : x = 0 ∨ x = 1 ∨ x = 2 := by
  obtain ⟨h1, h2⟩ := inR_iff (fun z => absurd (h.symm.trans z) (by decide))
  obtain ⟨j, hj, rfl⟩ := nI_of2 (M := 2) (n := 2) rfl h1 (Int32.not_lt.mp h2)
  rcases (show j = 0 ∨ j = 1 ∨ j = 2 by omega) with rfl | rfl | rfl
  · exact Or.inl rfl
  · exact Or.inr (Or.inl rfl)
  · exact Or.inr (Or.inr rfl)
set_option maxRecDepth 100000 in
set_option maxHeartbeats 400000 in
theorem M_image (d : Nat) (hd : d < 9) (f : Int32) (img : Nat → Int32) (I : MI) (R : MR) (hFR : FR R) (hf : inR f 0 3 = 1) (hi : ∀ t, t < 4 → I 322 (8 * d + 1 + t) = img t) : Sp 0 0 0 mX11_image [.ref 317, .int (nI d), .int f] g0 I R (Mv (rowF img f) I R) := by
  have hm0 := hFR.2.2.2.2.2.1
  have hm1 := hFR.2.2.2.2.2.2.1
  have hm3 := hFR.2.2.2.2.2.2.2.1
  have hm5 := hFR.2.2.2.2.2.2.2.2.1
  have hm7 := hFR.2.2.2.2.2.2.2.2.2
  refine Sp.on (by decide +kernel) rfl rfl (fun J hM => ?_)
  have hJ := hM.ok
  rcases in_03 hf with rfl | rfl | rfl | rfl
  · refine q_iload_n hJ dX11_image_0 (q := 1) rfl rfl ?_
    refine q_iconst hJ (v := 3) dX11_image_1 (q := 2) rfl (by decide) ?_
    refine q_icmp_ne hJ (tgt := 19) dX11_image_2 (q := 5) rfl (by decide) (fun _ => ?_) (fun c1 => absurd c1 (by decide))
    refine q_aload_n hJ dX11_image_19 (q := 20) rfl rfl (by first | rfl | exact isR_rr _) ?_
    refine q_getR hJ dX11_image_20 (q := 23) rfl fl_X11_22 rfl (by first | exact ka317 | exact ka318 | exact ka319 | exact ka320 | exact ka321 | exact ka322) (by assumption) rfl ?_
    refine q_bipush hJ (v := 8) dX11_image_23 (q := 25) rfl (by decide) ?_
    refine q_iload_n hJ dX11_image_25 (q := 26) rfl rfl ?_
    refine q_imul hJ dX11_image_26 (q := 27) rfl ?_
    refine q_iconst hJ (v := 2) dX11_image_27 (q := 28) rfl (by decide) ?_
    refine q_iadd hJ dX11_image_28 (q := 29) rfl ?_
    refine q_iload_n hJ dX11_image_29 (q := 30) rfl rfl ?_
    refine q_iadd hJ dX11_image_30 (q := 31) rfl ?_
    refine q_iald hJ dX11_image_31 (q := 32) rfl (by first | exact ka317 | exact ka318 | exact ka319 | exact ka320 | exact ka321 | exact ka322) (ixE (j := 8 * d + 2 + 0) (by ((try simp only [nIl_add, nI_mul, nIl_0, nIl_1, nIl_2, nIl_3, nIl_4, nIl_5, nIl_6, nIl_7, nIl_8, nIl_9, nIl_10, nIl_11, nIl_12, nIl_20, nIl_60, nIl_72, nIl_80, nIl_81, nIl_82, nIl_99, nIl_100, nIl_226, nIl_227, nIl_228, nIl_229, nIl_230, nIl_231, nIl_232, nIl_233, nIl_413, nIl_1239, nIl_10000]) <;> first | done | rfl | exact congrArg nI (by omega))) (by omega) (by decide)) rfl ?_
    refine q_iret hM dX11_image_32 rfl rfl ?_
    have e := hi 1 (by decide)
    exact ⟨by rw [show I 322 (8 * d + 2 + 0) = img 1 from e]; rfl, rfl, rfl, rfl⟩
  · refine q_iload_n hJ dX11_image_0 (q := 1) rfl rfl ?_
    refine q_iconst hJ (v := 3) dX11_image_1 (q := 2) rfl (by decide) ?_
    refine q_icmp_ne hJ (tgt := 19) dX11_image_2 (q := 5) rfl (by decide) (fun _ => ?_) (fun c1 => absurd c1 (by decide))
    refine q_aload_n hJ dX11_image_19 (q := 20) rfl rfl (by first | rfl | exact isR_rr _) ?_
    refine q_getR hJ dX11_image_20 (q := 23) rfl fl_X11_22 rfl (by first | exact ka317 | exact ka318 | exact ka319 | exact ka320 | exact ka321 | exact ka322) (by assumption) rfl ?_
    refine q_bipush hJ (v := 8) dX11_image_23 (q := 25) rfl (by decide) ?_
    refine q_iload_n hJ dX11_image_25 (q := 26) rfl rfl ?_
    refine q_imul hJ dX11_image_26 (q := 27) rfl ?_
    refine q_iconst hJ (v := 2) dX11_image_27 (q := 28) rfl (by decide) ?_
    refine q_iadd hJ dX11_image_28 (q := 29) rfl ?_
    refine q_iload_n hJ dX11_image_29 (q := 30) rfl rfl ?_
    refine q_iadd hJ dX11_image_30 (q := 31) rfl ?_
    refine q_iald hJ dX11_image_31 (q := 32) rfl (by first | exact ka317 | exact ka318 | exact ka319 | exact ka320 | exact ka321 | exact ka322) (ixE (j := 8 * d + 2 + 1) (by ((try simp only [nIl_add, nI_mul, nIl_0, nIl_1, nIl_2, nIl_3, nIl_4, nIl_5, nIl_6, nIl_7, nIl_8, nIl_9, nIl_10, nIl_11, nIl_12, nIl_20, nIl_60, nIl_72, nIl_80, nIl_81, nIl_82, nIl_99, nIl_100, nIl_226, nIl_227, nIl_228, nIl_229, nIl_230, nIl_231, nIl_232, nIl_233, nIl_413, nIl_1239, nIl_10000]) <;> first | done | rfl | exact congrArg nI (by omega))) (by omega) (by decide)) rfl ?_
    refine q_iret hM dX11_image_32 rfl rfl ?_
    have e := hi 2 (by decide)
    exact ⟨by rw [show I 322 (8 * d + 2 + 1) = img 2 from e]; rfl, rfl, rfl, rfl⟩
  · refine q_iload_n hJ dX11_image_0 (q := 1) rfl rfl ?_
    refine q_iconst hJ (v := 3) dX11_image_1 (q := 2) rfl (by decide) ?_
    refine q_icmp_ne hJ (tgt := 19) dX11_image_2 (q := 5) rfl (by decide) (fun _ => ?_) (fun c1 => absurd c1 (by decide))
    refine q_aload_n hJ dX11_image_19 (q := 20) rfl rfl (by first | rfl | exact isR_rr _) ?_
    refine q_getR hJ dX11_image_20 (q := 23) rfl fl_X11_22 rfl (by first | exact ka317 | exact ka318 | exact ka319 | exact ka320 | exact ka321 | exact ka322) (by assumption) rfl ?_
    refine q_bipush hJ (v := 8) dX11_image_23 (q := 25) rfl (by decide) ?_
    refine q_iload_n hJ dX11_image_25 (q := 26) rfl rfl ?_
    refine q_imul hJ dX11_image_26 (q := 27) rfl ?_
    refine q_iconst hJ (v := 2) dX11_image_27 (q := 28) rfl (by decide) ?_
    refine q_iadd hJ dX11_image_28 (q := 29) rfl ?_
    refine q_iload_n hJ dX11_image_29 (q := 30) rfl rfl ?_
    refine q_iadd hJ dX11_image_30 (q := 31) rfl ?_
    refine q_iald hJ dX11_image_31 (q := 32) rfl (by first | exact ka317 | exact ka318 | exact ka319 | exact ka320 | exact ka321 | exact ka322) (ixE (j := 8 * d + 2 + 2) (by ((try simp only [nIl_add, nI_mul, nIl_0, nIl_1, nIl_2, nIl_3, nIl_4, nIl_5, nIl_6, nIl_7, nIl_8, nIl_9, nIl_10, nIl_11, nIl_12, nIl_20, nIl_60, nIl_72, nIl_80, nIl_81, nIl_82, nIl_99, nIl_100, nIl_226, nIl_227, nIl_228, nIl_229, nIl_230, nIl_231, nIl_232, nIl_233, nIl_413, nIl_1239, nIl_10000]) <;> first | done | rfl | exact congrArg nI (by omega))) (by omega) (by decide)) rfl ?_
    refine q_iret hM dX11_image_32 rfl rfl ?_
    have e := hi 3 (by decide)
    exact ⟨by rw [show I 322 (8 * d + 2 + 2) = img 3 from e]; rfl, rfl, rfl, rfl⟩
  · refine q_iload_n hJ dX11_image_0 (q := 1) rfl rfl ?_
    refine q_iconst hJ (v := 3) dX11_image_1 (q := 2) rfl (by decide) ?_
    refine q_icmp_ne hJ (tgt := 19) dX11_image_2 (q := 5) rfl (by decide) (fun c1 => absurd c1 (by decide)) (fun _ => ?_)
    refine q_aload_n hJ dX11_image_5 (q := 6) rfl rfl (by first | rfl | exact isR_rr _) ?_
    refine q_getR hJ dX11_image_6 (q := 9) rfl fl_X11_22 rfl (by first | exact ka317 | exact ka318 | exact ka319 | exact ka320 | exact ka321 | exact ka322) (by assumption) rfl ?_
    refine q_bipush hJ (v := 8) dX11_image_9 (q := 11) rfl (by decide) ?_
    refine q_iload_n hJ dX11_image_11 (q := 12) rfl rfl ?_
    refine q_imul hJ dX11_image_12 (q := 13) rfl ?_
    refine q_iconst hJ (v := 1) dX11_image_13 (q := 14) rfl (by decide) ?_
    refine q_iadd hJ dX11_image_14 (q := 15) rfl ?_
    refine q_iald hJ dX11_image_15 (q := 16) rfl (by first | exact ka317 | exact ka318 | exact ka319 | exact ka320 | exact ka321 | exact ka322) (ixE (j := 8 * d + 1) (by ((try simp only [nIl_add, nI_mul, nIl_0, nIl_1, nIl_2, nIl_3, nIl_4, nIl_5, nIl_6, nIl_7, nIl_8, nIl_9, nIl_10, nIl_11, nIl_12, nIl_20, nIl_60, nIl_72, nIl_80, nIl_81, nIl_82, nIl_99, nIl_100, nIl_226, nIl_227, nIl_228, nIl_229, nIl_230, nIl_231, nIl_232, nIl_233, nIl_413, nIl_1239, nIl_10000]) <;> first | done | rfl | exact congrArg nI (by omega))) (by omega) (by decide)) rfl ?_
    refine q_goto hJ (tgt := 32) dX11_image_16 (by decide) ?_
    refine q_iret hM dX11_image_32 rfl rfl ?_
    have e := hi 0 (by decide)
    exact ⟨by rw [show I 322 (8 * d + 1) = img 0 from e]; rfl, rfl, rfl, rfl⟩

theorem fir_step {I : MI} {x : Int32} {n : Nat} (hn : 2 ≤ n) : (∃ k, 2 ≤ k ∧ k < n + 1 ∧ I 322 (8 * k + 7) = x) ↔ (∃ k, 2 ≤ k ∧ k < n ∧ I 322 (8 * k + 7) = x) ∨ I 322 (8 * n + 7) = x := by
  constructor
  · rintro ⟨k, h1, h2, h3⟩
    by_cases e : k = n
    · exact Or.inr (e ▸ h3)
    · exact Or.inl ⟨k, h1, by omega, h3⟩
  · rintro (⟨k, h1, h2, h3⟩ | h)
    · exact ⟨k, h1, by omega, h3⟩
    · exact ⟨n, hn, by omega, h⟩
set_option maxRecDepth 100000 in
set_option maxHeartbeats 400000 in
theorem M_isFiring (d r : Nat) (h1 : 1 ≤ d) (hd : d < 9) (cs : List Nat) (I : MI) (R : MR) (hFR : FR R) (hcs : (∃ k, 2 ≤ k ∧ k < d + 1 ∧ I 322 (8 * k + 7) = nI r) ↔ r ∈ cs) : Sp 0 0 0 mX11_isFiring [.ref 317, .int (nI r), .int (nI d)] g0 I R (Mv (if r ∈ cs then 1 else 0) I R) := by
  have hm0 := hFR.2.2.2.2.2.1
  have hm1 := hFR.2.2.2.2.2.2.1
  have hm3 := hFR.2.2.2.2.2.2.2.1
  have hm5 := hFR.2.2.2.2.2.2.2.2.1
  have hm7 := hFR.2.2.2.2.2.2.2.2.2
  refine Sp.on (by decide +kernel) rfl rfl (fun J hM => ?_)
  have hJ := hM.ok
  have loop : ∀ (n j : Nat) (y : Int32), n + j = d + 1 → 2 ≤ j → (y = 0 ∨ y = 1) → ((y = 1 → ∃ k, 2 ≤ k ∧ k < j ∧ I 322 (8 * k + 7) = nI r) ∧ ((∃ k, 2 ≤ k ∧ k < j ∧ I 322 (8 * k + 7) = nI r) → y = 1)) → J 0 0 5 [some (.ref 317), some (.int (nI r)), some (.int (nI d)), some (.int y), some (.int (nI j))] [] g0 I R := by
    intro n
    induction n with
    | zero =>
      intro j y hm hj hy01 hy
      refine q_iload hJ dX11_isFiring_5 (q := 7) rfl rfl ?_
      refine q_iload_n hJ dX11_isFiring_7 (q := 8) rfl rfl ?_
      refine q_icmp_gt hJ (tgt := 44) dX11_isFiring_8 (q := 11) rfl (by decide) (fun _ => ?_) (fun c5 => absurd ((nI_ltI (a := d) (b := j) (by omega) (by omega)).mpr (by omega)) c5)
      refine q_iload_n hJ dX11_isFiring_44 (q := 45) rfl rfl ?_
      refine q_iret hM dX11_isFiring_45 rfl (nz rfl hy01) ?_
      have ej : j = d + 1 := by omega
      subst ej
      refine ⟨?_, rfl, rfl, rfl⟩
      by_cases hc : r ∈ cs
      · rw [if_pos hc, hy.2 (hcs.mpr hc)]
      · rw [if_neg hc, hy01.resolve_right (fun z => hc (hcs.mp (hy.1 z)))]
    | succ n ih =>
      intro j y hm hj hy01 hy
      refine q_iload hJ dX11_isFiring_5 (q := 7) rfl rfl ?_
      refine q_iload_n hJ dX11_isFiring_7 (q := 8) rfl rfl ?_
      refine q_icmp_gt hJ (tgt := 44) dX11_isFiring_8 (q := 11) rfl (by decide) (fun c5 => absurd ((nI_ltI (a := d) (b := j) (by omega) (by omega)).mp c5) (by omega)) (fun _ => ?_)
      refine q_iload_n hJ dX11_isFiring_11 (q := 12) rfl rfl ?_
      refine q_if_ne hJ (tgt := 32) dX11_isFiring_12 (q := 15) rfl (by decide) (fun c6 => ?_) (fun c6 => ?_)
      · refine q_iconst hJ (v := 1) dX11_isFiring_32 (q := 33) rfl (by decide) ?_
        refine q_goto hJ (tgt := 37) dX11_isFiring_33 (by decide) ?_
        refine q_istore_n hJ dX11_isFiring_37 (q := 38) rfl (by decide) ?_
        refine q_iinc hJ dX11_isFiring_38 (q := 41) rfl (by decide) rfl (nI_1 j) ?_
        refine q_goto hJ (tgt := 5) dX11_isFiring_41 (by decide) ?_
        refine ih (j + 1) _ (by omega) (by omega) (by decide) ⟨fun hz => (fir_step hj).mpr ?_, fun hz => ?_⟩
        · first | exact Or.inl (hy.1 (hy01.resolve_left c6)) | exact Or.inr c7 | exact absurd hz (by decide)
        · first | rfl | (rcases (fir_step hj).mp hz with z | z; exact absurd (c6.symm.trans (hy.2 z)) (by decide); exact absurd z c7)
      · refine q_aload_n hJ dX11_isFiring_15 (q := 16) rfl rfl (by first | rfl | exact isR_rr _) ?_
        refine q_getR hJ dX11_isFiring_16 (q := 19) rfl fl_X11_22 rfl (by first | exact ka317 | exact ka318 | exact ka319 | exact ka320 | exact ka321 | exact ka322) (by assumption) rfl ?_
        refine q_bipush hJ (v := 8) dX11_isFiring_19 (q := 21) rfl (by decide) ?_
        refine q_iload hJ dX11_isFiring_21 (q := 23) rfl rfl ?_
        refine q_imul hJ dX11_isFiring_23 (q := 24) rfl ?_
        refine q_bipush hJ (v := 7) dX11_isFiring_24 (q := 26) rfl (by decide) ?_
        refine q_iadd hJ dX11_isFiring_26 (q := 27) rfl ?_
        refine q_iald hJ dX11_isFiring_27 (q := 28) rfl (by first | exact ka317 | exact ka318 | exact ka319 | exact ka320 | exact ka321 | exact ka322) (ixE (j := 8 * j + 7) (by ((try simp only [nIl_add, nI_mul, nIl_0, nIl_1, nIl_2, nIl_3, nIl_4, nIl_5, nIl_6, nIl_7, nIl_8, nIl_9, nIl_10, nIl_11, nIl_12, nIl_20, nIl_60, nIl_72, nIl_80, nIl_81, nIl_82, nIl_99, nIl_100, nIl_226, nIl_227, nIl_228, nIl_229, nIl_230, nIl_231, nIl_232, nIl_233, nIl_413, nIl_1239, nIl_10000]) <;> first | done | rfl | exact congrArg nI (by omega))) (by omega) (by decide)) rfl ?_
        refine q_iload_n hJ dX11_isFiring_28 (q := 29) rfl rfl ?_
        refine q_icmp_ne hJ (tgt := 36) dX11_isFiring_29 (q := 32) rfl (by decide) (fun c7 => ?_) (fun c7 => ?_)
        · refine q_iconst hJ (v := 0) dX11_isFiring_36 (q := 37) rfl (by decide) ?_
          refine q_istore_n hJ dX11_isFiring_37 (q := 38) rfl (by decide) ?_
          refine q_iinc hJ dX11_isFiring_38 (q := 41) rfl (by decide) rfl (nI_1 j) ?_
          refine q_goto hJ (tgt := 5) dX11_isFiring_41 (by decide) ?_
          refine ih (j + 1) _ (by omega) (by omega) (by decide) ⟨fun hz => (fir_step hj).mpr ?_, fun hz => ?_⟩
          · first | exact Or.inl (hy.1 (hy01.resolve_left c6)) | exact Or.inr c7 | exact absurd hz (by decide)
          · first | rfl | (rcases (fir_step hj).mp hz with z | z; exact absurd (c6.symm.trans (hy.2 z)) (by decide); exact absurd z c7)
        · refine q_iconst hJ (v := 1) dX11_isFiring_32 (q := 33) rfl (by decide) ?_
          refine q_goto hJ (tgt := 37) dX11_isFiring_33 (by decide) ?_
          refine q_istore_n hJ dX11_isFiring_37 (q := 38) rfl (by decide) ?_
          refine q_iinc hJ dX11_isFiring_38 (q := 41) rfl (by decide) rfl (nI_1 j) ?_
          refine q_goto hJ (tgt := 5) dX11_isFiring_41 (by decide) ?_
          refine ih (j + 1) _ (by omega) (by omega) (by decide) ⟨fun hz => (fir_step hj).mpr ?_, fun hz => ?_⟩
          · first | exact Or.inl (hy.1 (hy01.resolve_left c6)) | exact Or.inr c7 | exact absurd hz (by decide)
          · first | rfl | (rcases (fir_step hj).mp hz with z | z; exact absurd (c6.symm.trans (hy.2 z)) (by decide); exact absurd z c7)
  refine q_iconst hJ (v := 0) dX11_isFiring_0 (q := 1) rfl (by decide) ?_
  refine q_istore_n hJ dX11_isFiring_1 (q := 2) rfl (by decide) ?_
  refine q_iconst hJ (v := 2) dX11_isFiring_2 (q := 3) rfl (by decide) ?_
  refine q_istore hJ dX11_isFiring_3 (q := 5) rfl (by decide) ?_
  exact loop (d - 1) 2 0 (by omega) (Nat.le_refl 2) (Or.inl rfl) ⟨fun z => absurd z (by decide), fun ⟨k, h1, h2, _⟩ => absurd h2 (by omega)⟩

