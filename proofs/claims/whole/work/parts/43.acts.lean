/-! THE MODEL: a rule acts; a step -/
theorem rec_eq (A : AS) (r d key : Int32) : aK (recA A r d key) = aK A ∧ aN (recA A r d key) = aN A ∧ aU (recA A r d key) = aU A ∧ aM (recA A r d key) = aM A ∧ aS (recA A r d key) = aS A := by
  unfold recA
  split <;> exact ⟨rfl, rfl, rfl, rfl, rfl⟩
theorem cnt_eq (d r : Nat) (img : Nat → Int32) (X : XS) : aK (xA (cntA d r img X)) = aK (xA X) ∧ aN (xA (cntA d r img X)) = aN (xA X) ∧ (∀ q f, f ≠ 11 → aU (xA (cntA d r img X)) q f = aU (xA X) q f) ∧ aM (xA (cntA d r img X)) = aM (xA X) ∧ aS (xA (cntA d r img X)) = aS (xA X) ∧ xO (cntA d r img X) = xO X := by
  obtain ⟨h1, h2, h3, h4, h5⟩ := rec_eq (setU (xA X) (up2 (aU (xA X)) r 11 (aU (xA X) r 11 + 1))) (nI r) (nI d) (img 0)
  exact ⟨h1, h2, fun q f hf => (congrFun (congrFun h3 q) f).trans (up2_slot _ _ _ _ hf), h4, h5, rfl⟩
theorem valF_cnt (d r : Nat) (img : Nat → Int32) (X : XS) : valF (aU (xA (cntA d r img X)) r) img = valF (aU (xA X) r) img := by
  have h := (cnt_eq d r img X).2.2.1 r
  unfold valF
  rw [h 5 (by decide), h 6 (by decide)]
def A0Po (p d r : Nat) (img : Nat → Int32) (X : XS) (I : MI) (R : MR) : Po := fun v g' I' R' => v = some (.int (nI d)) ∧ g0 = g' ∧ R = R' ∧ Kp p I I' ∧ EM I' p (cntA d r img X) ∧ (∀ t, t < 4 → I' 322 (8 * d + 1 + t) = chgF img (aU (xA X) r 4) (valF (aU (xA X) r) img) t) ∧ ∀ i, i < 8 * d + 1 ∨ 8 * d + 5 ≤ i → I' 322 i = I 322 i
def A1Po (p d : Nat) (v0 : Int32) (X' : XS) (I : MI) (R : MR) : Po := fun v g' I' R' => v = some (.int v0) ∧ g0 = g' ∧ R = R' ∧ Kp p I I' ∧ EM I' p X' ∧ ∀ i, i < 8 * d + 8 → I' 322 i = I 322 i
def A3Po (p d r : Nat) (img : Nat → Int32) (X X1 : XS) (I : MI) (R : MR) : Po := fun v g' I' R' => g0 = g' ∧ R = R' ∧ Kp p I I' ∧ (∀ i, i < 8 * d + 8 → I' 322 i = I 322 i) ∧ ((aS (xA X) 0 = nI d ∧ v = some (.int (nI d)) ∧ EM I' p (refA X1 2 (nI r))) ∨ (¬ aS (xA X) 0 = nI d ∧ d < 8 ∧ ((prepA (xA X1) (aU (xA X1) r) img = none ∧ v = some (.int (nI d)) ∧ EM I' p X1) ∨ ∃ img2, prepA (xA X1) (aU (xA X1) r) img = some img2 ∧ ((100 ≤ xO X1 ∧ v = some (.int (nI d)) ∧ EM I' p (refA X1 3 (nI r))) ∨ (xO X1 < 100 ∧ v = some (.int (nI (d + 1))) ∧ EM I' p (begA (d + 1) X1) ∧ FrP I' (d + 1) (aU (xA X1) r 3 - 3) img2 0 0 (nI r))))))
theorem EM.ref {I I' : MI} {p : Nat} {X : XS} (h : EM I p X) (w x : Int32) (h1 : I' = up2 (up2 I 317 11 w) 317 12 x) : EM I' p (refA X w x) := by
  obtain ⟨a, b, c1, c2, c3, c4, c5⟩ := h
  subst h1
  exact ⟨a.at (Wnd.of fun i _ _ => by rw [up2_i (by omega), up2_i (by omega)]), b, by rw [up2_i (by omega), up2_i (by omega)]; exact c1, by rw [up2_i (by omega), up2_i (by omega)]; exact c2, by rw [up2_i (by omega), up2_i (by omega)]; exact c3, by rw [up2_i (by omega), up2_self]; rfl, by rw [up2_self]; rfl⟩
set_option maxRecDepth 100000 in
set_option maxHeartbeats 400000 in
theorem M_act0 (p d r : Nat) (hp : p ≤ 413) (h1d : 1 ≤ d) (hd : d < 9) (img : Nat → Int32) (X : XS) (I : MI) (R : MR) (hFR : FR R) (hX : EM I p X) (hr : r < aM (xA X)) (hi : ∀ t, t < 4 → I 322 (8 * d + 1 + t) = img t) (hK : aU (xA X) r 3 = 0) : Sp 4 0 0 mX11_acts [.ref 317, .int (nI p), .int (nI r), .int (nI d)] g0 I R (A0Po p d r img X I R) := by
  have hm0 := hFR.2.2.2.2.2.1
  have hm1 := hFR.2.2.2.2.2.2.1
  have hm3 := hFR.2.2.2.2.2.2.2.1
  have hm5 := hFR.2.2.2.2.2.2.2.2.1
  have hm7 := hFR.2.2.2.2.2.2.2.2.2
  obtain ⟨⟨hR, hU, hS, hL⟩, hok, hc⟩ := id hX
  have hm := hU.2.1
  have hku := hok.2.1 r hr
  obtain ⟨a, ha, hA⟩ := n_02 hku.2.1.1
  obtain ⟨b1, b2, b3, b4, b5, b6⟩ := cnt_eq d r img X
  refine Sp.on (by decide +kernel) rfl rfl (fun J hM => ?_)
  have hJ := hM.ok
  refine q_iload_n hJ dX11_acts_0 (q := 1) rfl rfl ?_
  refine q_iload_n hJ dX11_acts_1 (q := 2) rfl rfl ?_
  refine q_callS hJ dX11_acts_2 (q := 5) rfl (M_ruleAt p r I R) imX11_ruleAt ln_X11_40 rfl rfl rfl (Nat.le_of_ble_eq_true rfl) (by decide) (by decide) rfl rfl (fun rv gv Iv Rv hv => ?_)
  obtain ⟨rfl, rfl, rfl, rfl⟩ := hv
  refine q_istore hJ dX11_acts_5 (q := 7) rfl (by decide) ?_
  refine q_aload_n hJ dX11_acts_7 (q := 8) rfl rfl (by first | rfl | exact isR_rr _) ?_
  refine q_iload_n hJ dX11_acts_8 (q := 9) rfl rfl ?_
  refine q_iload_n hJ dX11_acts_9 (q := 10) rfl rfl ?_
  refine q_iload_n hJ dX11_acts_10 (q := 11) rfl rfl ?_
  refine q_callV hJ dX11_acts_11 (q := 14) rfl (M_valueOf p d r (aM (xA X)) hp hd (aU (xA X)) img I R hFR hU hr hku hi) imX11_valueOf ln_X11_93 (by first | exact ka317 | exact ka318 | exact ka319 | exact ka320 | exact ka321 | exact ka322) (by decide) rfl rfl rfl rfl (Nat.le_of_ble_eq_true rfl) (by decide) (by decide) rfl rfl (fun rv gv Iv Rv hv => ?_)
  obtain ⟨rfl, rfl, rfl, rfl⟩ := hv
  refine q_istore hJ dX11_acts_14 (q := 16) rfl (by decide) ?_
  refine q_aload_n hJ dX11_acts_16 (q := 17) rfl rfl (by first | rfl | exact isR_rr _) ?_
  refine q_iload_n hJ dX11_acts_17 (q := 18) rfl rfl ?_
  refine q_iload_n hJ dX11_acts_18 (q := 19) rfl rfl ?_
  refine q_iload_n hJ dX11_acts_19 (q := 20) rfl rfl ?_
  refine q_callV hJ dX11_acts_20 (q := 23) rfl (M_counts p d r hp hd img X I R hFR hX hr hi) imX11_counts ln_X11_97 (by first | exact ka317 | exact ka318 | exact ka319 | exact ka320 | exact ka321 | exact ka322) (by decide) rfl rfl rfl rfl (Nat.le_of_ble_eq_true rfl) (by decide) (by decide) rfl rfl (fun rv gv Iv Rv hv => ?_)
  obtain ⟨rfl, rfl, rfl, hX1, hk1, h322⟩ := hv
  generalize Iv = I1 at *
  have hU1 := hX1.1.2.1
  have hS1 := hX1.1.2.2.1
  refine q_aload_n hJ dX11_acts_23 (q := 24) rfl rfl (by first | rfl | exact isR_rr _) ?_
  refine q_getR hJ dX11_acts_24 (q := 27) rfl fl_X11_7 rfl (by first | exact ka317 | exact ka318 | exact ka319 | exact ka320 | exact ka321 | exact ka322) (by assumption) rfl ?_
  refine q_iload hJ dX11_acts_27 (q := 29) rfl rfl ?_
  refine q_iconst hJ (v := 3) dX11_acts_29 (q := 30) rfl (by decide) ?_
  refine q_iadd hJ dX11_acts_30 (q := 31) rfl ?_
  refine q_iald hJ dX11_acts_31 (q := 32) rfl (by first | exact ka317 | exact ka318 | exact ka319 | exact ka320 | exact ka321 | exact ka322) (ixE (j := p + 82 + 12 * r + 3) (by ((try simp only [nIl_add, nI_mul, nIl_0, nIl_1, nIl_2, nIl_3, nIl_4, nIl_5, nIl_6, nIl_7, nIl_8, nIl_9, nIl_10, nIl_11, nIl_12, nIl_20, nIl_60, nIl_72, nIl_80, nIl_81, nIl_82, nIl_99, nIl_100, nIl_226, nIl_227, nIl_228, nIl_229, nIl_230, nIl_231, nIl_232, nIl_233, nIl_413, nIl_1239, nIl_10000]) <;> first | done | rfl | exact congrArg nI (by omega))) (by omega) (by decide)) (show _ = 0 from (hU1.2.2 r (by rw [b4]; exact hr) 3 (by decide)).trans ((b3 r 3 (by decide)).trans hK)) ?_
  refine q_tswIn hJ (off := 28) (tgt := 60) dX11_acts_32 (by decide) (by decide) (by decide) (by decide) ?_
  refine q_aload_n hJ dX11_acts_60 (q := 61) rfl rfl (by first | rfl | exact isR_rr _) ?_
  refine q_getR hJ dX11_acts_61 (q := 64) rfl fl_X11_22 rfl (by first | exact ka317 | exact ka318 | exact ka319 | exact ka320 | exact ka321 | exact ka322) (by assumption) rfl ?_
  refine q_bipush hJ (v := 8) dX11_acts_64 (q := 66) rfl (by decide) ?_
  refine q_iload_n hJ dX11_acts_66 (q := 67) rfl rfl ?_
  refine q_imul hJ dX11_acts_67 (q := 68) rfl ?_
  refine q_iconst hJ (v := 2) dX11_acts_68 (q := 69) rfl (by decide) ?_
  refine q_iadd hJ dX11_acts_69 (q := 70) rfl ?_
  refine q_aload_n hJ dX11_acts_70 (q := 71) rfl rfl (by first | rfl | exact isR_rr _) ?_
  refine q_getR hJ dX11_acts_71 (q := 74) rfl fl_X11_7 rfl (by first | exact ka317 | exact ka318 | exact ka319 | exact ka320 | exact ka321 | exact ka322) (by assumption) rfl ?_
  refine q_iload hJ dX11_acts_74 (q := 76) rfl rfl ?_
  refine q_iconst hJ (v := 4) dX11_acts_76 (q := 77) rfl (by decide) ?_
  refine q_iadd hJ dX11_acts_77 (q := 78) rfl ?_
  refine q_iald hJ dX11_acts_78 (q := 79) rfl (by first | exact ka317 | exact ka318 | exact ka319 | exact ka320 | exact ka321 | exact ka322) (ixE (j := p + 82 + 12 * r + 4) (by ((try simp only [nIl_add, nI_mul, nIl_0, nIl_1, nIl_2, nIl_3, nIl_4, nIl_5, nIl_6, nIl_7, nIl_8, nIl_9, nIl_10, nIl_11, nIl_12, nIl_20, nIl_60, nIl_72, nIl_80, nIl_81, nIl_82, nIl_99, nIl_100, nIl_226, nIl_227, nIl_228, nIl_229, nIl_230, nIl_231, nIl_232, nIl_233, nIl_413, nIl_1239, nIl_10000]) <;> first | done | rfl | exact congrArg nI (by omega))) (by omega) (by decide)) (show _ = nI a from (hU1.2.2 r (by rw [b4]; exact hr) 4 (by decide)).trans ((b3 r 4 (by decide)).trans hA)) ?_
  refine q_iadd hJ dX11_acts_79 (q := 80) rfl ?_
  refine q_iload hJ dX11_acts_80 (q := 82) rfl rfl ?_
  refine q_iast hJ dX11_acts_82 (q := 83) rfl (by first | exact ka317 | exact ka318 | exact ka319 | exact ka320 | exact ka321 | exact ka322) (ixE (j := 8 * d + 2 + a) (by ((try simp only [nIl_add, nI_mul, nIl_0, nIl_1, nIl_2, nIl_3, nIl_4, nIl_5, nIl_6, nIl_7, nIl_8, nIl_9, nIl_10, nIl_11, nIl_12, nIl_20, nIl_60, nIl_72, nIl_80, nIl_81, nIl_82, nIl_99, nIl_100, nIl_226, nIl_227, nIl_228, nIl_229, nIl_230, nIl_231, nIl_232, nIl_233, nIl_413, nIl_1239, nIl_10000]) <;> first | done | rfl | exact congrArg nI (by omega))) (by omega) (by decide)) ?_
  refine q_iload_n hJ dX11_acts_83 (q := 84) rfl rfl ?_
  refine q_iret hM dX11_acts_84 rfl rfl ?_
  refine ⟨rfl, rfl, rfl, hk1.u322 _ _, hX1.of (fun k _ _ => by rw [up2_i (by omega)]) (fun k _ _ => by rw [up2_i (by omega)]), fun t ht => ?_, fun i hi2 => by rw [up2_i (by omega), h322]⟩
  rw [hA, chgF_n ha]
  by_cases e : t = 1 + a
  · rw [if_pos e, show 8 * d + 1 + t = 8 * d + 2 + a by omega, up2_self]
  · rw [if_neg e, up2_i (by omega), h322]; exact hi t ht

set_option maxRecDepth 100000 in
set_option maxHeartbeats 400000 in
theorem M_act1 (p d r : Nat) (hp : p ≤ 413) (h1d : 1 ≤ d) (hd : d < 9) (img : Nat → Int32) (X : XS) (I : MI) (R : MR) (hFR : FR R) (hX : EM I p X) (hr : r < aM (xA X)) (hi : ∀ t, t < 4 → I 322 (8 * d + 1 + t) = img t) (hK : aU (xA X) r 3 = 1) : Sp 4 0 0 mX11_acts [.ref 317, .int (nI p), .int (nI r), .int (nI d)] g0 I R (A1Po p d (nI d) (refA (cntA d r img X) 1 (nI r)) I R) := by
  have hm0 := hFR.2.2.2.2.2.1
  have hm1 := hFR.2.2.2.2.2.2.1
  have hm3 := hFR.2.2.2.2.2.2.2.1
  have hm5 := hFR.2.2.2.2.2.2.2.2.1
  have hm7 := hFR.2.2.2.2.2.2.2.2.2
  obtain ⟨⟨hR, hU, hS, hL⟩, hok, hc⟩ := id hX
  have hm := hU.2.1
  have hku := hok.2.1 r hr
  obtain ⟨a, ha, hA⟩ := n_02 hku.2.1.1
  obtain ⟨b1, b2, b3, b4, b5, b6⟩ := cnt_eq d r img X
  refine Sp.on (by decide +kernel) rfl rfl (fun J hM => ?_)
  have hJ := hM.ok
  refine q_iload_n hJ dX11_acts_0 (q := 1) rfl rfl ?_
  refine q_iload_n hJ dX11_acts_1 (q := 2) rfl rfl ?_
  refine q_callS hJ dX11_acts_2 (q := 5) rfl (M_ruleAt p r I R) imX11_ruleAt ln_X11_40 rfl rfl rfl (Nat.le_of_ble_eq_true rfl) (by decide) (by decide) rfl rfl (fun rv gv Iv Rv hv => ?_)
  obtain ⟨rfl, rfl, rfl, rfl⟩ := hv
  refine q_istore hJ dX11_acts_5 (q := 7) rfl (by decide) ?_
  refine q_aload_n hJ dX11_acts_7 (q := 8) rfl rfl (by first | rfl | exact isR_rr _) ?_
  refine q_iload_n hJ dX11_acts_8 (q := 9) rfl rfl ?_
  refine q_iload_n hJ dX11_acts_9 (q := 10) rfl rfl ?_
  refine q_iload_n hJ dX11_acts_10 (q := 11) rfl rfl ?_
  refine q_callV hJ dX11_acts_11 (q := 14) rfl (M_valueOf p d r (aM (xA X)) hp hd (aU (xA X)) img I R hFR hU hr hku hi) imX11_valueOf ln_X11_93 (by first | exact ka317 | exact ka318 | exact ka319 | exact ka320 | exact ka321 | exact ka322) (by decide) rfl rfl rfl rfl (Nat.le_of_ble_eq_true rfl) (by decide) (by decide) rfl rfl (fun rv gv Iv Rv hv => ?_)
  obtain ⟨rfl, rfl, rfl, rfl⟩ := hv
  refine q_istore hJ dX11_acts_14 (q := 16) rfl (by decide) ?_
  refine q_aload_n hJ dX11_acts_16 (q := 17) rfl rfl (by first | rfl | exact isR_rr _) ?_
  refine q_iload_n hJ dX11_acts_17 (q := 18) rfl rfl ?_
  refine q_iload_n hJ dX11_acts_18 (q := 19) rfl rfl ?_
  refine q_iload_n hJ dX11_acts_19 (q := 20) rfl rfl ?_
  refine q_callV hJ dX11_acts_20 (q := 23) rfl (M_counts p d r hp hd img X I R hFR hX hr hi) imX11_counts ln_X11_97 (by first | exact ka317 | exact ka318 | exact ka319 | exact ka320 | exact ka321 | exact ka322) (by decide) rfl rfl rfl rfl (Nat.le_of_ble_eq_true rfl) (by decide) (by decide) rfl rfl (fun rv gv Iv Rv hv => ?_)
  obtain ⟨rfl, rfl, rfl, hX1, hk1, h322⟩ := hv
  generalize Iv = I1 at *
  have hU1 := hX1.1.2.1
  have hS1 := hX1.1.2.2.1
  refine q_aload_n hJ dX11_acts_23 (q := 24) rfl rfl (by first | rfl | exact isR_rr _) ?_
  refine q_getR hJ dX11_acts_24 (q := 27) rfl fl_X11_7 rfl (by first | exact ka317 | exact ka318 | exact ka319 | exact ka320 | exact ka321 | exact ka322) (by assumption) rfl ?_
  refine q_iload hJ dX11_acts_27 (q := 29) rfl rfl ?_
  refine q_iconst hJ (v := 3) dX11_acts_29 (q := 30) rfl (by decide) ?_
  refine q_iadd hJ dX11_acts_30 (q := 31) rfl ?_
  refine q_iald hJ dX11_acts_31 (q := 32) rfl (by first | exact ka317 | exact ka318 | exact ka319 | exact ka320 | exact ka321 | exact ka322) (ixE (j := p + 82 + 12 * r + 3) (by ((try simp only [nIl_add, nI_mul, nIl_0, nIl_1, nIl_2, nIl_3, nIl_4, nIl_5, nIl_6, nIl_7, nIl_8, nIl_9, nIl_10, nIl_11, nIl_12, nIl_20, nIl_60, nIl_72, nIl_80, nIl_81, nIl_82, nIl_99, nIl_100, nIl_226, nIl_227, nIl_228, nIl_229, nIl_230, nIl_231, nIl_232, nIl_233, nIl_413, nIl_1239, nIl_10000]) <;> first | done | rfl | exact congrArg nI (by omega))) (by omega) (by decide)) (show _ = 1 from (hU1.2.2 r (by rw [b4]; exact hr) 3 (by decide)).trans ((b3 r 3 (by decide)).trans hK)) ?_
  refine q_tswIn hJ (off := 53) (tgt := 85) dX11_acts_32 (by decide) (by decide) (by decide) (by decide) ?_
  refine q_aload_n hJ dX11_acts_85 (q := 86) rfl rfl (by first | rfl | exact isR_rr _) ?_
  refine q_iconst hJ (v := 1) dX11_acts_86 (q := 87) rfl (by decide) ?_
  refine q_iload_n hJ dX11_acts_87 (q := 88) rfl rfl ?_
  refine q_callV hJ dX11_acts_88 (q := 91) rfl (M_refuses 1 (nI r) I1 R) imX11_refuses ln_X11_67 (by first | exact ka317 | exact ka318 | exact ka319 | exact ka320 | exact ka321 | exact ka322) (by decide) rfl rfl rfl rfl (Nat.le_of_ble_eq_true rfl) (by decide) (by decide) rfl rfl (fun rv gv Iv Rv hv => ?_)
  obtain ⟨rfl, rfl, rfl, rfl⟩ := hv
  refine q_iload_n hJ dX11_acts_91 (q := 92) rfl rfl ?_
  refine q_iret hM dX11_acts_92 rfl rfl ?_
  exact ⟨rfl, rfl, rfl, (hk1.u317 (by decide) _).u317 (by decide) _, hX1.ref _ _ rfl, fun i hi2 => by rw [up2_i (by omega), up2_i (by omega), h322]⟩

set_option maxRecDepth 100000 in
set_option maxHeartbeats 400000 in
theorem M_act2 (p d r : Nat) (hp : p ≤ 413) (h1d : 1 ≤ d) (hd : d < 9) (img : Nat → Int32) (X : XS) (I : MI) (R : MR) (hFR : FR R) (hX : EM I p X) (hr : r < aM (xA X)) (hi : ∀ t, t < 4 → I 322 (8 * d + 1 + t) = img t) (hK : aU (xA X) r 3 = 2) : Sp 4 0 0 mX11_acts [.ref 317, .int (nI p), .int (nI r), .int (nI d)] g0 I R (A1Po p d (nI (d - 1)) (cntA d r img X) I R) := by
  have hm0 := hFR.2.2.2.2.2.1
  have hm1 := hFR.2.2.2.2.2.2.1
  have hm3 := hFR.2.2.2.2.2.2.2.1
  have hm5 := hFR.2.2.2.2.2.2.2.2.1
  have hm7 := hFR.2.2.2.2.2.2.2.2.2
  obtain ⟨⟨hR, hU, hS, hL⟩, hok, hc⟩ := id hX
  have hm := hU.2.1
  have hku := hok.2.1 r hr
  obtain ⟨a, ha, hA⟩ := n_02 hku.2.1.1
  obtain ⟨b1, b2, b3, b4, b5, b6⟩ := cnt_eq d r img X
  refine Sp.on (by decide +kernel) rfl rfl (fun J hM => ?_)
  have hJ := hM.ok
  refine q_iload_n hJ dX11_acts_0 (q := 1) rfl rfl ?_
  refine q_iload_n hJ dX11_acts_1 (q := 2) rfl rfl ?_
  refine q_callS hJ dX11_acts_2 (q := 5) rfl (M_ruleAt p r I R) imX11_ruleAt ln_X11_40 rfl rfl rfl (Nat.le_of_ble_eq_true rfl) (by decide) (by decide) rfl rfl (fun rv gv Iv Rv hv => ?_)
  obtain ⟨rfl, rfl, rfl, rfl⟩ := hv
  refine q_istore hJ dX11_acts_5 (q := 7) rfl (by decide) ?_
  refine q_aload_n hJ dX11_acts_7 (q := 8) rfl rfl (by first | rfl | exact isR_rr _) ?_
  refine q_iload_n hJ dX11_acts_8 (q := 9) rfl rfl ?_
  refine q_iload_n hJ dX11_acts_9 (q := 10) rfl rfl ?_
  refine q_iload_n hJ dX11_acts_10 (q := 11) rfl rfl ?_
  refine q_callV hJ dX11_acts_11 (q := 14) rfl (M_valueOf p d r (aM (xA X)) hp hd (aU (xA X)) img I R hFR hU hr hku hi) imX11_valueOf ln_X11_93 (by first | exact ka317 | exact ka318 | exact ka319 | exact ka320 | exact ka321 | exact ka322) (by decide) rfl rfl rfl rfl (Nat.le_of_ble_eq_true rfl) (by decide) (by decide) rfl rfl (fun rv gv Iv Rv hv => ?_)
  obtain ⟨rfl, rfl, rfl, rfl⟩ := hv
  refine q_istore hJ dX11_acts_14 (q := 16) rfl (by decide) ?_
  refine q_aload_n hJ dX11_acts_16 (q := 17) rfl rfl (by first | rfl | exact isR_rr _) ?_
  refine q_iload_n hJ dX11_acts_17 (q := 18) rfl rfl ?_
  refine q_iload_n hJ dX11_acts_18 (q := 19) rfl rfl ?_
  refine q_iload_n hJ dX11_acts_19 (q := 20) rfl rfl ?_
  refine q_callV hJ dX11_acts_20 (q := 23) rfl (M_counts p d r hp hd img X I R hFR hX hr hi) imX11_counts ln_X11_97 (by first | exact ka317 | exact ka318 | exact ka319 | exact ka320 | exact ka321 | exact ka322) (by decide) rfl rfl rfl rfl (Nat.le_of_ble_eq_true rfl) (by decide) (by decide) rfl rfl (fun rv gv Iv Rv hv => ?_)
  obtain ⟨rfl, rfl, rfl, hX1, hk1, h322⟩ := hv
  generalize Iv = I1 at *
  have hU1 := hX1.1.2.1
  have hS1 := hX1.1.2.2.1
  refine q_aload_n hJ dX11_acts_23 (q := 24) rfl rfl (by first | rfl | exact isR_rr _) ?_
  refine q_getR hJ dX11_acts_24 (q := 27) rfl fl_X11_7 rfl (by first | exact ka317 | exact ka318 | exact ka319 | exact ka320 | exact ka321 | exact ka322) (by assumption) rfl ?_
  refine q_iload hJ dX11_acts_27 (q := 29) rfl rfl ?_
  refine q_iconst hJ (v := 3) dX11_acts_29 (q := 30) rfl (by decide) ?_
  refine q_iadd hJ dX11_acts_30 (q := 31) rfl ?_
  refine q_iald hJ dX11_acts_31 (q := 32) rfl (by first | exact ka317 | exact ka318 | exact ka319 | exact ka320 | exact ka321 | exact ka322) (ixE (j := p + 82 + 12 * r + 3) (by ((try simp only [nIl_add, nI_mul, nIl_0, nIl_1, nIl_2, nIl_3, nIl_4, nIl_5, nIl_6, nIl_7, nIl_8, nIl_9, nIl_10, nIl_11, nIl_12, nIl_20, nIl_60, nIl_72, nIl_80, nIl_81, nIl_82, nIl_99, nIl_100, nIl_226, nIl_227, nIl_228, nIl_229, nIl_230, nIl_231, nIl_232, nIl_233, nIl_413, nIl_1239, nIl_10000]) <;> first | done | rfl | exact congrArg nI (by omega))) (by omega) (by decide)) (show _ = 2 from (hU1.2.2 r (by rw [b4]; exact hr) 3 (by decide)).trans ((b3 r 3 (by decide)).trans hK)) ?_
  refine q_tswIn hJ (off := 61) (tgt := 93) dX11_acts_32 (by decide) (by decide) (by decide) (by decide) ?_
  refine q_iload_n hJ dX11_acts_93 (q := 94) rfl rfl ?_
  refine q_iconst hJ (v := 1) dX11_acts_94 (q := 95) rfl (by decide) ?_
  refine q_isub hJ dX11_acts_95 (q := 96) rfl ?_
  rw [show nI d - 1 = nI (d - 1) from nI_sub (a := d) (b := 1) h1d]
  refine q_iret hM dX11_acts_96 rfl rfl ?_
  exact ⟨rfl, rfl, rfl, hk1, hX1, fun i hi2 => by rw [h322]⟩

set_option maxRecDepth 100000 in
set_option maxHeartbeats 400000 in
theorem M_act3 (p d r : Nat) (hp : p ≤ 413) (h1d : 1 ≤ d) (hd : d < 9) (img : Nat → Int32) (X : XS) (I : MI) (R : MR) (hFR : FR R) (hX : EM I p X) (hr : r < aM (xA X)) (hi : ∀ t, t < 4 → I 322 (8 * d + 1 + t) = img t) (hkind : aU (xA X) r 3 = 3 ∨ aU (xA X) r 3 = 4 ∨ aU (xA X) r 3 = 5) (hx100 : xO X ≤ 100) (hq : ∃ q, q < 100 ∧ img 0 = nI q) (hdG : ∀ G, aS (xA X) 0 = nI G → d ≤ G) : Sp 5 0 0 mX11_acts [.ref 317, .int (nI p), .int (nI r), .int (nI d)] g0 I R (A3Po p d r img X (cntA d r img X) I R) := by
  have hm0 := hFR.2.2.2.2.2.1
  have hm1 := hFR.2.2.2.2.2.2.1
  have hm3 := hFR.2.2.2.2.2.2.2.1
  have hm5 := hFR.2.2.2.2.2.2.2.2.1
  have hm7 := hFR.2.2.2.2.2.2.2.2.2
  obtain ⟨⟨hR, hU, hS, hL⟩, hok, hc⟩ := id hX
  have hm := hU.2.1
  have hku := hok.2.1 r hr
  obtain ⟨a, ha, hA⟩ := n_02 hku.2.1.1
  obtain ⟨b1, b2, b3, b4, b5, b6⟩ := cnt_eq d r img X
  have h0 : ¬ aU (xA X) r 3 = 0 := fun z => by rw [z] at hkind; exact absurd hkind (by decide)
  have h1 : ¬ aU (xA X) r 3 = 1 := fun z => by rw [z] at hkind; exact absurd hkind (by decide)
  have h2 : ¬ aU (xA X) r 3 = 2 := fun z => by rw [z] at hkind; exact absurd hkind (by decide)
  refine Sp.on (by decide +kernel) rfl rfl (fun J hM => ?_)
  have hJ := hM.ok
  refine q_iload_n hJ dX11_acts_0 (q := 1) rfl rfl ?_
  refine q_iload_n hJ dX11_acts_1 (q := 2) rfl rfl ?_
  refine q_callS hJ dX11_acts_2 (q := 5) rfl (M_ruleAt p r I R) imX11_ruleAt ln_X11_40 rfl rfl rfl (Nat.le_of_ble_eq_true rfl) (by decide) (by decide) rfl rfl (fun rv gv Iv Rv hv => ?_)
  obtain ⟨rfl, rfl, rfl, rfl⟩ := hv
  refine q_istore hJ dX11_acts_5 (q := 7) rfl (by decide) ?_
  refine q_aload_n hJ dX11_acts_7 (q := 8) rfl rfl (by first | rfl | exact isR_rr _) ?_
  refine q_iload_n hJ dX11_acts_8 (q := 9) rfl rfl ?_
  refine q_iload_n hJ dX11_acts_9 (q := 10) rfl rfl ?_
  refine q_iload_n hJ dX11_acts_10 (q := 11) rfl rfl ?_
  refine q_callV hJ dX11_acts_11 (q := 14) rfl (M_valueOf p d r (aM (xA X)) hp hd (aU (xA X)) img I R hFR hU hr hku hi) imX11_valueOf ln_X11_93 (by first | exact ka317 | exact ka318 | exact ka319 | exact ka320 | exact ka321 | exact ka322) (by decide) rfl rfl rfl rfl (Nat.le_of_ble_eq_true rfl) (by decide) (by decide) rfl rfl (fun rv gv Iv Rv hv => ?_)
  obtain ⟨rfl, rfl, rfl, rfl⟩ := hv
  refine q_istore hJ dX11_acts_14 (q := 16) rfl (by decide) ?_
  refine q_aload_n hJ dX11_acts_16 (q := 17) rfl rfl (by first | rfl | exact isR_rr _) ?_
  refine q_iload_n hJ dX11_acts_17 (q := 18) rfl rfl ?_
  refine q_iload_n hJ dX11_acts_18 (q := 19) rfl rfl ?_
  refine q_iload_n hJ dX11_acts_19 (q := 20) rfl rfl ?_
  refine q_callV hJ dX11_acts_20 (q := 23) rfl (M_counts p d r hp hd img X I R hFR hX hr hi) imX11_counts ln_X11_97 (by first | exact ka317 | exact ka318 | exact ka319 | exact ka320 | exact ka321 | exact ka322) (by decide) rfl rfl rfl rfl (Nat.le_of_ble_eq_true rfl) (by decide) (by decide) rfl rfl (fun rv gv Iv Rv hv => ?_)
  obtain ⟨rfl, rfl, rfl, hX1, hk1, h322⟩ := hv
  generalize Iv = I1 at *
  have hU1 := hX1.1.2.1
  have hS1 := hX1.1.2.2.1
  refine q_aload_n hJ dX11_acts_23 (q := 24) rfl rfl (by first | rfl | exact isR_rr _) ?_
  refine q_getR hJ dX11_acts_24 (q := 27) rfl fl_X11_7 rfl (by first | exact ka317 | exact ka318 | exact ka319 | exact ka320 | exact ka321 | exact ka322) (by assumption) rfl ?_
  refine q_iload hJ dX11_acts_27 (q := 29) rfl rfl ?_
  refine q_iconst hJ (v := 3) dX11_acts_29 (q := 30) rfl (by decide) ?_
  refine q_iadd hJ dX11_acts_30 (q := 31) rfl ?_
  refine q_iald hJ dX11_acts_31 (q := 32) rfl (by first | exact ka317 | exact ka318 | exact ka319 | exact ka320 | exact ka321 | exact ka322) (ixE (j := p + 82 + 12 * r + 3) (by ((try simp only [nIl_add, nI_mul, nIl_0, nIl_1, nIl_2, nIl_3, nIl_4, nIl_5, nIl_6, nIl_7, nIl_8, nIl_9, nIl_10, nIl_11, nIl_12, nIl_20, nIl_60, nIl_72, nIl_80, nIl_81, nIl_82, nIl_99, nIl_100, nIl_226, nIl_227, nIl_228, nIl_229, nIl_230, nIl_231, nIl_232, nIl_233, nIl_413, nIl_1239, nIl_10000]) <;> first | done | rfl | exact congrArg nI (by omega))) (by omega) (by decide)) (show _ = aU (xA X) r 3 from (hU1.2.2 r (by rw [b4]; exact hr) 3 (by decide)).trans ((b3 r 3 (by decide)).trans rfl)) ?_
  refine q_tswOut hJ (tgt := 97) dX11_acts_32 (tsw_out3 h0 h1 h2) (by decide) ?_
  refine q_iload_n hJ dX11_acts_97 (q := 98) rfl rfl ?_
  refine q_aload_n hJ dX11_acts_98 (q := 99) rfl rfl (by first | rfl | exact isR_rr _) ?_
  refine q_getR hJ dX11_acts_99 (q := 102) rfl fl_X11_7 rfl (by first | exact ka317 | exact ka318 | exact ka319 | exact ka320 | exact ka321 | exact ka322) (by assumption) rfl ?_
  refine q_iload_n hJ dX11_acts_102 (q := 103) rfl rfl ?_
  refine q_sipush hJ (v := 226) dX11_acts_103 (q := 106) rfl (by decide) ?_
  refine q_iadd hJ dX11_acts_106 (q := 107) rfl ?_
  refine q_iald hJ dX11_acts_107 (q := 108) rfl (by first | exact ka317 | exact ka318 | exact ka319 | exact ka320 | exact ka321 | exact ka322) (ixE (j := p + 226) (by ((try simp only [nIl_add, nI_mul, nIl_0, nIl_1, nIl_2, nIl_3, nIl_4, nIl_5, nIl_6, nIl_7, nIl_8, nIl_9, nIl_10, nIl_11, nIl_12, nIl_20, nIl_60, nIl_72, nIl_80, nIl_81, nIl_82, nIl_99, nIl_100, nIl_226, nIl_227, nIl_228, nIl_229, nIl_230, nIl_231, nIl_232, nIl_233, nIl_413, nIl_1239, nIl_10000]) <;> first | done | rfl | exact congrArg nI (by omega))) (by omega) (by decide)) (show _ = aS (xA X) 0 from (hS1 0 (by decide)).trans (congrFun b5 0)) ?_
  refine q_icmp_ne hJ (tgt := 119) dX11_acts_108 (q := 111) rfl (by decide) (fun c1 => ?_) (fun c1 => ?_)
  · refine q_aload_n hJ dX11_acts_119 (q := 120) rfl rfl (by first | rfl | exact isR_rr _) ?_
    refine q_iload_n hJ dX11_acts_120 (q := 121) rfl rfl ?_
    refine q_iload_n hJ dX11_acts_121 (q := 122) rfl rfl ?_
    refine q_iload_n hJ dX11_acts_122 (q := 123) rfl rfl ?_
    refine q_iload hJ dX11_acts_123 (q := 125) rfl rfl ?_
    have hd8 : d < 8 := by
        obtain ⟨G, g1, g8, hG⟩ := hok.2.2
        rcases Nat.lt_or_ge d 8 with z | z
        · exact z
        · exfalso
          have := hdG G hG
          exact c1 (by rw [hG, show d = G by omega])
    refine q_callV hJ dX11_acts_125 (q := 128) rfl (M_operates p d r hp h1d hd8 (valF (aU (xA X) r) img) img (cntA d r img X) I1 R hFR hX1 (by rw [b6]; exact hx100) (by rw [b4]; exact hr) (by rw [b3 r 3 (by decide)]; exact hkind) (fun t ht => by rw [h322]; exact hi t ht) hq (valF_cnt d r img X).symm) imX11_operates ln_X11_101 (by first | exact ka317 | exact ka318 | exact ka319 | exact ka320 | exact ka321 | exact ka322) (by decide) rfl rfl rfl rfl (Nat.le_of_ble_eq_true rfl) (by decide) (by decide) rfl rfl (fun rv gv Iv Rv hv => ?_)
    obtain ⟨y, hy, rfl⟩ := OpsPo.val hv
    obtain ⟨rfl, rfl, hk2, hf2, h5⟩ := hv
    refine q_if_eq hJ (tgt := 137) dX11_acts_128 (q := 131) rfl (by decide) (fun c2 => ?_) (fun c2 => ?_)
    · refine q_iload_n hJ dX11_acts_137 (q := 138) rfl rfl ?_
      try rw [nI_1 d]
      refine q_iret hM dX11_acts_138 rfl rfl ?_
      refine ⟨rfl, rfl, hk1.tr hk2, fun i hi2 => by rw [hf2 i (by omega), h322], Or.inr ⟨fun z => c1 z.symm, hd8, ?_⟩⟩
      rcases h5 with ⟨e1, e2, e3⟩ | ⟨img2, e1, ⟨e2, e3, e4⟩ | ⟨e2, e3, e4, e5⟩⟩
      · first | exact Or.inl ⟨e1, rfl, e3⟩ | exact absurd (Value.int.inj (Option.some.inj e2)) c2
      · first | exact Or.inr ⟨img2, e1, Or.inl ⟨e2, rfl, e4⟩⟩ | exact absurd (Value.int.inj (Option.some.inj e3)) c2
      · first | exact Or.inr ⟨img2, e1, Or.inr ⟨e2, rfl, e4, e5⟩⟩ | exact absurd (c2.symm.trans (Value.int.inj (Option.some.inj e3))) (by decide)
    · refine q_iload_n hJ dX11_acts_131 (q := 132) rfl rfl ?_
      refine q_iconst hJ (v := 1) dX11_acts_132 (q := 133) rfl (by decide) ?_
      refine q_iadd hJ dX11_acts_133 (q := 134) rfl ?_
      refine q_goto hJ (tgt := 138) dX11_acts_134 (by decide) ?_
      try rw [nI_1 d]
      refine q_iret hM dX11_acts_138 rfl rfl ?_
      refine ⟨rfl, rfl, hk1.tr hk2, fun i hi2 => by rw [hf2 i (by omega), h322], Or.inr ⟨fun z => c1 z.symm, hd8, ?_⟩⟩
      rcases h5 with ⟨e1, e2, e3⟩ | ⟨img2, e1, ⟨e2, e3, e4⟩ | ⟨e2, e3, e4, e5⟩⟩
      · first | exact Or.inl ⟨e1, rfl, e3⟩ | exact absurd (Value.int.inj (Option.some.inj e2)) c2
      · first | exact Or.inr ⟨img2, e1, Or.inl ⟨e2, rfl, e4⟩⟩ | exact absurd (Value.int.inj (Option.some.inj e3)) c2
      · first | exact Or.inr ⟨img2, e1, Or.inr ⟨e2, rfl, e4, e5⟩⟩ | exact absurd (c2.symm.trans (Value.int.inj (Option.some.inj e3))) (by decide)
  · refine q_aload_n hJ dX11_acts_111 (q := 112) rfl rfl (by first | rfl | exact isR_rr _) ?_
    refine q_iconst hJ (v := 2) dX11_acts_112 (q := 113) rfl (by decide) ?_
    refine q_iload_n hJ dX11_acts_113 (q := 114) rfl rfl ?_
    refine q_callV hJ dX11_acts_114 (q := 117) rfl (M_refuses 2 (nI r) I1 R) imX11_refuses ln_X11_67 (by first | exact ka317 | exact ka318 | exact ka319 | exact ka320 | exact ka321 | exact ka322) (by decide) rfl rfl rfl rfl (Nat.le_of_ble_eq_true rfl) (by decide) (by decide) rfl rfl (fun rv gv Iv Rv hv => ?_)
    obtain ⟨rfl, rfl, rfl, rfl⟩ := hv
    refine q_iload_n hJ dX11_acts_117 (q := 118) rfl rfl ?_
    refine q_iret hM dX11_acts_118 rfl rfl ?_
    exact ⟨rfl, rfl, (hk1.u317 (by decide) _).u317 (by decide) _, fun i hi2 => by rw [up2_i (by omega), up2_i (by omega), h322], Or.inl ⟨c1.symm, rfl, hX1.ref _ _ rfl⟩⟩

theorem nI_no {r : Nat} (h : r < 12) : ¬ nI r = -1006 := by
  have key : ∀ r : Fin 12, ¬ nI r.1 = -1006 := by decide
  exact key ⟨r, h⟩
set_option maxRecDepth 100000 in
set_option maxHeartbeats 400000 in
theorem M_goesN1 (p d : Nat) (hp : p ≤ 413) (h1d : 1 ≤ d) (hd : d < 9) (ev : Int32) (img : Nat → Int32) (pl ca : Int32) (X : XS) (I : MI) (R : MR) (hFR : FR R) (hX : EM I p X) (hfr : FrP I d ev img 1 pl ca) (ho : amF (fun r => aU (xA X) r 0 = ev ∧ aU (xA X) r 1 = 1) (odA (xA X)) pl 0 (aM (xA X)) 0 = none) : Sp 3 0 0 mX11_goes [.ref 317, .int (nI p), .int (nI d)] g0 I R (Mv (nI (d - 1)) I R) := by
  have hm0 := hFR.2.2.2.2.2.1
  have hm1 := hFR.2.2.2.2.2.2.1
  have hm3 := hFR.2.2.2.2.2.2.2.1
  have hm5 := hFR.2.2.2.2.2.2.2.2.1
  have hm7 := hFR.2.2.2.2.2.2.2.2.2
  obtain ⟨⟨hR, hU, hS, hL⟩, hok, hc⟩ := id hX
  have hm := hU.2.1
  refine Sp.on (by decide +kernel) rfl rfl (fun J hM => ?_)
  have hJ := hM.ok
  refine q_aload_n hJ dX11_goes_0 (q := 1) rfl rfl (by first | rfl | exact isR_rr _) ?_
  refine q_getR hJ dX11_goes_1 (q := 4) rfl fl_X11_22 rfl (by first | exact ka317 | exact ka318 | exact ka319 | exact ka320 | exact ka321 | exact ka322) (by assumption) rfl ?_
  refine q_bipush hJ (v := 8) dX11_goes_4 (q := 6) rfl (by decide) ?_
  refine q_iload_n hJ dX11_goes_6 (q := 7) rfl rfl ?_
  refine q_imul hJ dX11_goes_7 (q := 8) rfl ?_
  refine q_iconst hJ (v := 5) dX11_goes_8 (q := 9) rfl (by decide) ?_
  refine q_iadd hJ dX11_goes_9 (q := 10) rfl ?_
  refine q_iald hJ dX11_goes_10 (q := 11) rfl (by first | exact ka317 | exact ka318 | exact ka319 | exact ka320 | exact ka321 | exact ka322) (ixE (j := 8 * d + 5) (by ((try simp only [nIl_add, nI_mul, nIl_0, nIl_1, nIl_2, nIl_3, nIl_4, nIl_5, nIl_6, nIl_7, nIl_8, nIl_9, nIl_10, nIl_11, nIl_12, nIl_20, nIl_60, nIl_72, nIl_80, nIl_81, nIl_82, nIl_99, nIl_100, nIl_226, nIl_227, nIl_228, nIl_229, nIl_230, nIl_231, nIl_232, nIl_233, nIl_413, nIl_1239, nIl_10000]) <;> first | done | rfl | exact congrArg nI (by omega))) (by omega) (by decide)) hfr.2.2.1 ?_
  refine q_istore_n hJ dX11_goes_11 (q := 12) rfl (by decide) ?_
  refine q_aload_n hJ dX11_goes_12 (q := 13) rfl rfl (by first | rfl | exact isR_rr _) ?_
  refine q_iload_n hJ dX11_goes_13 (q := 14) rfl rfl ?_
  refine q_aload_n hJ dX11_goes_14 (q := 15) rfl rfl (by first | rfl | exact isR_rr _) ?_
  refine q_getR hJ dX11_goes_15 (q := 18) rfl fl_X11_22 rfl (by first | exact ka317 | exact ka318 | exact ka319 | exact ka320 | exact ka321 | exact ka322) (by assumption) rfl ?_
  refine q_bipush hJ (v := 8) dX11_goes_18 (q := 20) rfl (by decide) ?_
  refine q_iload_n hJ dX11_goes_20 (q := 21) rfl rfl ?_
  refine q_imul hJ dX11_goes_21 (q := 22) rfl ?_
  refine q_iconst hJ (v := 0) dX11_goes_22 (q := 23) rfl (by decide) ?_
  refine q_iadd hJ dX11_goes_23 (q := 24) rfl ?_
  refine q_iald hJ dX11_goes_24 (q := 25) rfl (by first | exact ka317 | exact ka318 | exact ka319 | exact ka320 | exact ka321 | exact ka322) (ixE (j := 8 * d + 0) (by ((try simp only [nIl_add, nI_mul, nIl_0, nIl_1, nIl_2, nIl_3, nIl_4, nIl_5, nIl_6, nIl_7, nIl_8, nIl_9, nIl_10, nIl_11, nIl_12, nIl_20, nIl_60, nIl_72, nIl_80, nIl_81, nIl_82, nIl_99, nIl_100, nIl_226, nIl_227, nIl_228, nIl_229, nIl_230, nIl_231, nIl_232, nIl_233, nIl_413, nIl_1239, nIl_10000]) <;> first | done | rfl | exact congrArg nI (by omega))) (by omega) (by decide)) hfr.1 ?_
  refine q_iload_n hJ dX11_goes_25 (q := 26) rfl rfl ?_
  refine q_aload_n hJ dX11_goes_26 (q := 27) rfl rfl (by first | rfl | exact isR_rr _) ?_
  refine q_getR hJ dX11_goes_27 (q := 30) rfl fl_X11_22 rfl (by first | exact ka317 | exact ka318 | exact ka319 | exact ka320 | exact ka321 | exact ka322) (by assumption) rfl ?_
  refine q_bipush hJ (v := 8) dX11_goes_30 (q := 32) rfl (by decide) ?_
  refine q_iload_n hJ dX11_goes_32 (q := 33) rfl rfl ?_
  refine q_imul hJ dX11_goes_33 (q := 34) rfl ?_
  refine q_bipush hJ (v := 6) dX11_goes_34 (q := 36) rfl (by decide) ?_
  refine q_iadd hJ dX11_goes_36 (q := 37) rfl ?_
  refine q_iald hJ dX11_goes_37 (q := 38) rfl (by first | exact ka317 | exact ka318 | exact ka319 | exact ka320 | exact ka321 | exact ka322) (ixE (j := 8 * d + 6) (by ((try simp only [nIl_add, nI_mul, nIl_0, nIl_1, nIl_2, nIl_3, nIl_4, nIl_5, nIl_6, nIl_7, nIl_8, nIl_9, nIl_10, nIl_11, nIl_12, nIl_20, nIl_60, nIl_72, nIl_80, nIl_81, nIl_82, nIl_99, nIl_100, nIl_226, nIl_227, nIl_228, nIl_229, nIl_230, nIl_231, nIl_232, nIl_233, nIl_413, nIl_1239, nIl_10000]) <;> first | done | rfl | exact congrArg nI (by omega))) (by omega) (by decide)) hfr.2.2.2.1 ?_
  refine q_callV hJ dX11_goes_38 (q := 41) rfl (M_orderAt p (aM (xA X)) (aU (xA X)) ev 1 pl I R hFR hp hU (fun q hq => (hok.2.1 q hq).1.2.2.1)) imX11_orderAt ln_X11_104 (by first | exact ka317 | exact ka318 | exact ka319 | exact ka320 | exact ka321 | exact ka322) (by decide) rfl rfl rfl rfl (Nat.le_of_ble_eq_true rfl) (by decide) (by decide) rfl rfl (fun rv gv Iv Rv hv => ?_)
  obtain ⟨rfl, rfl, rfl, rfl⟩ := hv
  rw [show amF (fun r => aU (xA X) r 0 = ev ∧ aU (xA X) r 1 = 1) (osrt (rkF (aU (xA X))) (aM (xA X))) pl 0 (aM (xA X)) 0 = none from ho, show noI none = -1006 from rfl]
  refine q_istore hJ dX11_goes_41 (q := 43) rfl (by decide) ?_
  refine q_iload hJ dX11_goes_43 (q := 45) rfl rfl ?_
  refine q_sipush hJ (v := (-1006)) dX11_goes_45 (q := 48) rfl (by decide) ?_
  refine q_icmp_ne hJ (tgt := 60) dX11_goes_48 (q := 51) rfl (by decide) (fun c1 => absurd rfl c1) (fun _ => ?_)
  refine q_iload_n hJ dX11_goes_51 (q := 52) rfl rfl ?_
  refine q_iconst hJ (v := 1) dX11_goes_52 (q := 53) rfl (by decide) ?_
  refine q_icmp_ne hJ (tgt := 60) dX11_goes_53 (q := 56) rfl (by decide) (fun c2 => absurd rfl c2) (fun _ => ?_)
  refine q_iload_n hJ dX11_goes_56 (q := 57) rfl rfl ?_
  refine q_iconst hJ (v := 1) dX11_goes_57 (q := 58) rfl (by decide) ?_
  refine q_isub hJ dX11_goes_58 (q := 59) rfl ?_
  rw [show nI d - 1 = nI (d - 1) from nI_sub (a := d) (b := 1) h1d]
  refine q_iret hM dX11_goes_59 rfl rfl ?_
  exact ⟨rfl, rfl, rfl, rfl⟩

def GoPo (p d : Nat) (ev : Int32) (img : Nat → Int32) (mo pl ca : Int32) (X' : XS) (I : MI) (R : MR) : Po := fun v g' I' R' => v = some (.int (nI d)) ∧ g0 = g' ∧ R = R' ∧ Kp p I I' ∧ EM I' p X' ∧ FrP I' d ev img mo pl ca ∧ ∀ i, i < 8 * d → I' 322 i = I 322 i
set_option maxRecDepth 100000 in
set_option maxHeartbeats 400000 in
theorem M_goesN0 (p d : Nat) (hp : p ≤ 413) (h1d : 1 ≤ d) (hd : d < 9) (ev : Int32) (img : Nat → Int32) (pl ca : Int32) (X : XS) (I : MI) (R : MR) (hFR : FR R) (hX : EM I p X) (hfr : FrP I d ev img 0 pl ca) (ho : amF (fun r => aU (xA X) r 0 = ev ∧ aU (xA X) r 1 = 0) (odA (xA X)) pl 0 (aM (xA X)) 0 = none) (hcan : CanC (xA X) ev img) : Sp 3 0 0 mX11_goes [.ref 317, .int (nI p), .int (nI d)] g0 I R (GoPo p d ev img 1 0 ca ((carA ev img (xA X), X.2) : XS) I R) := by
  have hm0 := hFR.2.2.2.2.2.1
  have hm1 := hFR.2.2.2.2.2.2.1
  have hm3 := hFR.2.2.2.2.2.2.2.1
  have hm5 := hFR.2.2.2.2.2.2.2.2.1
  have hm7 := hFR.2.2.2.2.2.2.2.2.2
  obtain ⟨⟨hR, hU, hS, hL⟩, hok, hc⟩ := id hX
  have hm := hU.2.1
  refine Sp.on (by decide +kernel) rfl rfl (fun J hM => ?_)
  have hJ := hM.ok
  refine q_aload_n hJ dX11_goes_0 (q := 1) rfl rfl (by first | rfl | exact isR_rr _) ?_
  refine q_getR hJ dX11_goes_1 (q := 4) rfl fl_X11_22 rfl (by first | exact ka317 | exact ka318 | exact ka319 | exact ka320 | exact ka321 | exact ka322) (by assumption) rfl ?_
  refine q_bipush hJ (v := 8) dX11_goes_4 (q := 6) rfl (by decide) ?_
  refine q_iload_n hJ dX11_goes_6 (q := 7) rfl rfl ?_
  refine q_imul hJ dX11_goes_7 (q := 8) rfl ?_
  refine q_iconst hJ (v := 5) dX11_goes_8 (q := 9) rfl (by decide) ?_
  refine q_iadd hJ dX11_goes_9 (q := 10) rfl ?_
  refine q_iald hJ dX11_goes_10 (q := 11) rfl (by first | exact ka317 | exact ka318 | exact ka319 | exact ka320 | exact ka321 | exact ka322) (ixE (j := 8 * d + 5) (by ((try simp only [nIl_add, nI_mul, nIl_0, nIl_1, nIl_2, nIl_3, nIl_4, nIl_5, nIl_6, nIl_7, nIl_8, nIl_9, nIl_10, nIl_11, nIl_12, nIl_20, nIl_60, nIl_72, nIl_80, nIl_81, nIl_82, nIl_99, nIl_100, nIl_226, nIl_227, nIl_228, nIl_229, nIl_230, nIl_231, nIl_232, nIl_233, nIl_413, nIl_1239, nIl_10000]) <;> first | done | rfl | exact congrArg nI (by omega))) (by omega) (by decide)) hfr.2.2.1 ?_
  refine q_istore_n hJ dX11_goes_11 (q := 12) rfl (by decide) ?_
  refine q_aload_n hJ dX11_goes_12 (q := 13) rfl rfl (by first | rfl | exact isR_rr _) ?_
  refine q_iload_n hJ dX11_goes_13 (q := 14) rfl rfl ?_
  refine q_aload_n hJ dX11_goes_14 (q := 15) rfl rfl (by first | rfl | exact isR_rr _) ?_
  refine q_getR hJ dX11_goes_15 (q := 18) rfl fl_X11_22 rfl (by first | exact ka317 | exact ka318 | exact ka319 | exact ka320 | exact ka321 | exact ka322) (by assumption) rfl ?_
  refine q_bipush hJ (v := 8) dX11_goes_18 (q := 20) rfl (by decide) ?_
  refine q_iload_n hJ dX11_goes_20 (q := 21) rfl rfl ?_
  refine q_imul hJ dX11_goes_21 (q := 22) rfl ?_
  refine q_iconst hJ (v := 0) dX11_goes_22 (q := 23) rfl (by decide) ?_
  refine q_iadd hJ dX11_goes_23 (q := 24) rfl ?_
  refine q_iald hJ dX11_goes_24 (q := 25) rfl (by first | exact ka317 | exact ka318 | exact ka319 | exact ka320 | exact ka321 | exact ka322) (ixE (j := 8 * d + 0) (by ((try simp only [nIl_add, nI_mul, nIl_0, nIl_1, nIl_2, nIl_3, nIl_4, nIl_5, nIl_6, nIl_7, nIl_8, nIl_9, nIl_10, nIl_11, nIl_12, nIl_20, nIl_60, nIl_72, nIl_80, nIl_81, nIl_82, nIl_99, nIl_100, nIl_226, nIl_227, nIl_228, nIl_229, nIl_230, nIl_231, nIl_232, nIl_233, nIl_413, nIl_1239, nIl_10000]) <;> first | done | rfl | exact congrArg nI (by omega))) (by omega) (by decide)) hfr.1 ?_
  refine q_iload_n hJ dX11_goes_25 (q := 26) rfl rfl ?_
  refine q_aload_n hJ dX11_goes_26 (q := 27) rfl rfl (by first | rfl | exact isR_rr _) ?_
  refine q_getR hJ dX11_goes_27 (q := 30) rfl fl_X11_22 rfl (by first | exact ka317 | exact ka318 | exact ka319 | exact ka320 | exact ka321 | exact ka322) (by assumption) rfl ?_
  refine q_bipush hJ (v := 8) dX11_goes_30 (q := 32) rfl (by decide) ?_
  refine q_iload_n hJ dX11_goes_32 (q := 33) rfl rfl ?_
  refine q_imul hJ dX11_goes_33 (q := 34) rfl ?_
  refine q_bipush hJ (v := 6) dX11_goes_34 (q := 36) rfl (by decide) ?_
  refine q_iadd hJ dX11_goes_36 (q := 37) rfl ?_
  refine q_iald hJ dX11_goes_37 (q := 38) rfl (by first | exact ka317 | exact ka318 | exact ka319 | exact ka320 | exact ka321 | exact ka322) (ixE (j := 8 * d + 6) (by ((try simp only [nIl_add, nI_mul, nIl_0, nIl_1, nIl_2, nIl_3, nIl_4, nIl_5, nIl_6, nIl_7, nIl_8, nIl_9, nIl_10, nIl_11, nIl_12, nIl_20, nIl_60, nIl_72, nIl_80, nIl_81, nIl_82, nIl_99, nIl_100, nIl_226, nIl_227, nIl_228, nIl_229, nIl_230, nIl_231, nIl_232, nIl_233, nIl_413, nIl_1239, nIl_10000]) <;> first | done | rfl | exact congrArg nI (by omega))) (by omega) (by decide)) hfr.2.2.2.1 ?_
  refine q_callV hJ dX11_goes_38 (q := 41) rfl (M_orderAt p (aM (xA X)) (aU (xA X)) ev 0 pl I R hFR hp hU (fun q hq => (hok.2.1 q hq).1.2.2.1)) imX11_orderAt ln_X11_104 (by first | exact ka317 | exact ka318 | exact ka319 | exact ka320 | exact ka321 | exact ka322) (by decide) rfl rfl rfl rfl (Nat.le_of_ble_eq_true rfl) (by decide) (by decide) rfl rfl (fun rv gv Iv Rv hv => ?_)
  obtain ⟨rfl, rfl, rfl, rfl⟩ := hv
  rw [show amF (fun r => aU (xA X) r 0 = ev ∧ aU (xA X) r 1 = 0) (osrt (rkF (aU (xA X))) (aM (xA X))) pl 0 (aM (xA X)) 0 = none from ho, show noI none = -1006 from rfl]
  refine q_istore hJ dX11_goes_41 (q := 43) rfl (by decide) ?_
  refine q_iload hJ dX11_goes_43 (q := 45) rfl rfl ?_
  refine q_sipush hJ (v := (-1006)) dX11_goes_45 (q := 48) rfl (by decide) ?_
  refine q_icmp_ne hJ (tgt := 60) dX11_goes_48 (q := 51) rfl (by decide) (fun c1 => absurd rfl c1) (fun _ => ?_)
  refine q_iload_n hJ dX11_goes_51 (q := 52) rfl rfl ?_
  refine q_iconst hJ (v := 1) dX11_goes_52 (q := 53) rfl (by decide) ?_
  refine q_icmp_ne hJ (tgt := 60) dX11_goes_53 (q := 56) rfl (by decide) (fun _ => ?_) (fun c2 => absurd c2 (by decide))
  refine q_iload hJ dX11_goes_60 (q := 62) rfl rfl ?_
  refine q_sipush hJ (v := (-1006)) dX11_goes_62 (q := 65) rfl (by decide) ?_
  refine q_icmp_ne hJ (tgt := 101) dX11_goes_65 (q := 68) rfl (by decide) (fun c3 => absurd rfl c3) (fun _ => ?_)
  refine q_aload_n hJ dX11_goes_68 (q := 69) rfl rfl (by first | rfl | exact isR_rr _) ?_
  refine q_iload_n hJ dX11_goes_69 (q := 70) rfl rfl ?_
  refine q_iload_n hJ dX11_goes_70 (q := 71) rfl rfl ?_
  refine q_callV hJ dX11_goes_71 (q := 74) rfl (M_carriesOut p d hp hd ev img X I R hFR hX hcan hfr.1 hfr.2.1) imX11_carriesOut ln_X11_108 (by first | exact ka317 | exact ka318 | exact ka319 | exact ka320 | exact ka321 | exact ka322) (by decide) rfl rfl rfl rfl (Nat.le_of_ble_eq_true rfl) (by decide) (by decide) rfl rfl (fun rv gv Iv Rv hv => ?_)
  obtain ⟨rfl, rfl, rfl, hX1, hk1, h322⟩ := hv
  refine q_aload_n hJ dX11_goes_74 (q := 75) rfl rfl (by first | rfl | exact isR_rr _) ?_
  refine q_getR hJ dX11_goes_75 (q := 78) rfl fl_X11_22 rfl (by first | exact ka317 | exact ka318 | exact ka319 | exact ka320 | exact ka321 | exact ka322) (by assumption) rfl ?_
  refine q_bipush hJ (v := 8) dX11_goes_78 (q := 80) rfl (by decide) ?_
  refine q_iload_n hJ dX11_goes_80 (q := 81) rfl rfl ?_
  refine q_imul hJ dX11_goes_81 (q := 82) rfl ?_
  refine q_iconst hJ (v := 5) dX11_goes_82 (q := 83) rfl (by decide) ?_
  refine q_iadd hJ dX11_goes_83 (q := 84) rfl ?_
  refine q_iconst hJ (v := 1) dX11_goes_84 (q := 85) rfl (by decide) ?_
  refine q_iast hJ dX11_goes_85 (q := 86) rfl (by first | exact ka317 | exact ka318 | exact ka319 | exact ka320 | exact ka321 | exact ka322) (ixE (j := 8 * d + 5) (by ((try simp only [nIl_add, nI_mul, nIl_0, nIl_1, nIl_2, nIl_3, nIl_4, nIl_5, nIl_6, nIl_7, nIl_8, nIl_9, nIl_10, nIl_11, nIl_12, nIl_20, nIl_60, nIl_72, nIl_80, nIl_81, nIl_82, nIl_99, nIl_100, nIl_226, nIl_227, nIl_228, nIl_229, nIl_230, nIl_231, nIl_232, nIl_233, nIl_413, nIl_1239, nIl_10000]) <;> first | done | rfl | exact congrArg nI (by omega))) (by omega) (by decide)) ?_
  refine q_aload_n hJ dX11_goes_86 (q := 87) rfl rfl (by first | rfl | exact isR_rr _) ?_
  refine q_getR hJ dX11_goes_87 (q := 90) rfl fl_X11_22 rfl (by first | exact ka317 | exact ka318 | exact ka319 | exact ka320 | exact ka321 | exact ka322) (by assumption) rfl ?_
  refine q_bipush hJ (v := 8) dX11_goes_90 (q := 92) rfl (by decide) ?_
  refine q_iload_n hJ dX11_goes_92 (q := 93) rfl rfl ?_
  refine q_imul hJ dX11_goes_93 (q := 94) rfl ?_
  refine q_bipush hJ (v := 6) dX11_goes_94 (q := 96) rfl (by decide) ?_
  refine q_iadd hJ dX11_goes_96 (q := 97) rfl ?_
  refine q_iconst hJ (v := 0) dX11_goes_97 (q := 98) rfl (by decide) ?_
  refine q_iast hJ dX11_goes_98 (q := 99) rfl (by first | exact ka317 | exact ka318 | exact ka319 | exact ka320 | exact ka321 | exact ka322) (ixE (j := 8 * d + 6) (by ((try simp only [nIl_add, nI_mul, nIl_0, nIl_1, nIl_2, nIl_3, nIl_4, nIl_5, nIl_6, nIl_7, nIl_8, nIl_9, nIl_10, nIl_11, nIl_12, nIl_20, nIl_60, nIl_72, nIl_80, nIl_81, nIl_82, nIl_99, nIl_100, nIl_226, nIl_227, nIl_228, nIl_229, nIl_230, nIl_231, nIl_232, nIl_233, nIl_413, nIl_1239, nIl_10000]) <;> first | done | rfl | exact congrArg nI (by omega))) (by omega) (by decide)) ?_
  refine q_iload_n hJ dX11_goes_99 (q := 100) rfl rfl ?_
  refine q_iret hM dX11_goes_100 rfl rfl ?_
  refine ⟨rfl, rfl, rfl, (hk1.u322 _ _).u322 _ _, hX1.of (fun k _ _ => by rw [up2_i (by omega), up2_i (by omega)]) (fun k _ _ => by rw [up2_i (by omega), up2_i (by omega)]), ⟨by rw [up2_i (by omega), up2_i (by omega), h322]; exact hfr.1, fun t ht => by rw [up2_i (by omega), up2_i (by omega), h322]; exact hfr.2.1 t ht, by rw [up2_i (by omega), up2_self], by rw [up2_self], by rw [up2_i (by omega), up2_i (by omega), h322]; exact hfr.2.2.2.2⟩, fun i hi => by rw [up2_i (by omega), up2_i (by omega), h322]⟩

set_option maxRecDepth 100000 in
set_option maxHeartbeats 400000 in
theorem M_goesS (p d : Nat) (hp : p ≤ 413) (h1d : 1 ≤ d) (hd : d < 9) (ev : Int32) (img : Nat → Int32) (pl ca : Int32) (X : XS) (I : MI) (R : MR) (hFR : FR R) (hX : EM I p X) (mo : Int32) (r : Nat) (cs : List Nat) (hr : r < aM (xA X)) (hcs : ∀ q, q < aM (xA X) → ((∃ k, 2 ≤ k ∧ k < d + 1 ∧ I 322 (8 * k + 7) = nI q) ↔ q ∈ cs)) (hfr : FrP I d ev img mo pl ca) (ho : amF (fun r => aU (xA X) r 0 = ev ∧ aU (xA X) r 1 = mo) (odA (xA X)) pl 0 (aM (xA X)) 0 = some r) (hfire : ¬ (aU (xA X) r 10 = 1 ∧ ¬ (aS (xA X) 1 = 1 ∧ r ∈ cs) ∧ cmpF (aU (xA X) r 8) (rowF img (aU (xA X) r 7)) (aU (xA X) r 9) = 1)) : Sp 3 0 0 mX11_goes [.ref 317, .int (nI p), .int (nI d)] g0 I R (GoPo p d ev img mo (pl + 1) ca X I R) := by
  have hm0 := hFR.2.2.2.2.2.1
  have hm1 := hFR.2.2.2.2.2.2.1
  have hm3 := hFR.2.2.2.2.2.2.2.1
  have hm5 := hFR.2.2.2.2.2.2.2.2.1
  have hm7 := hFR.2.2.2.2.2.2.2.2.2
  obtain ⟨⟨hR, hU, hS, hL⟩, hok, hc⟩ := id hX
  have hm := hU.2.1
  have hr12 : r < 12 := by omega
  have e318 : up2 I 322 (8 * d + 6) (pl + 1) 318 = I 318 := up2_other _ _ _ _ (by decide)
  have hcs2 : ∀ q, q < aM (xA X) → ((∃ k, 2 ≤ k ∧ k < d + 1 ∧ up2 I 322 (8 * d + 6) (pl + 1) 322 (8 * k + 7) = nI q) ↔ q ∈ cs) := fun q hq => by
    rw [← hcs q hq]
    constructor
    · rintro ⟨k, h1, h2, h3⟩; exact ⟨k, h1, h2, by rw [up2_i (by omega)] at h3; exact h3⟩
    · rintro ⟨k, h1, h2, h3⟩; exact ⟨k, h1, h2, by rw [up2_i (by omega)]; exact h3⟩
  refine Sp.on (by decide +kernel) rfl rfl (fun J hM => ?_)
  have hJ := hM.ok
  refine q_aload_n hJ dX11_goes_0 (q := 1) rfl rfl (by first | rfl | exact isR_rr _) ?_
  refine q_getR hJ dX11_goes_1 (q := 4) rfl fl_X11_22 rfl (by first | exact ka317 | exact ka318 | exact ka319 | exact ka320 | exact ka321 | exact ka322) (by assumption) rfl ?_
  refine q_bipush hJ (v := 8) dX11_goes_4 (q := 6) rfl (by decide) ?_
  refine q_iload_n hJ dX11_goes_6 (q := 7) rfl rfl ?_
  refine q_imul hJ dX11_goes_7 (q := 8) rfl ?_
  refine q_iconst hJ (v := 5) dX11_goes_8 (q := 9) rfl (by decide) ?_
  refine q_iadd hJ dX11_goes_9 (q := 10) rfl ?_
  refine q_iald hJ dX11_goes_10 (q := 11) rfl (by first | exact ka317 | exact ka318 | exact ka319 | exact ka320 | exact ka321 | exact ka322) (ixE (j := 8 * d + 5) (by ((try simp only [nIl_add, nI_mul, nIl_0, nIl_1, nIl_2, nIl_3, nIl_4, nIl_5, nIl_6, nIl_7, nIl_8, nIl_9, nIl_10, nIl_11, nIl_12, nIl_20, nIl_60, nIl_72, nIl_80, nIl_81, nIl_82, nIl_99, nIl_100, nIl_226, nIl_227, nIl_228, nIl_229, nIl_230, nIl_231, nIl_232, nIl_233, nIl_413, nIl_1239, nIl_10000]) <;> first | done | rfl | exact congrArg nI (by omega))) (by omega) (by decide)) hfr.2.2.1 ?_
  refine q_istore_n hJ dX11_goes_11 (q := 12) rfl (by decide) ?_
  refine q_aload_n hJ dX11_goes_12 (q := 13) rfl rfl (by first | rfl | exact isR_rr _) ?_
  refine q_iload_n hJ dX11_goes_13 (q := 14) rfl rfl ?_
  refine q_aload_n hJ dX11_goes_14 (q := 15) rfl rfl (by first | rfl | exact isR_rr _) ?_
  refine q_getR hJ dX11_goes_15 (q := 18) rfl fl_X11_22 rfl (by first | exact ka317 | exact ka318 | exact ka319 | exact ka320 | exact ka321 | exact ka322) (by assumption) rfl ?_
  refine q_bipush hJ (v := 8) dX11_goes_18 (q := 20) rfl (by decide) ?_
  refine q_iload_n hJ dX11_goes_20 (q := 21) rfl rfl ?_
  refine q_imul hJ dX11_goes_21 (q := 22) rfl ?_
  refine q_iconst hJ (v := 0) dX11_goes_22 (q := 23) rfl (by decide) ?_
  refine q_iadd hJ dX11_goes_23 (q := 24) rfl ?_
  refine q_iald hJ dX11_goes_24 (q := 25) rfl (by first | exact ka317 | exact ka318 | exact ka319 | exact ka320 | exact ka321 | exact ka322) (ixE (j := 8 * d + 0) (by ((try simp only [nIl_add, nI_mul, nIl_0, nIl_1, nIl_2, nIl_3, nIl_4, nIl_5, nIl_6, nIl_7, nIl_8, nIl_9, nIl_10, nIl_11, nIl_12, nIl_20, nIl_60, nIl_72, nIl_80, nIl_81, nIl_82, nIl_99, nIl_100, nIl_226, nIl_227, nIl_228, nIl_229, nIl_230, nIl_231, nIl_232, nIl_233, nIl_413, nIl_1239, nIl_10000]) <;> first | done | rfl | exact congrArg nI (by omega))) (by omega) (by decide)) hfr.1 ?_
  refine q_iload_n hJ dX11_goes_25 (q := 26) rfl rfl ?_
  refine q_aload_n hJ dX11_goes_26 (q := 27) rfl rfl (by first | rfl | exact isR_rr _) ?_
  refine q_getR hJ dX11_goes_27 (q := 30) rfl fl_X11_22 rfl (by first | exact ka317 | exact ka318 | exact ka319 | exact ka320 | exact ka321 | exact ka322) (by assumption) rfl ?_
  refine q_bipush hJ (v := 8) dX11_goes_30 (q := 32) rfl (by decide) ?_
  refine q_iload_n hJ dX11_goes_32 (q := 33) rfl rfl ?_
  refine q_imul hJ dX11_goes_33 (q := 34) rfl ?_
  refine q_bipush hJ (v := 6) dX11_goes_34 (q := 36) rfl (by decide) ?_
  refine q_iadd hJ dX11_goes_36 (q := 37) rfl ?_
  refine q_iald hJ dX11_goes_37 (q := 38) rfl (by first | exact ka317 | exact ka318 | exact ka319 | exact ka320 | exact ka321 | exact ka322) (ixE (j := 8 * d + 6) (by ((try simp only [nIl_add, nI_mul, nIl_0, nIl_1, nIl_2, nIl_3, nIl_4, nIl_5, nIl_6, nIl_7, nIl_8, nIl_9, nIl_10, nIl_11, nIl_12, nIl_20, nIl_60, nIl_72, nIl_80, nIl_81, nIl_82, nIl_99, nIl_100, nIl_226, nIl_227, nIl_228, nIl_229, nIl_230, nIl_231, nIl_232, nIl_233, nIl_413, nIl_1239, nIl_10000]) <;> first | done | rfl | exact congrArg nI (by omega))) (by omega) (by decide)) hfr.2.2.2.1 ?_
  refine q_callV hJ dX11_goes_38 (q := 41) rfl (M_orderAt p (aM (xA X)) (aU (xA X)) ev mo pl I R hFR hp hU (fun q hq => (hok.2.1 q hq).1.2.2.1)) imX11_orderAt ln_X11_104 (by first | exact ka317 | exact ka318 | exact ka319 | exact ka320 | exact ka321 | exact ka322) (by decide) rfl rfl rfl rfl (Nat.le_of_ble_eq_true rfl) (by decide) (by decide) rfl rfl (fun rv gv Iv Rv hv => ?_)
  obtain ⟨rfl, rfl, rfl, rfl⟩ := hv
  rw [show amF (fun r => aU (xA X) r 0 = ev ∧ aU (xA X) r 1 = mo) (osrt (rkF (aU (xA X))) (aM (xA X))) pl 0 (aM (xA X)) 0 = (some r) from ho, show noI (some r) = nI r from rfl]
  refine q_istore hJ dX11_goes_41 (q := 43) rfl (by decide) ?_
  refine q_iload hJ dX11_goes_43 (q := 45) rfl rfl ?_
  refine q_sipush hJ (v := (-1006)) dX11_goes_45 (q := 48) rfl (by decide) ?_
  refine q_icmp_ne hJ (tgt := 60) dX11_goes_48 (q := 51) rfl (by decide) (fun _ => ?_) (fun c1 => absurd c1 (nI_no hr12))
  refine q_iload hJ dX11_goes_60 (q := 62) rfl rfl ?_
  refine q_sipush hJ (v := (-1006)) dX11_goes_62 (q := 65) rfl (by decide) ?_
  refine q_icmp_ne hJ (tgt := 101) dX11_goes_65 (q := 68) rfl (by decide) (fun _ => ?_) (fun c3 => absurd c3 (nI_no hr12))
  refine q_aload_n hJ dX11_goes_101 (q := 102) rfl rfl (by first | rfl | exact isR_rr _) ?_
  refine q_getR hJ dX11_goes_102 (q := 105) rfl fl_X11_22 rfl (by first | exact ka317 | exact ka318 | exact ka319 | exact ka320 | exact ka321 | exact ka322) (by assumption) rfl ?_
  refine q_bipush hJ (v := 8) dX11_goes_105 (q := 107) rfl (by decide) ?_
  refine q_iload_n hJ dX11_goes_107 (q := 108) rfl rfl ?_
  refine q_imul hJ dX11_goes_108 (q := 109) rfl ?_
  refine q_bipush hJ (v := 6) dX11_goes_109 (q := 111) rfl (by decide) ?_
  refine q_iadd hJ dX11_goes_111 (q := 112) rfl ?_
  refine q_dup2 hJ dX11_goes_112 (q := 113) rfl rfl rfl ?_
  refine q_iald hJ dX11_goes_113 (q := 114) rfl (by first | exact ka317 | exact ka318 | exact ka319 | exact ka320 | exact ka321 | exact ka322) (ixE (j := 8 * d + 6) (by ((try simp only [nIl_add, nI_mul, nIl_0, nIl_1, nIl_2, nIl_3, nIl_4, nIl_5, nIl_6, nIl_7, nIl_8, nIl_9, nIl_10, nIl_11, nIl_12, nIl_20, nIl_60, nIl_72, nIl_80, nIl_81, nIl_82, nIl_99, nIl_100, nIl_226, nIl_227, nIl_228, nIl_229, nIl_230, nIl_231, nIl_232, nIl_233, nIl_413, nIl_1239, nIl_10000]) <;> first | done | rfl | exact congrArg nI (by omega))) (by omega) (by decide)) hfr.2.2.2.1 ?_
  refine q_iconst hJ (v := 1) dX11_goes_114 (q := 115) rfl (by decide) ?_
  refine q_iadd hJ dX11_goes_115 (q := 116) rfl ?_
  refine q_iast hJ dX11_goes_116 (q := 117) rfl (by first | exact ka317 | exact ka318 | exact ka319 | exact ka320 | exact ka321 | exact ka322) (ixE (j := 8 * d + 6) (by ((try simp only [nIl_add, nI_mul, nIl_0, nIl_1, nIl_2, nIl_3, nIl_4, nIl_5, nIl_6, nIl_7, nIl_8, nIl_9, nIl_10, nIl_11, nIl_12, nIl_20, nIl_60, nIl_72, nIl_80, nIl_81, nIl_82, nIl_99, nIl_100, nIl_226, nIl_227, nIl_228, nIl_229, nIl_230, nIl_231, nIl_232, nIl_233, nIl_413, nIl_1239, nIl_10000]) <;> first | done | rfl | exact congrArg nI (by omega))) (by omega) (by decide)) ?_
  refine q_aload_n hJ dX11_goes_117 (q := 118) rfl rfl (by first | rfl | exact isR_rr _) ?_
  refine q_iload_n hJ dX11_goes_118 (q := 119) rfl rfl ?_
  refine q_iload hJ dX11_goes_119 (q := 121) rfl rfl ?_
  refine q_iload_n hJ dX11_goes_121 (q := 122) rfl rfl ?_
  refine q_callV hJ dX11_goes_122 (q := 125) rfl (M_fires p d r (aM (xA X)) hp h1d hd (aU (xA X)) (aS (xA X)) img cs _ R hFR (by rw [e318]; exact hU) hr (hok.2.1 r hr) (by rw [e318]; exact hS) (fun t ht => by rw [up2_i (by omega)]; exact hfr.2.1 t ht) (hcs2 r hr)) imX11_fires ln_X11_111 (by first | exact ka317 | exact ka318 | exact ka319 | exact ka320 | exact ka321 | exact ka322) (by decide) rfl rfl rfl rfl (Nat.le_of_ble_eq_true rfl) (by decide) (by decide) rfl rfl (fun rv gv Iv Rv hv => ?_)
  obtain ⟨rfl, rfl, rfl, rfl⟩ := hv
  rw [if_neg hfire]
  refine q_if_eq hJ (tgt := 139) dX11_goes_125 (q := 128) rfl (by decide) (fun _ => ?_) (fun c6 => absurd rfl c6)
  refine q_iload_n hJ dX11_goes_139 (q := 140) rfl rfl ?_
  refine q_iret hM dX11_goes_140 rfl rfl ?_
  refine ⟨rfl, rfl, rfl, (Kp.rf p I).u322 _ _, hX.of (fun k _ _ => by rw [up2_i (by omega)]) (fun k _ _ => by rw [up2_i (by omega)]), ⟨by rw [up2_i (by omega)]; exact hfr.1, fun t ht => by rw [up2_i (by omega)]; exact hfr.2.1 t ht, by rw [up2_i (by omega)]; exact hfr.2.2.1, by rw [up2_self], by rw [up2_i (by omega)]; exact hfr.2.2.2.2⟩, fun i hi => by rw [up2_i (by omega)]⟩

set_option maxRecDepth 100000 in
set_option maxHeartbeats 400000 in
theorem M_goesF (p d : Nat) (hp : p ≤ 413) (h1d : 1 ≤ d) (hd : d < 9) (ev : Int32) (img : Nat → Int32) (pl ca : Int32) (X : XS) (I : MI) (R : MR) (hFR : FR R) (hX : EM I p X) (mo : Int32) (r : Nat) (cs : List Nat) (hr : r < aM (xA X)) (hcs : ∀ q, q < aM (xA X) → ((∃ k, 2 ≤ k ∧ k < d + 1 ∧ I 322 (8 * k + 7) = nI q) ↔ q ∈ cs)) (hfr : FrP I d ev img mo pl ca) (ho : amF (fun r => aU (xA X) r 0 = ev ∧ aU (xA X) r 1 = mo) (odA (xA X)) pl 0 (aM (xA X)) 0 = some r) (hfire : aU (xA X) r 10 = 1 ∧ ¬ (aS (xA X) 1 = 1 ∧ r ∈ cs) ∧ cmpF (aU (xA X) r 8) (rowF img (aU (xA X) r 7)) (aU (xA X) r 9) = 1) (Φ : Po) {dd : Nat} (hdd : dd ≤ 5) (hact : Sp dd 0 0 mX11_acts [.ref 317, .int (nI p), .int (nI r), .int (nI d)] g0 (up2 I 322 (8 * d + 6) (pl + 1)) R Φ) (hval : ∀ {v : Option Value} {g1 : Geo} {I1 : MI} {R1 : MR}, Φ v g1 I1 R1 → ∃ y, v = some (.int y)) : Sp 6 0 0 mX11_goes [.ref 317, .int (nI p), .int (nI d)] g0 I R (Φ) := by
  have hm0 := hFR.2.2.2.2.2.1
  have hm1 := hFR.2.2.2.2.2.2.1
  have hm3 := hFR.2.2.2.2.2.2.2.1
  have hm5 := hFR.2.2.2.2.2.2.2.2.1
  have hm7 := hFR.2.2.2.2.2.2.2.2.2
  obtain ⟨⟨hR, hU, hS, hL⟩, hok, hc⟩ := id hX
  have hm := hU.2.1
  have hr12 : r < 12 := by omega
  have e318 : up2 I 322 (8 * d + 6) (pl + 1) 318 = I 318 := up2_other _ _ _ _ (by decide)
  have hcs2 : ∀ q, q < aM (xA X) → ((∃ k, 2 ≤ k ∧ k < d + 1 ∧ up2 I 322 (8 * d + 6) (pl + 1) 322 (8 * k + 7) = nI q) ↔ q ∈ cs) := fun q hq => by
    rw [← hcs q hq]
    constructor
    · rintro ⟨k, h1, h2, h3⟩; exact ⟨k, h1, h2, by rw [up2_i (by omega)] at h3; exact h3⟩
    · rintro ⟨k, h1, h2, h3⟩; exact ⟨k, h1, h2, by rw [up2_i (by omega)]; exact h3⟩
  refine Sp.on (by decide +kernel) rfl rfl (fun J hM => ?_)
  have hJ := hM.ok
  refine q_aload_n hJ dX11_goes_0 (q := 1) rfl rfl (by first | rfl | exact isR_rr _) ?_
  refine q_getR hJ dX11_goes_1 (q := 4) rfl fl_X11_22 rfl (by first | exact ka317 | exact ka318 | exact ka319 | exact ka320 | exact ka321 | exact ka322) (by assumption) rfl ?_
  refine q_bipush hJ (v := 8) dX11_goes_4 (q := 6) rfl (by decide) ?_
  refine q_iload_n hJ dX11_goes_6 (q := 7) rfl rfl ?_
  refine q_imul hJ dX11_goes_7 (q := 8) rfl ?_
  refine q_iconst hJ (v := 5) dX11_goes_8 (q := 9) rfl (by decide) ?_
  refine q_iadd hJ dX11_goes_9 (q := 10) rfl ?_
  refine q_iald hJ dX11_goes_10 (q := 11) rfl (by first | exact ka317 | exact ka318 | exact ka319 | exact ka320 | exact ka321 | exact ka322) (ixE (j := 8 * d + 5) (by ((try simp only [nIl_add, nI_mul, nIl_0, nIl_1, nIl_2, nIl_3, nIl_4, nIl_5, nIl_6, nIl_7, nIl_8, nIl_9, nIl_10, nIl_11, nIl_12, nIl_20, nIl_60, nIl_72, nIl_80, nIl_81, nIl_82, nIl_99, nIl_100, nIl_226, nIl_227, nIl_228, nIl_229, nIl_230, nIl_231, nIl_232, nIl_233, nIl_413, nIl_1239, nIl_10000]) <;> first | done | rfl | exact congrArg nI (by omega))) (by omega) (by decide)) hfr.2.2.1 ?_
  refine q_istore_n hJ dX11_goes_11 (q := 12) rfl (by decide) ?_
  refine q_aload_n hJ dX11_goes_12 (q := 13) rfl rfl (by first | rfl | exact isR_rr _) ?_
  refine q_iload_n hJ dX11_goes_13 (q := 14) rfl rfl ?_
  refine q_aload_n hJ dX11_goes_14 (q := 15) rfl rfl (by first | rfl | exact isR_rr _) ?_
  refine q_getR hJ dX11_goes_15 (q := 18) rfl fl_X11_22 rfl (by first | exact ka317 | exact ka318 | exact ka319 | exact ka320 | exact ka321 | exact ka322) (by assumption) rfl ?_
  refine q_bipush hJ (v := 8) dX11_goes_18 (q := 20) rfl (by decide) ?_
  refine q_iload_n hJ dX11_goes_20 (q := 21) rfl rfl ?_
  refine q_imul hJ dX11_goes_21 (q := 22) rfl ?_
  refine q_iconst hJ (v := 0) dX11_goes_22 (q := 23) rfl (by decide) ?_
  refine q_iadd hJ dX11_goes_23 (q := 24) rfl ?_
  refine q_iald hJ dX11_goes_24 (q := 25) rfl (by first | exact ka317 | exact ka318 | exact ka319 | exact ka320 | exact ka321 | exact ka322) (ixE (j := 8 * d + 0) (by ((try simp only [nIl_add, nI_mul, nIl_0, nIl_1, nIl_2, nIl_3, nIl_4, nIl_5, nIl_6, nIl_7, nIl_8, nIl_9, nIl_10, nIl_11, nIl_12, nIl_20, nIl_60, nIl_72, nIl_80, nIl_81, nIl_82, nIl_99, nIl_100, nIl_226, nIl_227, nIl_228, nIl_229, nIl_230, nIl_231, nIl_232, nIl_233, nIl_413, nIl_1239, nIl_10000]) <;> first | done | rfl | exact congrArg nI (by omega))) (by omega) (by decide)) hfr.1 ?_
  refine q_iload_n hJ dX11_goes_25 (q := 26) rfl rfl ?_
  refine q_aload_n hJ dX11_goes_26 (q := 27) rfl rfl (by first | rfl | exact isR_rr _) ?_
  refine q_getR hJ dX11_goes_27 (q := 30) rfl fl_X11_22 rfl (by first | exact ka317 | exact ka318 | exact ka319 | exact ka320 | exact ka321 | exact ka322) (by assumption) rfl ?_
  refine q_bipush hJ (v := 8) dX11_goes_30 (q := 32) rfl (by decide) ?_
  refine q_iload_n hJ dX11_goes_32 (q := 33) rfl rfl ?_
  refine q_imul hJ dX11_goes_33 (q := 34) rfl ?_
  refine q_bipush hJ (v := 6) dX11_goes_34 (q := 36) rfl (by decide) ?_
  refine q_iadd hJ dX11_goes_36 (q := 37) rfl ?_
  refine q_iald hJ dX11_goes_37 (q := 38) rfl (by first | exact ka317 | exact ka318 | exact ka319 | exact ka320 | exact ka321 | exact ka322) (ixE (j := 8 * d + 6) (by ((try simp only [nIl_add, nI_mul, nIl_0, nIl_1, nIl_2, nIl_3, nIl_4, nIl_5, nIl_6, nIl_7, nIl_8, nIl_9, nIl_10, nIl_11, nIl_12, nIl_20, nIl_60, nIl_72, nIl_80, nIl_81, nIl_82, nIl_99, nIl_100, nIl_226, nIl_227, nIl_228, nIl_229, nIl_230, nIl_231, nIl_232, nIl_233, nIl_413, nIl_1239, nIl_10000]) <;> first | done | rfl | exact congrArg nI (by omega))) (by omega) (by decide)) hfr.2.2.2.1 ?_
  refine q_callV hJ dX11_goes_38 (q := 41) rfl (M_orderAt p (aM (xA X)) (aU (xA X)) ev mo pl I R hFR hp hU (fun q hq => (hok.2.1 q hq).1.2.2.1)) imX11_orderAt ln_X11_104 (by first | exact ka317 | exact ka318 | exact ka319 | exact ka320 | exact ka321 | exact ka322) (by decide) rfl rfl rfl rfl (Nat.le_of_ble_eq_true rfl) (by decide) (by decide) rfl rfl (fun rv gv Iv Rv hv => ?_)
  obtain ⟨rfl, rfl, rfl, rfl⟩ := hv
  rw [show amF (fun r => aU (xA X) r 0 = ev ∧ aU (xA X) r 1 = mo) (osrt (rkF (aU (xA X))) (aM (xA X))) pl 0 (aM (xA X)) 0 = (some r) from ho, show noI (some r) = nI r from rfl]
  refine q_istore hJ dX11_goes_41 (q := 43) rfl (by decide) ?_
  refine q_iload hJ dX11_goes_43 (q := 45) rfl rfl ?_
  refine q_sipush hJ (v := (-1006)) dX11_goes_45 (q := 48) rfl (by decide) ?_
  refine q_icmp_ne hJ (tgt := 60) dX11_goes_48 (q := 51) rfl (by decide) (fun _ => ?_) (fun c1 => absurd c1 (nI_no hr12))
  refine q_iload hJ dX11_goes_60 (q := 62) rfl rfl ?_
  refine q_sipush hJ (v := (-1006)) dX11_goes_62 (q := 65) rfl (by decide) ?_
  refine q_icmp_ne hJ (tgt := 101) dX11_goes_65 (q := 68) rfl (by decide) (fun _ => ?_) (fun c3 => absurd c3 (nI_no hr12))
  refine q_aload_n hJ dX11_goes_101 (q := 102) rfl rfl (by first | rfl | exact isR_rr _) ?_
  refine q_getR hJ dX11_goes_102 (q := 105) rfl fl_X11_22 rfl (by first | exact ka317 | exact ka318 | exact ka319 | exact ka320 | exact ka321 | exact ka322) (by assumption) rfl ?_
  refine q_bipush hJ (v := 8) dX11_goes_105 (q := 107) rfl (by decide) ?_
  refine q_iload_n hJ dX11_goes_107 (q := 108) rfl rfl ?_
  refine q_imul hJ dX11_goes_108 (q := 109) rfl ?_
  refine q_bipush hJ (v := 6) dX11_goes_109 (q := 111) rfl (by decide) ?_
  refine q_iadd hJ dX11_goes_111 (q := 112) rfl ?_
  refine q_dup2 hJ dX11_goes_112 (q := 113) rfl rfl rfl ?_
  refine q_iald hJ dX11_goes_113 (q := 114) rfl (by first | exact ka317 | exact ka318 | exact ka319 | exact ka320 | exact ka321 | exact ka322) (ixE (j := 8 * d + 6) (by ((try simp only [nIl_add, nI_mul, nIl_0, nIl_1, nIl_2, nIl_3, nIl_4, nIl_5, nIl_6, nIl_7, nIl_8, nIl_9, nIl_10, nIl_11, nIl_12, nIl_20, nIl_60, nIl_72, nIl_80, nIl_81, nIl_82, nIl_99, nIl_100, nIl_226, nIl_227, nIl_228, nIl_229, nIl_230, nIl_231, nIl_232, nIl_233, nIl_413, nIl_1239, nIl_10000]) <;> first | done | rfl | exact congrArg nI (by omega))) (by omega) (by decide)) hfr.2.2.2.1 ?_
  refine q_iconst hJ (v := 1) dX11_goes_114 (q := 115) rfl (by decide) ?_
  refine q_iadd hJ dX11_goes_115 (q := 116) rfl ?_
  refine q_iast hJ dX11_goes_116 (q := 117) rfl (by first | exact ka317 | exact ka318 | exact ka319 | exact ka320 | exact ka321 | exact ka322) (ixE (j := 8 * d + 6) (by ((try simp only [nIl_add, nI_mul, nIl_0, nIl_1, nIl_2, nIl_3, nIl_4, nIl_5, nIl_6, nIl_7, nIl_8, nIl_9, nIl_10, nIl_11, nIl_12, nIl_20, nIl_60, nIl_72, nIl_80, nIl_81, nIl_82, nIl_99, nIl_100, nIl_226, nIl_227, nIl_228, nIl_229, nIl_230, nIl_231, nIl_232, nIl_233, nIl_413, nIl_1239, nIl_10000]) <;> first | done | rfl | exact congrArg nI (by omega))) (by omega) (by decide)) ?_
  refine q_aload_n hJ dX11_goes_117 (q := 118) rfl rfl (by first | rfl | exact isR_rr _) ?_
  refine q_iload_n hJ dX11_goes_118 (q := 119) rfl rfl ?_
  refine q_iload hJ dX11_goes_119 (q := 121) rfl rfl ?_
  refine q_iload_n hJ dX11_goes_121 (q := 122) rfl rfl ?_
  refine q_callV hJ dX11_goes_122 (q := 125) rfl (M_fires p d r (aM (xA X)) hp h1d hd (aU (xA X)) (aS (xA X)) img cs _ R hFR (by rw [e318]; exact hU) hr (hok.2.1 r hr) (by rw [e318]; exact hS) (fun t ht => by rw [up2_i (by omega)]; exact hfr.2.1 t ht) (hcs2 r hr)) imX11_fires ln_X11_111 (by first | exact ka317 | exact ka318 | exact ka319 | exact ka320 | exact ka321 | exact ka322) (by decide) rfl rfl rfl rfl (Nat.le_of_ble_eq_true rfl) (by decide) (by decide) rfl rfl (fun rv gv Iv Rv hv => ?_)
  obtain ⟨rfl, rfl, rfl, rfl⟩ := hv
  rw [if_pos hfire]
  refine q_if_eq hJ (tgt := 139) dX11_goes_125 (q := 128) rfl (by decide) (fun c6 => absurd c6 (by decide)) (fun _ => ?_)
  refine q_aload_n hJ dX11_goes_128 (q := 129) rfl rfl (by first | rfl | exact isR_rr _) ?_
  refine q_iload_n hJ dX11_goes_129 (q := 130) rfl rfl ?_
  refine q_iload hJ dX11_goes_130 (q := 132) rfl rfl ?_
  refine q_iload_n hJ dX11_goes_132 (q := 133) rfl rfl ?_
  refine q_callV hJ dX11_goes_133 (q := 136) rfl hact imX11_acts ln_X11_114 (by first | exact ka317 | exact ka318 | exact ka319 | exact ka320 | exact ka321 | exact ka322) (by decide) rfl rfl rfl rfl (Nat.le_of_ble_eq_true rfl) ⟨(by show dd + 1 ≤ 6; omega), (by show 8 + (6 + 11) + 40 * dd ≤ 40 * 6; omega)⟩ (by decide) rfl rfl (fun rv gv Iv Rv hv => ?_)
  obtain ⟨y, rfl⟩ := hval hv
  refine q_goto hJ (tgt := 140) dX11_goes_136 (by decide) ?_
  refine q_iret hM dX11_goes_140 rfl rfl ?_
  exact hv

